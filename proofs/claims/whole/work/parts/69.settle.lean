/-! the reference's canAdd and settle -/
abbrev M_Model_canAdd : q_M := (⟨"LensPathsModel", "canAdd", "(IIII)Z"⟩, prog_14_method_42_code, 6, (some .boolean), "LensPathsModel", [], false, 2, 44)
theorem d_Model_canAdd_0 : decode prog_14_method_42_code 0 = .ok (.iload_n 1, 1) := by decide +kernel
theorem d_Model_canAdd_1 : decode prog_14_method_42_code 1 = .ok (.invokestatic 132, 3) := by decide +kernel
theorem d_Model_canAdd_4 : decode prog_14_method_42_code 4 = .ok (.istore 5, 2) := by decide +kernel
theorem d_Model_canAdd_6 : decode prog_14_method_42_code 6 = .ok (.iload 5, 2) := by decide +kernel
theorem d_Model_canAdd_8 : decode prog_14_method_42_code 8 = .ok (.ifCond .le 50, 3) := by decide +kernel
theorem d_Model_canAdd_11 : decode prog_14_method_42_code 11 = .ok (.aload_n 0, 1) := by decide +kernel
theorem d_Model_canAdd_12 : decode prog_14_method_42_code 12 = .ok (.iload_n 1, 1) := by decide +kernel
theorem d_Model_canAdd_13 : decode prog_14_method_42_code 13 = .ok (.iload 5, 2) := by decide +kernel
theorem d_Model_canAdd_15 : decode prog_14_method_42_code 15 = .ok (.iconst 1, 1) := by decide +kernel
theorem d_Model_canAdd_16 : decode prog_14_method_42_code 16 = .ok (.isub, 1) := by decide +kernel
theorem d_Model_canAdd_17 : decode prog_14_method_42_code 17 = .ok (.invokestatic 104, 3) := by decide +kernel
theorem d_Model_canAdd_20 : decode prog_14_method_42_code 20 = .ok (.invokevirtual 247, 3) := by decide +kernel
theorem d_Model_canAdd_23 : decode prog_14_method_42_code 23 = .ok (.ifCond .eq 35, 3) := by decide +kernel
theorem d_Model_canAdd_26 : decode prog_14_method_42_code 26 = .ok (.aload_n 0, 1) := by decide +kernel
theorem d_Model_canAdd_27 : decode prog_14_method_42_code 27 = .ok (.iload_n 1, 1) := by decide +kernel
theorem d_Model_canAdd_28 : decode prog_14_method_42_code 28 = .ok (.invokevirtual 111, 3) := by decide +kernel
theorem d_Model_canAdd_31 : decode prog_14_method_42_code 31 = .ok (.ifCond .ge 27, 3) := by decide +kernel
theorem d_Model_canAdd_34 : decode prog_14_method_42_code 34 = .ok (.iload_n 2, 1) := by decide +kernel
theorem d_Model_canAdd_35 : decode prog_14_method_42_code 35 = .ok (.ifCond .lt 23, 3) := by decide +kernel
theorem d_Model_canAdd_38 : decode prog_14_method_42_code 38 = .ok (.iload_n 2, 1) := by decide +kernel
theorem d_Model_canAdd_39 : decode prog_14_method_42_code 39 = .ok (.iconst 2, 1) := by decide +kernel
theorem d_Model_canAdd_40 : decode prog_14_method_42_code 40 = .ok (.if_icmp .gt 18, 3) := by decide +kernel
theorem d_Model_canAdd_43 : decode prog_14_method_42_code 43 = .ok (.iload_n 2, 1) := by decide +kernel
theorem d_Model_canAdd_44 : decode prog_14_method_42_code 44 = .ok (.iconst 2, 1) := by decide +kernel
theorem d_Model_canAdd_45 : decode prog_14_method_42_code 45 = .ok (.if_icmp .eq 9, 3) := by decide +kernel
theorem d_Model_canAdd_48 : decode prog_14_method_42_code 48 = .ok (.iload_n 3, 1) := by decide +kernel
theorem d_Model_canAdd_49 : decode prog_14_method_42_code 49 = .ok (.iload 4, 2) := by decide +kernel
theorem d_Model_canAdd_51 : decode prog_14_method_42_code 51 = .ok (.if_icmp .gt 7, 3) := by decide +kernel
theorem d_Model_canAdd_54 : decode prog_14_method_42_code 54 = .ok (.iconst 1, 1) := by decide +kernel
theorem d_Model_canAdd_55 : decode prog_14_method_42_code 55 = .ok (.goto 4, 3) := by decide +kernel
theorem d_Model_canAdd_58 : decode prog_14_method_42_code 58 = .ok (.iconst 0, 1) := by decide +kernel
theorem d_Model_canAdd_59 : decode prog_14_method_42_code 59 = .ok (.ireturn, 1) := by decide +kernel
abbrev M_Model_settle : q_M := (⟨"LensPathsModel", "settle", "(I)V"⟩, prog_14_method_43_code, 5, none, "LensPathsModel", [], false, 1, 23)
theorem d_Model_settle_0 : decode prog_14_method_43_code 0 = .ok (.aload_n 0, 1) := by decide +kernel
theorem d_Model_settle_1 : decode prog_14_method_43_code 1 = .ok (.getfield 13, 3) := by decide +kernel
theorem d_Model_settle_4 : decode prog_14_method_43_code 4 = .ok (.iload_n 1, 1) := by decide +kernel
theorem d_Model_settle_5 : decode prog_14_method_43_code 5 = .ok (.aload_n 0, 1) := by decide +kernel
theorem d_Model_settle_6 : decode prog_14_method_43_code 6 = .ok (.getfield 108, 3) := by decide +kernel
theorem d_Model_settle_9 : decode prog_14_method_43_code 9 = .ok (.iastore, 1) := by decide +kernel
theorem d_Model_settle_10 : decode prog_14_method_43_code 10 = .ok (.iconst 0, 1) := by decide +kernel
theorem d_Model_settle_11 : decode prog_14_method_43_code 11 = .ok (.istore_n 2, 1) := by decide +kernel
theorem d_Model_settle_12 : decode prog_14_method_43_code 12 = .ok (.iload_n 2, 1) := by decide +kernel
theorem d_Model_settle_13 : decode prog_14_method_43_code 13 = .ok (.aload_n 0, 1) := by decide +kernel
theorem d_Model_settle_14 : decode prog_14_method_43_code 14 = .ok (.getfield 108, 3) := by decide +kernel
theorem d_Model_settle_17 : decode prog_14_method_43_code 17 = .ok (.if_icmp .ge 124, 3) := by decide +kernel
theorem d_Model_settle_20 : decode prog_14_method_43_code 20 = .ok (.iconst 0, 1) := by decide +kernel
theorem d_Model_settle_21 : decode prog_14_method_43_code 21 = .ok (.istore_n 3, 1) := by decide +kernel
theorem d_Model_settle_22 : decode prog_14_method_43_code 22 = .ok (.iconst 0, 1) := by decide +kernel
theorem d_Model_settle_23 : decode prog_14_method_43_code 23 = .ok (.istore 4, 2) := by decide +kernel
theorem d_Model_settle_25 : decode prog_14_method_43_code 25 = .ok (.iload 4, 2) := by decide +kernel
theorem d_Model_settle_27 : decode prog_14_method_43_code 27 = .ok (.aload_n 0, 1) := by decide +kernel
theorem d_Model_settle_28 : decode prog_14_method_43_code 28 = .ok (.getfield 108, 3) := by decide +kernel
theorem d_Model_settle_31 : decode prog_14_method_43_code 31 = .ok (.if_icmp .ge 36, 3) := by decide +kernel
theorem d_Model_settle_34 : decode prog_14_method_43_code 34 = .ok (.aload_n 0, 1) := by decide +kernel
theorem d_Model_settle_35 : decode prog_14_method_43_code 35 = .ok (.getfield 53, 3) := by decide +kernel
theorem d_Model_settle_38 : decode prog_14_method_43_code 38 = .ok (.iload 4, 2) := by decide +kernel
theorem d_Model_settle_40 : decode prog_14_method_43_code 40 = .ok (.iaload, 1) := by decide +kernel
theorem d_Model_settle_41 : decode prog_14_method_43_code 41 = .ok (.aload_n 0, 1) := by decide +kernel
theorem d_Model_settle_42 : decode prog_14_method_43_code 42 = .ok (.getfield 53, 3) := by decide +kernel
theorem d_Model_settle_45 : decode prog_14_method_43_code 45 = .ok (.iload_n 2, 1) := by decide +kernel
theorem d_Model_settle_46 : decode prog_14_method_43_code 46 = .ok (.iaload, 1) := by decide +kernel
theorem d_Model_settle_47 : decode prog_14_method_43_code 47 = .ok (.invokestatic 250, 3) := by decide +kernel
theorem d_Model_settle_50 : decode prog_14_method_43_code 50 = .ok (.ifCond .eq 9, 3) := by decide +kernel
theorem d_Model_settle_53 : decode prog_14_method_43_code 53 = .ok (.iload_n 3, 1) := by decide +kernel
theorem d_Model_settle_54 : decode prog_14_method_43_code 54 = .ok (.iconst 1, 1) := by decide +kernel
theorem d_Model_settle_55 : decode prog_14_method_43_code 55 = .ok (.iadd, 1) := by decide +kernel
theorem d_Model_settle_56 : decode prog_14_method_43_code 56 = .ok (.goto 4, 3) := by decide +kernel
theorem d_Model_settle_59 : decode prog_14_method_43_code 59 = .ok (.iload_n 3, 1) := by decide +kernel
theorem d_Model_settle_60 : decode prog_14_method_43_code 60 = .ok (.istore_n 3, 1) := by decide +kernel
theorem d_Model_settle_61 : decode prog_14_method_43_code 61 = .ok (.iinc 4 1, 3) := by decide +kernel
theorem d_Model_settle_64 : decode prog_14_method_43_code 64 = .ok (.goto (-39), 3) := by decide +kernel
theorem d_Model_settle_67 : decode prog_14_method_43_code 67 = .ok (.aload_n 0, 1) := by decide +kernel
theorem d_Model_settle_68 : decode prog_14_method_43_code 68 = .ok (.getfield 17, 3) := by decide +kernel
theorem d_Model_settle_71 : decode prog_14_method_43_code 71 = .ok (.bipush 24, 2) := by decide +kernel
theorem d_Model_settle_73 : decode prog_14_method_43_code 73 = .ok (.iload_n 1, 1) := by decide +kernel
theorem d_Model_settle_74 : decode prog_14_method_43_code 74 = .ok (.imul, 1) := by decide +kernel
theorem d_Model_settle_75 : decode prog_14_method_43_code 75 = .ok (.iload_n 3, 1) := by decide +kernel
theorem d_Model_settle_76 : decode prog_14_method_43_code 76 = .ok (.iadd, 1) := by decide +kernel
theorem d_Model_settle_77 : decode prog_14_method_43_code 77 = .ok (.aload_n 0, 1) := by decide +kernel
theorem d_Model_settle_78 : decode prog_14_method_43_code 78 = .ok (.getfield 53, 3) := by decide +kernel
theorem d_Model_settle_81 : decode prog_14_method_43_code 81 = .ok (.iload_n 2, 1) := by decide +kernel
theorem d_Model_settle_82 : decode prog_14_method_43_code 82 = .ok (.iaload, 1) := by decide +kernel
theorem d_Model_settle_83 : decode prog_14_method_43_code 83 = .ok (.iastore, 1) := by decide +kernel
theorem d_Model_settle_84 : decode prog_14_method_43_code 84 = .ok (.aload_n 0, 1) := by decide +kernel
theorem d_Model_settle_85 : decode prog_14_method_43_code 85 = .ok (.getfield 20, 3) := by decide +kernel
theorem d_Model_settle_88 : decode prog_14_method_43_code 88 = .ok (.bipush 24, 2) := by decide +kernel
theorem d_Model_settle_90 : decode prog_14_method_43_code 90 = .ok (.iload_n 1, 1) := by decide +kernel
theorem d_Model_settle_91 : decode prog_14_method_43_code 91 = .ok (.imul, 1) := by decide +kernel
theorem d_Model_settle_92 : decode prog_14_method_43_code 92 = .ok (.iload_n 3, 1) := by decide +kernel
theorem d_Model_settle_93 : decode prog_14_method_43_code 93 = .ok (.iadd, 1) := by decide +kernel
theorem d_Model_settle_94 : decode prog_14_method_43_code 94 = .ok (.aload_n 0, 1) := by decide +kernel
theorem d_Model_settle_95 : decode prog_14_method_43_code 95 = .ok (.getfield 56, 3) := by decide +kernel
theorem d_Model_settle_98 : decode prog_14_method_43_code 98 = .ok (.iload_n 2, 1) := by decide +kernel
theorem d_Model_settle_99 : decode prog_14_method_43_code 99 = .ok (.iaload, 1) := by decide +kernel
theorem d_Model_settle_100 : decode prog_14_method_43_code 100 = .ok (.iastore, 1) := by decide +kernel
theorem d_Model_settle_101 : decode prog_14_method_43_code 101 = .ok (.aload_n 0, 1) := by decide +kernel
theorem d_Model_settle_102 : decode prog_14_method_43_code 102 = .ok (.getfield 23, 3) := by decide +kernel
theorem d_Model_settle_105 : decode prog_14_method_43_code 105 = .ok (.bipush 24, 2) := by decide +kernel
theorem d_Model_settle_107 : decode prog_14_method_43_code 107 = .ok (.iload_n 1, 1) := by decide +kernel
theorem d_Model_settle_108 : decode prog_14_method_43_code 108 = .ok (.imul, 1) := by decide +kernel
theorem d_Model_settle_109 : decode prog_14_method_43_code 109 = .ok (.iload_n 3, 1) := by decide +kernel
theorem d_Model_settle_110 : decode prog_14_method_43_code 110 = .ok (.iadd, 1) := by decide +kernel
theorem d_Model_settle_111 : decode prog_14_method_43_code 111 = .ok (.aload_n 0, 1) := by decide +kernel
theorem d_Model_settle_112 : decode prog_14_method_43_code 112 = .ok (.getfield 59, 3) := by decide +kernel
theorem d_Model_settle_115 : decode prog_14_method_43_code 115 = .ok (.iload_n 2, 1) := by decide +kernel
theorem d_Model_settle_116 : decode prog_14_method_43_code 116 = .ok (.iaload, 1) := by decide +kernel
theorem d_Model_settle_117 : decode prog_14_method_43_code 117 = .ok (.iastore, 1) := by decide +kernel
theorem d_Model_settle_118 : decode prog_14_method_43_code 118 = .ok (.aload_n 0, 1) := by decide +kernel
theorem d_Model_settle_119 : decode prog_14_method_43_code 119 = .ok (.getfield 26, 3) := by decide +kernel
theorem d_Model_settle_122 : decode prog_14_method_43_code 122 = .ok (.bipush 24, 2) := by decide +kernel
theorem d_Model_settle_124 : decode prog_14_method_43_code 124 = .ok (.iload_n 1, 1) := by decide +kernel
theorem d_Model_settle_125 : decode prog_14_method_43_code 125 = .ok (.imul, 1) := by decide +kernel
theorem d_Model_settle_126 : decode prog_14_method_43_code 126 = .ok (.iload_n 3, 1) := by decide +kernel
theorem d_Model_settle_127 : decode prog_14_method_43_code 127 = .ok (.iadd, 1) := by decide +kernel
theorem d_Model_settle_128 : decode prog_14_method_43_code 128 = .ok (.aload_n 0, 1) := by decide +kernel
theorem d_Model_settle_129 : decode prog_14_method_43_code 129 = .ok (.getfield 62, 3) := by decide +kernel
theorem d_Model_settle_132 : decode prog_14_method_43_code 132 = .ok (.iload_n 2, 1) := by decide +kernel
theorem d_Model_settle_133 : decode prog_14_method_43_code 133 = .ok (.iaload, 1) := by decide +kernel
theorem d_Model_settle_134 : decode prog_14_method_43_code 134 = .ok (.iastore, 1) := by decide +kernel
theorem d_Model_settle_135 : decode prog_14_method_43_code 135 = .ok (.iinc 2 1, 3) := by decide +kernel
theorem d_Model_settle_138 : decode prog_14_method_43_code 138 = .ok (.goto (-126), 3) := by decide +kernel
theorem d_Model_settle_141 : decode prog_14_method_43_code 141 = .ok (.return_, 1) := by decide +kernel
section Settle
variable {g : q_G} {sz m : Nat} {T : q_T} {I : q_I} {R : q_R} {J : q_J} {S : KA}
theorem k_of_take {l : List Nat} : l.take (l.length - 1) = l.dropLast := List.dropLast_eq_take.symm
theorem c_Model_canAdd {M : List KF} {p so lo hi : Int32} (hL : q_L 11 t_Model m T R) (hM : k_mw m M I) (hok : k_okf M) (hd : k_dis M) : q_Ci g M_Model_canAdd [.ref m, .int p, .int so, .int lo, .int hi] (sz, T, I, R, J) 0 0 (fun r h' => r = p_b (k_room M (k_of p) && k_shape so lo hi) ∧ h' = (sz, T, I, R, J)) := by
  have h26 := hM.2.1
  refine q_C.of (ls0 := [some (.ref m), some (.int p), some (.int so), some (.int lo), some (.int hi), none]) (by decide) rfl (by decide) (Nat.le_of_ble_eq_true rfl) rfl ?_
  have no : ∀ (mcc msc : Nat) (d : Int32), mcc = 0 → msc = 0 → (k_room M (k_of p) && k_shape so lo hi) = false → q_V g M_Model_canAdd 0 0 mcc msc (sz, T, I, R, J) (fun o h' => ∃ r : Int32, o = .inl (some (.int r)) ∧ (r = p_b (k_room M (k_of p) && k_shape so lo hi) ∧ h' = (sz, T, I, R, J))) 58 [some (.ref m), some (.int p), some (.int so), some (.int lo), some (.int hi), some (.int d)] [] := by
    intro mcc msc d m1 m2 hz
    subst m1 m2
    refine q_iconst (v := nI 0) d_Model_canAdd_58 (by decide) ?_
    refine q_zret d_Model_canAdd_59 rfl (by first | exact Or.inl rfl | exact Or.inr rfl | assumption) (by omega) (by omega) ?_
    exact ⟨_, rfl, by rw [hz]; rfl, rfl⟩
  have yes : ∀ (mcc msc : Nat) (d : Int32), mcc = 0 → msc = 0 → (k_room M (k_of p) && k_shape so lo hi) = true → q_V g M_Model_canAdd 0 0 mcc msc (sz, T, I, R, J) (fun o h' => ∃ r : Int32, o = .inl (some (.int r)) ∧ (r = p_b (k_room M (k_of p) && k_shape so lo hi) ∧ h' = (sz, T, I, R, J))) 54 [some (.ref m), some (.int p), some (.int so), some (.int lo), some (.int hi), some (.int d)] [] := by
    intro mcc msc d m1 m2 hz
    subst m1 m2
    refine q_iconst (v := nI 1) d_Model_canAdd_54 (by decide) ?_
    refine q_goto (tgt := 59) d_Model_canAdd_55 rfl ?_
    refine q_zret d_Model_canAdd_59 rfl (by first | exact Or.inl rfl | exact Or.inr rfl | assumption) (by omega) (by omega) ?_
    exact ⟨_, rfl, by rw [hz]; rfl, rfl⟩
  refine q_iload_n d_Model_canAdd_0 rfl rfl ?_
  refine q_callSi (M2 := M_Model_depth) d_Model_canAdd_1 ⟨(Nat.le_of_ble_eq_true rfl), (Nat.le_of_ble_eq_true rfl), w_1255, w_10, ⟨by decide, by decide⟩, show _ = some 1 by decide +kernel⟩ w_1253 w_1254 rfl (Nat.le_of_ble_eq_true rfl) (by omega) (by omega) (c_Model_depth p) ?_
  rintro _ _ ⟨rfl, rfl⟩
  cases ho : k_of p with
  | none =>
    refine q_istore d_Model_canAdd_4 (Nat.le_of_ble_eq_true rfl) (by first | exact q_ok0 | exact q_okI rfl | exact q_okR rfl | exact q_okN rfl) rfl ?_
    refine q_iload d_Model_canAdd_6 rfl ?_
    refine q_if_le (tgt := 58) d_Model_canAdd_8 rfl (fun hc => ?_) (fun hc => ?_)
    · rw [← ho]
      exact no _ _ _ rfl rfl (by rw [ho]; rfl)
    · exact absurd (show p_dep 0 none ≤ 0 by decide) hc
  | some l =>
    have hlok := k_of_ok ho
    have hpl : p = nI (k_path l) := ((k_of_iff hlok p).mpr ho).symm
    rw [show p_dep 0 (some l) = nI (0 + l.length) from rfl, Nat.zero_add (l.length)]
    rw [← ho]
    have h4 := hlok.1
    by_cases hl0 : l = []
    · refine q_istore d_Model_canAdd_4 (Nat.le_of_ble_eq_true rfl) (by first | exact q_ok0 | exact q_okI rfl | exact q_okR rfl | exact q_okN rfl) rfl ?_
      refine q_iload d_Model_canAdd_6 rfl ?_
      refine q_if_le (tgt := 58) d_Model_canAdd_8 rfl (fun hc => ?_) (fun hc => ?_)
      · exact no _ _ _ rfl rfl (by rw [ho, hl0]; rfl)
      · exact absurd (show nI l.length ≤ 0 by rw [hl0]; decide) hc
    have hlen : 0 < l.length := List.length_pos_iff.mpr hl0
    have hroom : k_room M (k_of p) = (k_grp M l.dropLast && (k_fi M l).isNone) := by
      rw [ho]
      show (decide (l ≠ []) && k_grp M l.dropLast && (k_fi M l).isNone) = _
      rw [decide_eq_true hl0, Bool.true_and]
    refine q_istore d_Model_canAdd_4 (Nat.le_of_ble_eq_true rfl) (by first | exact q_ok0 | exact q_okI rfl | exact q_okR rfl | exact q_okN rfl) rfl ?_
    refine q_iload d_Model_canAdd_6 rfl ?_
    refine q_if_le (tgt := 58) d_Model_canAdd_8 rfl (fun hc => ?_) (fun hc => ?_)
    · exact absurd hc (nI_nle hlen (by omega))
    refine q_aload_n d_Model_canAdd_11 rfl rfl ?_
    refine q_iload_n d_Model_canAdd_12 rfl rfl ?_
    refine q_iload d_Model_canAdd_13 rfl ?_
    refine q_iconst (v := nI 1) d_Model_canAdd_15 (by decide) ?_
    refine q_isub d_Model_canAdd_16 ?_
    rw [show nI l.length - nI 1 = nI (l.length - 1) by
      have := nI_sb (l.length - 1) 1
      rw [show l.length - 1 + 1 = l.length by omega] at this
      exact this]
    rw [hpl]
    refine q_callSi (M2 := M_Model_cutTo) d_Model_canAdd_17 ⟨(Nat.le_of_ble_eq_true rfl), (Nat.le_of_ble_eq_true rfl), w_1258, w_10, ⟨by decide, by decide⟩, show _ = some 2 by decide +kernel⟩ w_1256 w_1257 rfl (Nat.le_of_ble_eq_true rfl) (by omega) (by omega) (c_Model_cutTo hlok (by omega)) ?_
    rintro _ _ ⟨rfl, rfl⟩
    rw [← hpl, k_of_take]
    refine q_callVi (M2 := M_Model_isRecord) d_Model_canAdd_20 ⟨(Nat.le_of_ble_eq_true rfl), (Nat.le_of_ble_eq_true rfl), w_1262, w_10, ⟨by decide, by decide⟩, show _ = some 1 by decide +kernel⟩ w_1259 w_1261 (ci := 11) rfl s_52 hL.1 rfl (Nat.le_of_ble_eq_true rfl) (by omega) (by omega) (c_Model_isRecord hL hM hok hd (k_ok_drop hlok)) ?_
    rintro _ _ ⟨rfl, rfl⟩
    cases hg : k_grp M l.dropLast with
    | false =>
      refine q_if_eq (tgt := 58) d_Model_canAdd_23 rfl (fun hc => ?_) (fun hc => ?_)
      · exact no _ _ _ rfl rfl (by rw [hroom, hg]; rfl)
      · exact absurd rfl hc
    | true =>
      refine q_if_eq (tgt := 58) d_Model_canAdd_23 rfl (fun hc => ?_) (fun hc => ?_)
      · exact absurd hc (by decide)
      refine q_aload_n d_Model_canAdd_26 rfl rfl ?_
      refine q_iload_n d_Model_canAdd_27 rfl rfl ?_
      refine q_callVi (M2 := M_Model_find) d_Model_canAdd_28 ⟨(Nat.le_of_ble_eq_true rfl), (Nat.le_of_ble_eq_true rfl), w_1266, w_10, ⟨by decide, by decide⟩, show _ = some 1 by decide +kernel⟩ w_1263 w_1265 (ci := 11) rfl s_53 hL.1 rfl (Nat.le_of_ble_eq_true rfl) (by omega) (by omega) (c_Model_findF hL hM hok p) ?_
      rintro _ _ ⟨rfl, rfl⟩
      rw [ho, show k_fo M (some l) = k_fi M l from rfl, ← ho]
      cases hf : k_fi M l with
      | some i =>
        have hi := (k_fi_some hf).1
        refine q_if_ge (tgt := 58) d_Model_canAdd_31 rfl (fun hc => ?_) (fun hc => ?_)
        · exact no _ _ _ rfl rfl (by rw [hroom, hg, hf]; rfl)
        · exact absurd (show (0 : Int32) ≤ nI i from nI_pos' (by omega)) hc
      | none =>
        have hr : (k_room M (k_of p) && k_shape so lo hi) = k_shape so lo hi := by rw [hroom, hg, hf]; rfl
        refine q_if_ge (tgt := 58) d_Model_canAdd_31 rfl (fun hc => ?_) (fun hc => ?_)
        · exact absurd (show (0 : Int32) ≤ -1 from hc) (by decide)
        refine q_iload_n d_Model_canAdd_34 rfl rfl ?_
        refine q_if_lt (tgt := 58) d_Model_canAdd_35 rfl (fun hc => ?_) (fun hc => ?_)
        · have hneg : so < 0 := hc
          refine no _ _ _ rfl rfl ?_
          have n2 : ¬ so = 2 := fun z => absurd (z ▸ hneg) (by decide)
          have n1 : ¬ so = 1 := fun z => absurd (z ▸ hneg) (by decide)
          have n0 : ¬ so = 0 := fun z => absurd (z ▸ hneg) (by decide)
          rw [hr, k_shape, decide_eq_false n2, decide_eq_false n1, decide_eq_false n0]; rfl
        have hge := hc
        obtain ⟨s, s1, rfl⟩ := nI_of hge
        have e2 : (nI s = 2) ↔ s = 2 := nI_eq s1 (by decide)
        have e1 : (nI s = 1) ↔ s = 1 := nI_eq s1 (by decide)
        have e0 : (nI s = 0) ↔ s = 0 := nI_eq s1 (by decide)
        have hsh : k_shape (nI s) lo hi = (decide (s = 2) || ((decide (s = 0) || decide (s = 1)) && decide (lo ≤ hi))) := by
          rw [k_shape, decide_eq_decide.mpr e2, decide_eq_decide.mpr e1, decide_eq_decide.mpr e0]
        refine q_iload_n d_Model_canAdd_38 rfl rfl ?_
        refine q_iconst (v := nI 2) d_Model_canAdd_39 (by decide) ?_
        refine q_icmp_gt (tgt := 58) d_Model_canAdd_40 rfl (fun hc => ?_) (fun hc => ?_)
        · have : ¬ s ≤ 2 := fun z => absurd hc (by rw [Int32.not_lt, nI_leI s1 (by decide)]; exact z)
          refine no _ _ _ rfl rfl ?_
          rw [hr, hsh, decide_eq_false (by omega), decide_eq_false (by omega), decide_eq_false (by omega)]; rfl
        have hs2 : s ≤ 2 := by
          have := Int32.not_lt.mp hc
          rw [nI_leI s1 (by decide)] at this
          exact this
        refine q_iload_n d_Model_canAdd_43 rfl rfl ?_
        refine q_iconst (v := nI 2) d_Model_canAdd_44 (by decide) ?_
        refine q_icmp_eq (tgt := 54) d_Model_canAdd_45 rfl (fun hc => ?_) (fun hc => ?_)
        · have h2 : s = 2 := e2.mp hc
          refine yes _ _ _ rfl rfl ?_
          rw [hr, hsh, decide_eq_true h2]; rfl
        have h2 : ¬ s = 2 := fun z => hc (e2.mpr z)
        have hor : (decide (s = 0) || decide (s = 1)) = true := by
          rcases (by omega : s = 0 ∨ s = 1) with z | z
          · rw [decide_eq_true z]; rfl
          · rw [decide_eq_true z, Bool.or_true]
        refine q_iload_n d_Model_canAdd_48 rfl rfl ?_
        refine q_iload d_Model_canAdd_49 rfl ?_
        refine q_icmp_gt (tgt := 58) d_Model_canAdd_51 rfl (fun hc => ?_) (fun hc => ?_)
        · refine no _ _ _ rfl rfl ?_
          rw [hr, hsh, decide_eq_false h2, hor, decide_eq_false (Int32.not_le.mpr hc)]; rfl
        · refine yes _ _ _ rfl rfl ?_
          rw [hr, hsh, decide_eq_false h2, hor, decide_eq_true (Int32.not_lt.mp hc)]; rfl
/-- the place of a field is how many come before it -/
theorem k_plc {L : List KF} (hok : k_okf L) (hd : k_dis L) (hs : k_srt L) : ∀ {i : Nat} {f : KF}, L[i]? = some f → L.countP (fun e => k_bef e.1 f.1) = i := by
  induction L with
  | nil => intro i f h; cases h
  | cons e t ih =>
    intro i f h
    have hok2 : k_okf t := fun f hf => hok f (List.mem_cons_of_mem _ hf)
    have hd2 : e.1 ∉ t.map (·.1) ∧ k_dis t := List.nodup_cons.mp (show (e.1 :: t.map (·.1)).Nodup from hd)
    have hs2 := List.pairwise_cons.mp hs
    have hf := List.mem_of_getElem? h
    have hfk := (hok f hf).1
    have hek := (hok e List.mem_cons_self).1
    rw [List.countP_cons]
    cases i with
    | zero =>
      have : e = f := by simpa using h
      subst this
      have h1 : k_bef e.1 e.1 = false := by
        rw [← Bool.not_eq_true, k_bef_key hek hek]; omega
      have h2 : t.countP (fun e2 => k_bef e2.1 e.1) = 0 := by
        rw [List.countP_eq_zero]
        intro e2 he2 hb
        have h3 : k_key e2.1 < k_key e.1 := (k_bef_key (hok2 e2 he2).1 hek).mp hb
        have h4 : k_key e.1 ≤ k_key e2.1 := hs2.1 e2 he2
        omega
      rw [h2, h1]; rfl
    | succ i =>
      have hft : t[i]? = some f := by simpa using h
      have hfm := List.mem_of_getElem? hft
      have h1 : k_bef e.1 f.1 = true := by
        rw [k_bef_key hek hfk]
        have h4 : k_key e.1 ≤ k_key f.1 := hs2.1 f hfm
        have h5 : k_key e.1 ≠ k_key f.1 := fun z => hd2.1 (by rw [k_key_inj hek hfk z]; exact List.mem_map.mpr ⟨f, hfm, rfl⟩)
        show k_key e.1 < k_key f.1
        omega
      rw [ih hok2 hd2.2 hs2.2 hft, h1]; rfl
theorem k_okf.perm {L M : List KF} (h : k_okf M) (hp : L.Perm M) : k_okf L := fun f hf => h f (hp.mem_iff.mp hf)
theorem k_dis.perm {L M : List KF} (h : k_dis M) (hp : L.Perm M) : k_dis L := ((hp.map (fun f : KF => f.1)).nodup_iff).mpr h
set_option maxHeartbeats 1000000 in
theorem c_Model_settle {v : Nat} {M L : List KF} (hL : q_L 11 t_Model m T R) (hM : k_mw m M I) (hok : k_okf M) (hd : k_dis M) (hp : L.Perm M) (hs : k_srt L) (h24 : M.length ≤ 24) (hv : v < 8) : q_Cv g M_Model_settle [.ref m, .int (nI v)] (sz, T, I, R, J) 0 0 (fun h' => ∃ I' : q_I, h' = (sz, T, I', R, J) ∧ m_vl m v L I' ∧ (∀ b, b < m + 1 ∨ m + 6 ≤ b → I' b = I b) ∧ (∀ j, j < 8 → j ≠ v → I' (m + 1) (nI j) = I (m + 1) (nI j)) ∧ ∀ a j, 2 ≤ a → a ≤ 5 → j < 2 ^ 31 → j < 24 * v ∨ 24 * v + 24 ≤ j → I' (m + a) (nI j) = I (m + a) (nI j)) := by
  have hlen : L.length = M.length := hp.length_eq
  have hokL := hok.perm hp
  have hdL := hd.perm hp
  have plc : ∀ {i : Nat} {f : KF}, L[i]? = some f → M.countP (fun e => k_bef e.1 f.1) = i := fun h => by
    rw [← hp.countP_eq]
    exact k_plc hokL hdL hs h
  have t2 := (hL.2 3 _ _ _ rfl).2
  have loop : ∀ (j k : Nat) (I2 : q_I) (mcc msc : Nat), mcc = 0 → msc = 0 → k + j = M.length → (∀ b, b < m + 1 ∨ m + 6 ≤ b → I2 b = I b) → I2 (m + 1) (nI v) = nI M.length → (∀ j, j < 8 → j ≠ v → I2 (m + 1) (nI j) = I (m + 1) (nI j)) → (∀ a j, 2 ≤ a → a ≤ 5 → j < 2 ^ 31 → j < 24 * v ∨ 24 * v + 24 ≤ j → I2 (m + a) (nI j) = I (m + a) (nI j)) → (∀ q f i, q < k → M[q]? = some f → L[i]? = some f → I2 (m + 2) (nI (24 * v + i)) = nI (k_path f.1) ∧ I2 (m + 3) (nI (24 * v + i)) = f.2.1 ∧ I2 (m + 4) (nI (24 * v + i)) = f.2.2.1 ∧ I2 (m + 5) (nI (24 * v + i)) = f.2.2.2.1) → ∀ l3 l4, q_V g M_Model_settle 0 0 mcc msc (sz, T, I2, R, J) (fun o h' => o = .inl none ∧ ∃ I' : q_I, h' = (sz, T, I', R, J) ∧ m_vl m v L I' ∧ (∀ b, b < m + 1 ∨ m + 6 ≤ b → I' b = I b) ∧ (∀ j, j < 8 → j ≠ v → I' (m + 1) (nI j) = I (m + 1) (nI j)) ∧ ∀ a j, 2 ≤ a → a ≤ 5 → j < 2 ^ 31 → j < 24 * v ∨ 24 * v + 24 ≤ j → I' (m + a) (nI j) = I (m + a) (nI j)) 12 [some (.ref m), some (.int (nI v)), some (.int (nI k)), l3, l4] [] := by
    intro j
    induction j with
    | zero =>
      intro k I2 mcc msc m1 m2 hk p1 p2 p3 p4 p5 l3 l4
      subst m1 m2
      refine q_iload_n d_Model_settle_12 rfl rfl ?_
      refine q_aload_n d_Model_settle_13 rfl rfl ?_
      refine q_getI (ci := 11) (fk := 18) d_Model_settle_14 rfl (Nat.le_of_ble_eq_true rfl) w_1122 (fun _ _ => rfl) hL.1 ?_
      rw [p1 m (by omega), hM.1]
      refine q_icmp_ge (tgt := 141) d_Model_settle_17 rfl (fun hc => ?_) (fun hc => ?_)
      · refine q_vret d_Model_settle_141 rfl (by omega) (by omega) ?_
        refine ⟨rfl, I2, rfl, ⟨by rw [p2, hlen], fun i f hf => ?_⟩, p1, p3, p4⟩
        obtain ⟨q, hq⟩ := List.mem_iff_getElem?.mp (hp.mem_iff.mp (List.mem_of_getElem? hf))
        have := (List.getElem?_eq_some_iff.mp hq).1
        exact p5 q f i (by omega) hq hf
      · exact absurd (by rw [nI_leI (by omega) (by omega)]; omega) hc
    | succ j ih =>
      intro k I2 mcc msc m1 m2 hk p1 p2 p3 p4 p5 l3 l4
      subst m1 m2
      obtain ⟨f, hf⟩ : ∃ f, M[k]? = some f := ⟨_, List.getElem?_eq_getElem (by omega)⟩
      have hfk := (hok f (List.mem_of_getElem? hf)).1
      obtain ⟨i, hi⟩ := List.mem_iff_getElem?.mp (hp.mem_iff.mpr (List.mem_of_getElem? hf))
      have hil := (List.getElem?_eq_some_iff.mp hi).1
      have hpl := plc hi
      obtain ⟨w1, w2, w3, w4⟩ := hM.2.2 k f hf
      have inner : ∀ (j2 q n : Nat) (mcc msc : Nat), mcc = 0 → msc = 0 → q + j2 = M.length → n ≤ q → n + (M.drop q).countP (fun e => k_bef e.1 f.1) = i → q_V g M_Model_settle 0 0 mcc msc (sz, T, I2, R, J) (fun o h' => o = .inl none ∧ ∃ I' : q_I, h' = (sz, T, I', R, J) ∧ m_vl m v L I' ∧ (∀ b, b < m + 1 ∨ m + 6 ≤ b → I' b = I b) ∧ (∀ j, j < 8 → j ≠ v → I' (m + 1) (nI j) = I (m + 1) (nI j)) ∧ ∀ a j, 2 ≤ a → a ≤ 5 → j < 2 ^ 31 → j < 24 * v ∨ 24 * v + 24 ≤ j → I' (m + a) (nI j) = I (m + a) (nI j)) 25 [some (.ref m), some (.int (nI v)), some (.int (nI k)), some (.int (nI n)), some (.int (nI q))] [] := by
        intro j2
        induction j2 with
        | zero =>
          intro q n mcc msc m1 m2 hq hnq hn
          subst m1 m2
          rw [List.drop_of_length_le (by omega)] at hn
          obtain rfl : n = i := hn
          refine q_iload d_Model_settle_25 rfl ?_
          refine q_aload_n d_Model_settle_27 rfl rfl ?_
          refine q_getI (ci := 11) (fk := 18) d_Model_settle_28 rfl (Nat.le_of_ble_eq_true rfl) w_1122 (fun _ _ => rfl) hL.1 ?_
          rw [p1 m (by omega), hM.1]
          refine q_icmp_ge (tgt := 67) d_Model_settle_31 rfl (fun hc => ?_) (fun hc => ?_)
          rotate_left
          · exact absurd (by rw [nI_leI (by omega) (by omega)]; omega) hc
          refine q_aload_n d_Model_settle_67 rfl rfl ?_
          refine q_getR (ci := 11) (fk := 3) d_Model_settle_68 rfl (Nat.le_of_ble_eq_true rfl) w_1107 (fun _ _ => rfl) hL.1 (hL.2 3 _ _ _ rfl).1 ?_
          refine q_bipush (v := nI 24) d_Model_settle_71 (by decide) ?_
          refine q_iload_n d_Model_settle_73 rfl rfl ?_
          first | refine q_imulN d_Model_settle_74 ?_ | refine q_imul d_Model_settle_74 ?_
          refine q_iload_n d_Model_settle_75 rfl rfl ?_
          first | refine q_iaddN d_Model_settle_76 ?_ | refine q_iadd d_Model_settle_76 ?_
          refine q_aload_n d_Model_settle_77 rfl rfl ?_
          refine q_getR (ci := 11) (fk := 19) d_Model_settle_78 rfl (Nat.le_of_ble_eq_true rfl) w_1123 (fun _ _ => rfl) hL.1 (hL.2 19 _ _ _ rfl).1 ?_
          refine q_iload_n d_Model_settle_81 rfl rfl ?_
          refine q_iald d_Model_settle_82 (hL.2 19 _ _ _ rfl).2 (by first | assumption | exact vp_in_nI (by omega) (by omega)) ?_
          rw [p1 (m + 14) (by omega), w1]
          refine q_iast d_Model_settle_83 (hL.2 3 _ _ _ rfl).2 (by first | assumption | exact vp_in_nI (by omega) (by omega)) ?_
          refine q_aload_n d_Model_settle_84 rfl rfl ?_
          refine q_getR (ci := 11) (fk := 4) d_Model_settle_85 rfl (Nat.le_of_ble_eq_true rfl) w_1108 (fun _ _ => rfl) hL.1 (hL.2 4 _ _ _ rfl).1 ?_
          refine q_bipush (v := nI 24) d_Model_settle_88 (by decide) ?_
          refine q_iload_n d_Model_settle_90 rfl rfl ?_
          first | refine q_imulN d_Model_settle_91 ?_ | refine q_imul d_Model_settle_91 ?_
          refine q_iload_n d_Model_settle_92 rfl rfl ?_
          first | refine q_iaddN d_Model_settle_93 ?_ | refine q_iadd d_Model_settle_93 ?_
          refine q_aload_n d_Model_settle_94 rfl rfl ?_
          refine q_getR (ci := 11) (fk := 20) d_Model_settle_95 rfl (Nat.le_of_ble_eq_true rfl) w_1124 (fun _ _ => rfl) hL.1 (hL.2 20 _ _ _ rfl).1 ?_
          refine q_iload_n d_Model_settle_98 rfl rfl ?_
          refine q_iald d_Model_settle_99 (hL.2 20 _ _ _ rfl).2 (by first | assumption | exact vp_in_nI (by omega) (by omega)) ?_
          rw [q_upI_nea (by omega), p1 (m + 15) (by omega), w2]
          refine q_iast d_Model_settle_100 (hL.2 4 _ _ _ rfl).2 (by first | assumption | exact vp_in_nI (by omega) (by omega)) ?_
          refine q_aload_n d_Model_settle_101 rfl rfl ?_
          refine q_getR (ci := 11) (fk := 5) d_Model_settle_102 rfl (Nat.le_of_ble_eq_true rfl) w_1109 (fun _ _ => rfl) hL.1 (hL.2 5 _ _ _ rfl).1 ?_
          refine q_bipush (v := nI 24) d_Model_settle_105 (by decide) ?_
          refine q_iload_n d_Model_settle_107 rfl rfl ?_
          first | refine q_imulN d_Model_settle_108 ?_ | refine q_imul d_Model_settle_108 ?_
          refine q_iload_n d_Model_settle_109 rfl rfl ?_
          first | refine q_iaddN d_Model_settle_110 ?_ | refine q_iadd d_Model_settle_110 ?_
          refine q_aload_n d_Model_settle_111 rfl rfl ?_
          refine q_getR (ci := 11) (fk := 21) d_Model_settle_112 rfl (Nat.le_of_ble_eq_true rfl) w_1125 (fun _ _ => rfl) hL.1 (hL.2 21 _ _ _ rfl).1 ?_
          refine q_iload_n d_Model_settle_115 rfl rfl ?_
          refine q_iald d_Model_settle_116 (hL.2 21 _ _ _ rfl).2 (by first | assumption | exact vp_in_nI (by omega) (by omega)) ?_
          rw [q_upI_nea (by omega), q_upI_nea (by omega), p1 (m + 16) (by omega), w3]
          refine q_iast d_Model_settle_117 (hL.2 5 _ _ _ rfl).2 (by first | assumption | exact vp_in_nI (by omega) (by omega)) ?_
          refine q_aload_n d_Model_settle_118 rfl rfl ?_
          refine q_getR (ci := 11) (fk := 6) d_Model_settle_119 rfl (Nat.le_of_ble_eq_true rfl) w_1110 (fun _ _ => rfl) hL.1 (hL.2 6 _ _ _ rfl).1 ?_
          refine q_bipush (v := nI 24) d_Model_settle_122 (by decide) ?_
          refine q_iload_n d_Model_settle_124 rfl rfl ?_
          first | refine q_imulN d_Model_settle_125 ?_ | refine q_imul d_Model_settle_125 ?_
          refine q_iload_n d_Model_settle_126 rfl rfl ?_
          first | refine q_iaddN d_Model_settle_127 ?_ | refine q_iadd d_Model_settle_127 ?_
          refine q_aload_n d_Model_settle_128 rfl rfl ?_
          refine q_getR (ci := 11) (fk := 22) d_Model_settle_129 rfl (Nat.le_of_ble_eq_true rfl) w_1126 (fun _ _ => rfl) hL.1 (hL.2 22 _ _ _ rfl).1 ?_
          refine q_iload_n d_Model_settle_132 rfl rfl ?_
          refine q_iald d_Model_settle_133 (hL.2 22 _ _ _ rfl).2 (by first | assumption | exact vp_in_nI (by omega) (by omega)) ?_
          rw [q_upI_nea (by omega), q_upI_nea (by omega), q_upI_nea (by omega), p1 (m + 17) (by omega), w4]
          refine q_iast d_Model_settle_134 (hL.2 6 _ _ _ rfl).2 (by first | assumption | exact vp_in_nI (by omega) (by omega)) ?_
          first | refine q_iincN d_Model_settle_135 rfl (Nat.le_of_ble_eq_true rfl) (by first | exact q_ok0 | exact q_okI rfl | exact q_okR rfl | exact q_okN rfl) rfl ?_ | refine q_iinc d_Model_settle_135 rfl rfl (Nat.le_of_ble_eq_true rfl) (by first | exact q_ok0 | exact q_okI rfl | exact q_okR rfl | exact q_okN rfl) rfl ?_
          refine q_goto (tgt := 12) d_Model_settle_138 rfl ?_
          refine ih (k + 1) _ _ _ rfl rfl (by omega) (fun b hb => ?_) ?_ (fun j hj hjv => ?_) (fun a j a1 a2 hj hj2 => ?_) (fun q2 f2 i2 hq2 hf2 hi2 => ?_) _ _
          · funext z
            rw [q_upI_nea (by omega), q_upI_nea (by omega), q_upI_nea (by omega), q_upI_nea (by omega), p1 b hb]
          · rw [q_upI_nea (by omega), q_upI_nea (by omega), q_upI_nea (by omega), q_upI_nea (by omega)]; exact p2
          · rw [q_upI_nea (by omega), q_upI_nea (by omega), q_upI_nea (by omega), q_upI_nea (by omega)]; exact p3 j hj hjv
          · rw [q_upI_nk (by omega), q_upI_nk (by omega), q_upI_nk (by omega), q_upI_nk (by omega)]
            exact p4 a j a1 a2 hj hj2
          · by_cases hqk : q2 = k
            · subst hqk
              obtain rfl : f = f2 := Option.some.inj (hf.symm.trans hf2)
              obtain rfl : n = i2 := by rw [← plc hi, ← plc hi2]
              simp (disch := omega) only [q_upI_nea, q_upI_self, q_upI_nk]
              exact ⟨trivial, trivial, trivial, trivial⟩
            · have hne : i2 ≠ n := fun z => hqk (by
                rw [z, hi] at hi2
                obtain rfl : f = f2 := Option.some.inj hi2
                have e1 := k_fi_at hd hf
                have e2 := k_fi_at hd hf2
                rw [e1] at e2
                exact (Option.some.inj e2).symm)
              have hi2l := (List.getElem?_eq_some_iff.mp hi2).1
              rw [q_upI_nk (by omega), q_upI_nk (by omega), q_upI_nk (by omega), q_upI_nk (by omega), q_upI_nk (by omega), q_upI_nk (by omega), q_upI_nk (by omega), q_upI_nk (by omega), q_upI_nk (by omega), q_upI_nk (by omega), q_upI_nk (by omega), q_upI_nk (by omega), q_upI_nk (by omega), q_upI_nk (by omega), q_upI_nk (by omega), q_upI_nk (by omega)]
              exact p5 q2 f2 i2 (by omega) hf2 hi2
        | succ j2 ih2 =>
          intro q n mcc msc m1 m2 hq hnq hn
          subst m1 m2
          obtain ⟨e, he⟩ : ∃ e, M[q]? = some e := ⟨_, List.getElem?_eq_getElem (by omega)⟩
          have hek := (hok e (List.mem_of_getElem? he)).1
          have hd2 : M.drop q = e :: M.drop (q + 1) := by
            obtain ⟨hq2, he2⟩ := List.getElem?_eq_some_iff.mp he
            rw [List.drop_eq_getElem_cons hq2, he2]
          rw [hd2, List.countP_cons] at hn
          refine q_iload d_Model_settle_25 rfl ?_
          refine q_aload_n d_Model_settle_27 rfl rfl ?_
          refine q_getI (ci := 11) (fk := 18) d_Model_settle_28 rfl (Nat.le_of_ble_eq_true rfl) w_1122 (fun _ _ => rfl) hL.1 ?_
          rw [p1 m (by omega), hM.1]
          refine q_icmp_ge (tgt := 67) d_Model_settle_31 rfl (fun hc => ?_) (fun hc => ?_)
          · rw [nI_leI (by omega) (by omega)] at hc
            omega
          refine q_aload_n d_Model_settle_34 rfl rfl ?_
          refine q_getR (ci := 11) (fk := 19) d_Model_settle_35 rfl (Nat.le_of_ble_eq_true rfl) w_1123 (fun _ _ => rfl) hL.1 (hL.2 19 _ _ _ rfl).1 ?_
          refine q_iload d_Model_settle_38 rfl ?_
          refine q_iald d_Model_settle_40 (hL.2 19 _ _ _ rfl).2 (by first | assumption | exact vp_in_nI (by omega) (by omega)) ?_
          rw [p1 (m + 14) (by omega), (hM.2.2 q e he).1]
          refine q_aload_n d_Model_settle_41 rfl rfl ?_
          refine q_getR (ci := 11) (fk := 19) d_Model_settle_42 rfl (Nat.le_of_ble_eq_true rfl) w_1123 (fun _ _ => rfl) hL.1 (hL.2 19 _ _ _ rfl).1 ?_
          refine q_iload_n d_Model_settle_45 rfl rfl ?_
          refine q_iald d_Model_settle_46 (hL.2 19 _ _ _ rfl).2 (by first | assumption | exact vp_in_nI (by omega) (by omega)) ?_
          rw [p1 (m + 14) (by omega), w1]
          refine q_callSi (M2 := M_Model_before) d_Model_settle_47 ⟨(Nat.le_of_ble_eq_true rfl), (Nat.le_of_ble_eq_true rfl), w_1273, w_10, ⟨by decide, by decide⟩, show _ = some 2 by decide +kernel⟩ w_1271 w_1272 rfl (Nat.le_of_ble_eq_true rfl) (by omega) (by omega) (c_Model_before hek hfk) ?_
          rintro _ _ ⟨rfl, rfl⟩
          cases hb : k_bef e.1 f.1 with
          | true =>
            rw [hb, if_pos rfl] at hn
            rw [if_pos rfl]
            refine q_if_eq (tgt := 59) d_Model_settle_50 rfl (fun hc => ?_) (fun hc => ?_)
            · exact absurd hc (by decide)
            refine q_iload_n d_Model_settle_53 rfl rfl ?_
            refine q_iconst (v := nI 1) d_Model_settle_54 (by decide) ?_
            first | refine q_iaddN d_Model_settle_55 ?_ | refine q_iadd d_Model_settle_55 ?_
            refine q_goto (tgt := 60) d_Model_settle_56 rfl ?_
            refine q_istore_n d_Model_settle_60 rfl (Nat.le_of_ble_eq_true rfl) (by first | exact q_ok0 | exact q_okI rfl | exact q_okR rfl | exact q_okN rfl) rfl ?_
            first | refine q_iincN d_Model_settle_61 rfl (Nat.le_of_ble_eq_true rfl) (by first | exact q_ok0 | exact q_okI rfl | exact q_okR rfl | exact q_okN rfl) rfl ?_ | refine q_iinc d_Model_settle_61 rfl rfl (Nat.le_of_ble_eq_true rfl) (by first | exact q_ok0 | exact q_okI rfl | exact q_okR rfl | exact q_okN rfl) rfl ?_
            refine q_goto (tgt := 25) d_Model_settle_64 rfl ?_
            exact ih2 (q + 1) (n + 1) _ _ rfl rfl (by omega) (by omega) (by omega)
          | false =>
            rw [hb, if_neg (by decide)] at hn
            rw [if_neg (by decide)]
            refine q_if_eq (tgt := 59) d_Model_settle_50 rfl (fun hc => ?_) (fun hc => ?_)
            rotate_left
            · exact absurd rfl hc
            refine q_iload_n d_Model_settle_59 rfl rfl ?_
            refine q_istore_n d_Model_settle_60 rfl (Nat.le_of_ble_eq_true rfl) (by first | exact q_ok0 | exact q_okI rfl | exact q_okR rfl | exact q_okN rfl) rfl ?_
            first | refine q_iincN d_Model_settle_61 rfl (Nat.le_of_ble_eq_true rfl) (by first | exact q_ok0 | exact q_okI rfl | exact q_okR rfl | exact q_okN rfl) rfl ?_ | refine q_iinc d_Model_settle_61 rfl rfl (Nat.le_of_ble_eq_true rfl) (by first | exact q_ok0 | exact q_okI rfl | exact q_okR rfl | exact q_okN rfl) rfl ?_
            refine q_goto (tgt := 25) d_Model_settle_64 rfl ?_
            exact ih2 (q + 1) n _ _ rfl rfl (by omega) (by omega) (by omega)
      refine q_iload_n d_Model_settle_12 rfl rfl ?_
      refine q_aload_n d_Model_settle_13 rfl rfl ?_
      refine q_getI (ci := 11) (fk := 18) d_Model_settle_14 rfl (Nat.le_of_ble_eq_true rfl) w_1122 (fun _ _ => rfl) hL.1 ?_
      rw [p1 m (by omega), hM.1]
      refine q_icmp_ge (tgt := 141) d_Model_settle_17 rfl (fun hc => ?_) (fun hc => ?_)
      · rw [nI_leI (by omega) (by omega)] at hc
        omega
      refine q_iconst (v := nI 0) d_Model_settle_20 (by decide) ?_
      refine q_istore_n d_Model_settle_21 rfl (Nat.le_of_ble_eq_true rfl) (by first | exact q_ok0 | exact q_okI rfl | exact q_okR rfl | exact q_okN rfl) rfl ?_
      refine q_iconst (v := nI 0) d_Model_settle_22 (by decide) ?_
      refine q_istore d_Model_settle_23 (Nat.le_of_ble_eq_true rfl) (by first | exact q_ok0 | exact q_okI rfl | exact q_okR rfl | exact q_okN rfl) rfl ?_
      exact inner M.length 0 0 _ _ rfl rfl (by omega) (by omega) (by rw [List.drop_zero, hpl, Nat.zero_add])
  refine q_C.of (ls0 := [some (.ref m), some (.int (nI v)), none, none, none]) (by decide) rfl (by decide) (Nat.le_of_ble_eq_true rfl) rfl ?_
  refine q_aload_n d_Model_settle_0 rfl rfl ?_
  refine q_getR (ci := 11) (fk := 2) d_Model_settle_1 rfl (Nat.le_of_ble_eq_true rfl) w_1106 (fun _ _ => rfl) hL.1 (hL.2 2 _ _ _ rfl).1 ?_
  refine q_iload_n d_Model_settle_4 rfl rfl ?_
  refine q_aload_n d_Model_settle_5 rfl rfl ?_
  refine q_getI (ci := 11) (fk := 18) d_Model_settle_6 rfl (Nat.le_of_ble_eq_true rfl) w_1122 (fun _ _ => rfl) hL.1 ?_
  rw [hM.1]
  refine q_iast d_Model_settle_9 (hL.2 2 _ _ _ rfl).2 (by first | assumption | exact vp_in_nI (by omega) (by omega)) ?_
  refine q_iconst (v := nI 0) d_Model_settle_10 (by decide) ?_
  refine q_istore_n d_Model_settle_11 rfl (Nat.le_of_ble_eq_true rfl) (by first | exact q_ok0 | exact q_okI rfl | exact q_okR rfl | exact q_okN rfl) rfl ?_
  refine loop M.length 0 _ _ _ rfl rfl (by omega) (fun b hb => by funext z; rw [q_upI_nea (by omega)]) q_upI_self (fun j hj hjv => by rw [q_upI_nk (by omega)]) (fun a j a1 a2 hj hj2 => by rw [q_upI_nea (by omega)]) (fun q f i hq => absurd hq (Nat.not_lt_zero _)) _ _
end Settle
