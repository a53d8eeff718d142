/-! the reference's small methods -/
abbrev M_Model_isVersion : q_M := (⟨"LensPathsModel", "isVersion", "(I)Z"⟩, prog_14_method_44_code, 2, (some .boolean), "LensPathsModel", [], false, 0, 0)
theorem d_Model_isVersion_0 : decode prog_14_method_44_code 0 = .ok (.iload_n 1, 1) := by decide +kernel
theorem d_Model_isVersion_1 : decode prog_14_method_44_code 1 = .ok (.ifCond .lt 15, 3) := by decide +kernel
theorem d_Model_isVersion_4 : decode prog_14_method_44_code 4 = .ok (.iload_n 1, 1) := by decide +kernel
theorem d_Model_isVersion_5 : decode prog_14_method_44_code 5 = .ok (.aload_n 0, 1) := by decide +kernel
theorem d_Model_isVersion_6 : decode prog_14_method_44_code 6 = .ok (.getfield 7, 3) := by decide +kernel
theorem d_Model_isVersion_9 : decode prog_14_method_44_code 9 = .ok (.if_icmp .ge 7, 3) := by decide +kernel
theorem d_Model_isVersion_12 : decode prog_14_method_44_code 12 = .ok (.iconst 1, 1) := by decide +kernel
theorem d_Model_isVersion_13 : decode prog_14_method_44_code 13 = .ok (.goto 4, 3) := by decide +kernel
theorem d_Model_isVersion_16 : decode prog_14_method_44_code 16 = .ok (.iconst 0, 1) := by decide +kernel
theorem d_Model_isVersion_17 : decode prog_14_method_44_code 17 = .ok (.ireturn, 1) := by decide +kernel
abbrev M_Model_isRecordHandle : q_M := (⟨"LensPathsModel", "isRecordHandle", "(I)Z"⟩, prog_14_method_54_code, 2, (some .boolean), "LensPathsModel", [], false, 0, 0)
theorem d_Model_isRecordHandle_0 : decode prog_14_method_54_code 0 = .ok (.iload_n 1, 1) := by decide +kernel
theorem d_Model_isRecordHandle_1 : decode prog_14_method_54_code 1 = .ok (.ifCond .lt 22, 3) := by decide +kernel
theorem d_Model_isRecordHandle_4 : decode prog_14_method_54_code 4 = .ok (.iload_n 1, 1) := by decide +kernel
theorem d_Model_isRecordHandle_5 : decode prog_14_method_54_code 5 = .ok (.bipush 16, 2) := by decide +kernel
theorem d_Model_isRecordHandle_7 : decode prog_14_method_54_code 7 = .ok (.if_icmp .ge 16, 3) := by decide +kernel
theorem d_Model_isRecordHandle_10 : decode prog_14_method_54_code 10 = .ok (.aload_n 0, 1) := by decide +kernel
theorem d_Model_isRecordHandle_11 : decode prog_14_method_54_code 11 = .ok (.getfield 41, 3) := by decide +kernel
theorem d_Model_isRecordHandle_14 : decode prog_14_method_54_code 14 = .ok (.iload_n 1, 1) := by decide +kernel
theorem d_Model_isRecordHandle_15 : decode prog_14_method_54_code 15 = .ok (.iaload, 1) := by decide +kernel
theorem d_Model_isRecordHandle_16 : decode prog_14_method_54_code 16 = .ok (.ifCond .lt 7, 3) := by decide +kernel
theorem d_Model_isRecordHandle_19 : decode prog_14_method_54_code 19 = .ok (.iconst 1, 1) := by decide +kernel
theorem d_Model_isRecordHandle_20 : decode prog_14_method_54_code 20 = .ok (.goto 4, 3) := by decide +kernel
theorem d_Model_isRecordHandle_23 : decode prog_14_method_54_code 23 = .ok (.iconst 0, 1) := by decide +kernel
theorem d_Model_isRecordHandle_24 : decode prog_14_method_54_code 24 = .ok (.ireturn, 1) := by decide +kernel
abbrev M_Model_free : q_M := (⟨"LensPathsModel", "free", "()I"⟩, prog_14_method_55_code, 2, (some .int), "LensPathsModel", [], false, 0, 0)
theorem d_Model_free_0 : decode prog_14_method_55_code 0 = .ok (.iconst 0, 1) := by decide +kernel
theorem d_Model_free_1 : decode prog_14_method_55_code 1 = .ok (.istore_n 1, 1) := by decide +kernel
theorem d_Model_free_2 : decode prog_14_method_55_code 2 = .ok (.iload_n 1, 1) := by decide +kernel
theorem d_Model_free_3 : decode prog_14_method_55_code 3 = .ok (.bipush 16, 2) := by decide +kernel
theorem d_Model_free_5 : decode prog_14_method_55_code 5 = .ok (.if_icmp .ge 20, 3) := by decide +kernel
theorem d_Model_free_8 : decode prog_14_method_55_code 8 = .ok (.aload_n 0, 1) := by decide +kernel
theorem d_Model_free_9 : decode prog_14_method_55_code 9 = .ok (.getfield 41, 3) := by decide +kernel
theorem d_Model_free_12 : decode prog_14_method_55_code 12 = .ok (.iload_n 1, 1) := by decide +kernel
theorem d_Model_free_13 : decode prog_14_method_55_code 13 = .ok (.iaload, 1) := by decide +kernel
theorem d_Model_free_14 : decode prog_14_method_55_code 14 = .ok (.ifCond .ge 5, 3) := by decide +kernel
theorem d_Model_free_17 : decode prog_14_method_55_code 17 = .ok (.iload_n 1, 1) := by decide +kernel
theorem d_Model_free_18 : decode prog_14_method_55_code 18 = .ok (.ireturn, 1) := by decide +kernel
theorem d_Model_free_19 : decode prog_14_method_55_code 19 = .ok (.iinc 1 1, 3) := by decide +kernel
theorem d_Model_free_22 : decode prog_14_method_55_code 22 = .ok (.goto (-20), 3) := by decide +kernel
theorem d_Model_free_25 : decode prog_14_method_55_code 25 = .ok (.iconst (-1), 1) := by decide +kernel
theorem d_Model_free_26 : decode prog_14_method_55_code 26 = .ok (.ireturn, 1) := by decide +kernel
abbrev M_Model_at : q_M := (⟨"LensPathsModel", "at", "(II)I"⟩, prog_14_method_25_code, 3, (some .int), "LensPathsModel", [], false, 0, 0)
theorem d_Model_at_0 : decode prog_14_method_25_code 0 = .ok (.bipush 8, 2) := by decide +kernel
theorem d_Model_at_2 : decode prog_14_method_25_code 2 = .ok (.bipush 8, 2) := by decide +kernel
theorem d_Model_at_4 : decode prog_14_method_25_code 4 = .ok (.iload_n 1, 1) := by decide +kernel
theorem d_Model_at_5 : decode prog_14_method_25_code 5 = .ok (.imul, 1) := by decide +kernel
theorem d_Model_at_6 : decode prog_14_method_25_code 6 = .ok (.iload_n 2, 1) := by decide +kernel
theorem d_Model_at_7 : decode prog_14_method_25_code 7 = .ok (.iadd, 1) := by decide +kernel
theorem d_Model_at_8 : decode prog_14_method_25_code 8 = .ok (.imul, 1) := by decide +kernel
theorem d_Model_at_9 : decode prog_14_method_25_code 9 = .ok (.ireturn, 1) := by decide +kernel
abbrev M_Model_rowOf : q_M := (⟨"LensPathsModel", "rowOf", "(II)I"⟩, prog_14_method_61_code, 3, (some .int), "LensPathsModel", [], false, 0, 0)
theorem d_Model_rowOf_0 : decode prog_14_method_61_code 0 = .ok (.bipush 7, 2) := by decide +kernel
theorem d_Model_rowOf_2 : decode prog_14_method_61_code 2 = .ok (.bipush 24, 2) := by decide +kernel
theorem d_Model_rowOf_4 : decode prog_14_method_61_code 4 = .ok (.iload_n 1, 1) := by decide +kernel
theorem d_Model_rowOf_5 : decode prog_14_method_61_code 5 = .ok (.imul, 1) := by decide +kernel
theorem d_Model_rowOf_6 : decode prog_14_method_61_code 6 = .ok (.iload_n 2, 1) := by decide +kernel
theorem d_Model_rowOf_7 : decode prog_14_method_61_code 7 = .ok (.iadd, 1) := by decide +kernel
theorem d_Model_rowOf_8 : decode prog_14_method_61_code 8 = .ok (.imul, 1) := by decide +kernel
theorem d_Model_rowOf_9 : decode prog_14_method_61_code 9 = .ok (.ireturn, 1) := by decide +kernel
abbrev M_Model_isNumber : q_M := (⟨"LensPathsModel", "isNumber", "(I)Z"⟩, prog_14_method_20_code, 2, (some .boolean), "LensPathsModel", [], false, 0, 0)
theorem d_Model_isNumber_0 : decode prog_14_method_20_code 0 = .ok (.aload_n 0, 1) := by decide +kernel
theorem d_Model_isNumber_1 : decode prog_14_method_20_code 1 = .ok (.getfield 77, 3) := by decide +kernel
theorem d_Model_isNumber_4 : decode prog_14_method_20_code 4 = .ok (.iload_n 1, 1) := by decide +kernel
theorem d_Model_isNumber_5 : decode prog_14_method_20_code 5 = .ok (.iaload, 1) := by decide +kernel
theorem d_Model_isNumber_6 : decode prog_14_method_20_code 6 = .ok (.iconst 1, 1) := by decide +kernel
theorem d_Model_isNumber_7 : decode prog_14_method_20_code 7 = .ok (.if_icmp .ne 7, 3) := by decide +kernel
theorem d_Model_isNumber_10 : decode prog_14_method_20_code 10 = .ok (.iconst 1, 1) := by decide +kernel
theorem d_Model_isNumber_11 : decode prog_14_method_20_code 11 = .ok (.goto 4, 3) := by decide +kernel
theorem d_Model_isNumber_14 : decode prog_14_method_20_code 14 = .ok (.iconst 0, 1) := by decide +kernel
theorem d_Model_isNumber_15 : decode prog_14_method_20_code 15 = .ok (.ireturn, 1) := by decide +kernel
abbrev M_Model_argument : q_M := (⟨"LensPathsModel", "argument", "(II)I"⟩, prog_14_method_21_code, 3, (some .int), "LensPathsModel", [], false, 0, 0)
theorem d_Model_argument_0 : decode prog_14_method_21_code 0 = .ok (.aload_n 0, 1) := by decide +kernel
theorem d_Model_argument_1 : decode prog_14_method_21_code 1 = .ok (.getfield 80, 3) := by decide +kernel
theorem d_Model_argument_4 : decode prog_14_method_21_code 4 = .ok (.iconst 5, 1) := by decide +kernel
theorem d_Model_argument_5 : decode prog_14_method_21_code 5 = .ok (.iload_n 1, 1) := by decide +kernel
theorem d_Model_argument_6 : decode prog_14_method_21_code 6 = .ok (.imul, 1) := by decide +kernel
theorem d_Model_argument_7 : decode prog_14_method_21_code 7 = .ok (.iload_n 2, 1) := by decide +kernel
theorem d_Model_argument_8 : decode prog_14_method_21_code 8 = .ok (.iadd, 1) := by decide +kernel
theorem d_Model_argument_9 : decode prog_14_method_21_code 9 = .ok (.iaload, 1) := by decide +kernel
theorem d_Model_argument_10 : decode prog_14_method_21_code 10 = .ok (.ireturn, 1) := by decide +kernel
abbrev M_Model_leave : q_M := (⟨"LensPathsModel", "leave", "()Z"⟩, prog_14_method_51_code, 2, (some .boolean), "LensPathsModel", [], false, 0, 0)
theorem d_Model_leave_0 : decode prog_14_method_51_code 0 = .ok (.aload_n 0, 1) := by decide +kernel
theorem d_Model_leave_1 : decode prog_14_method_51_code 1 = .ok (.iconst 0, 1) := by decide +kernel
theorem d_Model_leave_2 : decode prog_14_method_51_code 2 = .ok (.putfield 101, 3) := by decide +kernel
theorem d_Model_leave_5 : decode prog_14_method_51_code 5 = .ok (.aload_n 0, 1) := by decide +kernel
theorem d_Model_leave_6 : decode prog_14_method_51_code 6 = .ok (.getfield 257, 3) := by decide +kernel
theorem d_Model_leave_9 : decode prog_14_method_51_code 9 = .ok (.istore_n 1, 1) := by decide +kernel
theorem d_Model_leave_10 : decode prog_14_method_51_code 10 = .ok (.aload_n 0, 1) := by decide +kernel
theorem d_Model_leave_11 : decode prog_14_method_51_code 11 = .ok (.iconst 0, 1) := by decide +kernel
theorem d_Model_leave_12 : decode prog_14_method_51_code 12 = .ok (.putfield 257, 3) := by decide +kernel
theorem d_Model_leave_15 : decode prog_14_method_51_code 15 = .ok (.iload_n 1, 1) := by decide +kernel
theorem d_Model_leave_16 : decode prog_14_method_51_code 16 = .ok (.ireturn, 1) := by decide +kernel
section MSmall
variable {g : q_G} {sz : Nat} {T : q_T} {I : q_I} {R : q_R} {J : q_J}
theorem c_Model_isVersion {m n : Nat} (hL : q_L 11 t_Model m T R) (hn : I m (nI 1) = nI n) (v : Int32) : q_Ci g M_Model_isVersion [.ref m, .int v] (sz, T, I, R, J) 0 0 (fun r h' => r = p_b (k_bel n v) ∧ h' = (sz, T, I, R, J)) := by
  refine q_C.of (ls0 := [some (.ref m), some (.int v)]) (by decide) rfl (by decide) (Nat.le_of_ble_eq_true rfl) rfl ?_
  refine q_iload_n d_Model_isVersion_0 rfl rfl ?_
  refine q_if_lt (tgt := 16) d_Model_isVersion_1 rfl (fun hc => ?_) (fun hc => ?_)
  · refine q_iconst (v := nI 0) d_Model_isVersion_16 (by decide) ?_
    refine q_zret d_Model_isVersion_17 rfl (by first | exact Or.inl rfl | exact Or.inr rfl | assumption) (by omega) (by omega) ?_
    exact ⟨_, rfl, by rw [k_bel, decide_eq_false (Int32.not_le.mpr hc), Bool.false_and]; rfl, rfl⟩
  · have h1 := Int32.not_lt.mp hc
    refine q_iload_n d_Model_isVersion_4 rfl rfl ?_
    refine q_aload_n d_Model_isVersion_5 rfl rfl ?_
    refine q_getI (ci := 11) (fk := 1) d_Model_isVersion_6 rfl (Nat.le_of_ble_eq_true rfl) w_1105 (fun _ _ => rfl) hL.1 ?_
    rw [hn]
    refine q_icmp_ge (tgt := 16) d_Model_isVersion_9 rfl (fun hc => ?_) (fun hc => ?_)
    · refine q_iconst (v := nI 0) d_Model_isVersion_16 (by decide) ?_
      refine q_zret d_Model_isVersion_17 rfl (by first | exact Or.inl rfl | exact Or.inr rfl | assumption) (by omega) (by omega) ?_
      exact ⟨_, rfl, by rw [k_bel, decide_eq_false (Int32.not_lt.mpr hc), Bool.and_false]; rfl, rfl⟩
    · refine q_iconst (v := nI 1) d_Model_isVersion_12 (by decide) ?_
      refine q_goto (tgt := 17) d_Model_isVersion_13 rfl ?_
      refine q_zret d_Model_isVersion_17 rfl (by first | exact Or.inl rfl | exact Or.inr rfl | assumption) (by omega) (by omega) ?_
      exact ⟨_, rfl, by rw [k_bel, decide_eq_true h1, decide_eq_true (Int32.not_le.mp hc)]; rfl, rfl⟩
/-- the reference's handles -/
def k_mh (m : Nat) (lv : Nat → Bool) (I : q_I) : Prop := ∀ h, h < 16 → (I (m + 10) (nI h) < 0 ↔ lv h = false)
theorem c_Model_isRecordHandle {m : Nat} {lv : Nat → Bool} (hL : q_L 11 t_Model m T R) (hH : k_mh m lv I) (v : Int32) : q_Ci g M_Model_isRecordHandle [.ref m, .int v] (sz, T, I, R, J) 0 0 (fun r h' => r = p_b (k_ish lv v) ∧ h' = (sz, T, I, R, J)) := by
  refine q_C.of (ls0 := [some (.ref m), some (.int v)]) (by decide) rfl (by decide) (Nat.le_of_ble_eq_true rfl) rfl ?_
  refine q_iload_n d_Model_isRecordHandle_0 rfl rfl ?_
  refine q_if_lt (tgt := 23) d_Model_isRecordHandle_1 rfl (fun hc => ?_) (fun hc => ?_)
  · refine q_iconst (v := nI 0) d_Model_isRecordHandle_23 (by decide) ?_
    refine q_zret d_Model_isRecordHandle_24 rfl (by first | exact Or.inl rfl | exact Or.inr rfl | assumption) (by omega) (by omega) ?_
    exact ⟨_, rfl, by rw [k_ish, k_bel, decide_eq_false (Int32.not_le.mpr hc), Bool.false_and, Bool.false_and]; rfl, rfl⟩
  · have h1 := hc
    refine q_iload_n d_Model_isRecordHandle_4 rfl rfl ?_
    refine q_bipush (v := nI 16) d_Model_isRecordHandle_5 (by decide) ?_
    refine q_icmp_ge (tgt := 23) d_Model_isRecordHandle_7 rfl (fun hc => ?_) (fun hc => ?_)
    · refine q_iconst (v := nI 0) d_Model_isRecordHandle_23 (by decide) ?_
      refine q_zret d_Model_isRecordHandle_24 rfl (by first | exact Or.inl rfl | exact Or.inr rfl | assumption) (by omega) (by omega) ?_
      exact ⟨_, rfl, by rw [k_ish, k_bel, decide_eq_false (Int32.not_lt.mpr hc), Bool.and_false, Bool.false_and]; rfl, rfl⟩
    · obtain ⟨j, hj, rfl⟩ := nI_of h1
      rw [nI_leI (by omega) hj] at hc
      have hj16 : j < 16 := by omega
      have e := hH j hj16
      rw [k_ish_nI hj16]
      refine q_aload_n d_Model_isRecordHandle_10 rfl rfl ?_
      refine q_getR (ci := 11) (fk := 14) d_Model_isRecordHandle_11 rfl (Nat.le_of_ble_eq_true rfl) w_1118 (fun _ _ => rfl) hL.1 (hL.2 14 _ _ _ rfl).1 ?_
      refine q_iload_n d_Model_isRecordHandle_14 rfl rfl ?_
      refine q_iald d_Model_isRecordHandle_15 (hL.2 14 _ _ _ rfl).2 (by first | assumption | exact vp_in_nI (by omega) (by omega)) ?_
      refine q_if_lt (tgt := 23) d_Model_isRecordHandle_16 rfl (fun hc => ?_) (fun hc => ?_)
      · refine q_iconst (v := nI 0) d_Model_isRecordHandle_23 (by decide) ?_
        refine q_zret d_Model_isRecordHandle_24 rfl (by first | exact Or.inl rfl | exact Or.inr rfl | assumption) (by omega) (by omega) ?_
        exact ⟨_, rfl, by rw [e.mp hc]; rfl, rfl⟩
      · refine q_iconst (v := nI 1) d_Model_isRecordHandle_19 (by decide) ?_
        refine q_goto (tgt := 24) d_Model_isRecordHandle_20 rfl ?_
        refine q_zret d_Model_isRecordHandle_24 rfl (by first | exact Or.inl rfl | exact Or.inr rfl | assumption) (by omega) (by omega) ?_
        have : lv j = true := by
          cases h : lv j with
          | true => rfl
          | false => exact absurd (e.mpr h) hc
        exact ⟨_, rfl, by rw [this]; rfl, rfl⟩
theorem c_Model_free {m : Nat} {lv : Nat → Bool} (hL : q_L 11 t_Model m T R) (hH : k_mh m lv I) : q_Ci g M_Model_free [.ref m] (sz, T, I, R, J) 0 0 (fun r h' => r = p_idx (k_fr lv 0 16) ∧ h' = (sz, T, I, R, J)) := by
  refine q_C.of (ls0 := [some (.ref m), none]) (by decide) rfl (by decide) (Nat.le_of_ble_eq_true rfl) rfl ?_
  have loop : ∀ (j i : Nat), i + j = 16 → q_V g M_Model_free 0 0 0 0 (sz, T, I, R, J) (fun o h' => ∃ r : Int32, o = .inl (some (.int r)) ∧ (r = p_idx (k_fr lv i j) ∧ h' = (sz, T, I, R, J))) 2 [some (.ref m), some (.int (nI i))] [] := by
    intro j
    induction j with
    | zero =>
      intro i hij
      refine q_iload_n d_Model_free_2 rfl rfl ?_
      refine q_bipush (v := nI 16) d_Model_free_3 (by decide) ?_
      refine q_icmp_ge (tgt := 25) d_Model_free_5 rfl (fun hc => ?_) (fun hc => ?_)
      · refine q_iconst (v := (-1)) d_Model_free_25 (by decide) ?_
        refine q_iret d_Model_free_26 rfl (by omega) (by omega) ?_
        exact ⟨_, rfl, rfl, rfl⟩
      · rw [nI_leI (by omega) (by omega)] at hc
        omega
    | succ j ih =>
      intro i hij
      have e := hH i (by omega)
      rw [k_fr]
      refine q_iload_n d_Model_free_2 rfl rfl ?_
      refine q_bipush (v := nI 16) d_Model_free_3 (by decide) ?_
      refine q_icmp_ge (tgt := 25) d_Model_free_5 rfl (fun hc => ?_) (fun hc => ?_)
      · rw [nI_leI (by omega) (by omega)] at hc
        omega
      · refine q_aload_n d_Model_free_8 rfl rfl ?_
        refine q_getR (ci := 11) (fk := 14) d_Model_free_9 rfl (Nat.le_of_ble_eq_true rfl) w_1118 (fun _ _ => rfl) hL.1 (hL.2 14 _ _ _ rfl).1 ?_
        refine q_iload_n d_Model_free_12 rfl rfl ?_
        refine q_iald d_Model_free_13 (hL.2 14 _ _ _ rfl).2 (by first | assumption | exact vp_in_nI (by omega) (by omega)) ?_
        refine q_if_ge (tgt := 19) d_Model_free_14 rfl (fun hc => ?_) (fun hc => ?_)
        · have : lv i = true := by
            cases h : lv i with
            | true => rfl
            | false => exact absurd (e.mpr h) (Int32.not_lt.mpr hc)
          rw [if_pos this]
          first | refine q_iincN d_Model_free_19 rfl (Nat.le_of_ble_eq_true rfl) (by first | exact q_ok0 | exact q_okI rfl | exact q_okR rfl | exact q_okN rfl) rfl ?_ | refine q_iinc d_Model_free_19 rfl rfl (Nat.le_of_ble_eq_true rfl) (by first | exact q_ok0 | exact q_okI rfl | exact q_okR rfl | exact q_okN rfl) rfl ?_
          refine q_goto (tgt := 2) d_Model_free_22 rfl ?_
          exact ih (i + 1) (by omega)
        · have : lv i = false := e.mp (Int32.not_le.mp hc)
          refine q_iload_n d_Model_free_17 rfl rfl ?_
          refine q_iret d_Model_free_18 rfl (by omega) (by omega) ?_
          exact ⟨_, rfl, by rw [if_neg (by rw [this]; decide)]; rfl, rfl⟩
  refine q_iconst (v := nI 0) d_Model_free_0 (by decide) ?_
  refine q_istore_n d_Model_free_1 rfl (Nat.le_of_ble_eq_true rfl) (by first | exact q_ok0 | exact q_okI rfl | exact q_okR rfl | exact q_okN rfl) rfl ?_
  exact loop 16 0 (by omega)
theorem c_Model_at {m s i : Nat} : q_Ci g M_Model_at [.ref m, .int (nI s), .int (nI i)] (sz, T, I, R, J) 0 0 (fun r h' => r = nI (8 * (8 * s + i)) ∧ h' = (sz, T, I, R, J)) := by
  refine q_C.of (ls0 := [some (.ref m), some (.int (nI s)), some (.int (nI i))]) (by decide) rfl (by decide) (Nat.le_of_ble_eq_true rfl) rfl ?_
  refine q_bipush (v := nI 8) d_Model_at_0 (by decide) ?_
  refine q_bipush (v := nI 8) d_Model_at_2 (by decide) ?_
  refine q_iload_n d_Model_at_4 rfl rfl ?_
  first | refine q_imulN d_Model_at_5 ?_ | refine q_imul d_Model_at_5 ?_
  refine q_iload_n d_Model_at_6 rfl rfl ?_
  first | refine q_iaddN d_Model_at_7 ?_ | refine q_iadd d_Model_at_7 ?_
  first | refine q_imulN d_Model_at_8 ?_ | refine q_imul d_Model_at_8 ?_
  refine q_iret d_Model_at_9 rfl (by omega) (by omega) ?_
  exact ⟨_, rfl, rfl, rfl⟩
theorem c_Model_rowOf {m h i : Nat} : q_Ci g M_Model_rowOf [.ref m, .int (nI h), .int (nI i)] (sz, T, I, R, J) 0 0 (fun r h' => r = nI (7 * (24 * h + i)) ∧ h' = (sz, T, I, R, J)) := by
  refine q_C.of (ls0 := [some (.ref m), some (.int (nI h)), some (.int (nI i))]) (by decide) rfl (by decide) (Nat.le_of_ble_eq_true rfl) rfl ?_
  refine q_bipush (v := nI 7) d_Model_rowOf_0 (by decide) ?_
  refine q_bipush (v := nI 24) d_Model_rowOf_2 (by decide) ?_
  refine q_iload_n d_Model_rowOf_4 rfl rfl ?_
  first | refine q_imulN d_Model_rowOf_5 ?_ | refine q_imul d_Model_rowOf_5 ?_
  refine q_iload_n d_Model_rowOf_6 rfl rfl ?_
  first | refine q_iaddN d_Model_rowOf_7 ?_ | refine q_iadd d_Model_rowOf_7 ?_
  first | refine q_imulN d_Model_rowOf_8 ?_ | refine q_imul d_Model_rowOf_8 ?_
  refine q_iret d_Model_rowOf_9 rfl (by omega) (by omega) ?_
  exact ⟨_, rfl, rfl, rfl⟩
theorem c_Model_isNumber {m t : Nat} (hL : q_L 11 t_Model m T R) (ht : t < 1024) : q_Ci g M_Model_isNumber [.ref m, .int (nI t)] (sz, T, I, R, J) 0 0 (fun r h' => r = p_b (decide (I (m + 22) (nI t) = 1)) ∧ h' = (sz, T, I, R, J)) := by
  refine q_C.of (ls0 := [some (.ref m), some (.int (nI t))]) (by decide) rfl (by decide) (Nat.le_of_ble_eq_true rfl) rfl ?_
  refine q_aload_n d_Model_isNumber_0 rfl rfl ?_
  refine q_getR (ci := 11) (fk := 30) d_Model_isNumber_1 rfl (Nat.le_of_ble_eq_true rfl) w_1134 (fun _ _ => rfl) hL.1 (hL.2 30 _ _ _ rfl).1 ?_
  refine q_iload_n d_Model_isNumber_4 rfl rfl ?_
  refine q_iald d_Model_isNumber_5 (hL.2 30 _ _ _ rfl).2 (by first | assumption | exact vp_in_nI (by omega) (by omega)) ?_
  refine q_iconst (v := nI 1) d_Model_isNumber_6 (by decide) ?_
  refine q_icmp_ne (tgt := 14) d_Model_isNumber_7 rfl (fun hc => ?_) (fun hc => ?_)
  · have h1 : ¬ I (m + 22) (nI t) = 1 := hc
    refine q_iconst (v := nI 0) d_Model_isNumber_14 (by decide) ?_
    refine q_zret d_Model_isNumber_15 rfl (by first | exact Or.inl rfl | exact Or.inr rfl | assumption) (by omega) (by omega) ?_
    exact ⟨_, rfl, by rw [decide_eq_false h1]; rfl, rfl⟩
  · have h1 : I (m + 22) (nI t) = 1 := hc
    refine q_iconst (v := nI 1) d_Model_isNumber_10 (by decide) ?_
    refine q_goto (tgt := 15) d_Model_isNumber_11 rfl ?_
    refine q_zret d_Model_isNumber_15 rfl (by first | exact Or.inl rfl | exact Or.inr rfl | assumption) (by omega) (by omega) ?_
    exact ⟨_, rfl, by rw [decide_eq_true h1]; rfl, rfl⟩
theorem c_Model_argument {m t k : Nat} (hL : q_L 11 t_Model m T R) (ht : 5 * t + k < 5120) : q_Ci g M_Model_argument [.ref m, .int (nI t), .int (nI k)] (sz, T, I, R, J) 0 0 (fun r h' => r = I (m + 23) (nI (5 * t + k)) ∧ h' = (sz, T, I, R, J)) := by
  refine q_C.of (ls0 := [some (.ref m), some (.int (nI t)), some (.int (nI k))]) (by decide) rfl (by decide) (Nat.le_of_ble_eq_true rfl) rfl ?_
  refine q_aload_n d_Model_argument_0 rfl rfl ?_
  refine q_getR (ci := 11) (fk := 31) d_Model_argument_1 rfl (Nat.le_of_ble_eq_true rfl) w_1135 (fun _ _ => rfl) hL.1 (hL.2 31 _ _ _ rfl).1 ?_
  refine q_iconst (v := nI 5) d_Model_argument_4 (by decide) ?_
  refine q_iload_n d_Model_argument_5 rfl rfl ?_
  first | refine q_imulN d_Model_argument_6 ?_ | refine q_imul d_Model_argument_6 ?_
  refine q_iload_n d_Model_argument_7 rfl rfl ?_
  first | refine q_iaddN d_Model_argument_8 ?_ | refine q_iadd d_Model_argument_8 ?_
  refine q_iald d_Model_argument_9 (hL.2 31 _ _ _ rfl).2 (by first | assumption | exact vp_in_nI (by omega) (by omega)) ?_
  refine q_iret d_Model_argument_10 rfl (by omega) (by omega) ?_
  exact ⟨_, rfl, rfl, rfl⟩
theorem c_Model_leave {m : Nat} {b : Bool} (hL : q_L 11 t_Model m T R) (ho : I m (nI 13) = p_b b) : q_Ci g M_Model_leave [.ref m] (sz, T, I, R, J) 0 0 (fun r h' => r = p_b b ∧ h' = (sz, T, q_upI (q_upI I m (nI 0) 0) m (nI 13) 0, R, J)) := by
  refine q_C.of (ls0 := [some (.ref m), none]) (by decide) rfl (by decide) (Nat.le_of_ble_eq_true rfl) rfl ?_
  refine q_aload_n d_Model_leave_0 rfl rfl ?_
  refine q_iconst (v := nI 0) d_Model_leave_1 (by decide) ?_
  refine q_putI (ci := 11) (fk := 0) d_Model_leave_2 rfl (Nat.le_of_ble_eq_true rfl) w_1104 (Or.inl rfl) (fun _ _ => rfl) rfl rfl hL.1 ?_
  refine q_aload_n d_Model_leave_5 rfl rfl ?_
  refine q_getI (ci := 11) (fk := 13) d_Model_leave_6 rfl (Nat.le_of_ble_eq_true rfl) w_1117 (fun _ _ => rfl) hL.1 ?_
  rw [q_upI_nk (by decide), ho]
  refine q_istore_n d_Model_leave_9 rfl (Nat.le_of_ble_eq_true rfl) (by first | exact q_ok0 | exact q_okI rfl | exact q_okR rfl | exact q_okN rfl) rfl ?_
  refine q_aload_n d_Model_leave_10 rfl rfl ?_
  refine q_iconst (v := nI 0) d_Model_leave_11 (by decide) ?_
  refine q_putI (ci := 11) (fk := 13) d_Model_leave_12 rfl (Nat.le_of_ble_eq_true rfl) w_1117 (Or.inl rfl) (fun _ _ => rfl) (by first | rfl | decide | assumption) (by first | rfl | decide | assumption) hL.1 ?_
  refine q_iload_n d_Model_leave_15 rfl rfl ?_
  cases b with
  | false =>
    refine q_zret d_Model_leave_16 rfl (by first | exact Or.inl rfl | exact Or.inr rfl | assumption) (by omega) (by omega) ?_
    exact ⟨_, rfl, rfl, rfl⟩
  | true =>
    refine q_zret d_Model_leave_16 rfl (by first | exact Or.inl rfl | exact Or.inr rfl | assumption) (by omega) (by omega) ?_
    exact ⟨_, rfl, rfl, rfl⟩
end MSmall
