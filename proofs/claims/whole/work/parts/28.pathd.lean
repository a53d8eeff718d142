/-! the methods over paths and keys, on -/
abbrev M_Key_shift : q_M := (⟨"LensPaths$Key", "shift", "(I)I"⟩, prog_6_method_3_code, 2, (some .int), "LensPaths$Key", [], false, 0, 0)
theorem d_Key_shift_0 : decode prog_6_method_3_code 0 = .ok (.iconst 0, 1) := by decide +kernel
theorem d_Key_shift_1 : decode prog_6_method_3_code 1 = .ok (.istore_n 1, 1) := by decide +kernel
theorem d_Key_shift_2 : decode prog_6_method_3_code 2 = .ok (.iload_n 1, 1) := by decide +kernel
theorem d_Key_shift_3 : decode prog_6_method_3_code 3 = .ok (.bipush 28, 2) := by decide +kernel
theorem d_Key_shift_5 : decode prog_6_method_3_code 5 = .ok (.if_icmp .ge 18, 3) := by decide +kernel
theorem d_Key_shift_8 : decode prog_6_method_3_code 8 = .ok (.iload_n 0, 1) := by decide +kernel
theorem d_Key_shift_9 : decode prog_6_method_3_code 9 = .ok (.iload_n 1, 1) := by decide +kernel
theorem d_Key_shift_10 : decode prog_6_method_3_code 10 = .ok (.ishr, 1) := by decide +kernel
theorem d_Key_shift_11 : decode prog_6_method_3_code 11 = .ok (.bipush 127, 2) := by decide +kernel
theorem d_Key_shift_13 : decode prog_6_method_3_code 13 = .ok (.iand, 1) := by decide +kernel
theorem d_Key_shift_14 : decode prog_6_method_3_code 14 = .ok (.ifCond .ne 9, 3) := by decide +kernel
theorem d_Key_shift_17 : decode prog_6_method_3_code 17 = .ok (.iinc 1 7, 3) := by decide +kernel
theorem d_Key_shift_20 : decode prog_6_method_3_code 20 = .ok (.goto (-18), 3) := by decide +kernel
theorem d_Key_shift_23 : decode prog_6_method_3_code 23 = .ok (.iload_n 1, 1) := by decide +kernel
theorem d_Key_shift_24 : decode prog_6_method_3_code 24 = .ok (.ireturn, 1) := by decide +kernel
abbrev M_Key_parent : q_M := (⟨"LensPaths$Key", "parent", "(I)I"⟩, prog_6_method_4_code, 1, (some .int), "LensPaths$Key", [], false, 1, 21)
theorem d_Key_parent_0 : decode prog_6_method_4_code 0 = .ok (.iload_n 0, 1) := by decide +kernel
theorem d_Key_parent_1 : decode prog_6_method_4_code 1 = .ok (.bipush 127, 2) := by decide +kernel
theorem d_Key_parent_3 : decode prog_6_method_4_code 3 = .ok (.iload_n 0, 1) := by decide +kernel
theorem d_Key_parent_4 : decode prog_6_method_4_code 4 = .ok (.invokestatic 11, 3) := by decide +kernel
theorem d_Key_parent_7 : decode prog_6_method_4_code 7 = .ok (.ishl, 1) := by decide +kernel
theorem d_Key_parent_8 : decode prog_6_method_4_code 8 = .ok (.iconst (-1), 1) := by decide +kernel
theorem d_Key_parent_9 : decode prog_6_method_4_code 9 = .ok (.ixor, 1) := by decide +kernel
theorem d_Key_parent_10 : decode prog_6_method_4_code 10 = .ok (.iand, 1) := by decide +kernel
theorem d_Key_parent_11 : decode prog_6_method_4_code 11 = .ok (.ireturn, 1) := by decide +kernel
abbrev M_Key_beside : q_M := (⟨"LensPaths$Key", "beside", "(II)I"⟩, prog_6_method_5_code, 2, (some .int), "LensPaths$Key", [], false, 2, 41)
theorem d_Key_beside_0 : decode prog_6_method_5_code 0 = .ok (.iload_n 0, 1) := by decide +kernel
theorem d_Key_beside_1 : decode prog_6_method_5_code 1 = .ok (.invokestatic 15, 3) := by decide +kernel
theorem d_Key_beside_4 : decode prog_6_method_5_code 4 = .ok (.iload_n 1, 1) := by decide +kernel
theorem d_Key_beside_5 : decode prog_6_method_5_code 5 = .ok (.iconst 1, 1) := by decide +kernel
theorem d_Key_beside_6 : decode prog_6_method_5_code 6 = .ok (.iadd, 1) := by decide +kernel
theorem d_Key_beside_7 : decode prog_6_method_5_code 7 = .ok (.iload_n 0, 1) := by decide +kernel
theorem d_Key_beside_8 : decode prog_6_method_5_code 8 = .ok (.invokestatic 11, 3) := by decide +kernel
theorem d_Key_beside_11 : decode prog_6_method_5_code 11 = .ok (.ishl, 1) := by decide +kernel
theorem d_Key_beside_12 : decode prog_6_method_5_code 12 = .ok (.ior, 1) := by decide +kernel
theorem d_Key_beside_13 : decode prog_6_method_5_code 13 = .ok (.ireturn, 1) := by decide +kernel
abbrev M_Key_lifted : q_M := (⟨"LensPaths$Key", "lifted", "(I)I"⟩, prog_6_method_6_code, 2, (some .int), "LensPaths$Key", [], false, 2, 41)
theorem d_Key_lifted_0 : decode prog_6_method_6_code 0 = .ok (.iload_n 0, 1) := by decide +kernel
theorem d_Key_lifted_1 : decode prog_6_method_6_code 1 = .ok (.invokestatic 11, 3) := by decide +kernel
theorem d_Key_lifted_4 : decode prog_6_method_6_code 4 = .ok (.istore_n 1, 1) := by decide +kernel
theorem d_Key_lifted_5 : decode prog_6_method_6_code 5 = .ok (.iload_n 0, 1) := by decide +kernel
theorem d_Key_lifted_6 : decode prog_6_method_6_code 6 = .ok (.invokestatic 15, 3) := by decide +kernel
theorem d_Key_lifted_9 : decode prog_6_method_6_code 9 = .ok (.invokestatic 15, 3) := by decide +kernel
theorem d_Key_lifted_12 : decode prog_6_method_6_code 12 = .ok (.iload_n 0, 1) := by decide +kernel
theorem d_Key_lifted_13 : decode prog_6_method_6_code 13 = .ok (.iload_n 1, 1) := by decide +kernel
theorem d_Key_lifted_14 : decode prog_6_method_6_code 14 = .ok (.ishr, 1) := by decide +kernel
theorem d_Key_lifted_15 : decode prog_6_method_6_code 15 = .ok (.bipush 127, 2) := by decide +kernel
theorem d_Key_lifted_17 : decode prog_6_method_6_code 17 = .ok (.iand, 1) := by decide +kernel
theorem d_Key_lifted_18 : decode prog_6_method_6_code 18 = .ok (.iload_n 1, 1) := by decide +kernel
theorem d_Key_lifted_19 : decode prog_6_method_6_code 19 = .ok (.bipush 7, 2) := by decide +kernel
theorem d_Key_lifted_21 : decode prog_6_method_6_code 21 = .ok (.iadd, 1) := by decide +kernel
theorem d_Key_lifted_22 : decode prog_6_method_6_code 22 = .ok (.ishl, 1) := by decide +kernel
theorem d_Key_lifted_23 : decode prog_6_method_6_code 23 = .ok (.ior, 1) := by decide +kernel
theorem d_Key_lifted_24 : decode prog_6_method_6_code 24 = .ok (.ireturn, 1) := by decide +kernel
abbrev M_Key_isWithin : q_M := (⟨"LensPaths$Key", "isWithin", "(II)Z"⟩, prog_6_method_7_code, 3, (some .boolean), "LensPaths$Key", [], false, 1, 21)
theorem d_Key_isWithin_0 : decode prog_6_method_7_code 0 = .ok (.iload_n 1, 1) := by decide +kernel
theorem d_Key_isWithin_1 : decode prog_6_method_7_code 1 = .ok (.invokestatic 11, 3) := by decide +kernel
theorem d_Key_isWithin_4 : decode prog_6_method_7_code 4 = .ok (.istore_n 2, 1) := by decide +kernel
theorem d_Key_isWithin_5 : decode prog_6_method_7_code 5 = .ok (.iload_n 0, 1) := by decide +kernel
theorem d_Key_isWithin_6 : decode prog_6_method_7_code 6 = .ok (.iload_n 2, 1) := by decide +kernel
theorem d_Key_isWithin_7 : decode prog_6_method_7_code 7 = .ok (.ishr, 1) := by decide +kernel
theorem d_Key_isWithin_8 : decode prog_6_method_7_code 8 = .ok (.iload_n 1, 1) := by decide +kernel
theorem d_Key_isWithin_9 : decode prog_6_method_7_code 9 = .ok (.iload_n 2, 1) := by decide +kernel
theorem d_Key_isWithin_10 : decode prog_6_method_7_code 10 = .ok (.ishr, 1) := by decide +kernel
theorem d_Key_isWithin_11 : decode prog_6_method_7_code 11 = .ok (.if_icmp .ne 7, 3) := by decide +kernel
theorem d_Key_isWithin_14 : decode prog_6_method_7_code 14 = .ok (.iconst 1, 1) := by decide +kernel
theorem d_Key_isWithin_15 : decode prog_6_method_7_code 15 = .ok (.goto 4, 3) := by decide +kernel
theorem d_Key_isWithin_18 : decode prog_6_method_7_code 18 = .ok (.iconst 0, 1) := by decide +kernel
theorem d_Key_isWithin_19 : decode prog_6_method_7_code 19 = .ok (.ireturn, 1) := by decide +kernel
abbrev M_Key_isName : q_M := (⟨"LensPaths$Key", "isName", "(I)Z"⟩, prog_6_method_8_code, 1, (some .boolean), "LensPaths$Key", [], false, 0, 0)
theorem d_Key_isName_0 : decode prog_6_method_8_code 0 = .ok (.iload_n 0, 1) := by decide +kernel
theorem d_Key_isName_1 : decode prog_6_method_8_code 1 = .ok (.ifCond .lt 13, 3) := by decide +kernel
theorem d_Key_isName_4 : decode prog_6_method_8_code 4 = .ok (.iload_n 0, 1) := by decide +kernel
theorem d_Key_isName_5 : decode prog_6_method_8_code 5 = .ok (.bipush 99, 2) := by decide +kernel
theorem d_Key_isName_7 : decode prog_6_method_8_code 7 = .ok (.if_icmp .gt 7, 3) := by decide +kernel
theorem d_Key_isName_10 : decode prog_6_method_8_code 10 = .ok (.iconst 1, 1) := by decide +kernel
theorem d_Key_isName_11 : decode prog_6_method_8_code 11 = .ok (.goto 4, 3) := by decide +kernel
theorem d_Key_isName_14 : decode prog_6_method_8_code 14 = .ok (.iconst 0, 1) := by decide +kernel
theorem d_Key_isName_15 : decode prog_6_method_8_code 15 = .ok (.ireturn, 1) := by decide +kernel
section PathD
variable {g : q_G} {sz : Nat} {T : q_T} {I : q_I} {R : q_R} {J : q_J}
def p_kk (K j : Nat) : Option (List Nat) → Int32
  | none => -1
  | some l => nI (K * 128 ^ j + k_kf j l)
theorem nI_zero {P : Nat} (hP : P < 2 ^ 32) (hc : nI P = 0) : P = 0 := by
  have h := pk_tn hP
  rw [hc] at h
  exact h.symm
theorem p_kk_zero (K j : Nat) : p_kk K (j + 1) (k_names (j + 1) 0) = p_kk (K * 128 + 0) j (k_names j 0) := by
  have e1 : k_names (j + 1) 0 = some [] := if_pos rfl
  have e2 : k_names j 0 = some [] := by cases j <;> exact if_pos rfl
  have e3 : k_kf j [] = 0 := by cases j <;> rfl
  rw [e1, e2]
  show nI (K * 128 ^ (j + 1) + 0) = nI ((K * 128 + 0) * 128 ^ j + k_kf j [])
  rw [e3, Nat.pow_succ, Nat.mul_comm (128 ^ j) 128]
  simp only [Nat.add_zero, Nat.mul_assoc]
theorem p_kk_step {K j P : Nat} (h0 : ¬ P = 0) (h1 : ¬ (P % 128 = 0 ∨ 100 < P % 128)) : p_kk K (j + 1) (k_names (j + 1) P) = p_kk (K * 128 + P % 128) j (k_names j (P / 128)) := by
  rw [show k_names (j + 1) P = (k_names j (P / 128)).map (P % 128 :: ·) by rw [k_names, if_neg h0, if_neg h1]]
  cases k_names j (P / 128) with
  | none => rfl
  | some t =>
    show nI (K * 128 ^ (j + 1) + (P % 128 * 128 ^ j + k_kf j t)) = nI ((K * 128 + P % 128) * 128 ^ j + k_kf j t)
    rw [Nat.pow_succ, Nat.mul_comm (128 ^ j) 128, Nat.add_mul, Nat.mul_assoc, Nat.add_assoc]
def p_key : Option (List Nat) → Int32
  | none => -1
  | some l => nI (k_key l)
theorem c_Key_ofPath (p : Int32) : q_Ci g M_Key_ofPath [.int p] (sz, T, I, R, J) 0 0 (fun r h' => r = p_key (k_of p) ∧ h' = (sz, T, I, R, J)) := by
  refine q_C.of (ls0 := [some (.int p), none, none, none, none]) (by decide) rfl (by decide) (Nat.le_of_ble_eq_true rfl) rfl ?_
  have loop : ∀ (j d K P : Nat) (x4 : Option Value), d + j = 4 → P < 2 ^ 32 → q_V g M_Key_ofPath 0 0 0 0 (sz, T, I, R, J) (fun o h' => ∃ r : Int32, o = .inl (some (.int r)) ∧ (r = p_kk K j (k_names j P) ∧ h' = (sz, T, I, R, J))) 6 [some (.int p), some (.int (nI K)), some (.int (nI P)), some (.int (nI d)), x4] [] := by
    intro j
    induction j with
    | zero =>
      intro d K P x4 hd hP
      refine q_iload_n d_Key_ofPath_6 rfl rfl ?_
      refine q_iconst (v := nI 4) d_Key_ofPath_7 (by decide) ?_
      refine q_icmp_ge (tgt := 54) d_Key_ofPath_8 rfl (fun hc => ?_) (fun hc => ?_)
      · refine q_iload_n d_Key_ofPath_54 rfl rfl ?_
        refine q_if_ne (tgt := 62) d_Key_ofPath_55 rfl (fun hc => ?_) (fun hc => ?_)
        · have e : k_names 0 P = none := if_neg (fun z => hc (by rw [z]; rfl))
          rw [e]
          refine q_iconst (v := (-1)) d_Key_ofPath_62 (by decide) ?_
          refine q_iret d_Key_ofPath_63 rfl (by omega) (by omega) ?_
          exact ⟨_, rfl, rfl, rfl⟩
        · refine q_iload_n d_Key_ofPath_58 rfl rfl ?_
          refine q_goto (tgt := 63) d_Key_ofPath_59 rfl ?_
          refine q_iret d_Key_ofPath_63 rfl (by omega) (by omega) ?_
          have e := nI_zero hP hc
          subst e
          refine ⟨_, rfl, ?_, rfl⟩
          show nI K = nI (K * 128 ^ 0 + 0)
          rw [Nat.pow_zero, Nat.mul_one, Nat.add_zero]
      · exact absurd (nI_le (by omega) (by omega)) hc
    | succ j ih =>
      intro d K P x4 hd hP
      have go : ∀ A P2 : Nat, A < 128 → P2 < 2 ^ 32 → p_kk K (j + 1) (k_names (j + 1) P) = p_kk (K * 128 + A) j (k_names j P2) → q_V g M_Key_ofPath 0 0 0 0 (sz, T, I, R, J) (fun o h' => ∃ r : Int32, o = .inl (some (.int r)) ∧ (r = p_kk K (j + 1) (k_names (j + 1) P) ∧ h' = (sz, T, I, R, J))) 40 [some (.int p), some (.int (nI K)), some (.int (nI P2)), some (.int (nI d)), some (.int (nI A))] [] := by
        intro A P2 hA hP2 he
        refine q_iload_n d_Key_ofPath_40 rfl rfl ?_
        refine q_bipush (v := nI 7) d_Key_ofPath_41 (by decide) ?_
        refine q_ishl d_Key_ofPath_43 ?_
        refine q_iload d_Key_ofPath_44 rfl ?_
        rw [k_shl K (by omega)]
        refine q_ior d_Key_ofPath_46 ?_
        rw [k_orA (by omega), show K * 2 ^ 7 + A = K * 128 + A from rfl, he]
        refine q_istore_n d_Key_ofPath_47 rfl (Nat.le_of_ble_eq_true rfl) (by first | exact q_ok0 | exact q_okI rfl | exact q_okR rfl | exact q_okN rfl) rfl ?_
        first | refine q_iincN d_Key_ofPath_48 rfl (Nat.le_of_ble_eq_true rfl) (by first | exact q_ok0 | exact q_okI rfl | exact q_okR rfl | exact q_okN rfl) rfl ?_ | refine q_iinc d_Key_ofPath_48 rfl rfl (Nat.le_of_ble_eq_true rfl) (by first | exact q_ok0 | exact q_okI rfl | exact q_okR rfl | exact q_okN rfl) rfl ?_
        refine q_goto (tgt := 6) d_Key_ofPath_51 rfl ?_
        exact ih (d + 1) (K * 128 + A) P2 _ (by omega) hP2
      refine q_iload_n d_Key_ofPath_6 rfl rfl ?_
      refine q_iconst (v := nI 4) d_Key_ofPath_7 (by decide) ?_
      refine q_icmp_ge (tgt := 54) d_Key_ofPath_8 rfl (fun hc => ?_) (fun hc => ?_)
      · exact absurd hc (nI_ge (by omega) (by omega))
      · refine q_iload_n d_Key_ofPath_11 rfl rfl ?_
        refine q_bipush (v := nI 127) d_Key_ofPath_12 (by decide) ?_
        refine q_iand d_Key_ofPath_14 ?_
        rw [k_and127 hP]
        refine q_istore d_Key_ofPath_15 (Nat.le_of_ble_eq_true rfl) (by first | exact q_ok0 | exact q_okI rfl | exact q_okR rfl | exact q_okN rfl) rfl ?_
        refine q_iload_n d_Key_ofPath_17 rfl rfl ?_
        refine q_bipush (v := nI 7) d_Key_ofPath_18 (by decide) ?_
        refine q_iushr (v := nI (P / 2 ^ 7)) d_Key_ofPath_20 (k_ushr hP (by omega)) ?_
        refine q_istore_n d_Key_ofPath_21 rfl (Nat.le_of_ble_eq_true rfl) (by first | exact q_ok0 | exact q_okI rfl | exact q_okR rfl | exact q_okN rfl) rfl ?_
        refine q_iload d_Key_ofPath_22 rfl ?_
        refine q_bipush (v := nI 100) d_Key_ofPath_24 (by decide) ?_
        refine q_icmp_gt (tgt := 38) d_Key_ofPath_26 rfl (fun hc => ?_) (fun hc => ?_)
        · rw [nI_ltI (by omega) (by omega)] at hc
          have e : k_names (j + 1) P = none := by rw [k_names, if_neg (by omega), if_pos (Or.inr hc)]
          rw [e]
          refine q_iconst (v := (-1)) d_Key_ofPath_38 (by decide) ?_
          refine q_iret d_Key_ofPath_39 rfl (by omega) (by omega) ?_
          exact ⟨_, rfl, rfl, rfl⟩
        · rw [nI_ltI (by omega) (by omega)] at hc
          have h100 := hc
          refine q_iload d_Key_ofPath_29 rfl ?_
          refine q_if_ne (tgt := 40) d_Key_ofPath_31 rfl (fun hc => ?_) (fun hc => ?_)
          · have h1 : ¬ P % 128 = 0 := fun z => hc (by rw [z]; rfl)
            exact go (P % 128) (P / 2 ^ 7) (by omega) (by omega) (p_kk_step (by omega) (by omega))
          · have h1 := nI_zero (by omega) hc
            refine q_iload_n d_Key_ofPath_34 rfl rfl ?_
            refine q_if_eq (tgt := 40) d_Key_ofPath_35 rfl (fun hc => ?_) (fun hc => ?_)
            · have h2 := nI_zero (by omega) hc
              have h3 : P = 0 := by omega
              rw [h1, h2]
              refine go 0 0 (by omega) (by omega) ?_
              rw [h3]
              exact p_kk_zero K j
            · have h2 : ¬ P / 2 ^ 7 = 0 := fun z => hc (by rw [z]; rfl)
              have e : k_names (j + 1) P = none := by rw [k_names, if_neg (by omega), if_pos (Or.inl h1)]
              rw [e]
              refine q_iconst (v := (-1)) d_Key_ofPath_38 (by decide) ?_
              refine q_iret d_Key_ofPath_39 rfl (by omega) (by omega) ?_
              exact ⟨_, rfl, rfl, rfl⟩
  refine q_iconst (v := nI 0) d_Key_ofPath_0 (by decide) ?_
  refine q_istore_n d_Key_ofPath_1 rfl (Nat.le_of_ble_eq_true rfl) (by first | exact q_ok0 | exact q_okI rfl | exact q_okR rfl | exact q_okN rfl) rfl ?_
  refine q_iload_n d_Key_ofPath_2 rfl rfl ?_
  refine q_istore_n d_Key_ofPath_3 rfl (Nat.le_of_ble_eq_true rfl) (by first | exact q_ok0 | exact q_okI rfl | exact q_okR rfl | exact q_okN rfl) rfl ?_
  refine q_iconst (v := nI 0) d_Key_ofPath_4 (by decide) ?_
  refine q_istore_n d_Key_ofPath_5 rfl (Nat.le_of_ble_eq_true rfl) (by first | exact q_ok0 | exact q_okI rfl | exact q_okR rfl | exact q_okN rfl) rfl ?_
  have := loop 4 0 0 p.toBitVec.toNat none (by omega) p.toBitVec.isLt
  rw [← k_ofBV] at this
  refine q_Vmono ?_ this
  rintro o h' ⟨r, e1, e2, e3⟩
  refine ⟨r, e1, ?_, e3⟩
  rw [e2]
  show p_kk 0 4 (k_of p) = p_key (k_of p)
  cases k_of p with
  | none => rfl
  | some l => show nI (0 * 128 ^ 4 + k_kf 4 l) = nI (k_kf 4 l); rw [Nat.zero_mul, Nat.zero_add]
theorem c_Key_shift {l : List Nat} (h : k_ok 4 l) : q_Ci g M_Key_shift [.int (nI (k_key l))] (sz, T, I, R, J) 0 0 (fun r h' => r = nI (k_sh l) ∧ h' = (sz, T, I, R, J)) := by
  refine q_C.of (ls0 := [some (.int (nI (k_key l))), none]) (by decide) rfl (by decide) (Nat.le_of_ble_eq_true rfl) rfl ?_
  have hK := k_key_lt h
  have h4 := h.1
  have loop : ∀ (j i : Nat), i + j = 4 - l.length → q_V g M_Key_shift 0 0 0 0 (sz, T, I, R, J) (fun o h' => ∃ r : Int32, o = .inl (some (.int r)) ∧ (r = nI (k_sh l) ∧ h' = (sz, T, I, R, J))) 2 [some (.int (nI (k_key l))), some (.int (nI (7 * i)))] [] := by
    intro j
    induction j with
    | zero =>
      intro i hi
      have e : k_sh l = 7 * i := by rw [k_sh]; omega
      rw [e]
      refine q_iload_n d_Key_shift_2 rfl rfl ?_
      refine q_bipush (v := nI 28) d_Key_shift_3 (by decide) ?_
      refine q_icmp_ge (tgt := 23) d_Key_shift_5 rfl (fun hc => ?_) (fun hc => ?_)
      · refine q_iload_n d_Key_shift_23 rfl rfl ?_
        refine q_iret d_Key_shift_24 rfl (by omega) (by omega) ?_
        exact ⟨_, rfl, rfl, rfl⟩
      · rw [nI_leI (by omega) (by omega)] at hc
        refine q_iload_n d_Key_shift_8 rfl rfl ?_
        refine q_iload_n d_Key_shift_9 rfl rfl ?_
        refine q_ishr d_Key_shift_10 ?_
        rw [k_shr (by omega) (by omega)]
        refine q_bipush (v := nI 127) d_Key_shift_11 (by decide) ?_
        refine q_iand d_Key_shift_13 ?_
        have hd := k_key_lt h
        rw [k_and127 (Nat.lt_of_le_of_lt (Nat.div_le_self _ _) (by omega))]
        refine q_if_ne (tgt := 23) d_Key_shift_14 rfl (fun hc => ?_) (fun hc => ?_)
        · refine q_iload_n d_Key_shift_23 rfl rfl ?_
          refine q_iret d_Key_shift_24 rfl (by omega) (by omega) ?_
          exact ⟨_, rfl, rfl, rfl⟩
        · exfalso
          have h0 : l ≠ [] := fun z => by rw [z] at hi; simp at hi; omega
          obtain ⟨t1, t2, t3⟩ := k_top h h0
          have := nI_zero (by omega) hc
          rw [e] at t1
          omega
    | succ j ih =>
      intro i hi
      refine q_iload_n d_Key_shift_2 rfl rfl ?_
      refine q_bipush (v := nI 28) d_Key_shift_3 (by decide) ?_
      refine q_icmp_ge (tgt := 23) d_Key_shift_5 rfl (fun hc => ?_) (fun hc => ?_)
      · rw [nI_leI (by omega) (by omega)] at hc
        omega
      · refine q_iload_n d_Key_shift_8 rfl rfl ?_
        refine q_iload_n d_Key_shift_9 rfl rfl ?_
        refine q_ishr d_Key_shift_10 ?_
        rw [k_shr (by omega) (by omega)]
        refine q_bipush (v := nI 127) d_Key_shift_11 (by decide) ?_
        refine q_iand d_Key_shift_13 ?_
        rw [k_and127 (Nat.lt_of_le_of_lt (Nat.div_le_self _ _) (by omega)), k_low h (by omega)]
        refine q_if_ne (tgt := 23) d_Key_shift_14 rfl (fun hc => ?_) (fun hc => ?_)
        · exact absurd rfl hc
        · refine q_iinc (v := nI (7 * (i + 1))) d_Key_shift_17 rfl (by rw [show Int32.ofInt 7 = nI 7 by decide, nI_add]; congr 1) (Nat.le_of_ble_eq_true rfl) (by first | exact q_okI rfl) rfl ?_
          refine q_goto (tgt := 2) d_Key_shift_20 rfl ?_
          exact ih (i + 1) (by omega)
  refine q_iconst (v := nI 0) d_Key_shift_0 (by decide) ?_
  refine q_istore_n d_Key_shift_1 rfl (Nat.le_of_ble_eq_true rfl) (by first | exact q_ok0 | exact q_okI rfl | exact q_okR rfl | exact q_okN rfl) rfl ?_
  exact loop (4 - l.length) 0 (by omega)
theorem c_Key_parent {l : List Nat} (h : k_ok 4 l) : q_Ci g M_Key_parent [.int (nI (k_key l))] (sz, T, I, R, J) 0 0 (fun r h' => r = nI (k_key l.dropLast) ∧ h' = (sz, T, I, R, J)) := by
  refine q_C.of (ls0 := [some (.int (nI (k_key l)))]) (by decide) rfl (by decide) (Nat.le_of_ble_eq_true rfl) rfl ?_
  refine q_iload_n d_Key_parent_0 rfl rfl ?_
  refine q_bipush (v := nI 127) d_Key_parent_1 (by decide) ?_
  refine q_iload_n d_Key_parent_3 rfl rfl ?_
  refine q_callSi (M2 := M_Key_shift) d_Key_parent_4 ⟨(Nat.le_of_ble_eq_true rfl), (Nat.le_of_ble_eq_true rfl), w_384, w_15, ⟨by decide, by decide⟩, show _ = some 1 by decide +kernel⟩ w_382 w_383 rfl (Nat.le_of_ble_eq_true rfl) (by omega) (by omega) (c_Key_shift h) ?_
  rintro _ _ ⟨rfl, rfl⟩
  refine q_ishl d_Key_parent_7 ?_
  rw [k_shl 127 (by rw [k_sh]; omega)]
  refine q_iconst (v := (-1)) d_Key_parent_8 (by decide) ?_
  refine q_ixor d_Key_parent_9 ?_
  refine q_iand d_Key_parent_10 ?_
  rw [k_andn, k_par h]
  refine q_iret d_Key_parent_11 rfl (by omega) (by omega) ?_
  exact ⟨_, rfl, rfl, rfl⟩
theorem c_Key_beside {l : List Nat} (h : k_ok 4 l) (h0 : l ≠ []) {n : Nat} (hn : n ≤ 99) : q_Ci g M_Key_beside [.int (nI (k_key l)), .int (nI n)] (sz, T, I, R, J) 0 0 (fun r h' => r = nI (k_key (l.dropLast ++ [n + 1])) ∧ h' = (sz, T, I, R, J)) := by
  refine q_C.of (ls0 := [some (.int (nI (k_key l))), some (.int (nI n))]) (by decide) rfl (by decide) (Nat.le_of_ble_eq_true rfl) rfl ?_
  refine q_iload_n d_Key_beside_0 rfl rfl ?_
  refine q_callSi (M2 := M_Key_parent) d_Key_beside_1 ⟨(Nat.le_of_ble_eq_true rfl), (Nat.le_of_ble_eq_true rfl), w_381, w_15, ⟨by decide, by decide⟩, show _ = some 1 by decide +kernel⟩ w_545 w_380 rfl (Nat.le_of_ble_eq_true rfl) (by omega) (by omega) (c_Key_parent h) ?_
  rintro _ _ ⟨rfl, rfl⟩
  refine q_iload_n d_Key_beside_4 rfl rfl ?_
  refine q_iconst (v := nI 1) d_Key_beside_5 (by decide) ?_
  first | refine q_iaddN d_Key_beside_6 ?_ | refine q_iadd d_Key_beside_6 ?_
  refine q_iload_n d_Key_beside_7 rfl rfl ?_
  refine q_callSi (M2 := M_Key_shift) d_Key_beside_8 ⟨(Nat.le_of_ble_eq_true rfl), (Nat.le_of_ble_eq_true rfl), w_384, w_15, ⟨by decide, by decide⟩, show _ = some 1 by decide +kernel⟩ w_382 w_383 rfl (Nat.le_of_ble_eq_true rfl) (by omega) (by omega) (c_Key_shift h) ?_
  rintro _ _ ⟨rfl, rfl⟩
  refine q_ishl d_Key_beside_11 ?_
  rw [k_shl _ (by rw [k_sh]; omega)]
  obtain ⟨q, hq⟩ := k_parmod h h0
  rw [hq]
  refine q_ior d_Key_beside_12 ?_
  have hp : 0 < 2 ^ k_sh l := Nat.two_pow_pos _
  rw [k_orA (by rw [Nat.pow_add, Nat.mul_comm (2 ^ k_sh l)]; exact Nat.mul_lt_mul_of_pos_right (by omega) hp)]
  refine q_iret d_Key_beside_13 rfl (by omega) (by omega) ?_
  exact ⟨_, rfl, by rw [k_bes h h0, hq], rfl⟩
theorem c_Key_lifted {l : List Nat} (h : k_ok 4 l) (h0 : l ≠ []) (h1 : l.dropLast ≠ []) : q_Ci g M_Key_lifted [.int (nI (k_key l))] (sz, T, I, R, J) 0 0 (fun r h' => r = nI (k_key (l.dropLast.dropLast ++ [l.getLast h0])) ∧ h' = (sz, T, I, R, J)) := by
  refine q_C.of (ls0 := [some (.int (nI (k_key l))), none]) (by decide) rfl (by decide) (Nat.le_of_ble_eq_true rfl) rfl ?_
  have h2 := k_ok_drop h
  have hK := k_key_lt h
  have hlen : 2 ≤ l.length := by
    have := List.length_pos_iff.mpr h1
    rw [List.length_dropLast] at this
    omega
  have h4 := h.1
  have es : k_sh l.dropLast = k_sh l + 7 := by rw [k_sh, k_sh, List.length_dropLast]; omega
  have es2 : k_sh l ≤ 14 := by rw [k_sh]; omega
  obtain ⟨t1, t2, t3⟩ := k_top h h0
  obtain ⟨q, hq⟩ := k_parmod h2 h1
  rw [es] at hq
  refine q_iload_n d_Key_lifted_0 rfl rfl ?_
  refine q_callSi (M2 := M_Key_shift) d_Key_lifted_1 ⟨(Nat.le_of_ble_eq_true rfl), (Nat.le_of_ble_eq_true rfl), w_384, w_15, ⟨by decide, by decide⟩, show _ = some 1 by decide +kernel⟩ w_382 w_383 rfl (Nat.le_of_ble_eq_true rfl) (by omega) (by omega) (c_Key_shift h) ?_
  rintro _ _ ⟨rfl, rfl⟩
  refine q_istore_n d_Key_lifted_4 rfl (Nat.le_of_ble_eq_true rfl) (by first | exact q_ok0 | exact q_okI rfl | exact q_okR rfl | exact q_okN rfl) rfl ?_
  refine q_iload_n d_Key_lifted_5 rfl rfl ?_
  refine q_callSi (M2 := M_Key_parent) d_Key_lifted_6 ⟨(Nat.le_of_ble_eq_true rfl), (Nat.le_of_ble_eq_true rfl), w_381, w_15, ⟨by decide, by decide⟩, show _ = some 1 by decide +kernel⟩ w_545 w_380 rfl (Nat.le_of_ble_eq_true rfl) (by omega) (by omega) (c_Key_parent h) ?_
  rintro _ _ ⟨rfl, rfl⟩
  refine q_callSi (M2 := M_Key_parent) d_Key_lifted_9 ⟨(Nat.le_of_ble_eq_true rfl), (Nat.le_of_ble_eq_true rfl), w_381, w_15, ⟨by decide, by decide⟩, show _ = some 1 by decide +kernel⟩ w_545 w_380 rfl (Nat.le_of_ble_eq_true rfl) (by omega) (by omega) (c_Key_parent h2) ?_
  rintro _ _ ⟨rfl, rfl⟩
  refine q_iload_n d_Key_lifted_12 rfl rfl ?_
  refine q_iload_n d_Key_lifted_13 rfl rfl ?_
  refine q_ishr d_Key_lifted_14 ?_
  rw [k_shr (by omega) (by omega)]
  refine q_bipush (v := nI 127) d_Key_lifted_15 (by decide) ?_
  refine q_iand d_Key_lifted_17 ?_
  rw [k_and127 (Nat.lt_of_le_of_lt (Nat.div_le_self _ _) (by omega)), t1]
  refine q_iload_n d_Key_lifted_18 rfl rfl ?_
  refine q_bipush (v := nI 7) d_Key_lifted_19 (by decide) ?_
  first | refine q_iaddN d_Key_lifted_21 ?_ | refine q_iadd d_Key_lifted_21 ?_
  refine q_ishl d_Key_lifted_22 ?_
  rw [k_shl _ (by omega), hq]
  refine q_ior d_Key_lifted_23 ?_
  have hp : 0 < 2 ^ (k_sh l + 7) := Nat.two_pow_pos _
  rw [k_orA (by rw [Nat.pow_add _ (k_sh l + 7) 7, Nat.mul_comm (2 ^ (k_sh l + 7))]; exact Nat.mul_lt_mul_of_pos_right (by omega) hp)]
  refine q_iret d_Key_lifted_24 rfl (by omega) (by omega) ?_
  exact ⟨_, rfl, by rw [k_bes h2 h1, hq, es], rfl⟩
theorem c_Key_isWithin {l m : List Nat} (hl : k_ok 4 l) (hm : k_ok 4 m) : q_Ci g M_Key_isWithin [.int (nI (k_key l)), .int (nI (k_key m))] (sz, T, I, R, J) 0 0 (fun r h' => r = (if m <+: l then nI 1 else nI 0) ∧ h' = (sz, T, I, R, J)) := by
  refine q_C.of (ls0 := [some (.int (nI (k_key l))), some (.int (nI (k_key m))), none]) (by decide) rfl (by decide) (Nat.le_of_ble_eq_true rfl) rfl ?_
  have h1 := k_key_lt hl
  have h2 := k_key_lt hm
  have h3 : k_sh m < 32 := by rw [k_sh]; omega
  have d1 : k_key l / 2 ^ k_sh m < 2 ^ 31 := Nat.lt_of_le_of_lt (Nat.div_le_self _ _) (by omega)
  have d2 : k_key m / 2 ^ k_sh m < 2 ^ 31 := Nat.lt_of_le_of_lt (Nat.div_le_self _ _) (by omega)
  refine q_iload_n d_Key_isWithin_0 rfl rfl ?_
  refine q_callSi (M2 := M_Key_shift) d_Key_isWithin_1 ⟨(Nat.le_of_ble_eq_true rfl), (Nat.le_of_ble_eq_true rfl), w_384, w_15, ⟨by decide, by decide⟩, show _ = some 1 by decide +kernel⟩ w_382 w_383 rfl (Nat.le_of_ble_eq_true rfl) (by omega) (by omega) (c_Key_shift hm) ?_
  rintro _ _ ⟨rfl, rfl⟩
  refine q_istore_n d_Key_isWithin_4 rfl (Nat.le_of_ble_eq_true rfl) (by first | exact q_ok0 | exact q_okI rfl | exact q_okR rfl | exact q_okN rfl) rfl ?_
  refine q_iload_n d_Key_isWithin_5 rfl rfl ?_
  refine q_iload_n d_Key_isWithin_6 rfl rfl ?_
  refine q_ishr d_Key_isWithin_7 ?_
  rw [k_shr (by omega) h3]
  refine q_iload_n d_Key_isWithin_8 rfl rfl ?_
  refine q_iload_n d_Key_isWithin_9 rfl rfl ?_
  refine q_ishr d_Key_isWithin_10 ?_
  rw [k_shr (by omega) h3]
  refine q_icmp_ne (tgt := 18) d_Key_isWithin_11 rfl (fun hc => ?_) (fun hc => ?_)
  · refine q_iconst (v := nI 0) d_Key_isWithin_18 (by decide) ?_
    refine q_zret d_Key_isWithin_19 rfl (by first | exact Or.inl rfl | exact Or.inr rfl | assumption) (by omega) (by omega) ?_
    rw [nI_eq d1 d2, k_within hl hm] at hc
    exact ⟨_, rfl, by rw [if_neg hc], rfl⟩
  · refine q_iconst (v := nI 1) d_Key_isWithin_14 (by decide) ?_
    refine q_goto (tgt := 19) d_Key_isWithin_15 rfl ?_
    refine q_zret d_Key_isWithin_19 rfl (by first | exact Or.inl rfl | exact Or.inr rfl | assumption) (by omega) (by omega) ?_
    rw [nI_eq d1 d2, k_within hl hm] at hc
    exact ⟨_, rfl, by rw [if_pos hc], rfl⟩
theorem c_Key_isName (n : Int32) : q_Ci g M_Key_isName [.int n] (sz, T, I, R, J) 0 0 (fun r h' => r = (if 0 ≤ n ∧ n ≤ 99 then nI 1 else nI 0) ∧ h' = (sz, T, I, R, J)) := by
  refine q_C.of (ls0 := [some (.int n)]) (by decide) rfl (by decide) (Nat.le_of_ble_eq_true rfl) rfl ?_
  refine q_iload_n d_Key_isName_0 rfl rfl ?_
  refine q_if_lt (tgt := 14) d_Key_isName_1 rfl (fun hc => ?_) (fun hc => ?_)
  · refine q_iconst (v := nI 0) d_Key_isName_14 (by decide) ?_
    refine q_zret d_Key_isName_15 rfl (by first | exact Or.inl rfl | exact Or.inr rfl | assumption) (by omega) (by omega) ?_
    exact ⟨_, rfl, by rw [if_neg (fun z => absurd z.1 (Int32.not_le.mpr hc))], rfl⟩
  · have h0 := Int32.not_lt.mp hc
    refine q_iload_n d_Key_isName_4 rfl rfl ?_
    refine q_bipush (v := nI 99) d_Key_isName_5 (by decide) ?_
    refine q_icmp_gt (tgt := 14) d_Key_isName_7 rfl (fun hc => ?_) (fun hc => ?_)
    · refine q_iconst (v := nI 0) d_Key_isName_14 (by decide) ?_
      refine q_zret d_Key_isName_15 rfl (by first | exact Or.inl rfl | exact Or.inr rfl | assumption) (by omega) (by omega) ?_
      exact ⟨_, rfl, by rw [if_neg (fun z => absurd z.2 (Int32.not_le.mpr hc))], rfl⟩
    · refine q_iconst (v := nI 1) d_Key_isName_10 (by decide) ?_
      refine q_goto (tgt := 15) d_Key_isName_11 rfl ?_
      refine q_zret d_Key_isName_15 rfl (by first | exact Or.inl rfl | exact Or.inr rfl | assumption) (by omega) (by omega) ?_
      exact ⟨_, rfl, by rw [if_pos ⟨h0, Int32.not_lt.mp hc⟩], rfl⟩
end PathD
