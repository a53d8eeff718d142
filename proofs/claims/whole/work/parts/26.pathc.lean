/-! the methods over paths and keys -/
abbrev M_Model_depth : q_M := (⟨"LensPathsModel", "depth", "(I)I"⟩, prog_14_method_3_code, 4, (some .int), "LensPathsModel", [], false, 0, 0)
theorem d_Model_depth_0 : decode prog_14_method_3_code 0 = .ok (.iconst 0, 1) := by decide +kernel
theorem d_Model_depth_1 : decode prog_14_method_3_code 1 = .ok (.istore_n 1, 1) := by decide +kernel
theorem d_Model_depth_2 : decode prog_14_method_3_code 2 = .ok (.iload_n 0, 1) := by decide +kernel
theorem d_Model_depth_3 : decode prog_14_method_3_code 3 = .ok (.istore_n 2, 1) := by decide +kernel
theorem d_Model_depth_4 : decode prog_14_method_3_code 4 = .ok (.iload_n 2, 1) := by decide +kernel
theorem d_Model_depth_5 : decode prog_14_method_3_code 5 = .ok (.ifCond .eq 40, 3) := by decide +kernel
theorem d_Model_depth_8 : decode prog_14_method_3_code 8 = .ok (.iload_n 2, 1) := by decide +kernel
theorem d_Model_depth_9 : decode prog_14_method_3_code 9 = .ok (.bipush 127, 2) := by decide +kernel
theorem d_Model_depth_11 : decode prog_14_method_3_code 11 = .ok (.iand, 1) := by decide +kernel
theorem d_Model_depth_12 : decode prog_14_method_3_code 12 = .ok (.istore_n 3, 1) := by decide +kernel
theorem d_Model_depth_13 : decode prog_14_method_3_code 13 = .ok (.iload_n 0, 1) := by decide +kernel
theorem d_Model_depth_14 : decode prog_14_method_3_code 14 = .ok (.ifCond .lt 18, 3) := by decide +kernel
theorem d_Model_depth_17 : decode prog_14_method_3_code 17 = .ok (.iload_n 3, 1) := by decide +kernel
theorem d_Model_depth_18 : decode prog_14_method_3_code 18 = .ok (.ifCond .eq 14, 3) := by decide +kernel
theorem d_Model_depth_21 : decode prog_14_method_3_code 21 = .ok (.iload_n 3, 1) := by decide +kernel
theorem d_Model_depth_22 : decode prog_14_method_3_code 22 = .ok (.bipush 100, 2) := by decide +kernel
theorem d_Model_depth_24 : decode prog_14_method_3_code 24 = .ok (.if_icmp .gt 8, 3) := by decide +kernel
theorem d_Model_depth_27 : decode prog_14_method_3_code 27 = .ok (.iload_n 1, 1) := by decide +kernel
theorem d_Model_depth_28 : decode prog_14_method_3_code 28 = .ok (.iconst 4, 1) := by decide +kernel
theorem d_Model_depth_29 : decode prog_14_method_3_code 29 = .ok (.if_icmp .ne 5, 3) := by decide +kernel
theorem d_Model_depth_32 : decode prog_14_method_3_code 32 = .ok (.iconst (-1), 1) := by decide +kernel
theorem d_Model_depth_33 : decode prog_14_method_3_code 33 = .ok (.ireturn, 1) := by decide +kernel
theorem d_Model_depth_34 : decode prog_14_method_3_code 34 = .ok (.iload_n 2, 1) := by decide +kernel
theorem d_Model_depth_35 : decode prog_14_method_3_code 35 = .ok (.bipush 7, 2) := by decide +kernel
theorem d_Model_depth_37 : decode prog_14_method_3_code 37 = .ok (.ishr, 1) := by decide +kernel
theorem d_Model_depth_38 : decode prog_14_method_3_code 38 = .ok (.istore_n 2, 1) := by decide +kernel
theorem d_Model_depth_39 : decode prog_14_method_3_code 39 = .ok (.iinc 1 1, 3) := by decide +kernel
theorem d_Model_depth_42 : decode prog_14_method_3_code 42 = .ok (.goto (-38), 3) := by decide +kernel
theorem d_Model_depth_45 : decode prog_14_method_3_code 45 = .ok (.iload_n 1, 1) := by decide +kernel
theorem d_Model_depth_46 : decode prog_14_method_3_code 46 = .ok (.ireturn, 1) := by decide +kernel
abbrev M_Key_ofPath : q_M := (⟨"LensPaths$Key", "ofPath", "(I)I"⟩, prog_6_method_2_code, 5, (some .int), "LensPaths$Key", [], false, 0, 0)
theorem d_Key_ofPath_0 : decode prog_6_method_2_code 0 = .ok (.iconst 0, 1) := by decide +kernel
theorem d_Key_ofPath_1 : decode prog_6_method_2_code 1 = .ok (.istore_n 1, 1) := by decide +kernel
theorem d_Key_ofPath_2 : decode prog_6_method_2_code 2 = .ok (.iload_n 0, 1) := by decide +kernel
theorem d_Key_ofPath_3 : decode prog_6_method_2_code 3 = .ok (.istore_n 2, 1) := by decide +kernel
theorem d_Key_ofPath_4 : decode prog_6_method_2_code 4 = .ok (.iconst 0, 1) := by decide +kernel
theorem d_Key_ofPath_5 : decode prog_6_method_2_code 5 = .ok (.istore_n 3, 1) := by decide +kernel
theorem d_Key_ofPath_6 : decode prog_6_method_2_code 6 = .ok (.iload_n 3, 1) := by decide +kernel
theorem d_Key_ofPath_7 : decode prog_6_method_2_code 7 = .ok (.iconst 4, 1) := by decide +kernel
theorem d_Key_ofPath_8 : decode prog_6_method_2_code 8 = .ok (.if_icmp .ge 46, 3) := by decide +kernel
theorem d_Key_ofPath_11 : decode prog_6_method_2_code 11 = .ok (.iload_n 2, 1) := by decide +kernel
theorem d_Key_ofPath_12 : decode prog_6_method_2_code 12 = .ok (.bipush 127, 2) := by decide +kernel
theorem d_Key_ofPath_14 : decode prog_6_method_2_code 14 = .ok (.iand, 1) := by decide +kernel
theorem d_Key_ofPath_15 : decode prog_6_method_2_code 15 = .ok (.istore 4, 2) := by decide +kernel
theorem d_Key_ofPath_17 : decode prog_6_method_2_code 17 = .ok (.iload_n 2, 1) := by decide +kernel
theorem d_Key_ofPath_18 : decode prog_6_method_2_code 18 = .ok (.bipush 7, 2) := by decide +kernel
theorem d_Key_ofPath_20 : decode prog_6_method_2_code 20 = .ok (.iushr, 1) := by decide +kernel
theorem d_Key_ofPath_21 : decode prog_6_method_2_code 21 = .ok (.istore_n 2, 1) := by decide +kernel
theorem d_Key_ofPath_22 : decode prog_6_method_2_code 22 = .ok (.iload 4, 2) := by decide +kernel
theorem d_Key_ofPath_24 : decode prog_6_method_2_code 24 = .ok (.bipush 100, 2) := by decide +kernel
theorem d_Key_ofPath_26 : decode prog_6_method_2_code 26 = .ok (.if_icmp .gt 12, 3) := by decide +kernel
theorem d_Key_ofPath_29 : decode prog_6_method_2_code 29 = .ok (.iload 4, 2) := by decide +kernel
theorem d_Key_ofPath_31 : decode prog_6_method_2_code 31 = .ok (.ifCond .ne 9, 3) := by decide +kernel
theorem d_Key_ofPath_34 : decode prog_6_method_2_code 34 = .ok (.iload_n 2, 1) := by decide +kernel
theorem d_Key_ofPath_35 : decode prog_6_method_2_code 35 = .ok (.ifCond .eq 5, 3) := by decide +kernel
theorem d_Key_ofPath_38 : decode prog_6_method_2_code 38 = .ok (.iconst (-1), 1) := by decide +kernel
theorem d_Key_ofPath_39 : decode prog_6_method_2_code 39 = .ok (.ireturn, 1) := by decide +kernel
theorem d_Key_ofPath_40 : decode prog_6_method_2_code 40 = .ok (.iload_n 1, 1) := by decide +kernel
theorem d_Key_ofPath_41 : decode prog_6_method_2_code 41 = .ok (.bipush 7, 2) := by decide +kernel
theorem d_Key_ofPath_43 : decode prog_6_method_2_code 43 = .ok (.ishl, 1) := by decide +kernel
theorem d_Key_ofPath_44 : decode prog_6_method_2_code 44 = .ok (.iload 4, 2) := by decide +kernel
theorem d_Key_ofPath_46 : decode prog_6_method_2_code 46 = .ok (.ior, 1) := by decide +kernel
theorem d_Key_ofPath_47 : decode prog_6_method_2_code 47 = .ok (.istore_n 1, 1) := by decide +kernel
theorem d_Key_ofPath_48 : decode prog_6_method_2_code 48 = .ok (.iinc 3 1, 3) := by decide +kernel
theorem d_Key_ofPath_51 : decode prog_6_method_2_code 51 = .ok (.goto (-45), 3) := by decide +kernel
theorem d_Key_ofPath_54 : decode prog_6_method_2_code 54 = .ok (.iload_n 2, 1) := by decide +kernel
theorem d_Key_ofPath_55 : decode prog_6_method_2_code 55 = .ok (.ifCond .ne 7, 3) := by decide +kernel
theorem d_Key_ofPath_58 : decode prog_6_method_2_code 58 = .ok (.iload_n 1, 1) := by decide +kernel
theorem d_Key_ofPath_59 : decode prog_6_method_2_code 59 = .ok (.goto 4, 3) := by decide +kernel
theorem d_Key_ofPath_62 : decode prog_6_method_2_code 62 = .ok (.iconst (-1), 1) := by decide +kernel
theorem d_Key_ofPath_63 : decode prog_6_method_2_code 63 = .ok (.ireturn, 1) := by decide +kernel
section PathC
variable {g : q_G} {sz : Nat} {T : q_T} {I : q_I} {R : q_R} {J : q_J}
def p_dep (d : Nat) : Option (List Nat) → Int32
  | none => -1
  | some l => nI (d + l.length)
theorem k_neg {p : Int32} (hp : p < 0) : k_of p = none := by
  cases h : k_of p with
  | none => rfl
  | some l =>
    exfalso
    obtain ⟨h1, h2⟩ := k_names_some h
    have h3 := k_path_lt h1
    rw [Int32.lt_iff_toInt_lt] at hp
    rw [k_ofBV p, nI_toInt (by omega)] at hp
    have : (0 : Int32).toInt = 0 := rfl
    omega
theorem k_nneg {p : Int32} (hp : ¬ p < 0) : p.toBitVec.toNat < 2 ^ 31 := by
  obtain ⟨j, hj, e⟩ := nI_of hp
  rw [e, pk_tn (by omega)]
  exact hj
theorem c_Model_depth (p : Int32) : q_Ci g M_Model_depth [.int p] (sz, T, I, R, J) 0 0 (fun r h' => r = p_dep 0 (k_of p) ∧ h' = (sz, T, I, R, J)) := by
  refine q_C.of (ls0 := [some (.int p), none, none, none]) (by decide) rfl (by decide) (Nat.le_of_ble_eq_true rfl) rfl ?_
  by_cases hp : p < 0
  · refine q_iconst (v := nI 0) d_Model_depth_0 (by decide) ?_
    refine q_istore_n d_Model_depth_1 rfl (Nat.le_of_ble_eq_true rfl) (by first | exact q_ok0 | exact q_okI rfl | exact q_okR rfl | exact q_okN rfl) rfl ?_
    refine q_iload_n d_Model_depth_2 rfl rfl ?_
    refine q_istore_n d_Model_depth_3 rfl (Nat.le_of_ble_eq_true rfl) (by first | exact q_ok0 | exact q_okI rfl | exact q_okR rfl | exact q_okN rfl) rfl ?_
    refine q_iload_n d_Model_depth_4 rfl rfl ?_
    refine q_if_eq (tgt := 45) d_Model_depth_5 rfl (fun hc => ?_) (fun hc => ?_)
    · exact absurd hp (by rw [hc]; decide)
    · refine q_iload_n d_Model_depth_8 rfl rfl ?_
      refine q_bipush (v := nI 127) d_Model_depth_9 (by decide) ?_
      refine q_iand d_Model_depth_11 ?_
      refine q_istore_n d_Model_depth_12 rfl (Nat.le_of_ble_eq_true rfl) (by first | exact q_ok0 | exact q_okI rfl | exact q_okR rfl | exact q_okN rfl) rfl ?_
      refine q_iload_n d_Model_depth_13 rfl rfl ?_
      refine q_if_lt (tgt := 32) d_Model_depth_14 rfl (fun hc => ?_) (fun hc => ?_)
      · refine q_iconst (v := (-1)) d_Model_depth_32 (by decide) ?_
        refine q_iret d_Model_depth_33 rfl (by omega) (by omega) ?_
        exact ⟨_, rfl, by rw [k_neg hp]; rfl, rfl⟩
      · exact absurd hp hc
  · have loop : ∀ (j d P : Nat) (x3 : Option Value), d + j = 4 → P < 2 ^ 31 → q_V g M_Model_depth 0 0 0 0 (sz, T, I, R, J) (fun o h' => ∃ r : Int32, o = .inl (some (.int r)) ∧ (r = p_dep d (k_names j P) ∧ h' = (sz, T, I, R, J))) 4 [some (.int p), some (.int (nI d)), some (.int (nI P)), x3] [] := by
      intro j
      induction j with
      | zero =>
        intro d P x3 hd hP
        refine q_iload_n d_Model_depth_4 rfl rfl ?_
        refine q_if_eq (tgt := 45) d_Model_depth_5 rfl (fun hc => ?_) (fun hc => ?_)
        · refine q_iload_n d_Model_depth_45 rfl rfl ?_
          refine q_iret d_Model_depth_46 rfl (by omega) (by omega) ?_
          have e : P = 0 := by
            by_cases h : P = 0
            · exact h
            · exact absurd hc (nI_ne0 (by omega) hP)
          subst e
          exact ⟨_, rfl, rfl, rfl⟩
        · have e : k_names 0 P = none := if_neg (fun z => hc (by rw [z]; rfl))
          rw [e]
          refine q_iload_n d_Model_depth_8 rfl rfl ?_
          refine q_bipush (v := nI 127) d_Model_depth_9 (by decide) ?_
          refine q_iand d_Model_depth_11 ?_
          refine q_istore_n d_Model_depth_12 rfl (Nat.le_of_ble_eq_true rfl) (by first | exact q_ok0 | exact q_okI rfl | exact q_okR rfl | exact q_okN rfl) rfl ?_
          refine q_iload_n d_Model_depth_13 rfl rfl ?_
          refine q_if_lt (tgt := 32) d_Model_depth_14 rfl (fun hc => ?_) (fun hc => ?_)
          · exact absurd hc hp
          · refine q_iload_n d_Model_depth_17 rfl rfl ?_
            refine q_if_eq (tgt := 32) d_Model_depth_18 rfl (fun hc => ?_) (fun hc => ?_)
            · refine q_iconst (v := (-1)) d_Model_depth_32 (by decide) ?_
              refine q_iret d_Model_depth_33 rfl (by omega) (by omega) ?_
              exact ⟨_, rfl, rfl, rfl⟩
            · refine q_iload_n d_Model_depth_21 rfl rfl ?_
              refine q_bipush (v := nI 100) d_Model_depth_22 (by decide) ?_
              refine q_icmp_gt (tgt := 32) d_Model_depth_24 rfl (fun hc => ?_) (fun hc => ?_)
              · refine q_iconst (v := (-1)) d_Model_depth_32 (by decide) ?_
                refine q_iret d_Model_depth_33 rfl (by omega) (by omega) ?_
                exact ⟨_, rfl, rfl, rfl⟩
              · refine q_iload_n d_Model_depth_27 rfl rfl ?_
                refine q_iconst (v := nI 4) d_Model_depth_28 (by decide) ?_
                refine q_icmp_ne (tgt := 34) d_Model_depth_29 rfl (fun hc => ?_) (fun hc => ?_)
                · exact absurd (show nI d = nI 4 by rw [show d = 4 by omega]) hc
                · refine q_iconst (v := (-1)) d_Model_depth_32 (by decide) ?_
                  refine q_iret d_Model_depth_33 rfl (by omega) (by omega) ?_
                  exact ⟨_, rfl, rfl, rfl⟩
      | succ j ih =>
        intro d P x3 hd hP
        refine q_iload_n d_Model_depth_4 rfl rfl ?_
        refine q_if_eq (tgt := 45) d_Model_depth_5 rfl (fun hc => ?_) (fun hc => ?_)
        · refine q_iload_n d_Model_depth_45 rfl rfl ?_
          refine q_iret d_Model_depth_46 rfl (by omega) (by omega) ?_
          have e : P = 0 := by
            by_cases h : P = 0
            · exact h
            · exact absurd hc (nI_ne0 (by omega) hP)
          subst e
          exact ⟨_, rfl, rfl, rfl⟩
        · have h0 : ¬ P = 0 := fun z => hc (by rw [z]; rfl)
          refine q_iload_n d_Model_depth_8 rfl rfl ?_
          refine q_bipush (v := nI 127) d_Model_depth_9 (by decide) ?_
          refine q_iand d_Model_depth_11 ?_
          rw [k_and127 (by omega)]
          refine q_istore_n d_Model_depth_12 rfl (Nat.le_of_ble_eq_true rfl) (by first | exact q_ok0 | exact q_okI rfl | exact q_okR rfl | exact q_okN rfl) rfl ?_
          refine q_iload_n d_Model_depth_13 rfl rfl ?_
          refine q_if_lt (tgt := 32) d_Model_depth_14 rfl (fun hc => ?_) (fun hc => ?_)
          · exact absurd hc hp
          · refine q_iload_n d_Model_depth_17 rfl rfl ?_
            refine q_if_eq (tgt := 32) d_Model_depth_18 rfl (fun hc => ?_) (fun hc => ?_)
            · have h1 : P % 128 = 0 := by
                by_cases h : P % 128 = 0
                · exact h
                · exact absurd hc (nI_ne0 (by omega) (by omega))
              have e : k_names (j + 1) P = none := by rw [k_names, if_neg h0, if_pos (Or.inl h1)]
              rw [e]
              refine q_iconst (v := (-1)) d_Model_depth_32 (by decide) ?_
              refine q_iret d_Model_depth_33 rfl (by omega) (by omega) ?_
              exact ⟨_, rfl, rfl, rfl⟩
            · have h1 : ¬ P % 128 = 0 := fun z => hc (by rw [z]; rfl)
              refine q_iload_n d_Model_depth_21 rfl rfl ?_
              refine q_bipush (v := nI 100) d_Model_depth_22 (by decide) ?_
              refine q_icmp_gt (tgt := 32) d_Model_depth_24 rfl (fun hc => ?_) (fun hc => ?_)
              · rw [nI_ltI (by omega) (by omega)] at hc
                have e : k_names (j + 1) P = none := by rw [k_names, if_neg h0, if_pos (Or.inr hc)]
                rw [e]
                refine q_iconst (v := (-1)) d_Model_depth_32 (by decide) ?_
                refine q_iret d_Model_depth_33 rfl (by omega) (by omega) ?_
                exact ⟨_, rfl, rfl, rfl⟩
              · rw [nI_ltI (by omega) (by omega)] at hc
                have e : k_names (j + 1) P = (k_names j (P / 128)).map (P % 128 :: ·) := by rw [k_names, if_neg h0, if_neg (by omega)]
                refine q_iload_n d_Model_depth_27 rfl rfl ?_
                refine q_iconst (v := nI 4) d_Model_depth_28 (by decide) ?_
                refine q_icmp_ne (tgt := 34) d_Model_depth_29 rfl (fun hc => ?_) (fun hc => ?_)
                · refine q_iload_n d_Model_depth_34 rfl rfl ?_
                  refine q_bipush (v := nI 7) d_Model_depth_35 (by decide) ?_
                  refine q_ishr d_Model_depth_37 ?_
                  rw [k_shr hP (by omega)]
                  refine q_istore_n d_Model_depth_38 rfl (Nat.le_of_ble_eq_true rfl) (by first | exact q_ok0 | exact q_okI rfl | exact q_okR rfl | exact q_okN rfl) rfl ?_
                  first | refine q_iincN d_Model_depth_39 rfl (Nat.le_of_ble_eq_true rfl) (by first | exact q_ok0 | exact q_okI rfl | exact q_okR rfl | exact q_okN rfl) rfl ?_ | refine q_iinc d_Model_depth_39 rfl rfl (Nat.le_of_ble_eq_true rfl) (by first | exact q_ok0 | exact q_okI rfl | exact q_okR rfl | exact q_okN rfl) rfl ?_
                  refine q_goto (tgt := 4) d_Model_depth_42 rfl ?_
                  refine q_Vmono ?_ (ih (d + 1) (P / 128) _ (by omega) (by omega))
                  rintro o h' ⟨r, e1, e2, e3⟩
                  refine ⟨r, e1, ?_, e3⟩
                  rw [e2, e]
                  cases k_names j (P / 128) with
                  | none => rfl
                  | some t => show nI (d + 1 + t.length) = nI (d + (t.length + 1)); congr 1; omega
                · exact absurd ((nI_eq (by omega) (by omega)).mp hc) (by omega)
    have hp2 := k_nneg hp
    refine q_iconst (v := nI 0) d_Model_depth_0 (by decide) ?_
    refine q_istore_n d_Model_depth_1 rfl (Nat.le_of_ble_eq_true rfl) (by first | exact q_ok0 | exact q_okI rfl | exact q_okR rfl | exact q_okN rfl) rfl ?_
    refine q_iload_n d_Model_depth_2 rfl rfl ?_
    refine q_istore_n d_Model_depth_3 rfl (Nat.le_of_ble_eq_true rfl) (by first | exact q_ok0 | exact q_okI rfl | exact q_okR rfl | exact q_okN rfl) rfl ?_
    have := loop 4 0 p.toBitVec.toNat none (by omega) hp2
    rw [← k_ofBV] at this
    exact this
end PathC
