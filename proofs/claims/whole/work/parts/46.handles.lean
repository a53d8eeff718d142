/-! the class's handles -/
abbrev M_Lens_isHandle : q_M := (⟨"LensPaths", "isHandle", "(I)Z"⟩, prog_1_method_27_code, 2, (some .boolean), "LensPaths", [], false, 0, 0)
theorem d_Lens_isHandle_0 : decode prog_1_method_27_code 0 = .ok (.iload_n 1, 1) := by decide +kernel
theorem d_Lens_isHandle_1 : decode prog_1_method_27_code 1 = .ok (.ifCond .lt 34, 3) := by decide +kernel
theorem d_Lens_isHandle_4 : decode prog_1_method_27_code 4 = .ok (.iload_n 1, 1) := by decide +kernel
theorem d_Lens_isHandle_5 : decode prog_1_method_27_code 5 = .ok (.bipush 16, 2) := by decide +kernel
theorem d_Lens_isHandle_7 : decode prog_1_method_27_code 7 = .ok (.if_icmp .ge 28, 3) := by decide +kernel
theorem d_Lens_isHandle_10 : decode prog_1_method_27_code 10 = .ok (.aload_n 0, 1) := by decide +kernel
theorem d_Lens_isHandle_11 : decode prog_1_method_27_code 11 = .ok (.getfield 25, 3) := by decide +kernel
theorem d_Lens_isHandle_14 : decode prog_1_method_27_code 14 = .ok (.iload_n 1, 1) := by decide +kernel
theorem d_Lens_isHandle_15 : decode prog_1_method_27_code 15 = .ok (.aaload, 1) := by decide +kernel
theorem d_Lens_isHandle_16 : decode prog_1_method_27_code 16 = .ok (.ifnull 19, 3) := by decide +kernel
theorem d_Lens_isHandle_19 : decode prog_1_method_27_code 19 = .ok (.aload_n 0, 1) := by decide +kernel
theorem d_Lens_isHandle_20 : decode prog_1_method_27_code 20 = .ok (.getfield 25, 3) := by decide +kernel
theorem d_Lens_isHandle_23 : decode prog_1_method_27_code 23 = .ok (.iload_n 1, 1) := by decide +kernel
theorem d_Lens_isHandle_24 : decode prog_1_method_27_code 24 = .ok (.aaload, 1) := by decide +kernel
theorem d_Lens_isHandle_25 : decode prog_1_method_27_code 25 = .ok (.getfield 170, 3) := by decide +kernel
theorem d_Lens_isHandle_28 : decode prog_1_method_27_code 28 = .ok (.ifCond .eq 7, 3) := by decide +kernel
theorem d_Lens_isHandle_31 : decode prog_1_method_27_code 31 = .ok (.iconst 1, 1) := by decide +kernel
theorem d_Lens_isHandle_32 : decode prog_1_method_27_code 32 = .ok (.goto 4, 3) := by decide +kernel
theorem d_Lens_isHandle_35 : decode prog_1_method_27_code 35 = .ok (.iconst 0, 1) := by decide +kernel
theorem d_Lens_isHandle_36 : decode prog_1_method_27_code 36 = .ok (.ireturn, 1) := by decide +kernel
abbrev M_Lens_needHandle : q_M := (⟨"LensPaths", "needHandle", "(I)V"⟩, prog_1_method_26_code, 2, none, "LensPaths", [], false, 6, 90)
theorem d_Lens_needHandle_0 : decode prog_1_method_26_code 0 = .ok (.aload_n 0, 1) := by decide +kernel
theorem d_Lens_needHandle_1 : decode prog_1_method_26_code 1 = .ok (.iload_n 1, 1) := by decide +kernel
theorem d_Lens_needHandle_2 : decode prog_1_method_26_code 2 = .ok (.invokevirtual 276, 3) := by decide +kernel
theorem d_Lens_needHandle_5 : decode prog_1_method_26_code 5 = .ok (.ifCond .ne 11, 3) := by decide +kernel
theorem d_Lens_needHandle_8 : decode prog_1_method_26_code 8 = .ok (.new 233, 3) := by decide +kernel
theorem d_Lens_needHandle_11 : decode prog_1_method_26_code 11 = .ok (.dup, 1) := by decide +kernel
theorem d_Lens_needHandle_12 : decode prog_1_method_26_code 12 = .ok (.invokespecial 235, 3) := by decide +kernel
theorem d_Lens_needHandle_15 : decode prog_1_method_26_code 15 = .ok (.athrow, 1) := by decide +kernel
theorem d_Lens_needHandle_16 : decode prog_1_method_26_code 16 = .ok (.return_, 1) := by decide +kernel
abbrev M_Lens_freeHandle : q_M := (⟨"LensPaths", "freeHandle", "()I"⟩, prog_1_method_28_code, 2, (some .int), "LensPaths", [], false, 1, 21)
theorem d_Lens_freeHandle_0 : decode prog_1_method_28_code 0 = .ok (.iconst 0, 1) := by decide +kernel
theorem d_Lens_freeHandle_1 : decode prog_1_method_28_code 1 = .ok (.istore_n 1, 1) := by decide +kernel
theorem d_Lens_freeHandle_2 : decode prog_1_method_28_code 2 = .ok (.iload_n 1, 1) := by decide +kernel
theorem d_Lens_freeHandle_3 : decode prog_1_method_28_code 3 = .ok (.bipush 16, 2) := by decide +kernel
theorem d_Lens_freeHandle_5 : decode prog_1_method_28_code 5 = .ok (.if_icmp .ge 19, 3) := by decide +kernel
theorem d_Lens_freeHandle_8 : decode prog_1_method_28_code 8 = .ok (.aload_n 0, 1) := by decide +kernel
theorem d_Lens_freeHandle_9 : decode prog_1_method_28_code 9 = .ok (.iload_n 1, 1) := by decide +kernel
theorem d_Lens_freeHandle_10 : decode prog_1_method_28_code 10 = .ok (.invokevirtual 276, 3) := by decide +kernel
theorem d_Lens_freeHandle_13 : decode prog_1_method_28_code 13 = .ok (.ifCond .ne 5, 3) := by decide +kernel
theorem d_Lens_freeHandle_16 : decode prog_1_method_28_code 16 = .ok (.iload_n 1, 1) := by decide +kernel
theorem d_Lens_freeHandle_17 : decode prog_1_method_28_code 17 = .ok (.ireturn, 1) := by decide +kernel
theorem d_Lens_freeHandle_18 : decode prog_1_method_28_code 18 = .ok (.iinc 1 1, 3) := by decide +kernel
theorem d_Lens_freeHandle_21 : decode prog_1_method_28_code 21 = .ok (.goto (-19), 3) := by decide +kernel
theorem d_Lens_freeHandle_24 : decode prog_1_method_28_code 24 = .ok (.iconst (-1), 1) := by decide +kernel
theorem d_Lens_freeHandle_25 : decode prog_1_method_28_code 25 = .ok (.ireturn, 1) := by decide +kernel
abbrev M_Lens_liveRecords : q_M := (⟨"LensPaths", "liveRecords", "()I"⟩, prog_1_method_29_code, 3, (some .int), "LensPaths", [], false, 1, 21)
theorem d_Lens_liveRecords_0 : decode prog_1_method_29_code 0 = .ok (.iconst 0, 1) := by decide +kernel
theorem d_Lens_liveRecords_1 : decode prog_1_method_29_code 1 = .ok (.istore_n 1, 1) := by decide +kernel
theorem d_Lens_liveRecords_2 : decode prog_1_method_29_code 2 = .ok (.iconst 0, 1) := by decide +kernel
theorem d_Lens_liveRecords_3 : decode prog_1_method_29_code 3 = .ok (.istore_n 2, 1) := by decide +kernel
theorem d_Lens_liveRecords_4 : decode prog_1_method_29_code 4 = .ok (.iload_n 2, 1) := by decide +kernel
theorem d_Lens_liveRecords_5 : decode prog_1_method_29_code 5 = .ok (.bipush 16, 2) := by decide +kernel
theorem d_Lens_liveRecords_7 : decode prog_1_method_29_code 7 = .ok (.if_icmp .ge 20, 3) := by decide +kernel
theorem d_Lens_liveRecords_10 : decode prog_1_method_29_code 10 = .ok (.aload_n 0, 1) := by decide +kernel
theorem d_Lens_liveRecords_11 : decode prog_1_method_29_code 11 = .ok (.iload_n 2, 1) := by decide +kernel
theorem d_Lens_liveRecords_12 : decode prog_1_method_29_code 12 = .ok (.invokevirtual 276, 3) := by decide +kernel
theorem d_Lens_liveRecords_15 : decode prog_1_method_29_code 15 = .ok (.ifCond .eq 6, 3) := by decide +kernel
theorem d_Lens_liveRecords_18 : decode prog_1_method_29_code 18 = .ok (.iinc 1 1, 3) := by decide +kernel
theorem d_Lens_liveRecords_21 : decode prog_1_method_29_code 21 = .ok (.iinc 2 1, 3) := by decide +kernel
theorem d_Lens_liveRecords_24 : decode prog_1_method_29_code 24 = .ok (.goto (-20), 3) := by decide +kernel
theorem d_Lens_liveRecords_27 : decode prog_1_method_29_code 27 = .ok (.iload_n 1, 1) := by decide +kernel
theorem d_Lens_liveRecords_28 : decode prog_1_method_29_code 28 = .ok (.ireturn, 1) := by decide +kernel
section HandC
variable {g : q_G} {sz : Nat} {T : q_T} {I : q_I} {R : q_R} {J : q_J}
/-- the array of records: which object, and whether it lives -/
def k_hs (x : Nat) (rw : Nat → Option Nat) (lv : Nat → Bool) (T : q_T) (I : q_I) (R : q_R) : Prop := ∀ h, h < 16 → R (x + 60) (nI h) = rw h ∧ (rw h = none → lv h = false) ∧ ∀ r, rw h = some r → T r = some (105, 0) ∧ I r (nI 0) = p_b (lv h)
def k_ish (lv : Nat → Bool) (v : Int32) : Bool := k_bel 16 v && lv v.toNatClampNeg
theorem k_ish_nI {lv : Nat → Bool} {j : Nat} (hj : j < 16) : k_ish lv (nI j) = lv j := by
  rw [k_ish, k_bel_nI (by decide) hj, nI_clamp (by omega), Bool.true_and]
theorem c_Lens_isHandle {x : Nat} {rw : Nat → Option Nat} {lv : Nat → Bool} (hL : q_L 10 t_Lens x T R) (hH : k_hs x rw lv T I R) (v : Int32) : q_Ci g M_Lens_isHandle [.ref x, .int v] (sz, T, I, R, J) 0 0 (fun r h' => r = p_b (k_ish lv v) ∧ h' = (sz, T, I, R, J)) := by
  refine q_C.of (ls0 := [some (.ref x), some (.int v)]) (by decide) rfl (by decide) (Nat.le_of_ble_eq_true rfl) rfl ?_
  refine q_iload_n d_Lens_isHandle_0 rfl rfl ?_
  refine q_if_lt (tgt := 35) d_Lens_isHandle_1 rfl (fun hc => ?_) (fun hc => ?_)
  · refine q_iconst (v := nI 0) d_Lens_isHandle_35 (by decide) ?_
    refine q_zret d_Lens_isHandle_36 rfl (by first | exact Or.inl rfl | exact Or.inr rfl | assumption) (by omega) (by omega) ?_
    exact ⟨_, rfl, by rw [k_ish, k_bel, decide_eq_false (Int32.not_le.mpr hc), Bool.false_and, Bool.false_and]; rfl, rfl⟩
  · have h1 := hc
    refine q_iload_n d_Lens_isHandle_4 rfl rfl ?_
    refine q_bipush (v := nI 16) d_Lens_isHandle_5 (by decide) ?_
    refine q_icmp_ge (tgt := 35) d_Lens_isHandle_7 rfl (fun hc => ?_) (fun hc => ?_)
    · refine q_iconst (v := nI 0) d_Lens_isHandle_35 (by decide) ?_
      refine q_zret d_Lens_isHandle_36 rfl (by first | exact Or.inl rfl | exact Or.inr rfl | assumption) (by omega) (by omega) ?_
      exact ⟨_, rfl, by rw [k_ish, k_bel, decide_eq_false (Int32.not_lt.mpr hc), Bool.and_false, Bool.false_and]; rfl, rfl⟩
    · obtain ⟨j, hj, rfl⟩ := nI_of h1
      rw [nI_leI (by omega) hj] at hc
      have hj16 : j < 16 := by omega
      obtain ⟨e1, e2, e3⟩ := hH j hj16
      rw [k_ish_nI hj16]
      cases hr : rw j with
      | none =>
        rw [hr] at e1
        rw [e2 hr]
        refine q_aload_n d_Lens_isHandle_10 rfl rfl ?_
        refine q_getR (ci := 10) (fk := 2) d_Lens_isHandle_11 rfl (Nat.le_of_ble_eq_true rfl) w_274 (fun _ _ => rfl) hL.1 (hL.2 2 _ _ _ rfl).1 ?_
        refine q_iload_n d_Lens_isHandle_14 rfl rfl ?_
        refine q_aald (kd := 4) (v := .null) d_Lens_isHandle_15 rfl (Nat.le_of_ble_eq_true rfl) (Nat.le_of_ble_eq_true rfl) (hL.2 2 _ _ _ rfl).2 (vp_in_nI (by omega) (by omega)) (by rw [e1]; rfl) ?_
        refine q_ifnullN (tgt := 35) d_Lens_isHandle_16 rfl ?_
        refine q_iconst (v := nI 0) d_Lens_isHandle_35 (by decide) ?_
        refine q_zret d_Lens_isHandle_36 rfl (by first | exact Or.inl rfl | exact Or.inr rfl | assumption) (by omega) (by omega) ?_
        exact ⟨_, rfl, rfl, rfl⟩
      | some r =>
        rw [hr] at e1
        obtain ⟨e4, e5⟩ := e3 r hr
        refine q_aload_n d_Lens_isHandle_10 rfl rfl ?_
        refine q_getR (ci := 10) (fk := 2) d_Lens_isHandle_11 rfl (Nat.le_of_ble_eq_true rfl) w_274 (fun _ _ => rfl) hL.1 (hL.2 2 _ _ _ rfl).1 ?_
        refine q_iload_n d_Lens_isHandle_14 rfl rfl ?_
        refine q_aaldR (kd := _) d_Lens_isHandle_15 rfl (Nat.le_of_ble_eq_true rfl) (Nat.le_of_ble_eq_true rfl) (hL.2 2 _ _ _ rfl).2 (by first | assumption | exact vp_in_nI (by omega) (by omega)) (by first | assumption | rfl | (simp (disch := omega) only [q_upT_self, q_upT_ne, q_upR_self, q_upR_nea, q_upR_nk, q_upT_at, *]; done) | (simp (disch := omega) only [q_upT_self, q_upT_ne, q_upR_self, q_upR_nea, q_upR_nk, q_upT_at, *]; rfl)) ?_
        first | refine q_ifnull d_Lens_isHandle_16 ?_ | refine q_ifnullN (tgt := 35) d_Lens_isHandle_16 rfl ?_
        refine q_aload_n d_Lens_isHandle_19 rfl rfl ?_
        refine q_getR (ci := 10) (fk := 2) d_Lens_isHandle_20 rfl (Nat.le_of_ble_eq_true rfl) w_274 (fun _ _ => rfl) hL.1 (hL.2 2 _ _ _ rfl).1 ?_
        refine q_iload_n d_Lens_isHandle_23 rfl rfl ?_
        refine q_aaldR (kd := _) d_Lens_isHandle_24 rfl (Nat.le_of_ble_eq_true rfl) (Nat.le_of_ble_eq_true rfl) (hL.2 2 _ _ _ rfl).2 (by first | assumption | exact vp_in_nI (by omega) (by omega)) (by first | assumption | rfl | (simp (disch := omega) only [q_upT_self, q_upT_ne, q_upR_self, q_upR_nea, q_upR_nk, q_upT_at, *]; done) | (simp (disch := omega) only [q_upT_self, q_upT_ne, q_upR_self, q_upR_nea, q_upR_nk, q_upT_at, *]; rfl)) ?_
        refine q_getI (ci := 5) (fk := 0) d_Lens_isHandle_25 rfl (Nat.le_of_ble_eq_true rfl) w_192 (fun _ _ => rfl) (by first | assumption | rfl | (simp (disch := omega) only [q_upT_self, q_upT_ne, q_upR_self, q_upR_nea, q_upR_nk, q_upT_at, *]; done) | (simp (disch := omega) only [q_upT_self, q_upT_ne, q_upR_self, q_upR_nea, q_upR_nk, q_upT_at, *]; rfl)) ?_
        rw [e5]
        cases lv j with
        | false =>
          refine q_if_eq (tgt := 35) d_Lens_isHandle_28 rfl (fun hc => ?_) (fun hc => ?_)
          · refine q_iconst (v := nI 0) d_Lens_isHandle_35 (by decide) ?_
            refine q_zret d_Lens_isHandle_36 rfl (by first | exact Or.inl rfl | exact Or.inr rfl | assumption) (by omega) (by omega) ?_
            exact ⟨_, rfl, rfl, rfl⟩
          · exact absurd rfl hc
        | true =>
          refine q_if_eq (tgt := 35) d_Lens_isHandle_28 rfl (fun hc => ?_) (fun hc => ?_)
          · exact absurd hc (by decide)
          · refine q_iconst (v := nI 1) d_Lens_isHandle_31 (by decide) ?_
            refine q_goto (tgt := 36) d_Lens_isHandle_32 rfl ?_
            refine q_zret d_Lens_isHandle_36 rfl (by first | exact Or.inl rfl | exact Or.inr rfl | assumption) (by omega) (by omega) ?_
            exact ⟨_, rfl, rfl, rfl⟩
theorem c_Lens_needHandle {x : Nat} {rw : Nat → Option Nat} {lv : Nat → Bool} (hL : q_L 10 t_Lens x T R) (hH : k_hs x rw lv T I R) (v : Int32) : q_C g M_Lens_needHandle [.ref x, .int v] (sz, T, I, R, J) 1 6 (q_Xn (k_ish lv v) 2 sz T I R J) := by
  refine q_C.of (ls0 := [some (.ref x), some (.int v)]) (by decide) rfl (by decide) (Nat.le_of_ble_eq_true rfl) rfl ?_
  refine q_aload_n d_Lens_needHandle_0 rfl rfl ?_
  refine q_iload_n d_Lens_needHandle_1 rfl rfl ?_
  refine q_callVi (M2 := M_Lens_isHandle) d_Lens_needHandle_2 ⟨(Nat.le_of_ble_eq_true rfl), (Nat.le_of_ble_eq_true rfl), w_702, w_1, ⟨by decide, by decide⟩, show _ = some 1 by decide +kernel⟩ w_699 w_701 (ci := 10) rfl s_15 hL.1 rfl (Nat.le_of_ble_eq_true rfl) (by omega) (by omega) (c_Lens_isHandle hL hH v) ?_
  rintro _ _ ⟨rfl, rfl⟩
  cases hb : k_ish lv v with
  | false =>
    refine q_if_ne (tgt := 16) d_Lens_needHandle_5 rfl (fun hc => ?_) (fun hc => ?_)
    · exact absurd rfl hc
    · refine q_throw (x := 2) d_Lens_needHandle_8 d_Lens_needHandle_11 d_Lens_needHandle_12 d_Lens_needHandle_15 (by decide +kernel) x_nmf (Nat.le_of_ble_eq_true rfl) (Nat.le_of_ble_eq_true rfl) (Nat.le_of_ble_eq_true rfl) w_435 w_17 x_at2 rfl (Nat.le_of_ble_eq_true rfl) (by omega) (by omega) ?_
      exact Or.inr ⟨rfl, rfl, rfl⟩
  | true =>
    refine q_if_ne (tgt := 16) d_Lens_needHandle_5 rfl (fun hc => ?_) (fun hc => ?_)
    · refine q_vret d_Lens_needHandle_16 rfl (by omega) (by omega) ?_
      exact Or.inl ⟨rfl, rfl, rfl⟩
    · exact absurd hc (by decide)
def k_fr (lv : Nat → Bool) : Nat → Nat → Option Nat
  | _, 0 => none
  | i, j + 1 => if lv i = true then k_fr lv (i + 1) j else some i
theorem c_Lens_freeHandle {x : Nat} {rw : Nat → Option Nat} {lv : Nat → Bool} (hL : q_L 10 t_Lens x T R) (hH : k_hs x rw lv T I R) : q_Ci g M_Lens_freeHandle [.ref x] (sz, T, I, R, J) 0 0 (fun r h' => r = p_idx (k_fr lv 0 16) ∧ h' = (sz, T, I, R, J)) := by
  refine q_C.of (ls0 := [some (.ref x), none]) (by decide) rfl (by decide) (Nat.le_of_ble_eq_true rfl) rfl ?_
  have loop : ∀ (j i mcc msc : Nat), mcc = 0 → msc = 0 → i + j = 16 → q_V g M_Lens_freeHandle 0 0 mcc msc (sz, T, I, R, J) (fun o h' => ∃ r : Int32, o = .inl (some (.int r)) ∧ (r = p_idx (k_fr lv i j) ∧ h' = (sz, T, I, R, J))) 2 [some (.ref x), some (.int (nI i))] [] := by
    intro j
    induction j with
    | zero =>
      intro i mcc msc e1 e2 hij
      subst e1; subst e2
      refine q_iload_n d_Lens_freeHandle_2 rfl rfl ?_
      refine q_bipush (v := nI 16) d_Lens_freeHandle_3 (by decide) ?_
      refine q_icmp_ge (tgt := 24) d_Lens_freeHandle_5 rfl (fun hc => ?_) (fun hc => ?_)
      · refine q_iconst (v := (-1)) d_Lens_freeHandle_24 (by decide) ?_
        refine q_iret d_Lens_freeHandle_25 rfl (by omega) (by omega) ?_
        exact ⟨_, rfl, rfl, rfl⟩
      · rw [nI_leI (by omega) (by omega)] at hc
        omega
    | succ j ih =>
      intro i mcc msc e1 e2 hij
      subst e1; subst e2
      rw [k_fr]
      refine q_iload_n d_Lens_freeHandle_2 rfl rfl ?_
      refine q_bipush (v := nI 16) d_Lens_freeHandle_3 (by decide) ?_
      refine q_icmp_ge (tgt := 24) d_Lens_freeHandle_5 rfl (fun hc => ?_) (fun hc => ?_)
      · rw [nI_leI (by omega) (by omega)] at hc
        omega
      · refine q_aload_n d_Lens_freeHandle_8 rfl rfl ?_
        refine q_iload_n d_Lens_freeHandle_9 rfl rfl ?_
        refine q_callVi (M2 := M_Lens_isHandle) d_Lens_freeHandle_10 ⟨(Nat.le_of_ble_eq_true rfl), (Nat.le_of_ble_eq_true rfl), w_702, w_1, ⟨by decide, by decide⟩, show _ = some 1 by decide +kernel⟩ w_699 w_701 (ci := 10) rfl s_15 hL.1 rfl (Nat.le_of_ble_eq_true rfl) (by omega) (by omega) (c_Lens_isHandle hL hH (nI i)) ?_
        rintro _ _ ⟨rfl, rfl⟩
        rw [k_ish_nI (by omega)]
        cases lv i with
        | false =>
          refine q_if_ne (tgt := 18) d_Lens_freeHandle_13 rfl (fun hc => ?_) (fun hc => ?_)
          · exact absurd rfl hc
          · refine q_iload_n d_Lens_freeHandle_16 rfl rfl ?_
            refine q_iret d_Lens_freeHandle_17 rfl (by omega) (by omega) ?_
            exact ⟨_, rfl, rfl, rfl⟩
        | true =>
          rw [if_pos rfl]
          refine q_if_ne (tgt := 18) d_Lens_freeHandle_13 rfl (fun hc => ?_) (fun hc => ?_)
          · first | refine q_iincN d_Lens_freeHandle_18 rfl (Nat.le_of_ble_eq_true rfl) (by first | exact q_ok0 | exact q_okI rfl | exact q_okR rfl | exact q_okN rfl) rfl ?_ | refine q_iinc d_Lens_freeHandle_18 rfl rfl (Nat.le_of_ble_eq_true rfl) (by first | exact q_ok0 | exact q_okI rfl | exact q_okR rfl | exact q_okN rfl) rfl ?_
            refine q_goto (tgt := 2) d_Lens_freeHandle_21 rfl ?_
            exact ih (i + 1) _ _ rfl rfl (by omega)
          · exact absurd hc (by decide)
  refine q_iconst (v := nI 0) d_Lens_freeHandle_0 (by decide) ?_
  refine q_istore_n d_Lens_freeHandle_1 rfl (Nat.le_of_ble_eq_true rfl) (by first | exact q_ok0 | exact q_okI rfl | exact q_okR rfl | exact q_okN rfl) rfl ?_
  exact loop 16 0 _ _ rfl rfl (by omega)
def k_lvn (lv : Nat → Bool) : Nat → Nat → Nat
  | _, 0 => 0
  | i, j + 1 => (if lv i = true then 1 else 0) + k_lvn lv (i + 1) j
theorem c_Lens_liveRecords {x : Nat} {rw : Nat → Option Nat} {lv : Nat → Bool} (hL : q_L 10 t_Lens x T R) (hH : k_hs x rw lv T I R) : q_Ci g M_Lens_liveRecords [.ref x] (sz, T, I, R, J) 0 0 (fun r h' => r = nI (k_lvn lv 0 16) ∧ h' = (sz, T, I, R, J)) := by
  refine q_C.of (ls0 := [some (.ref x), none, none]) (by decide) rfl (by decide) (Nat.le_of_ble_eq_true rfl) rfl ?_
  have loop : ∀ (j i n mcc msc : Nat), mcc = 0 → msc = 0 → i + j = 16 → q_V g M_Lens_liveRecords 0 0 mcc msc (sz, T, I, R, J) (fun o h' => ∃ r : Int32, o = .inl (some (.int r)) ∧ (r = nI (n + k_lvn lv i j) ∧ h' = (sz, T, I, R, J))) 4 [some (.ref x), some (.int (nI n)), some (.int (nI i))] [] := by
    intro j
    induction j with
    | zero =>
      intro i n mcc msc e1 e2 hij
      subst e1; subst e2
      refine q_iload_n d_Lens_liveRecords_4 rfl rfl ?_
      refine q_bipush (v := nI 16) d_Lens_liveRecords_5 (by decide) ?_
      refine q_icmp_ge (tgt := 27) d_Lens_liveRecords_7 rfl (fun hc => ?_) (fun hc => ?_)
      · refine q_iload_n d_Lens_liveRecords_27 rfl rfl ?_
        refine q_iret d_Lens_liveRecords_28 rfl (by omega) (by omega) ?_
        exact ⟨_, rfl, rfl, rfl⟩
      · rw [nI_leI (by omega) (by omega)] at hc
        omega
    | succ j ih =>
      intro i n mcc msc e1 e2 hij
      subst e1; subst e2
      rw [k_lvn]
      refine q_iload_n d_Lens_liveRecords_4 rfl rfl ?_
      refine q_bipush (v := nI 16) d_Lens_liveRecords_5 (by decide) ?_
      refine q_icmp_ge (tgt := 27) d_Lens_liveRecords_7 rfl (fun hc => ?_) (fun hc => ?_)
      · rw [nI_leI (by omega) (by omega)] at hc
        omega
      · refine q_aload_n d_Lens_liveRecords_10 rfl rfl ?_
        refine q_iload_n d_Lens_liveRecords_11 rfl rfl ?_
        refine q_callVi (M2 := M_Lens_isHandle) d_Lens_liveRecords_12 ⟨(Nat.le_of_ble_eq_true rfl), (Nat.le_of_ble_eq_true rfl), w_702, w_1, ⟨by decide, by decide⟩, show _ = some 1 by decide +kernel⟩ w_699 w_701 (ci := 10) rfl s_15 hL.1 rfl (Nat.le_of_ble_eq_true rfl) (by omega) (by omega) (c_Lens_isHandle hL hH (nI i)) ?_
        rintro _ _ ⟨rfl, rfl⟩
        rw [k_ish_nI (by omega)]
        cases lv i with
        | false =>
          rw [if_neg (by decide), Nat.zero_add (k_lvn _ _ _)]
          refine q_if_eq (tgt := 21) d_Lens_liveRecords_15 rfl (fun hc => ?_) (fun hc => ?_)
          · first | refine q_iincN d_Lens_liveRecords_21 rfl (Nat.le_of_ble_eq_true rfl) (by first | exact q_ok0 | exact q_okI rfl | exact q_okR rfl | exact q_okN rfl) rfl ?_ | refine q_iinc d_Lens_liveRecords_21 rfl rfl (Nat.le_of_ble_eq_true rfl) (by first | exact q_ok0 | exact q_okI rfl | exact q_okR rfl | exact q_okN rfl) rfl ?_
            refine q_goto (tgt := 4) d_Lens_liveRecords_24 rfl ?_
            exact ih (i + 1) n _ _ rfl rfl (by omega)
          · exact absurd rfl hc
        | true =>
          rw [if_pos rfl, ← Nat.add_assoc n]
          refine q_if_eq (tgt := 21) d_Lens_liveRecords_15 rfl (fun hc => ?_) (fun hc => ?_)
          · exact absurd hc (by decide)
          · first | refine q_iincN d_Lens_liveRecords_18 rfl (Nat.le_of_ble_eq_true rfl) (by first | exact q_ok0 | exact q_okI rfl | exact q_okR rfl | exact q_okN rfl) rfl ?_ | refine q_iinc d_Lens_liveRecords_18 rfl rfl (Nat.le_of_ble_eq_true rfl) (by first | exact q_ok0 | exact q_okI rfl | exact q_okR rfl | exact q_okN rfl) rfl ?_
            first | refine q_iincN d_Lens_liveRecords_21 rfl (Nat.le_of_ble_eq_true rfl) (by first | exact q_ok0 | exact q_okI rfl | exact q_okR rfl | exact q_okN rfl) rfl ?_ | refine q_iinc d_Lens_liveRecords_21 rfl rfl (Nat.le_of_ble_eq_true rfl) (by first | exact q_ok0 | exact q_okI rfl | exact q_okR rfl | exact q_okN rfl) rfl ?_
            refine q_goto (tgt := 4) d_Lens_liveRecords_24 rfl ?_
            exact ih (i + 1) (n + 1) _ _ rfl rfl (by omega)
  refine q_iconst (v := nI 0) d_Lens_liveRecords_0 (by decide) ?_
  refine q_istore_n d_Lens_liveRecords_1 rfl (Nat.le_of_ble_eq_true rfl) (by first | exact q_ok0 | exact q_okI rfl | exact q_okR rfl | exact q_okN rfl) rfl ?_
  refine q_iconst (v := nI 0) d_Lens_liveRecords_2 (by decide) ?_
  refine q_istore_n d_Lens_liveRecords_3 rfl (Nat.le_of_ble_eq_true rfl) (by first | exact q_ok0 | exact q_okI rfl | exact q_okR rfl | exact q_okN rfl) rfl ?_
  have := loop 16 0 0 0 0 rfl rfl (by omega)
  rw [Nat.zero_add] at this
  exact this
end HandC
