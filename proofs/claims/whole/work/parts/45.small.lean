/-! the class's small methods -/
abbrev M_Versions_hasVersion : q_M := (⟨"LensPaths$Versions", "hasVersion", "(I)Z"⟩, prog_12_method_2_code, 2, (some .boolean), "LensPaths$Versions", [], false, 0, 0)
theorem d_Versions_hasVersion_0 : decode prog_12_method_2_code 0 = .ok (.iload_n 1, 1) := by decide +kernel
theorem d_Versions_hasVersion_1 : decode prog_12_method_2_code 1 = .ok (.ifCond .lt 15, 3) := by decide +kernel
theorem d_Versions_hasVersion_4 : decode prog_12_method_2_code 4 = .ok (.iload_n 1, 1) := by decide +kernel
theorem d_Versions_hasVersion_5 : decode prog_12_method_2_code 5 = .ok (.aload_n 0, 1) := by decide +kernel
theorem d_Versions_hasVersion_6 : decode prog_12_method_2_code 6 = .ok (.getfield 17, 3) := by decide +kernel
theorem d_Versions_hasVersion_9 : decode prog_12_method_2_code 9 = .ok (.if_icmp .ge 7, 3) := by decide +kernel
theorem d_Versions_hasVersion_12 : decode prog_12_method_2_code 12 = .ok (.iconst 1, 1) := by decide +kernel
theorem d_Versions_hasVersion_13 : decode prog_12_method_2_code 13 = .ok (.goto 4, 3) := by decide +kernel
theorem d_Versions_hasVersion_16 : decode prog_12_method_2_code 16 = .ok (.iconst 0, 1) := by decide +kernel
theorem d_Versions_hasVersion_17 : decode prog_12_method_2_code 17 = .ok (.ireturn, 1) := by decide +kernel
abbrev M_Versions_hasStep : q_M := (⟨"LensPaths$Versions", "hasStep", "(I)Z"⟩, prog_12_method_3_code, 2, (some .boolean), "LensPaths$Versions", [], false, 0, 0)
theorem d_Versions_hasStep_0 : decode prog_12_method_3_code 0 = .ok (.iload_n 1, 1) := by decide +kernel
theorem d_Versions_hasStep_1 : decode prog_12_method_3_code 1 = .ok (.ifCond .lt 15, 3) := by decide +kernel
theorem d_Versions_hasStep_4 : decode prog_12_method_3_code 4 = .ok (.iload_n 1, 1) := by decide +kernel
theorem d_Versions_hasStep_5 : decode prog_12_method_3_code 5 = .ok (.aload_n 0, 1) := by decide +kernel
theorem d_Versions_hasStep_6 : decode prog_12_method_3_code 6 = .ok (.getfield 35, 3) := by decide +kernel
theorem d_Versions_hasStep_9 : decode prog_12_method_3_code 9 = .ok (.if_icmp .ge 7, 3) := by decide +kernel
theorem d_Versions_hasStep_12 : decode prog_12_method_3_code 12 = .ok (.iconst 1, 1) := by decide +kernel
theorem d_Versions_hasStep_13 : decode prog_12_method_3_code 13 = .ok (.goto 4, 3) := by decide +kernel
theorem d_Versions_hasStep_16 : decode prog_12_method_3_code 16 = .ok (.iconst 0, 1) := by decide +kernel
theorem d_Versions_hasStep_17 : decode prog_12_method_3_code 17 = .ok (.ireturn, 1) := by decide +kernel
abbrev M_Lens_needVersion : q_M := (⟨"LensPaths", "needVersion", "(I)V"⟩, prog_1_method_25_code, 2, none, "LensPaths", [], false, 6, 90)
theorem d_Lens_needVersion_0 : decode prog_1_method_25_code 0 = .ok (.aload_n 0, 1) := by decide +kernel
theorem d_Lens_needVersion_1 : decode prog_1_method_25_code 1 = .ok (.getfield 12, 3) := by decide +kernel
theorem d_Lens_needVersion_4 : decode prog_1_method_25_code 4 = .ok (.iload_n 1, 1) := by decide +kernel
theorem d_Lens_needVersion_5 : decode prog_1_method_25_code 5 = .ok (.invokevirtual 273, 3) := by decide +kernel
theorem d_Lens_needVersion_8 : decode prog_1_method_25_code 8 = .ok (.ifCond .ne 11, 3) := by decide +kernel
theorem d_Lens_needVersion_11 : decode prog_1_method_25_code 11 = .ok (.new 233, 3) := by decide +kernel
theorem d_Lens_needVersion_14 : decode prog_1_method_25_code 14 = .ok (.dup, 1) := by decide +kernel
theorem d_Lens_needVersion_15 : decode prog_1_method_25_code 15 = .ok (.invokespecial 235, 3) := by decide +kernel
theorem d_Lens_needVersion_18 : decode prog_1_method_25_code 18 = .ok (.athrow, 1) := by decide +kernel
theorem d_Lens_needVersion_19 : decode prog_1_method_25_code 19 = .ok (.return_, 1) := by decide +kernel
abbrev M_Lens_isShape : q_M := (⟨"LensPaths", "isShape", "(III)Z"⟩, prog_1_method_33_code, 3, (some .boolean), "LensPaths", [], false, 0, 0)
theorem d_Lens_isShape_0 : decode prog_1_method_33_code 0 = .ok (.iload_n 0, 1) := by decide +kernel
theorem d_Lens_isShape_1 : decode prog_1_method_33_code 1 = .ok (.iconst 2, 1) := by decide +kernel
theorem d_Lens_isShape_2 : decode prog_1_method_33_code 2 = .ok (.if_icmp .eq 17, 3) := by decide +kernel
theorem d_Lens_isShape_5 : decode prog_1_method_33_code 5 = .ok (.iload_n 0, 1) := by decide +kernel
theorem d_Lens_isShape_6 : decode prog_1_method_33_code 6 = .ok (.ifCond .eq 8, 3) := by decide +kernel
theorem d_Lens_isShape_9 : decode prog_1_method_33_code 9 = .ok (.iload_n 0, 1) := by decide +kernel
theorem d_Lens_isShape_10 : decode prog_1_method_33_code 10 = .ok (.iconst 1, 1) := by decide +kernel
theorem d_Lens_isShape_11 : decode prog_1_method_33_code 11 = .ok (.if_icmp .ne 12, 3) := by decide +kernel
theorem d_Lens_isShape_14 : decode prog_1_method_33_code 14 = .ok (.iload_n 1, 1) := by decide +kernel
theorem d_Lens_isShape_15 : decode prog_1_method_33_code 15 = .ok (.iload_n 2, 1) := by decide +kernel
theorem d_Lens_isShape_16 : decode prog_1_method_33_code 16 = .ok (.if_icmp .gt 7, 3) := by decide +kernel
theorem d_Lens_isShape_19 : decode prog_1_method_33_code 19 = .ok (.iconst 1, 1) := by decide +kernel
theorem d_Lens_isShape_20 : decode prog_1_method_33_code 20 = .ok (.goto 4, 3) := by decide +kernel
theorem d_Lens_isShape_23 : decode prog_1_method_33_code 23 = .ok (.iconst 0, 1) := by decide +kernel
theorem d_Lens_isShape_24 : decode prog_1_method_33_code 24 = .ok (.ireturn, 1) := by decide +kernel
abbrev M_Lens_leave : q_M := (⟨"LensPaths", "leave", "()Z"⟩, prog_1_method_6_code, 2, (some .boolean), "LensPaths", [], false, 0, 0)
theorem d_Lens_leave_0 : decode prog_1_method_6_code 0 = .ok (.aload_n 0, 1) := by decide +kernel
theorem d_Lens_leave_1 : decode prog_1_method_6_code 1 = .ok (.getfield 19, 3) := by decide +kernel
theorem d_Lens_leave_4 : decode prog_1_method_6_code 4 = .ok (.getfield 90, 3) := by decide +kernel
theorem d_Lens_leave_7 : decode prog_1_method_6_code 7 = .ok (.istore_n 1, 1) := by decide +kernel
theorem d_Lens_leave_8 : decode prog_1_method_6_code 8 = .ok (.aload_n 0, 1) := by decide +kernel
theorem d_Lens_leave_9 : decode prog_1_method_6_code 9 = .ok (.getfield 19, 3) := by decide +kernel
theorem d_Lens_leave_12 : decode prog_1_method_6_code 12 = .ok (.iconst 0, 1) := by decide +kernel
theorem d_Lens_leave_13 : decode prog_1_method_6_code 13 = .ok (.putfield 90, 3) := by decide +kernel
theorem d_Lens_leave_16 : decode prog_1_method_6_code 16 = .ok (.iload_n 1, 1) := by decide +kernel
theorem d_Lens_leave_17 : decode prog_1_method_6_code 17 = .ok (.ireturn, 1) := by decide +kernel
section SmallC
variable {g : q_G} {sz : Nat} {T : q_T} {I : q_I} {R : q_R} {J : q_J}
/-- a place below n -/
def k_bel (n : Nat) (v : Int32) : Bool := decide (0 ≤ v) && decide (v < nI n)
theorem k_bel_of {n : Nat} {v : Int32} (hn : n < 2 ^ 31) (h : k_bel n v = true) : ∃ j, j < n ∧ v = nI j := by
  rw [k_bel, Bool.and_eq_true, decide_eq_true_iff, decide_eq_true_iff] at h
  obtain ⟨j, h1, h2⟩ := nI_of (Int32.not_lt.mpr h.1)
  subst h2
  exact ⟨j, (nI_ltI h1 hn).mp h.2, rfl⟩
theorem k_bel_nI {n j : Nat} (hn : n < 2 ^ 31) (hj : j < n) : k_bel n (nI j) = true := by
  rw [k_bel, decide_eq_true (nI_pos' (by omega)), decide_eq_true (nI_lt hj hn)]; rfl
theorem c_Versions_hasVersion {a n : Nat} (hL : q_L 9 t_Versions a T R) (hn : I a (nI 1) = nI n) (v : Int32) : q_Ci g M_Versions_hasVersion [.ref a, .int v] (sz, T, I, R, J) 0 0 (fun r h' => r = p_b (k_bel n v) ∧ h' = (sz, T, I, R, J)) := by
  refine q_C.of (ls0 := [some (.ref a), some (.int v)]) (by decide) rfl (by decide) (Nat.le_of_ble_eq_true rfl) rfl ?_
  refine q_iload_n d_Versions_hasVersion_0 rfl rfl ?_
  refine q_if_lt (tgt := 16) d_Versions_hasVersion_1 rfl (fun hc => ?_) (fun hc => ?_)
  · refine q_iconst (v := nI 0) d_Versions_hasVersion_16 (by decide) ?_
    refine q_zret d_Versions_hasVersion_17 rfl (by first | exact Or.inl rfl | exact Or.inr rfl | assumption) (by omega) (by omega) ?_
    exact ⟨_, rfl, by rw [k_bel, decide_eq_false (Int32.not_le.mpr hc), Bool.false_and]; rfl, rfl⟩
  · have h1 := Int32.not_lt.mp hc
    refine q_iload_n d_Versions_hasVersion_4 rfl rfl ?_
    refine q_aload_n d_Versions_hasVersion_5 rfl rfl ?_
    refine q_getI (ci := 9) (fk := 1) d_Versions_hasVersion_6 rfl (Nat.le_of_ble_eq_true rfl) w_111 (fun _ _ => rfl) hL.1 ?_
    rw [hn]
    refine q_icmp_ge (tgt := 16) d_Versions_hasVersion_9 rfl (fun hc => ?_) (fun hc => ?_)
    · refine q_iconst (v := nI 0) d_Versions_hasVersion_16 (by decide) ?_
      refine q_zret d_Versions_hasVersion_17 rfl (by first | exact Or.inl rfl | exact Or.inr rfl | assumption) (by omega) (by omega) ?_
      exact ⟨_, rfl, by rw [k_bel, decide_eq_false (Int32.not_lt.mpr hc), Bool.and_false]; rfl, rfl⟩
    · refine q_iconst (v := nI 1) d_Versions_hasVersion_12 (by decide) ?_
      refine q_goto (tgt := 17) d_Versions_hasVersion_13 rfl ?_
      refine q_zret d_Versions_hasVersion_17 rfl (by first | exact Or.inl rfl | exact Or.inr rfl | assumption) (by omega) (by omega) ?_
      exact ⟨_, rfl, by rw [k_bel, decide_eq_true h1, decide_eq_true (Int32.not_le.mp hc)]; rfl, rfl⟩
theorem c_Versions_hasStep {a n : Nat} (hL : q_L 9 t_Versions a T R) (hn : I a (nI 3) = nI n) (v : Int32) : q_Ci g M_Versions_hasStep [.ref a, .int v] (sz, T, I, R, J) 0 0 (fun r h' => r = p_b (k_bel n v) ∧ h' = (sz, T, I, R, J)) := by
  refine q_C.of (ls0 := [some (.ref a), some (.int v)]) (by decide) rfl (by decide) (Nat.le_of_ble_eq_true rfl) rfl ?_
  refine q_iload_n d_Versions_hasStep_0 rfl rfl ?_
  refine q_if_lt (tgt := 16) d_Versions_hasStep_1 rfl (fun hc => ?_) (fun hc => ?_)
  · refine q_iconst (v := nI 0) d_Versions_hasStep_16 (by decide) ?_
    refine q_zret d_Versions_hasStep_17 rfl (by first | exact Or.inl rfl | exact Or.inr rfl | assumption) (by omega) (by omega) ?_
    exact ⟨_, rfl, by rw [k_bel, decide_eq_false (Int32.not_le.mpr hc), Bool.false_and]; rfl, rfl⟩
  · have h1 := Int32.not_lt.mp hc
    refine q_iload_n d_Versions_hasStep_4 rfl rfl ?_
    refine q_aload_n d_Versions_hasStep_5 rfl rfl ?_
    refine q_getI (ci := 9) (fk := 3) d_Versions_hasStep_6 rfl (Nat.le_of_ble_eq_true rfl) w_115 (fun _ _ => rfl) hL.1 ?_
    rw [hn]
    refine q_icmp_ge (tgt := 16) d_Versions_hasStep_9 rfl (fun hc => ?_) (fun hc => ?_)
    · refine q_iconst (v := nI 0) d_Versions_hasStep_16 (by decide) ?_
      refine q_zret d_Versions_hasStep_17 rfl (by first | exact Or.inl rfl | exact Or.inr rfl | assumption) (by omega) (by omega) ?_
      exact ⟨_, rfl, by rw [k_bel, decide_eq_false (Int32.not_lt.mpr hc), Bool.and_false]; rfl, rfl⟩
    · refine q_iconst (v := nI 1) d_Versions_hasStep_12 (by decide) ?_
      refine q_goto (tgt := 17) d_Versions_hasStep_13 rfl ?_
      refine q_zret d_Versions_hasStep_17 rfl (by first | exact Or.inl rfl | exact Or.inr rfl | assumption) (by omega) (by omega) ?_
      exact ⟨_, rfl, by rw [k_bel, decide_eq_true h1, decide_eq_true (Int32.not_le.mp hc)]; rfl, rfl⟩
/-- nothing, or an exception -/
def q_Xn (ok : Bool) (x : Nat) (sz : Nat) (T : q_T) (I : q_I) (R : q_R) (J : q_J) : q_O → q_H → Prop := fun o h' => (ok = true ∧ o = .inl none ∧ h' = (sz, T, I, R, J)) ∨ (ok = false ∧ o = .inr (x, sz) ∧ h' = (sz + 1, T, I, R, J))
theorem c_Lens_needVersion {x n : Nat} (hL : q_L 10 t_Lens x T R) (hV : q_L 9 t_Versions (x + 1) T R) (hn : I (x + 1) (nI 1) = nI n) (v : Int32) : q_C g M_Lens_needVersion [.ref x, .int v] (sz, T, I, R, J) 1 6 (q_Xn (k_bel n v) 2 sz T I R J) := by
  have hV1 := hV.1
  refine q_C.of (ls0 := [some (.ref x), some (.int v)]) (by decide) rfl (by decide) (Nat.le_of_ble_eq_true rfl) rfl ?_
  refine q_aload_n d_Lens_needVersion_0 rfl rfl ?_
  refine q_getR (ci := 10) (fk := 0) d_Lens_needVersion_1 rfl (Nat.le_of_ble_eq_true rfl) w_272 (fun _ _ => rfl) hL.1 (hL.2 0 _ _ _ rfl).1 ?_
  refine q_iload_n d_Lens_needVersion_4 rfl rfl ?_
  refine q_callVi (M2 := M_Versions_hasVersion) d_Lens_needVersion_5 ⟨(Nat.le_of_ble_eq_true rfl), (Nat.le_of_ble_eq_true rfl), w_434, w_2, ⟨by decide, by decide⟩, show _ = some 1 by decide +kernel⟩ w_431 w_432 (ci := 9) rfl w_433 (by first | assumption | rfl | (simp (disch := omega) only [q_upT_self, q_upT_ne, q_upR_self, q_upR_nea, q_upR_nk, q_upT_at, *]; done) | (simp (disch := omega) only [q_upT_self, q_upT_ne, q_upR_self, q_upR_nea, q_upR_nk, q_upT_at, *]; rfl)) rfl (Nat.le_of_ble_eq_true rfl) (by omega) (by omega) (c_Versions_hasVersion hV hn v) ?_
  rintro _ _ ⟨rfl, rfl⟩
  cases hb : k_bel n v with
  | false =>
    refine q_if_ne (tgt := 19) d_Lens_needVersion_8 rfl (fun hc => ?_) (fun hc => ?_)
    · exact absurd rfl hc
    · refine q_throw (x := 2) d_Lens_needVersion_11 d_Lens_needVersion_14 d_Lens_needVersion_15 d_Lens_needVersion_18 (by decide +kernel) x_nmf (Nat.le_of_ble_eq_true rfl) (Nat.le_of_ble_eq_true rfl) (Nat.le_of_ble_eq_true rfl) w_435 w_17 x_at2 rfl (Nat.le_of_ble_eq_true rfl) (by omega) (by omega) ?_
      exact Or.inr ⟨rfl, rfl, rfl⟩
  | true =>
    refine q_if_ne (tgt := 19) d_Lens_needVersion_8 rfl (fun hc => ?_) (fun hc => ?_)
    · refine q_vret d_Lens_needVersion_19 rfl (by omega) (by omega) ?_
      exact Or.inl ⟨rfl, rfl, rfl⟩
    · exact absurd hc (by decide)
def k_shape (so lo hi : Int32) : Bool := decide (so = 2) || ((decide (so = 0) || decide (so = 1)) && decide (lo ≤ hi))
theorem c_Lens_isShape (so lo hi : Int32) : q_Ci g M_Lens_isShape [.int so, .int lo, .int hi] (sz, T, I, R, J) 0 0 (fun r h' => r = p_b (k_shape so lo hi) ∧ h' = (sz, T, I, R, J)) := by
  refine q_C.of (ls0 := [some (.int so), some (.int lo), some (.int hi)]) (by decide) rfl (by decide) (Nat.le_of_ble_eq_true rfl) rfl ?_
  have fin : so ≠ 2 → so = 0 ∨ so = 1 → q_V g M_Lens_isShape 0 0 0 0 (sz, T, I, R, J) (fun o h' => ∃ r : Int32, o = .inl (some (.int r)) ∧ (r = p_b (k_shape so lo hi) ∧ h' = (sz, T, I, R, J))) 14 [some (.int so), some (.int lo), some (.int hi)] [] := by
    intro h1 h2
    have e : (decide (so = 0) || decide (so = 1)) = true := by
      rcases h2 with h | h
      · rw [decide_eq_true h]; rfl
      · rw [decide_eq_true h, Bool.or_true]
    have e2 : k_shape so lo hi = decide (lo ≤ hi) := by rw [k_shape, decide_eq_false h1, e, Bool.false_or, Bool.true_and]
    rw [e2]
    refine q_iload_n d_Lens_isShape_14 rfl rfl ?_
    refine q_iload_n d_Lens_isShape_15 rfl rfl ?_
    refine q_icmp_gt (tgt := 23) d_Lens_isShape_16 rfl (fun hc => ?_) (fun hc => ?_)
    · refine q_iconst (v := nI 0) d_Lens_isShape_23 (by decide) ?_
      refine q_zret d_Lens_isShape_24 rfl (by first | exact Or.inl rfl | exact Or.inr rfl | assumption) (by omega) (by omega) ?_
      exact ⟨_, rfl, by rw [decide_eq_false (Int32.not_le.mpr hc)]; rfl, rfl⟩
    · refine q_iconst (v := nI 1) d_Lens_isShape_19 (by decide) ?_
      refine q_goto (tgt := 24) d_Lens_isShape_20 rfl ?_
      refine q_zret d_Lens_isShape_24 rfl (by first | exact Or.inl rfl | exact Or.inr rfl | assumption) (by omega) (by omega) ?_
      exact ⟨_, rfl, by rw [decide_eq_true (Int32.not_lt.mp hc)]; rfl, rfl⟩
  refine q_iload_n d_Lens_isShape_0 rfl rfl ?_
  refine q_iconst (v := nI 2) d_Lens_isShape_1 (by decide) ?_
  refine q_icmp_eq (tgt := 19) d_Lens_isShape_2 rfl (fun hc => ?_) (fun hc => ?_)
  · have h2 : so = 2 := hc
    refine q_iconst (v := nI 1) d_Lens_isShape_19 (by decide) ?_
    refine q_goto (tgt := 24) d_Lens_isShape_20 rfl ?_
    refine q_zret d_Lens_isShape_24 rfl (by first | exact Or.inl rfl | exact Or.inr rfl | assumption) (by omega) (by omega) ?_
    exact ⟨_, rfl, by rw [k_shape, decide_eq_true h2]; rfl, rfl⟩
  · have h2 : so ≠ 2 := hc
    refine q_iload_n d_Lens_isShape_5 rfl rfl ?_
    refine q_if_eq (tgt := 14) d_Lens_isShape_6 rfl (fun hc => ?_) (fun hc => ?_)
    · exact fin h2 (Or.inl hc)
    · have h0 := hc
      refine q_iload_n d_Lens_isShape_9 rfl rfl ?_
      refine q_iconst (v := nI 1) d_Lens_isShape_10 (by decide) ?_
      refine q_icmp_ne (tgt := 23) d_Lens_isShape_11 rfl (fun hc => ?_) (fun hc => ?_)
      · have h1 : ¬ so = 1 := hc
        refine q_iconst (v := nI 0) d_Lens_isShape_23 (by decide) ?_
        refine q_zret d_Lens_isShape_24 rfl (by first | exact Or.inl rfl | exact Or.inr rfl | assumption) (by omega) (by omega) ?_
        exact ⟨_, rfl, by rw [k_shape, decide_eq_false h2, decide_eq_false h0, decide_eq_false h1]; rfl, rfl⟩
      · exact fin h2 (Or.inr hc)
theorem c_Lens_leave {x : Nat} {b : Bool} (hL : q_L 10 t_Lens x T R) (hD : q_L 2 t_Draft (x + 32) T R) (ho : I (x + 32) (nI 5) = p_b b) : q_Ci g M_Lens_leave [.ref x] (sz, T, I, R, J) 0 0 (fun r h' => r = p_b b ∧ h' = (sz, T, q_upI I (x + 32) (nI 5) 0, R, J)) := by
  have hD1 := hD.1
  refine q_C.of (ls0 := [some (.ref x), none]) (by decide) rfl (by decide) (Nat.le_of_ble_eq_true rfl) rfl ?_
  refine q_aload_n d_Lens_leave_0 rfl rfl ?_
  refine q_getR (ci := 10) (fk := 1) d_Lens_leave_1 rfl (Nat.le_of_ble_eq_true rfl) w_273 (fun _ _ => rfl) hL.1 (hL.2 1 _ _ _ rfl).1 ?_
  refine q_getI (ci := 2) (fk := 5) d_Lens_leave_4 rfl (Nat.le_of_ble_eq_true rfl) w_157 (fun _ _ => rfl) (by first | assumption | rfl | (simp (disch := omega) only [q_upT_self, q_upT_ne, q_upR_self, q_upR_nea, q_upR_nk, q_upT_at, *]; done) | (simp (disch := omega) only [q_upT_self, q_upT_ne, q_upR_self, q_upR_nea, q_upR_nk, q_upT_at, *]; rfl)) ?_
  rw [ho]
  refine q_istore_n d_Lens_leave_7 rfl (Nat.le_of_ble_eq_true rfl) (by first | exact q_ok0 | exact q_okI rfl | exact q_okR rfl | exact q_okN rfl) rfl ?_
  refine q_aload_n d_Lens_leave_8 rfl rfl ?_
  refine q_getR (ci := 10) (fk := 1) d_Lens_leave_9 rfl (Nat.le_of_ble_eq_true rfl) w_273 (fun _ _ => rfl) hL.1 (hL.2 1 _ _ _ rfl).1 ?_
  refine q_iconst (v := nI 0) d_Lens_leave_12 (by decide) ?_
  refine q_putI (ci := 2) (fk := 5) d_Lens_leave_13 rfl (Nat.le_of_ble_eq_true rfl) w_157 (Or.inl rfl) (fun _ _ => rfl) (by first | rfl | decide | assumption) (by first | rfl | decide | assumption) (by first | assumption | rfl | (simp (disch := omega) only [q_upT_self, q_upT_ne, q_upR_self, q_upR_nea, q_upR_nk, q_upT_at, *]; done) | (simp (disch := omega) only [q_upT_self, q_upT_ne, q_upR_self, q_upR_nea, q_upR_nk, q_upT_at, *]; rfl)) ?_
  refine q_iload_n d_Lens_leave_16 rfl rfl ?_
  cases b with
  | false =>
    refine q_zret d_Lens_leave_17 rfl (by first | exact Or.inl rfl | exact Or.inr rfl | assumption) (by omega) (by omega) ?_
    exact ⟨_, rfl, rfl, rfl⟩
  | true =>
    refine q_zret d_Lens_leave_17 rfl (by first | exact Or.inl rfl | exact Or.inr rfl | assumption) (by omega) (by omega) ?_
    exact ⟨_, rfl, rfl, rfl⟩
end SmallC
