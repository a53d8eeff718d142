/-! cells are taken over from other cells -/
abbrev M_Cells_take : q_M := (⟨"LensPaths$Cells", "take", "(ILLensPaths$Cells;I)V"⟩, prog_3_method_8_code, 4, none, "LensPaths$Cells", [], false, 2, 40)
theorem d_Cells_take_0 : decode prog_3_method_8_code 0 = .ok (.aload_n 2, 1) := by decide +kernel
theorem d_Cells_take_1 : decode prog_3_method_8_code 1 = .ok (.getfield 11, 3) := by decide +kernel
theorem d_Cells_take_4 : decode prog_3_method_8_code 4 = .ok (.iload_n 3, 1) := by decide +kernel
theorem d_Cells_take_5 : decode prog_3_method_8_code 5 = .ok (.bipush 7, 2) := by decide +kernel
theorem d_Cells_take_7 : decode prog_3_method_8_code 7 = .ok (.imul, 1) := by decide +kernel
theorem d_Cells_take_8 : decode prog_3_method_8_code 8 = .ok (.aload_n 0, 1) := by decide +kernel
theorem d_Cells_take_9 : decode prog_3_method_8_code 9 = .ok (.getfield 11, 3) := by decide +kernel
theorem d_Cells_take_12 : decode prog_3_method_8_code 12 = .ok (.iload_n 1, 1) := by decide +kernel
theorem d_Cells_take_13 : decode prog_3_method_8_code 13 = .ok (.bipush 7, 2) := by decide +kernel
theorem d_Cells_take_15 : decode prog_3_method_8_code 15 = .ok (.imul, 1) := by decide +kernel
theorem d_Cells_take_16 : decode prog_3_method_8_code 16 = .ok (.bipush 7, 2) := by decide +kernel
theorem d_Cells_take_18 : decode prog_3_method_8_code 18 = .ok (.invokestatic 26, 3) := by decide +kernel
theorem d_Cells_take_21 : decode prog_3_method_8_code 21 = .ok (.return_, 1) := by decide +kernel
abbrev M_Cells_takeAll : q_M := (⟨"LensPaths$Cells", "takeAll", "(LLensPaths$Cells;)V"⟩, prog_3_method_9_code, 2, none, "LensPaths$Cells", [], false, 2, 40)
theorem d_Cells_takeAll_0 : decode prog_3_method_9_code 0 = .ok (.aload_n 1, 1) := by decide +kernel
theorem d_Cells_takeAll_1 : decode prog_3_method_9_code 1 = .ok (.getfield 11, 3) := by decide +kernel
theorem d_Cells_takeAll_4 : decode prog_3_method_9_code 4 = .ok (.iconst 0, 1) := by decide +kernel
theorem d_Cells_takeAll_5 : decode prog_3_method_9_code 5 = .ok (.aload_n 0, 1) := by decide +kernel
theorem d_Cells_takeAll_6 : decode prog_3_method_9_code 6 = .ok (.getfield 11, 3) := by decide +kernel
theorem d_Cells_takeAll_9 : decode prog_3_method_9_code 9 = .ok (.iconst 0, 1) := by decide +kernel
theorem d_Cells_takeAll_10 : decode prog_3_method_9_code 10 = .ok (.aload_n 0, 1) := by decide +kernel
theorem d_Cells_takeAll_11 : decode prog_3_method_9_code 11 = .ok (.getfield 11, 3) := by decide +kernel
theorem d_Cells_takeAll_14 : decode prog_3_method_9_code 14 = .ok (.arraylength, 1) := by decide +kernel
theorem d_Cells_takeAll_15 : decode prog_3_method_9_code 15 = .ok (.invokestatic 26, 3) := by decide +kernel
theorem d_Cells_takeAll_18 : decode prog_3_method_9_code 18 = .ok (.return_, 1) := by decide +kernel
theorem w_757 : Cond.static arraycopyName ∈ q_tb := q_in4 (List.mem_of_getElem? (i := 37) rfl) rfl
theorem w_758 : Cond.native arraycopyName ∈ q_tb := q_in4 (List.mem_of_getElem? (i := 38) rfl) rfl
section TakeC
variable {g : q_G} {sz : Nat} {T : q_T} {I : q_I} {R : q_R} {J : q_J}
theorem c_Cells_take {c c2 N N2 k k2 : Nat} (hL : q_L 1 (t_Cells N) c T R) (hL2 : q_L 1 (t_Cells N2) c2 T R) (hN : N < 2 ^ 31) (hN2 : N2 < 2 ^ 31) (hk : k * 7 + 7 ≤ N) (hk2 : k2 * 7 + 7 ≤ N2) :
    q_Cv g M_Cells_take [.ref c, .int (nI k), .ref c2, .int (nI k2)] (sz, T, I, R, J) 0 0 (fun h' => h' = (sz, T, k_acp I (c2 + 1) (k2 * 7) (c + 1) (k * 7) 7, R, J)) := by
  have t2 := hL2.1
  have r2 : R c2 (nI 0) = some (c2 + 1) := (hL2.2 0 _ _ _ rfl).1
  have q2 : T (c2 + 1) = some (0, N2) := (hL2.2 0 _ _ _ rfl).2
  refine q_C.of (ls0 := [some (.ref c), some (.int (nI k)), some (.ref c2), some (.int (nI k2))]) (by decide) rfl (by decide) (Nat.le_of_ble_eq_true rfl) rfl ?_
  refine q_aload_n d_Cells_take_0 rfl rfl ?_
  refine q_getR (ci := 1) (fk := 0) d_Cells_take_1 rfl (Nat.le_of_ble_eq_true rfl) w_187 (fun _ _ => rfl) (by first | assumption | rfl | (simp (disch := omega) only [q_upT_self, q_upT_ne, q_upR_self, q_upR_nea, q_upR_nk, q_upT_at, *]; done) | (simp (disch := omega) only [q_upT_self, q_upT_ne, q_upR_self, q_upR_nea, q_upR_nk, q_upT_at, *]; rfl)) (by first | assumption | rfl | (simp (disch := omega) only [q_upT_self, q_upT_ne, q_upR_self, q_upR_nea, q_upR_nk, q_upT_at, *]; done) | (simp (disch := omega) only [q_upT_self, q_upT_ne, q_upR_self, q_upR_nea, q_upR_nk, q_upT_at, *]; rfl)) ?_
  refine q_iload_n d_Cells_take_4 rfl rfl ?_
  refine q_bipush (v := nI 7) d_Cells_take_5 (by decide) ?_
  first | refine q_imulN d_Cells_take_7 ?_ | refine q_imul d_Cells_take_7 ?_
  refine q_aload_n d_Cells_take_8 rfl rfl ?_
  refine q_getR (ci := 1) (fk := 0) d_Cells_take_9 rfl (Nat.le_of_ble_eq_true rfl) w_187 (fun _ _ => rfl) hL.1 (hL.2 0 _ _ _ rfl).1 ?_
  refine q_iload_n d_Cells_take_12 rfl rfl ?_
  refine q_bipush (v := nI 7) d_Cells_take_13 (by decide) ?_
  first | refine q_imulN d_Cells_take_15 ?_ | refine q_imul d_Cells_take_15 ?_
  refine q_bipush (v := nI 7) d_Cells_take_16 (by decide) ?_
  refine q_acopy d_Cells_take_18 w_756 w_757 w_758 w_22 (by first | assumption | rfl | (simp (disch := omega) only [q_upT_self, q_upT_ne, q_upR_self, q_upR_nea, q_upR_nk, q_upT_at, *]; done) | (simp (disch := omega) only [q_upT_self, q_upT_ne, q_upR_self, q_upR_nea, q_upR_nk, q_upT_at, *]; rfl)) (hL.2 0 _ _ _ rfl).2 (by omega) (by omega) (Nat.le_of_ble_eq_true rfl) (by decide +kernel) (Nat.le_of_ble_eq_true rfl) ?_
  refine q_vret d_Cells_take_21 rfl (by omega) (by omega) ?_
  exact ⟨rfl, rfl⟩
theorem c_Cells_takeAll {c c2 N : Nat} (hL : q_L 1 (t_Cells N) c T R) (hL2 : q_L 1 (t_Cells N) c2 T R) (hN : N < 2 ^ 31) :
    q_Cv g M_Cells_takeAll [.ref c, .ref c2] (sz, T, I, R, J) 0 0 (fun h' => h' = (sz, T, k_acp I (c2 + 1) 0 (c + 1) 0 N, R, J)) := by
  have t2 := hL2.1
  have r2 : R c2 (nI 0) = some (c2 + 1) := (hL2.2 0 _ _ _ rfl).1
  have q2 : T (c2 + 1) = some (0, N) := (hL2.2 0 _ _ _ rfl).2
  refine q_C.of (ls0 := [some (.ref c), some (.ref c2)]) (by decide) rfl (by decide) (Nat.le_of_ble_eq_true rfl) rfl ?_
  refine q_aload_n d_Cells_takeAll_0 rfl rfl ?_
  refine q_getR (ci := 1) (fk := 0) d_Cells_takeAll_1 rfl (Nat.le_of_ble_eq_true rfl) w_187 (fun _ _ => rfl) (by first | assumption | rfl | (simp (disch := omega) only [q_upT_self, q_upT_ne, q_upR_self, q_upR_nea, q_upR_nk, q_upT_at, *]; done) | (simp (disch := omega) only [q_upT_self, q_upT_ne, q_upR_self, q_upR_nea, q_upR_nk, q_upT_at, *]; rfl)) (by first | assumption | rfl | (simp (disch := omega) only [q_upT_self, q_upT_ne, q_upR_self, q_upR_nea, q_upR_nk, q_upT_at, *]; done) | (simp (disch := omega) only [q_upT_self, q_upT_ne, q_upR_self, q_upR_nea, q_upR_nk, q_upT_at, *]; rfl)) ?_
  refine q_iconst (v := nI 0) d_Cells_takeAll_4 (by decide) ?_
  refine q_aload_n d_Cells_takeAll_5 rfl rfl ?_
  refine q_getR (ci := 1) (fk := 0) d_Cells_takeAll_6 rfl (Nat.le_of_ble_eq_true rfl) w_187 (fun _ _ => rfl) hL.1 (hL.2 0 _ _ _ rfl).1 ?_
  refine q_iconst (v := nI 0) d_Cells_takeAll_9 (by decide) ?_
  refine q_aload_n d_Cells_takeAll_10 rfl rfl ?_
  refine q_getR (ci := 1) (fk := 0) d_Cells_takeAll_11 rfl (Nat.le_of_ble_eq_true rfl) w_187 (fun _ _ => rfl) hL.1 (hL.2 0 _ _ _ rfl).1 ?_
  refine q_alen d_Cells_takeAll_14 (hL.2 0 _ _ _ rfl).2 (Nat.le_of_ble_eq_true rfl) ?_
  refine q_acopy d_Cells_takeAll_15 w_756 w_757 w_758 w_22 (by first | assumption | rfl | (simp (disch := omega) only [q_upT_self, q_upT_ne, q_upR_self, q_upR_nea, q_upR_nk, q_upT_at, *]; done) | (simp (disch := omega) only [q_upT_self, q_upT_ne, q_upR_self, q_upR_nea, q_upR_nk, q_upT_at, *]; rfl)) (hL.2 0 _ _ _ rfl).2 (by omega) (by omega) (Nat.le_of_ble_eq_true rfl) (by decide +kernel) (Nat.le_of_ble_eq_true rfl) ?_
  refine q_vret d_Cells_takeAll_18 rfl (by omega) (by omega) ?_
  exact ⟨rfl, rfl⟩
/-- a row that is taken over -/
theorem k_acp_rw {a0 a sp dp : Nat} {v : List Int32} (h : k_rw (I a0) sp v) (hd : dp + 7 < 2 ^ 31) : k_rw (k_acp I a0 sp a dp 7 a) dp v := by
  obtain ⟨h1, h2, h3⟩ := h
  refine ⟨h1, ?_, fun i x hx => ?_⟩
  · rw [k_acp_in (by omega) (by omega) (by omega), show sp + (dp - dp) = sp by omega]; exact h2
  · have hi := (List.getElem?_eq_some_iff.mp hx).1
    rw [k_acp_in (by omega) (by omega) (by omega), show sp + (dp + 1 + i - dp) = sp + 1 + i by omega]; exact h3 i x hx
/-- the other rows stay -/
theorem k_acp_rw_ne {a0 a sp dp b : Nat} {v : List Int32} (h : k_rw (I a) b v) (hd : b + 7 ≤ dp ∨ dp + 7 ≤ b) (hb : b + 7 < 2 ^ 31) : k_rw (k_acp I a0 sp a dp 7 a) b v := by
  obtain ⟨h1, h2, h3⟩ := h
  refine ⟨h1, ?_, fun i x hx => ?_⟩
  · rw [k_acp_out (by omega) (by omega)]; exact h2
  · have hi := (List.getElem?_eq_some_iff.mp hx).1
    rw [k_acp_out (by omega) (by omega)]; exact h3 i x hx
end TakeC
