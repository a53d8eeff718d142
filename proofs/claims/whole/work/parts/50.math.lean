/-! min, max, floorDiv of ints -/
section MathC
variable {g : q_G} {sz : Nat} {T : q_T} {I : q_I} {R : q_R} {J : q_J}
theorem c_Math_min {a b : Nat} (ha : a < 2 ^ 31) (hb : b < 2 ^ 31) : q_Ci g M_Math_min_I [.int (nI a), .int (nI b)] (sz, T, I, R, J) 0 0 (fun r h' => r = nI (min a b) ∧ h' = (sz, T, I, R, J)) := by
  refine q_C.ofF (ls0 := [some (.int (nI a)), some (.int (nI b))]) x_min_I rfl (by decide) (Nat.le_of_ble_eq_true rfl) rfl ?_
  refine q_iload_n d_Math_min_I_0 rfl rfl ?_
  refine q_iload_n d_Math_min_I_1 rfl rfl ?_
  refine q_icmp_gt (tgt := 9) d_Math_min_I_2 rfl (fun hc => ?_) (fun hc => ?_)
  · have : ¬ a ≤ b := fun z => absurd hc (by rw [Int32.not_lt, nI_leI ha hb]; exact z)
    refine q_iload_n d_Math_min_I_9 rfl rfl ?_
    refine q_iret d_Math_min_I_10 rfl (by omega) (by omega) ?_
    exact ⟨_, rfl, by rw [Nat.min_eq_right (by omega)], rfl⟩
  · have := Int32.not_lt.mp hc
    rw [nI_leI ha hb] at this
    refine q_iload_n d_Math_min_I_5 rfl rfl ?_
    refine q_goto (tgt := 10) d_Math_min_I_6 rfl ?_
    refine q_iret d_Math_min_I_10 rfl (by omega) (by omega) ?_
    exact ⟨_, rfl, by rw [Nat.min_eq_left this], rfl⟩
theorem c_Math_max {a b : Nat} (ha : a < 2 ^ 31) (hb : b < 2 ^ 31) : q_Ci g M_Math_max_I [.int (nI a), .int (nI b)] (sz, T, I, R, J) 0 0 (fun r h' => r = nI (max a b) ∧ h' = (sz, T, I, R, J)) := by
  refine q_C.ofF (ls0 := [some (.int (nI a)), some (.int (nI b))]) x_max_I rfl (by decide) (Nat.le_of_ble_eq_true rfl) rfl ?_
  refine q_iload_n d_Math_max_I_0 rfl rfl ?_
  refine q_iload_n d_Math_max_I_1 rfl rfl ?_
  refine q_icmp_lt (tgt := 9) d_Math_max_I_2 rfl (fun hc => ?_) (fun hc => ?_)
  · have : ¬ b ≤ a := fun z => absurd hc (by rw [Int32.not_lt, nI_leI hb ha]; exact z)
    refine q_iload_n d_Math_max_I_9 rfl rfl ?_
    refine q_iret d_Math_max_I_10 rfl (by omega) (by omega) ?_
    exact ⟨_, rfl, by rw [Nat.max_eq_right (by omega)], rfl⟩
  · have := Int32.not_lt.mp hc
    rw [nI_leI hb ha] at this
    refine q_iload_n d_Math_max_I_5 rfl rfl ?_
    refine q_goto (tgt := 10) d_Math_max_I_6 rfl ?_
    refine q_iret d_Math_max_I_10 rfl (by omega) (by omega) ?_
    exact ⟨_, rfl, by rw [Nat.max_eq_left this], rfl⟩
theorem c_Math_floorDiv_I {a b : Int32} (hb : ¬ b = 0) : q_Ci g M_Math_floorDiv_I [.int a, .int b] (sz, T, I, R, J) 0 0 (fun r h' => r = k_fdi a b ∧ h' = (sz, T, I, R, J)) := by
  refine q_C.ofF (ls0 := [some (.int a), some (.int b), none]) x_fdI rfl (by decide) (Nat.le_of_ble_eq_true rfl) rfl ?_
  refine q_iload_n d_Math_floorDiv_I_0 rfl rfl ?_
  refine q_iload_n d_Math_floorDiv_I_1 rfl rfl ?_
  refine q_idiv d_Math_floorDiv_I_2 (by assumption) ?_
  refine q_istore_n d_Math_floorDiv_I_3 rfl (Nat.le_of_ble_eq_true rfl) (by first | exact q_ok0 | exact q_okI rfl | exact q_okR rfl | exact q_okN rfl) rfl ?_
  refine q_iload_n d_Math_floorDiv_I_4 rfl rfl ?_
  refine q_iload_n d_Math_floorDiv_I_5 rfl rfl ?_
  refine q_ixor d_Math_floorDiv_I_6 ?_
  refine q_if_ge (tgt := 21) d_Math_floorDiv_I_7 rfl (fun hc => ?_) (fun hc => ?_)
  · have h1 : ¬ a ^^^ b < 0 := Int32.not_lt.mpr hc
    refine q_iload_n d_Math_floorDiv_I_21 rfl rfl ?_
    refine q_iret d_Math_floorDiv_I_22 rfl (by omega) (by omega) ?_
    exact ⟨_, rfl, by unfold k_fdi; rw [if_neg (fun z => h1 z.1)], rfl⟩
  · have h1 : a ^^^ b < 0 := Int32.not_le.mp hc
    refine q_iload_n d_Math_floorDiv_I_10 rfl rfl ?_
    refine q_iload_n d_Math_floorDiv_I_11 rfl rfl ?_
    first | refine q_imulN d_Math_floorDiv_I_12 ?_ | refine q_imul d_Math_floorDiv_I_12 ?_
    refine q_iload_n d_Math_floorDiv_I_13 rfl rfl ?_
    refine q_icmp_eq (tgt := 21) d_Math_floorDiv_I_14 rfl (fun hc => ?_) (fun hc => ?_)
    · have h2 : a / b * b = a := hc
      refine q_iload_n d_Math_floorDiv_I_21 rfl rfl ?_
      refine q_iret d_Math_floorDiv_I_22 rfl (by omega) (by omega) ?_
      exact ⟨_, rfl, by unfold k_fdi; rw [if_neg (fun z => z.2 h2)], rfl⟩
    · have h2 : ¬ a / b * b = a := hc
      refine q_iload_n d_Math_floorDiv_I_17 rfl rfl ?_
      refine q_iconst (v := nI 1) d_Math_floorDiv_I_18 (by decide) ?_
      refine q_isub d_Math_floorDiv_I_19 ?_
      refine q_iret d_Math_floorDiv_I_20 rfl (by omega) (by omega) ?_
      exact ⟨_, rfl, by unfold k_fdi; rw [if_pos ⟨h1, h2⟩]; rfl, rfl⟩
end MathC
