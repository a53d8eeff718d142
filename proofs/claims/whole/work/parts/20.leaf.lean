/-! leaves of the reference: paths -/
abbrev M_Model_find : q_M := (⟨"LensPathsModel", "find", "(I)I"⟩, prog_14_method_9_code, 3, (some .int), "LensPathsModel", [], false, 0, 0)
theorem d_Model_find_0 : decode prog_14_method_9_code 0 = .ok (.iconst 0, 1) := by decide +kernel
theorem d_Model_find_1 : decode prog_14_method_9_code 1 = .ok (.istore_n 2, 1) := by decide +kernel
theorem d_Model_find_2 : decode prog_14_method_9_code 2 = .ok (.iload_n 2, 1) := by decide +kernel
theorem d_Model_find_3 : decode prog_14_method_9_code 3 = .ok (.aload_n 0, 1) := by decide +kernel
theorem d_Model_find_4 : decode prog_14_method_9_code 4 = .ok (.getfield 108, 3) := by decide +kernel
theorem d_Model_find_7 : decode prog_14_method_9_code 7 = .ok (.if_icmp .ge 21, 3) := by decide +kernel
theorem d_Model_find_10 : decode prog_14_method_9_code 10 = .ok (.aload_n 0, 1) := by decide +kernel
theorem d_Model_find_11 : decode prog_14_method_9_code 11 = .ok (.getfield 53, 3) := by decide +kernel
theorem d_Model_find_14 : decode prog_14_method_9_code 14 = .ok (.iload_n 2, 1) := by decide +kernel
theorem d_Model_find_15 : decode prog_14_method_9_code 15 = .ok (.iaload, 1) := by decide +kernel
theorem d_Model_find_16 : decode prog_14_method_9_code 16 = .ok (.iload_n 1, 1) := by decide +kernel
theorem d_Model_find_17 : decode prog_14_method_9_code 17 = .ok (.if_icmp .ne 5, 3) := by decide +kernel
theorem d_Model_find_20 : decode prog_14_method_9_code 20 = .ok (.iload_n 2, 1) := by decide +kernel
theorem d_Model_find_21 : decode prog_14_method_9_code 21 = .ok (.ireturn, 1) := by decide +kernel
theorem d_Model_find_22 : decode prog_14_method_9_code 22 = .ok (.iinc 2 1, 3) := by decide +kernel
theorem d_Model_find_25 : decode prog_14_method_9_code 25 = .ok (.goto (-23), 3) := by decide +kernel
theorem d_Model_find_28 : decode prog_14_method_9_code 28 = .ok (.iconst (-1), 1) := by decide +kernel
theorem d_Model_find_29 : decode prog_14_method_9_code 29 = .ok (.ireturn, 1) := by decide +kernel
abbrev M_Model_nearest : q_M := (⟨"LensPathsModel", "nearest", "(II)I"⟩, prog_14_method_11_code, 2, (some .int), "LensPathsModel", [], false, 0, 0)
theorem d_Model_nearest_0 : decode prog_14_method_11_code 0 = .ok (.iload_n 0, 1) := by decide +kernel
theorem d_Model_nearest_1 : decode prog_14_method_11_code 1 = .ok (.ifCond .le 7, 3) := by decide +kernel
theorem d_Model_nearest_4 : decode prog_14_method_11_code 4 = .ok (.iload_n 0, 1) := by decide +kernel
theorem d_Model_nearest_5 : decode prog_14_method_11_code 5 = .ok (.goto 12, 3) := by decide +kernel
theorem d_Model_nearest_8 : decode prog_14_method_11_code 8 = .ok (.iload_n 1, 1) := by decide +kernel
theorem d_Model_nearest_9 : decode prog_14_method_11_code 9 = .ok (.ifCond .ge 7, 3) := by decide +kernel
theorem d_Model_nearest_12 : decode prog_14_method_11_code 12 = .ok (.iload_n 1, 1) := by decide +kernel
theorem d_Model_nearest_13 : decode prog_14_method_11_code 13 = .ok (.goto 4, 3) := by decide +kernel
theorem d_Model_nearest_16 : decode prog_14_method_11_code 16 = .ok (.iconst 0, 1) := by decide +kernel
theorem d_Model_nearest_17 : decode prog_14_method_11_code 17 = .ok (.ireturn, 1) := by decide +kernel
section MLeaf
variable {g : q_G} {sz : Nat} {T : q_T} {I : q_I} {R : q_R} {J : q_J}
def p_near (a b : Int32) : Int32 := if 0 < a then a else if b < 0 then b else 0
theorem c_Model_nearest (a b : Int32) : q_Ci g M_Model_nearest [.int a, .int b] (sz, T, I, R, J) 0 0 (fun r h' => r = p_near a b ∧ h' = (sz, T, I, R, J)) := by
  refine q_C.of (ls0 := [some (.int a), some (.int b)]) (by decide) rfl (by decide) (Nat.le_of_ble_eq_true rfl) rfl ?_
  refine q_iload_n d_Model_nearest_0 rfl rfl ?_
  refine q_if_le (tgt := 8) d_Model_nearest_1 rfl (fun hc => ?_) (fun hc => ?_)
  · have h0 : ¬ 0 < a := by rw [Int32.lt_iff_toInt_lt]; rw [Int32.le_iff_toInt_le] at hc; omega
    refine q_iload_n d_Model_nearest_8 rfl rfl ?_
    refine q_if_ge (tgt := 16) d_Model_nearest_9 rfl (fun hc => ?_) (fun hc => ?_)
    · refine q_iconst (v := nI 0) d_Model_nearest_16 (by decide) ?_
      refine q_iret d_Model_nearest_17 rfl (by omega) (by omega) ?_
      refine ⟨_, rfl, ?_, rfl⟩
      have h1 : ¬ b < 0 := by rw [Int32.lt_iff_toInt_lt]; rw [Int32.le_iff_toInt_le] at hc; omega
      rw [p_near, if_neg h0, if_neg h1]
      rfl
    · refine q_iload_n d_Model_nearest_12 rfl rfl ?_
      refine q_goto (tgt := 17) d_Model_nearest_13 rfl ?_
      refine q_iret d_Model_nearest_17 rfl (by omega) (by omega) ?_
      refine ⟨_, rfl, ?_, rfl⟩
      have h1 : b < 0 := by rw [Int32.lt_iff_toInt_lt]; rw [Int32.le_iff_toInt_le] at hc; omega
      rw [p_near, if_neg h0, if_pos h1]
  · refine q_iload_n d_Model_nearest_4 rfl rfl ?_
    refine q_goto (tgt := 17) d_Model_nearest_5 rfl ?_
    refine q_iret d_Model_nearest_17 rfl (by omega) (by omega) ?_
    have h0 : 0 < a := by rw [Int32.lt_iff_toInt_lt]; rw [Int32.le_iff_toInt_le] at hc; omega
    exact ⟨_, rfl, by rw [p_near, if_pos h0], rfl⟩
/-- the first place below n that holds p -/
def p_find (f : Int32 → Int32) (p : Int32) (n : Nat) : Nat → Int32
  | 0 => -1
  | j + 1 => if f (nI (n - (j + 1))) = p then nI (n - (j + 1)) else p_find f p n j
theorem c_Model_find (m : Nat) (p : Int32) (n : Nat) (hL : q_L 11 t_Model m T R) (hn : I m (nI 18) = nI n) (hn2 : n ≤ 26) : q_Ci g M_Model_find [.ref m, .int p] (sz, T, I, R, J) 0 0 (fun r h' => r = p_find (I (m + 14)) p n n ∧ h' = (sz, T, I, R, J)) := by
  refine q_C.of (ls0 := [some (.ref m), some (.int p), none]) (by decide) rfl (by decide) (Nat.le_of_ble_eq_true rfl) rfl ?_
  have loop : ∀ (j k : Nat), k + j = n → q_V g M_Model_find 0 0 0 0 (sz, T, I, R, J) (fun o h' => ∃ r : Int32, o = .inl (some (.int r)) ∧ (r = p_find (I (m + 14)) p n j ∧ h' = (sz, T, I, R, J))) 2 [some (.ref m), some (.int p), some (.int (nI k))] [] := by
    intro j
    induction j with
    | zero =>
      intro k hk
      refine q_iload_n d_Model_find_2 rfl rfl ?_
      refine q_aload_n d_Model_find_3 rfl rfl ?_
      refine q_getI (ci := 11) (fk := 18) d_Model_find_4 rfl (Nat.le_of_ble_eq_true rfl) w_1122 (fun _ _ => rfl) hL.1 ?_
      refine q_icmp_ge (tgt := 28) d_Model_find_7 rfl (fun hc => ?_) (fun hc => ?_)
      · refine q_iconst (v := (-1)) d_Model_find_28 (by decide) ?_
        refine q_iret d_Model_find_29 rfl (by omega) (by omega) ?_
        exact ⟨_, rfl, rfl, rfl⟩
      · rw [hn] at hc
        exact absurd (nI_le (by omega) (by omega)) hc
    | succ j ih =>
      intro k hk
      refine q_iload_n d_Model_find_2 rfl rfl ?_
      refine q_aload_n d_Model_find_3 rfl rfl ?_
      refine q_getI (ci := 11) (fk := 18) d_Model_find_4 rfl (Nat.le_of_ble_eq_true rfl) w_1122 (fun _ _ => rfl) hL.1 ?_
      refine q_icmp_ge (tgt := 28) d_Model_find_7 rfl (fun hc => ?_) (fun hc => ?_)
      · rw [hn] at hc
        exact absurd hc (nI_ge (by omega) (by omega))
      · refine q_aload_n d_Model_find_10 rfl rfl ?_
        refine q_getR (ci := 11) (fk := 19) d_Model_find_11 rfl (Nat.le_of_ble_eq_true rfl) w_1123 (fun _ _ => rfl) hL.1 (hL.2 19 _ _ _ rfl).1 ?_
        refine q_iload_n d_Model_find_14 rfl rfl ?_
        refine q_iald d_Model_find_15 (hL.2 19 _ _ _ rfl).2 (by first | assumption | exact vp_in_nI (by omega) (by omega)) ?_
        refine q_iload_n d_Model_find_16 rfl rfl ?_
        refine q_icmp_ne (tgt := 22) d_Model_find_17 rfl (fun hc => ?_) (fun hc => ?_)
        · first | refine q_iincN d_Model_find_22 rfl (Nat.le_of_ble_eq_true rfl) (by first | exact q_ok0 | exact q_okI rfl | exact q_okR rfl | exact q_okN rfl) rfl ?_ | refine q_iinc d_Model_find_22 rfl rfl (Nat.le_of_ble_eq_true rfl) (by first | exact q_ok0 | exact q_okI rfl | exact q_okR rfl | exact q_okN rfl) rfl ?_
          refine q_goto (tgt := 2) d_Model_find_25 rfl ?_
          refine q_Vmono ?_ (ih (k + 1) (by omega))
          rintro o h' ⟨r, e1, e2, e3⟩
          refine ⟨r, e1, ?_, e3⟩
          rw [p_find, if_neg (by rw [show n - (j + 1) = k by omega]; exact hc)]
          exact e2
        · refine q_iload_n d_Model_find_20 rfl rfl ?_
          refine q_iret d_Model_find_21 rfl (by omega) (by omega) ?_
          refine ⟨_, rfl, ?_, rfl⟩
          rw [p_find, show n - (j + 1) = k by omega, if_pos hc]
  refine q_iconst (v := nI 0) d_Model_find_0 (by decide) ?_
  refine q_istore_n d_Model_find_1 rfl (Nat.le_of_ble_eq_true rfl) (by first | exact q_ok0 | exact q_okI rfl | exact q_okR rfl | exact q_okN rfl) rfl ?_
  exact loop n 0 (by omega)
end MLeaf
