/-! the reference's methods over paths, on -/
abbrev M_Model_cutTo : q_M := (⟨"LensPathsModel", "cutTo", "(II)I"⟩, prog_14_method_4_code, 2, (some .int), "LensPathsModel", [], false, 0, 0)
theorem d_Model_cutTo_0 : decode prog_14_method_4_code 0 = .ok (.iload_n 1, 1) := by decide +kernel
theorem d_Model_cutTo_1 : decode prog_14_method_4_code 1 = .ok (.iconst 4, 1) := by decide +kernel
theorem d_Model_cutTo_2 : decode prog_14_method_4_code 2 = .ok (.if_icmp .lt 7, 3) := by decide +kernel
theorem d_Model_cutTo_5 : decode prog_14_method_4_code 5 = .ok (.iload_n 0, 1) := by decide +kernel
theorem d_Model_cutTo_6 : decode prog_14_method_4_code 6 = .ok (.goto 13, 3) := by decide +kernel
theorem d_Model_cutTo_9 : decode prog_14_method_4_code 9 = .ok (.iload_n 0, 1) := by decide +kernel
theorem d_Model_cutTo_10 : decode prog_14_method_4_code 10 = .ok (.iconst 1, 1) := by decide +kernel
theorem d_Model_cutTo_11 : decode prog_14_method_4_code 11 = .ok (.bipush 7, 2) := by decide +kernel
theorem d_Model_cutTo_13 : decode prog_14_method_4_code 13 = .ok (.iload_n 1, 1) := by decide +kernel
theorem d_Model_cutTo_14 : decode prog_14_method_4_code 14 = .ok (.imul, 1) := by decide +kernel
theorem d_Model_cutTo_15 : decode prog_14_method_4_code 15 = .ok (.ishl, 1) := by decide +kernel
theorem d_Model_cutTo_16 : decode prog_14_method_4_code 16 = .ok (.iconst 1, 1) := by decide +kernel
theorem d_Model_cutTo_17 : decode prog_14_method_4_code 17 = .ok (.isub, 1) := by decide +kernel
theorem d_Model_cutTo_18 : decode prog_14_method_4_code 18 = .ok (.iand, 1) := by decide +kernel
theorem d_Model_cutTo_19 : decode prog_14_method_4_code 19 = .ok (.ireturn, 1) := by decide +kernel
abbrev M_Model_lastName : q_M := (⟨"LensPathsModel", "lastName", "(II)I"⟩, prog_14_method_5_code, 2, (some .int), "LensPathsModel", [], false, 0, 0)
theorem d_Model_lastName_0 : decode prog_14_method_5_code 0 = .ok (.iload_n 0, 1) := by decide +kernel
theorem d_Model_lastName_1 : decode prog_14_method_5_code 1 = .ok (.bipush 7, 2) := by decide +kernel
theorem d_Model_lastName_3 : decode prog_14_method_5_code 3 = .ok (.iload_n 1, 1) := by decide +kernel
theorem d_Model_lastName_4 : decode prog_14_method_5_code 4 = .ok (.iconst 1, 1) := by decide +kernel
theorem d_Model_lastName_5 : decode prog_14_method_5_code 5 = .ok (.isub, 1) := by decide +kernel
theorem d_Model_lastName_6 : decode prog_14_method_5_code 6 = .ok (.imul, 1) := by decide +kernel
theorem d_Model_lastName_7 : decode prog_14_method_5_code 7 = .ok (.ishr, 1) := by decide +kernel
theorem d_Model_lastName_8 : decode prog_14_method_5_code 8 = .ok (.bipush 127, 2) := by decide +kernel
theorem d_Model_lastName_10 : decode prog_14_method_5_code 10 = .ok (.iand, 1) := by decide +kernel
theorem d_Model_lastName_11 : decode prog_14_method_5_code 11 = .ok (.ireturn, 1) := by decide +kernel
abbrev M_Model_inside : q_M := (⟨"LensPathsModel", "inside", "(III)I"⟩, prog_14_method_6_code, 3, (some .int), "LensPathsModel", [], false, 0, 0)
theorem d_Model_inside_0 : decode prog_14_method_6_code 0 = .ok (.iload_n 0, 1) := by decide +kernel
theorem d_Model_inside_1 : decode prog_14_method_6_code 1 = .ok (.iload_n 2, 1) := by decide +kernel
theorem d_Model_inside_2 : decode prog_14_method_6_code 2 = .ok (.bipush 7, 2) := by decide +kernel
theorem d_Model_inside_4 : decode prog_14_method_6_code 4 = .ok (.iload_n 1, 1) := by decide +kernel
theorem d_Model_inside_5 : decode prog_14_method_6_code 5 = .ok (.imul, 1) := by decide +kernel
theorem d_Model_inside_6 : decode prog_14_method_6_code 6 = .ok (.ishl, 1) := by decide +kernel
theorem d_Model_inside_7 : decode prog_14_method_6_code 7 = .ok (.ior, 1) := by decide +kernel
theorem d_Model_inside_8 : decode prog_14_method_6_code 8 = .ok (.ireturn, 1) := by decide +kernel
abbrev M_Model_isIn : q_M := (⟨"LensPathsModel", "isIn", "(III)Z"⟩, prog_14_method_7_code, 3, (some .boolean), "LensPathsModel", [], false, 1, 21)
theorem d_Model_isIn_0 : decode prog_14_method_7_code 0 = .ok (.iload_n 0, 1) := by decide +kernel
theorem d_Model_isIn_1 : decode prog_14_method_7_code 1 = .ok (.iload_n 2, 1) := by decide +kernel
theorem d_Model_isIn_2 : decode prog_14_method_7_code 2 = .ok (.invokestatic 104, 3) := by decide +kernel
theorem d_Model_isIn_5 : decode prog_14_method_7_code 5 = .ok (.iload_n 1, 1) := by decide +kernel
theorem d_Model_isIn_6 : decode prog_14_method_7_code 6 = .ok (.if_icmp .ne 7, 3) := by decide +kernel
theorem d_Model_isIn_9 : decode prog_14_method_7_code 9 = .ok (.iconst 1, 1) := by decide +kernel
theorem d_Model_isIn_10 : decode prog_14_method_7_code 10 = .ok (.goto 4, 3) := by decide +kernel
theorem d_Model_isIn_13 : decode prog_14_method_7_code 13 = .ok (.iconst 0, 1) := by decide +kernel
theorem d_Model_isIn_14 : decode prog_14_method_7_code 14 = .ok (.ireturn, 1) := by decide +kernel
abbrev M_Model_before : q_M := (⟨"LensPathsModel", "before", "(II)Z"⟩, prog_14_method_8_code, 4, (some .boolean), "LensPathsModel", [], false, 0, 0)
theorem d_Model_before_0 : decode prog_14_method_8_code 0 = .ok (.iload_n 0, 1) := by decide +kernel
theorem d_Model_before_1 : decode prog_14_method_8_code 1 = .ok (.istore_n 2, 1) := by decide +kernel
theorem d_Model_before_2 : decode prog_14_method_8_code 2 = .ok (.iload_n 1, 1) := by decide +kernel
theorem d_Model_before_3 : decode prog_14_method_8_code 3 = .ok (.istore_n 3, 1) := by decide +kernel
theorem d_Model_before_4 : decode prog_14_method_8_code 4 = .ok (.iload_n 2, 1) := by decide +kernel
theorem d_Model_before_5 : decode prog_14_method_8_code 5 = .ok (.bipush 127, 2) := by decide +kernel
theorem d_Model_before_7 : decode prog_14_method_8_code 7 = .ok (.iand, 1) := by decide +kernel
theorem d_Model_before_8 : decode prog_14_method_8_code 8 = .ok (.iload_n 3, 1) := by decide +kernel
theorem d_Model_before_9 : decode prog_14_method_8_code 9 = .ok (.bipush 127, 2) := by decide +kernel
theorem d_Model_before_11 : decode prog_14_method_8_code 11 = .ok (.iand, 1) := by decide +kernel
theorem d_Model_before_12 : decode prog_14_method_8_code 12 = .ok (.if_icmp .ne 20, 3) := by decide +kernel
theorem d_Model_before_15 : decode prog_14_method_8_code 15 = .ok (.iload_n 2, 1) := by decide +kernel
theorem d_Model_before_16 : decode prog_14_method_8_code 16 = .ok (.ifCond .eq 16, 3) := by decide +kernel
theorem d_Model_before_19 : decode prog_14_method_8_code 19 = .ok (.iload_n 2, 1) := by decide +kernel
theorem d_Model_before_20 : decode prog_14_method_8_code 20 = .ok (.bipush 7, 2) := by decide +kernel
theorem d_Model_before_22 : decode prog_14_method_8_code 22 = .ok (.ishr, 1) := by decide +kernel
theorem d_Model_before_23 : decode prog_14_method_8_code 23 = .ok (.istore_n 2, 1) := by decide +kernel
theorem d_Model_before_24 : decode prog_14_method_8_code 24 = .ok (.iload_n 3, 1) := by decide +kernel
theorem d_Model_before_25 : decode prog_14_method_8_code 25 = .ok (.bipush 7, 2) := by decide +kernel
theorem d_Model_before_27 : decode prog_14_method_8_code 27 = .ok (.ishr, 1) := by decide +kernel
theorem d_Model_before_28 : decode prog_14_method_8_code 28 = .ok (.istore_n 3, 1) := by decide +kernel
theorem d_Model_before_29 : decode prog_14_method_8_code 29 = .ok (.goto (-25), 3) := by decide +kernel
theorem d_Model_before_32 : decode prog_14_method_8_code 32 = .ok (.iload_n 2, 1) := by decide +kernel
theorem d_Model_before_33 : decode prog_14_method_8_code 33 = .ok (.bipush 127, 2) := by decide +kernel
theorem d_Model_before_35 : decode prog_14_method_8_code 35 = .ok (.iand, 1) := by decide +kernel
theorem d_Model_before_36 : decode prog_14_method_8_code 36 = .ok (.iload_n 3, 1) := by decide +kernel
theorem d_Model_before_37 : decode prog_14_method_8_code 37 = .ok (.bipush 127, 2) := by decide +kernel
theorem d_Model_before_39 : decode prog_14_method_8_code 39 = .ok (.iand, 1) := by decide +kernel
theorem d_Model_before_40 : decode prog_14_method_8_code 40 = .ok (.if_icmp .ge 7, 3) := by decide +kernel
theorem d_Model_before_43 : decode prog_14_method_8_code 43 = .ok (.iconst 1, 1) := by decide +kernel
theorem d_Model_before_44 : decode prog_14_method_8_code 44 = .ok (.goto 4, 3) := by decide +kernel
theorem d_Model_before_47 : decode prog_14_method_8_code 47 = .ok (.iconst 0, 1) := by decide +kernel
theorem d_Model_before_48 : decode prog_14_method_8_code 48 = .ok (.ireturn, 1) := by decide +kernel
section PathE
variable {g : q_G} {sz : Nat} {T : q_T} {I : q_I} {R : q_R} {J : q_J}
theorem k_p28 {l : List Nat} (h : k_ok 4 l) : k_path l < 2 ^ 28 := by
  have h1 := k_path_lt h
  rw [show (128 : Nat) ^ 4 = 2 ^ 28 by decide] at h1
  exact h1
theorem k_le100 {j : Nat} {l : List Nat} (h : k_ok j l) : ∀ n ∈ l, n ≤ 100 := fun n hn => (h.2 n hn).2
theorem c_Model_cutTo {l : List Nat} (h : k_ok 4 l) {d : Nat} (hd : d < 2 ^ 31) : q_Ci g M_Model_cutTo [.int (nI (k_path l)), .int (nI d)] (sz, T, I, R, J) 0 0 (fun r h' => r = nI (k_path (l.take d)) ∧ h' = (sz, T, I, R, J)) := by
  refine q_C.of (ls0 := [some (.int (nI (k_path l))), some (.int (nI d))]) (by decide) rfl (by decide) (Nat.le_of_ble_eq_true rfl) rfl ?_
  have hP := k_p28 h
  have h4 := h.1
  refine q_iload_n d_Model_cutTo_0 rfl rfl ?_
  refine q_iconst (v := nI 4) d_Model_cutTo_1 (by decide) ?_
  refine q_icmp_lt (tgt := 9) d_Model_cutTo_2 rfl (fun hc => ?_) (fun hc => ?_)
  · rw [nI_ltI (by omega) (by omega)] at hc
    refine q_iload_n d_Model_cutTo_9 rfl rfl ?_
    refine q_iconst (v := nI 1) d_Model_cutTo_10 (by decide) ?_
    refine q_bipush (v := nI 7) d_Model_cutTo_11 (by decide) ?_
    refine q_iload_n d_Model_cutTo_13 rfl rfl ?_
    first | refine q_imulN d_Model_cutTo_14 ?_ | refine q_imul d_Model_cutTo_14 ?_
    refine q_ishl d_Model_cutTo_15 ?_
    rw [k_shl _ (by omega)]
    refine q_iconst (v := nI 1) d_Model_cutTo_16 (by decide) ?_
    refine q_isub d_Model_cutTo_17 ?_
    have hpos : 0 < 2 ^ (7 * d) := Nat.two_pow_pos _
    have hlt : 2 ^ (7 * d) ≤ 2 ^ 21 := Nat.pow_le_pow_right (by decide) (by omega)
    rw [pk_sub (by omega), Nat.one_mul]
    refine q_iand d_Model_cutTo_18 ?_
    rw [pk_andN (by omega) (7 * d) (pk_tn (by omega)), Nat.pow_mul, show (2 : Nat) ^ 7 = 128 from rfl, k_path_take l d (k_le100 h)]
    refine q_iret d_Model_cutTo_19 rfl (by omega) (by omega) ?_
    exact ⟨_, rfl, rfl, rfl⟩
  · rw [nI_ltI (by omega) (by omega)] at hc
    refine q_iload_n d_Model_cutTo_5 rfl rfl ?_
    refine q_goto (tgt := 19) d_Model_cutTo_6 rfl ?_
    refine q_iret d_Model_cutTo_19 rfl (by omega) (by omega) ?_
    exact ⟨_, rfl, by rw [List.take_of_length_le (by omega)], rfl⟩
theorem k_lastd {l : List Nat} (h : k_ok 4 l) (h0 : l ≠ []) : k_path l / 2 ^ (7 * (l.length - 1)) % 128 = l.getLast h0 := by
  have hx := k_le100 h _ (List.getLast_mem h0)
  rw [Nat.pow_mul, show (2 : Nat) ^ 7 = 128 from rfl, k_path_drop l _ (k_le100 h)]
  have e2 : l.drop (l.length - 1) = [l.getLast h0] := by
    clear hx h
    obtain ⟨d, x, rfl⟩ : ∃ d x, l = d ++ [x] := ⟨_, _, (List.dropLast_concat_getLast h0).symm⟩
    rw [List.length_append, List.length_singleton, Nat.add_sub_cancel, List.drop_left]
    simp
  rw [e2]
  show (l.getLast h0 + 128 * 0) % 128 = _
  omega
theorem c_Model_lastName {l : List Nat} (h : k_ok 4 l) (h0 : l ≠ []) : q_Ci g M_Model_lastName [.int (nI (k_path l)), .int (nI l.length)] (sz, T, I, R, J) 0 0 (fun r h' => r = nI (l.getLast h0) ∧ h' = (sz, T, I, R, J)) := by
  refine q_C.of (ls0 := [some (.int (nI (k_path l))), some (.int (nI l.length))]) (by decide) rfl (by decide) (Nat.le_of_ble_eq_true rfl) rfl ?_
  have hP := k_p28 h
  have h4 := h.1
  have h1 := List.length_pos_iff.mpr h0
  refine q_iload_n d_Model_lastName_0 rfl rfl ?_
  refine q_bipush (v := nI 7) d_Model_lastName_1 (by decide) ?_
  refine q_iload_n d_Model_lastName_3 rfl rfl ?_
  refine q_iconst (v := nI 1) d_Model_lastName_4 (by decide) ?_
  refine q_isub d_Model_lastName_5 ?_
  rw [pk_sub (by omega)]
  first | refine q_imulN d_Model_lastName_6 ?_ | refine q_imul d_Model_lastName_6 ?_
  refine q_ishr d_Model_lastName_7 ?_
  rw [k_shr (by omega) (by omega)]
  refine q_bipush (v := nI 127) d_Model_lastName_8 (by decide) ?_
  refine q_iand d_Model_lastName_10 ?_
  rw [k_and127 (Nat.lt_of_le_of_lt (Nat.div_le_self _ _) (by omega)), k_lastd h h0]
  refine q_iret d_Model_lastName_11 rfl (by omega) (by omega) ?_
  exact ⟨_, rfl, rfl, rfl⟩
theorem c_Model_inside {l : List Nat} (h : k_ok 4 l) (h3 : l.length ≤ 3) (n : Nat) : q_Ci g M_Model_inside [.int (nI (k_path l)), .int (nI l.length), .int (nI n)] (sz, T, I, R, J) 0 0 (fun r h' => r = nI (k_path (l ++ [n])) ∧ h' = (sz, T, I, R, J)) := by
  refine q_C.of (ls0 := [some (.int (nI (k_path l))), some (.int (nI l.length)), some (.int (nI n))]) (by decide) rfl (by decide) (Nat.le_of_ble_eq_true rfl) rfl ?_
  have hlt : k_path l < 2 ^ (7 * l.length) := by
    rw [Nat.pow_mul, show (2 : Nat) ^ 7 = 128 from rfl]
    exact k_path_lt ⟨Nat.le_refl _, h.2⟩
  refine q_iload_n d_Model_inside_0 rfl rfl ?_
  refine q_iload_n d_Model_inside_1 rfl rfl ?_
  refine q_bipush (v := nI 7) d_Model_inside_2 (by decide) ?_
  refine q_iload_n d_Model_inside_4 rfl rfl ?_
  first | refine q_imulN d_Model_inside_5 ?_ | refine q_imul d_Model_inside_5 ?_
  refine q_ishl d_Model_inside_6 ?_
  rw [k_shl _ (by omega)]
  refine q_ior d_Model_inside_7 ?_
  rw [Int32.or_comm, k_orA hlt]
  refine q_iret d_Model_inside_8 rfl (by omega) (by omega) ?_
  refine ⟨_, rfl, ?_, rfl⟩
  rw [k_path_app, Nat.pow_mul, show (2 : Nat) ^ 7 = 128 from rfl]
  congr 1
  show n * 128 ^ l.length + k_path l = k_path l + 128 ^ l.length * (n + 128 * 0)
  rw [Nat.mul_zero, Nat.add_zero, Nat.mul_comm n, Nat.add_comm]
theorem c_Model_isIn {l m : List Nat} (hl : k_ok 4 l) (hm : k_ok 4 m) : q_Ci g M_Model_isIn [.int (nI (k_path l)), .int (nI (k_path m)), .int (nI m.length)] (sz, T, I, R, J) 0 0 (fun r h' => r = (if m <+: l then nI 1 else nI 0) ∧ h' = (sz, T, I, R, J)) := by
  refine q_C.of (ls0 := [some (.int (nI (k_path l))), some (.int (nI (k_path m))), some (.int (nI m.length))]) (by decide) rfl (by decide) (Nat.le_of_ble_eq_true rfl) rfl ?_
  have h4 := hm.1
  have ht : k_ok 4 (l.take m.length) := ⟨by rw [List.length_take]; omega, fun n hn => hl.2 n (List.mem_of_mem_take hn)⟩
  have h1 := k_p28 ht
  have h2 := k_p28 hm
  have hiff : nI (k_path (l.take m.length)) = nI (k_path m) ↔ m <+: l := by
    rw [nI_eq (by omega) (by omega), List.prefix_iff_eq_take]
    constructor
    · intro z; exact (k_path_inj ht hm z).symm
    · intro z; rw [← z]
  refine q_iload_n d_Model_isIn_0 rfl rfl ?_
  refine q_iload_n d_Model_isIn_1 rfl rfl ?_
  refine q_callSi (M2 := M_Model_cutTo) d_Model_isIn_2 ⟨(Nat.le_of_ble_eq_true rfl), (Nat.le_of_ble_eq_true rfl), w_1258, w_10, ⟨by decide, by decide⟩, show _ = some 2 by decide +kernel⟩ w_1256 w_1257 rfl (Nat.le_of_ble_eq_true rfl) (by omega) (by omega) (c_Model_cutTo hl (by omega)) ?_
  rintro _ _ ⟨rfl, rfl⟩
  refine q_iload_n d_Model_isIn_5 rfl rfl ?_
  refine q_icmp_ne (tgt := 13) d_Model_isIn_6 rfl (fun hc => ?_) (fun hc => ?_)
  · refine q_iconst (v := nI 0) d_Model_isIn_13 (by decide) ?_
    refine q_zret d_Model_isIn_14 rfl (by first | exact Or.inl rfl | exact Or.inr rfl | assumption) (by omega) (by omega) ?_
    exact ⟨_, rfl, by rw [if_neg (fun z => hc (hiff.mpr z))], rfl⟩
  · refine q_iconst (v := nI 1) d_Model_isIn_9 (by decide) ?_
    refine q_goto (tgt := 14) d_Model_isIn_10 rfl ?_
    refine q_zret d_Model_isIn_14 rfl (by first | exact Or.inl rfl | exact Or.inr rfl | assumption) (by omega) (by omega) ?_
    exact ⟨_, rfl, by rw [if_pos (hiff.mp hc)], rfl⟩
theorem c_Model_before {l m : List Nat} (hl : k_ok 4 l) (hm : k_ok 4 m) : q_Ci g M_Model_before [.int (nI (k_path l)), .int (nI (k_path m))] (sz, T, I, R, J) 0 0 (fun r h' => r = (if k_bef l m = true then nI 1 else nI 0) ∧ h' = (sz, T, I, R, J)) := by
  refine q_C.of (ls0 := [some (.int (nI (k_path l))), some (.int (nI (k_path m))), none, none]) (by decide) rfl (by decide) (Nat.le_of_ble_eq_true rfl) rfl ?_
  have loop : ∀ (l' m' : List Nat), k_ok 4 l' → k_ok 4 m' → q_V g M_Model_before 0 0 0 0 (sz, T, I, R, J) (fun o h' => ∃ r : Int32, o = .inl (some (.int r)) ∧ (r = (if k_bef l' m' = true then nI 1 else nI 0) ∧ h' = (sz, T, I, R, J))) 4 [some (.int (nI (k_path l))), some (.int (nI (k_path m))), some (.int (nI (k_path l'))), some (.int (nI (k_path m')))] [] := by
    intro l'
    induction l' with
    | nil =>
      intro m' hl' hm'
      have h2 := k_p28 hm'
      refine q_iload_n d_Model_before_4 rfl rfl ?_
      refine q_bipush (v := nI 127) d_Model_before_5 (by decide) ?_
      refine q_iand d_Model_before_7 ?_
      rw [show k_path [] = 0 from rfl, k_and127 (by omega)]
      refine q_iload_n d_Model_before_8 rfl rfl ?_
      refine q_bipush (v := nI 127) d_Model_before_9 (by decide) ?_
      refine q_iand d_Model_before_11 ?_
      rw [k_and127 (by omega)]
      have fin : q_V g M_Model_before 0 0 0 0 (sz, T, I, R, J) (fun o h' => ∃ r : Int32, o = .inl (some (.int r)) ∧ (r = (if k_bef [] m' = true then nI 1 else nI 0) ∧ h' = (sz, T, I, R, J))) 32 [some (.int (nI (k_path l))), some (.int (nI (k_path m))), some (.int (nI 0)), some (.int (nI (k_path m')))] [] := by
        refine q_iload_n d_Model_before_32 rfl rfl ?_
        refine q_bipush (v := nI 127) d_Model_before_33 (by decide) ?_
        refine q_iand d_Model_before_35 ?_
        rw [k_and127 (by omega)]
        refine q_iload_n d_Model_before_36 rfl rfl ?_
        refine q_bipush (v := nI 127) d_Model_before_37 (by decide) ?_
        refine q_iand d_Model_before_39 ?_
        rw [k_and127 (by omega)]
        cases m' with
        | nil =>
          refine q_icmp_ge (tgt := 47) d_Model_before_40 rfl (fun hc => ?_) (fun hc => ?_)
          · refine q_iconst (v := nI 0) d_Model_before_47 (by decide) ?_
            refine q_zret d_Model_before_48 rfl (by first | exact Or.inl rfl | exact Or.inr rfl | assumption) (by omega) (by omega) ?_
            exact ⟨_, rfl, rfl, rfl⟩
          · exact absurd (show nI (0 % 128) ≤ nI (0 % 128) from Int32.le_refl _) hc
        | cons y u =>
          have hy := hm'.2 y List.mem_cons_self
          have e : k_path (y :: u) % 128 = y := by show (y + 128 * k_path u) % 128 = y; omega
          rw [e]
          refine q_icmp_ge (tgt := 47) d_Model_before_40 rfl (fun hc => ?_) (fun hc => ?_)
          · rw [nI_leI (by omega) (by omega)] at hc
            omega
          · refine q_iconst (v := nI 1) d_Model_before_43 (by decide) ?_
            refine q_goto (tgt := 48) d_Model_before_44 rfl ?_
            refine q_zret d_Model_before_48 rfl (by first | exact Or.inl rfl | exact Or.inr rfl | assumption) (by omega) (by omega) ?_
            exact ⟨_, rfl, rfl, rfl⟩
      refine q_icmp_ne (tgt := 32) d_Model_before_12 rfl (fun hc => ?_) (fun hc => ?_)
      · exact fin
      · refine q_iload_n d_Model_before_15 rfl rfl ?_
        refine q_if_eq (tgt := 32) d_Model_before_16 rfl (fun hc => ?_) (fun hc => ?_)
        · exact fin
        · exact absurd rfl hc
    | cons x t ih =>
      intro m' hl' hm'
      have h1 := k_p28 hl'
      have h2 := k_p28 hm'
      have hx := hl'.2 x List.mem_cons_self
      have e1 : k_path (x :: t) % 128 = x := by show (x + 128 * k_path t) % 128 = x; omega
      have ht : k_ok 4 t := ⟨Nat.le_of_succ_le hl'.1, fun n hn => hl'.2 n (List.mem_cons_of_mem _ hn)⟩
      refine q_iload_n d_Model_before_4 rfl rfl ?_
      refine q_bipush (v := nI 127) d_Model_before_5 (by decide) ?_
      refine q_iand d_Model_before_7 ?_
      rw [k_and127 (by omega), e1]
      refine q_iload_n d_Model_before_8 rfl rfl ?_
      refine q_bipush (v := nI 127) d_Model_before_9 (by decide) ?_
      refine q_iand d_Model_before_11 ?_
      rw [k_and127 (by omega)]
      have fin : x ≠ k_path m' % 128 → q_V g M_Model_before 0 0 0 0 (sz, T, I, R, J) (fun o h' => ∃ r : Int32, o = .inl (some (.int r)) ∧ (r = (if k_bef (x :: t) m' = true then nI 1 else nI 0) ∧ h' = (sz, T, I, R, J))) 32 [some (.int (nI (k_path l))), some (.int (nI (k_path m))), some (.int (nI (k_path (x :: t)))), some (.int (nI (k_path m')))] [] := by
        intro hne
        refine q_iload_n d_Model_before_32 rfl rfl ?_
        refine q_bipush (v := nI 127) d_Model_before_33 (by decide) ?_
        refine q_iand d_Model_before_35 ?_
        rw [k_and127 (by omega), e1]
        refine q_iload_n d_Model_before_36 rfl rfl ?_
        refine q_bipush (v := nI 127) d_Model_before_37 (by decide) ?_
        refine q_iand d_Model_before_39 ?_
        rw [k_and127 (by omega)]
        cases m' with
        | nil =>
          refine q_icmp_ge (tgt := 47) d_Model_before_40 rfl (fun hc => ?_) (fun hc => ?_)
          · refine q_iconst (v := nI 0) d_Model_before_47 (by decide) ?_
            refine q_zret d_Model_before_48 rfl (by first | exact Or.inl rfl | exact Or.inr rfl | assumption) (by omega) (by omega) ?_
            exact ⟨_, rfl, rfl, rfl⟩
          · exact absurd (nI_le (show 0 % 128 ≤ x by omega) (by omega)) hc
        | cons y u =>
          have hy := hm'.2 y List.mem_cons_self
          have e : k_path (y :: u) % 128 = y := by show (y + 128 * k_path u) % 128 = y; omega
          rw [e] at hne ⊢
          refine q_icmp_ge (tgt := 47) d_Model_before_40 rfl (fun hc => ?_) (fun hc => ?_)
          · rw [nI_leI (by omega) (by omega)] at hc
            refine q_iconst (v := nI 0) d_Model_before_47 (by decide) ?_
            refine q_zret d_Model_before_48 rfl (by first | exact Or.inl rfl | exact Or.inr rfl | assumption) (by omega) (by omega) ?_
            exact ⟨_, rfl, by rw [k_bef, if_neg hne, decide_eq_false (by omega)]; rfl, rfl⟩
          · rw [nI_leI (by omega) (by omega)] at hc
            refine q_iconst (v := nI 1) d_Model_before_43 (by decide) ?_
            refine q_goto (tgt := 48) d_Model_before_44 rfl ?_
            refine q_zret d_Model_before_48 rfl (by first | exact Or.inl rfl | exact Or.inr rfl | assumption) (by omega) (by omega) ?_
            exact ⟨_, rfl, by rw [k_bef, if_neg hne, decide_eq_true (by omega)]; rfl, rfl⟩
      refine q_icmp_ne (tgt := 32) d_Model_before_12 rfl (fun hc => ?_) (fun hc => ?_)
      · exact fin (fun z => hc (by rw [z]))
      · rw [nI_eq (by omega) (by omega)] at hc
        refine q_iload_n d_Model_before_15 rfl rfl ?_
        refine q_if_eq (tgt := 32) d_Model_before_16 rfl (fun hc => ?_) (fun hc => ?_)
        · exact absurd (nI_zero (by omega) hc) (by show ¬ x + 128 * k_path t = 0; omega)
        · refine q_iload_n d_Model_before_19 rfl rfl ?_
          refine q_bipush (v := nI 7) d_Model_before_20 (by decide) ?_
          refine q_ishr d_Model_before_22 ?_
          rw [k_shr (by omega) (by omega), show k_path (x :: t) / 2 ^ 7 = k_path t by show (x + 128 * k_path t) / 128 = _; omega]
          refine q_istore_n d_Model_before_23 rfl (Nat.le_of_ble_eq_true rfl) (by first | exact q_ok0 | exact q_okI rfl | exact q_okR rfl | exact q_okN rfl) rfl ?_
          refine q_iload_n d_Model_before_24 rfl rfl ?_
          refine q_bipush (v := nI 7) d_Model_before_25 (by decide) ?_
          refine q_ishr d_Model_before_27 ?_
          rw [k_shr (by omega) (by omega)]
          cases m' with
          | nil => exfalso; have : k_path [] = 0 := rfl; omega
          | cons y u =>
            have hy := hm'.2 y List.mem_cons_self
            have e : k_path (y :: u) % 128 = y := by show (y + 128 * k_path u) % 128 = y; omega
            rw [show k_path (y :: u) / 2 ^ 7 = k_path u by show (y + 128 * k_path u) / 128 = _; omega]
            refine q_istore_n d_Model_before_28 rfl (Nat.le_of_ble_eq_true rfl) (by first | exact q_ok0 | exact q_okI rfl | exact q_okR rfl | exact q_okN rfl) rfl ?_
            refine q_goto (tgt := 4) d_Model_before_29 rfl ?_
            rw [show k_bef (x :: t) (y :: u) = k_bef t u by rw [k_bef, if_pos (by omega)]]
            exact ih u ht ⟨Nat.le_of_succ_le hm'.1, fun n hn => hm'.2 n (List.mem_cons_of_mem _ hn)⟩
  refine q_iload_n d_Model_before_0 rfl rfl ?_
  refine q_istore_n d_Model_before_1 rfl (Nat.le_of_ble_eq_true rfl) (by first | exact q_ok0 | exact q_okI rfl | exact q_okR rfl | exact q_okN rfl) rfl ?_
  refine q_iload_n d_Model_before_2 rfl rfl ?_
  refine q_istore_n d_Model_before_3 rfl (Nat.le_of_ble_eq_true rfl) (by first | exact q_ok0 | exact q_okI rfl | exact q_okR rfl | exact q_okN rfl) rfl ?_
  exact loop l m hl hm
end PathE
