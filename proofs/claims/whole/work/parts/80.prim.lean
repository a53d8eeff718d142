/-! primitives are made: the object's side -/
abbrev M_Primitive_init : q_M := (⟨"LensPaths$Primitive", "<init>", "(ILLensPaths$Field;II)V"⟩, prog_7_method_1_code, 5, none, "LensPaths$Primitive", [], true, 1, 20)
theorem d_Primitive_init_0 : decode prog_7_method_1_code 0 = .ok (.aload_n 0, 1) := by decide +kernel
theorem d_Primitive_init_1 : decode prog_7_method_1_code 1 = .ok (.invokespecial 1, 3) := by decide +kernel
theorem d_Primitive_init_4 : decode prog_7_method_1_code 4 = .ok (.aload_n 0, 1) := by decide +kernel
theorem d_Primitive_init_5 : decode prog_7_method_1_code 5 = .ok (.iload_n 1, 1) := by decide +kernel
theorem d_Primitive_init_6 : decode prog_7_method_1_code 6 = .ok (.putfield 7, 3) := by decide +kernel
theorem d_Primitive_init_9 : decode prog_7_method_1_code 9 = .ok (.aload_n 0, 1) := by decide +kernel
theorem d_Primitive_init_10 : decode prog_7_method_1_code 10 = .ok (.aload_n 2, 1) := by decide +kernel
theorem d_Primitive_init_11 : decode prog_7_method_1_code 11 = .ok (.getfield 13, 3) := by decide +kernel
theorem d_Primitive_init_14 : decode prog_7_method_1_code 14 = .ok (.putfield 18, 3) := by decide +kernel
theorem d_Primitive_init_17 : decode prog_7_method_1_code 17 = .ok (.aload_n 0, 1) := by decide +kernel
theorem d_Primitive_init_18 : decode prog_7_method_1_code 18 = .ok (.aload_n 2, 1) := by decide +kernel
theorem d_Primitive_init_19 : decode prog_7_method_1_code 19 = .ok (.getfield 19, 3) := by decide +kernel
theorem d_Primitive_init_22 : decode prog_7_method_1_code 22 = .ok (.putfield 22, 3) := by decide +kernel
theorem d_Primitive_init_25 : decode prog_7_method_1_code 25 = .ok (.aload_n 0, 1) := by decide +kernel
theorem d_Primitive_init_26 : decode prog_7_method_1_code 26 = .ok (.aload_n 2, 1) := by decide +kernel
theorem d_Primitive_init_27 : decode prog_7_method_1_code 27 = .ok (.getfield 23, 3) := by decide +kernel
theorem d_Primitive_init_30 : decode prog_7_method_1_code 30 = .ok (.putfield 26, 3) := by decide +kernel
theorem d_Primitive_init_33 : decode prog_7_method_1_code 33 = .ok (.aload_n 0, 1) := by decide +kernel
theorem d_Primitive_init_34 : decode prog_7_method_1_code 34 = .ok (.aload_n 2, 1) := by decide +kernel
theorem d_Primitive_init_35 : decode prog_7_method_1_code 35 = .ok (.getfield 27, 3) := by decide +kernel
theorem d_Primitive_init_38 : decode prog_7_method_1_code 38 = .ok (.putfield 30, 3) := by decide +kernel
theorem d_Primitive_init_41 : decode prog_7_method_1_code 41 = .ok (.aload_n 0, 1) := by decide +kernel
theorem d_Primitive_init_42 : decode prog_7_method_1_code 42 = .ok (.iload_n 3, 1) := by decide +kernel
theorem d_Primitive_init_43 : decode prog_7_method_1_code 43 = .ok (.putfield 31, 3) := by decide +kernel
theorem d_Primitive_init_46 : decode prog_7_method_1_code 46 = .ok (.aload_n 0, 1) := by decide +kernel
theorem d_Primitive_init_47 : decode prog_7_method_1_code 47 = .ok (.iload 4, 2) := by decide +kernel
theorem d_Primitive_init_49 : decode prog_7_method_1_code 49 = .ok (.putfield 34, 3) := by decide +kernel
theorem d_Primitive_init_52 : decode prog_7_method_1_code 52 = .ok (.return_, 1) := by decide +kernel
abbrev M_Draft_wrap : q_M := (⟨"LensPaths$Draft", "wrap", "(LLensPaths$Field;)LLensPaths$Primitive;"⟩, prog_4_method_8_code, 3, (some (.object "LensPaths$Primitive")), "LensPaths$Draft", [], false, 2, 44)
theorem d_Draft_wrap_0 : decode prog_4_method_8_code 0 = .ok (.aload_n 1, 1) := by decide +kernel
theorem d_Draft_wrap_1 : decode prog_4_method_8_code 1 = .ok (.getfield 90, 3) := by decide +kernel
theorem d_Draft_wrap_4 : decode prog_4_method_8_code 4 = .ok (.ifCond .eq 5, 3) := by decide +kernel
theorem d_Draft_wrap_7 : decode prog_4_method_8_code 7 = .ok (.aconst_null, 1) := by decide +kernel
theorem d_Draft_wrap_8 : decode prog_4_method_8_code 8 = .ok (.areturn, 1) := by decide +kernel
theorem d_Draft_wrap_9 : decode prog_4_method_8_code 9 = .ok (.new 18, 3) := by decide +kernel
theorem d_Draft_wrap_12 : decode prog_4_method_8_code 12 = .ok (.dup, 1) := by decide +kernel
theorem d_Draft_wrap_13 : decode prog_4_method_8_code 13 = .ok (.iconst 3, 1) := by decide +kernel
theorem d_Draft_wrap_14 : decode prog_4_method_8_code 14 = .ok (.aload_n 1, 1) := by decide +kernel
theorem d_Draft_wrap_15 : decode prog_4_method_8_code 15 = .ok (.iconst 0, 1) := by decide +kernel
theorem d_Draft_wrap_16 : decode prog_4_method_8_code 16 = .ok (.iconst 0, 1) := by decide +kernel
theorem d_Draft_wrap_17 : decode prog_4_method_8_code 17 = .ok (.invokespecial 95, 3) := by decide +kernel
theorem d_Draft_wrap_20 : decode prog_4_method_8_code 20 = .ok (.astore_n 2, 1) := by decide +kernel
theorem d_Draft_wrap_21 : decode prog_4_method_8_code 21 = .ok (.aload_n 1, 1) := by decide +kernel
theorem d_Draft_wrap_22 : decode prog_4_method_8_code 22 = .ok (.iconst 1, 1) := by decide +kernel
theorem d_Draft_wrap_23 : decode prog_4_method_8_code 23 = .ok (.putfield 90, 3) := by decide +kernel
theorem d_Draft_wrap_26 : decode prog_4_method_8_code 26 = .ok (.aload_n 2, 1) := by decide +kernel
theorem d_Draft_wrap_27 : decode prog_4_method_8_code 27 = .ok (.areturn, 1) := by decide +kernel
abbrev M_Draft_remove : q_M := (⟨"LensPaths$Draft", "remove", "(LLensPaths$Field;)LLensPaths$Primitive;"⟩, prog_4_method_7_code, 2, (some (.object "LensPaths$Primitive")), "LensPaths$Draft", [], false, 3, 66)
theorem d_Draft_remove_0 : decode prog_4_method_7_code 0 = .ok (.aload_n 0, 1) := by decide +kernel
theorem d_Draft_remove_1 : decode prog_4_method_7_code 1 = .ok (.getfield 12, 3) := by decide +kernel
theorem d_Draft_remove_4 : decode prog_4_method_7_code 4 = .ok (.aload_n 1, 1) := by decide +kernel
theorem d_Draft_remove_5 : decode prog_4_method_7_code 5 = .ok (.getfield 117, 3) := by decide +kernel
theorem d_Draft_remove_8 : decode prog_4_method_7_code 8 = .ok (.invokevirtual 128, 3) := by decide +kernel
theorem d_Draft_remove_11 : decode prog_4_method_7_code 11 = .ok (.ifCond .eq 5, 3) := by decide +kernel
theorem d_Draft_remove_14 : decode prog_4_method_7_code 14 = .ok (.aconst_null, 1) := by decide +kernel
theorem d_Draft_remove_15 : decode prog_4_method_7_code 15 = .ok (.areturn, 1) := by decide +kernel
theorem d_Draft_remove_16 : decode prog_4_method_7_code 16 = .ok (.aload_n 0, 1) := by decide +kernel
theorem d_Draft_remove_17 : decode prog_4_method_7_code 17 = .ok (.getfield 12, 3) := by decide +kernel
theorem d_Draft_remove_20 : decode prog_4_method_7_code 20 = .ok (.aload_n 1, 1) := by decide +kernel
theorem d_Draft_remove_21 : decode prog_4_method_7_code 21 = .ok (.invokevirtual 131, 3) := by decide +kernel
theorem d_Draft_remove_24 : decode prog_4_method_7_code 24 = .ok (.new 18, 3) := by decide +kernel
theorem d_Draft_remove_27 : decode prog_4_method_7_code 27 = .ok (.dup, 1) := by decide +kernel
theorem d_Draft_remove_28 : decode prog_4_method_7_code 28 = .ok (.iconst 2, 1) := by decide +kernel
theorem d_Draft_remove_29 : decode prog_4_method_7_code 29 = .ok (.aload_n 1, 1) := by decide +kernel
theorem d_Draft_remove_30 : decode prog_4_method_7_code 30 = .ok (.iconst 0, 1) := by decide +kernel
theorem d_Draft_remove_31 : decode prog_4_method_7_code 31 = .ok (.iconst 0, 1) := by decide +kernel
theorem d_Draft_remove_32 : decode prog_4_method_7_code 32 = .ok (.invokespecial 95, 3) := by decide +kernel
theorem d_Draft_remove_35 : decode prog_4_method_7_code 35 = .ok (.areturn, 1) := by decide +kernel
abbrev M_Draft_takeSlot : q_M := (⟨"LensPaths$Draft", "takeSlot", "()I"⟩, prog_4_method_13_code, 1, (some .int), "LensPaths$Draft", [], false, 0, 0)
theorem d_Draft_takeSlot_0 : decode prog_4_method_13_code 0 = .ok (.aload_n 0, 1) := by decide +kernel
theorem d_Draft_takeSlot_1 : decode prog_4_method_13_code 1 = .ok (.dup, 1) := by decide +kernel
theorem d_Draft_takeSlot_2 : decode prog_4_method_13_code 2 = .ok (.getfield 42, 3) := by decide +kernel
theorem d_Draft_takeSlot_5 : decode prog_4_method_13_code 5 = .ok (.iconst 1, 1) := by decide +kernel
theorem d_Draft_takeSlot_6 : decode prog_4_method_13_code 6 = .ok (.iadd, 1) := by decide +kernel
theorem d_Draft_takeSlot_7 : decode prog_4_method_13_code 7 = .ok (.putfield 42, 3) := by decide +kernel
theorem d_Draft_takeSlot_10 : decode prog_4_method_13_code 10 = .ok (.aload_n 0, 1) := by decide +kernel
theorem d_Draft_takeSlot_11 : decode prog_4_method_13_code 11 = .ok (.getfield 42, 3) := by decide +kernel
theorem d_Draft_takeSlot_14 : decode prog_4_method_13_code 14 = .ok (.iconst 1, 1) := by decide +kernel
theorem d_Draft_takeSlot_15 : decode prog_4_method_13_code 15 = .ok (.isub, 1) := by decide +kernel
theorem d_Draft_takeSlot_16 : decode prog_4_method_13_code 16 = .ok (.ireturn, 1) := by decide +kernel
section PrimC
variable {g : q_G} {sz d : Nat} {T : q_T} {I : q_I} {R : q_R} {J : q_J}
theorem c_Primitive_init {p fo : Nat} {f : KF} {kd a b : Int32} (hT : T p = some (104, 0)) (hF : T fo = some (103, 0)) (hf : I fo (nI 1) = f.2.1 ∧ I fo (nI 2) = f.2.2.1 ∧ I fo (nI 3) = f.2.2.2.1 ∧ I fo (nI 4) = nI f.2.2.2.2) : q_Cv g M_Primitive_init [.ref p, .int kd, .ref fo, .int a, .int b] (sz, T, I, R, J) 0 0 (fun h' => ∃ I' : q_I, h' = (sz, T, I', R, J) ∧ (∀ c, c ≠ p → I' c = I c) ∧ I' p (nI 0) = kd ∧ I' p (nI 1) = nI f.2.2.2.2 ∧ I' p (nI 2) = f.2.1 ∧ I' p (nI 3) = f.2.2.1 ∧ I' p (nI 4) = f.2.2.2.1 ∧ I' p (nI 5) = a ∧ I' p (nI 6) = b) := by
  have hne : fo ≠ p := fun z => by rw [z, hT] at hF; cases hF
  refine q_C.of (ls0 := [some (.ref p), some (.int kd), some (.ref fo), some (.int a), some (.int b)]) (by decide) rfl (fun _ => rfl) (Nat.le_of_ble_eq_true rfl) rfl ?_
  refine q_aload_n d_Primitive_init_0 rfl rfl ?_
  refine q_obj d_Primitive_init_1 w_489 w_30 w_31 (Nat.le_of_ble_eq_true rfl) (Nat.le_of_ble_eq_true rfl) (Nat.le_of_ble_eq_true rfl) ?_
  refine q_aload_n d_Primitive_init_4 rfl rfl ?_
  refine q_iload_n d_Primitive_init_5 rfl rfl ?_
  refine q_putI (ci := 4) (fk := 0) d_Primitive_init_6 rfl (Nat.le_of_ble_eq_true rfl) w_490 (Or.inr ⟨rfl, rfl, rfl⟩) (fun _ _ => rfl) rfl rfl (by first | assumption | rfl | (simp (disch := omega) only [q_upT_self, q_upT_ne, q_upR_self, q_upR_nea, q_upR_nk, q_upT_at, *]; done) | (simp (disch := omega) only [q_upT_self, q_upT_ne, q_upR_self, q_upR_nea, q_upR_nk, q_upT_at, *]; rfl)) ?_
  refine q_aload_n d_Primitive_init_9 rfl rfl ?_
  refine q_aload_n d_Primitive_init_10 rfl rfl ?_
  refine q_getI (ci := 3) (fk := 4) d_Primitive_init_11 rfl (Nat.le_of_ble_eq_true rfl) w_76 (fun _ _ => rfl) (by first | assumption | rfl | (simp (disch := omega) only [q_upT_self, q_upT_ne, q_upR_self, q_upR_nea, q_upR_nk, q_upT_at, *]; done) | (simp (disch := omega) only [q_upT_self, q_upT_ne, q_upR_self, q_upR_nea, q_upR_nk, q_upT_at, *]; rfl)) ?_
  rw [q_upI_nea hne, hf.2.2.2]
  refine q_putI (ci := 4) (fk := 1) d_Primitive_init_14 rfl (Nat.le_of_ble_eq_true rfl) w_493 (Or.inr ⟨rfl, rfl, rfl⟩) (fun _ _ => rfl) rfl rfl (by first | assumption | rfl | (simp (disch := omega) only [q_upT_self, q_upT_ne, q_upR_self, q_upR_nea, q_upR_nk, q_upT_at, *]; done) | (simp (disch := omega) only [q_upT_self, q_upT_ne, q_upR_self, q_upR_nea, q_upR_nk, q_upT_at, *]; rfl)) ?_
  refine q_aload_n d_Primitive_init_17 rfl rfl ?_
  refine q_aload_n d_Primitive_init_18 rfl rfl ?_
  refine q_getI (ci := 3) (fk := 1) d_Primitive_init_19 rfl (Nat.le_of_ble_eq_true rfl) w_57 (fun _ _ => rfl) (by first | assumption | rfl | (simp (disch := omega) only [q_upT_self, q_upT_ne, q_upR_self, q_upR_nea, q_upR_nk, q_upT_at, *]; done) | (simp (disch := omega) only [q_upT_self, q_upT_ne, q_upR_self, q_upR_nea, q_upR_nk, q_upT_at, *]; rfl)) ?_
  rw [q_upI_nea hne, q_upI_nea hne, hf.1]
  refine q_putI (ci := 4) (fk := 2) d_Primitive_init_22 rfl (Nat.le_of_ble_eq_true rfl) w_496 (Or.inr ⟨rfl, rfl, rfl⟩) (fun _ _ => rfl) rfl rfl (by first | assumption | rfl | (simp (disch := omega) only [q_upT_self, q_upT_ne, q_upR_self, q_upR_nea, q_upR_nk, q_upT_at, *]; done) | (simp (disch := omega) only [q_upT_self, q_upT_ne, q_upR_self, q_upR_nea, q_upR_nk, q_upT_at, *]; rfl)) ?_
  refine q_aload_n d_Primitive_init_25 rfl rfl ?_
  refine q_aload_n d_Primitive_init_26 rfl rfl ?_
  refine q_getI (ci := 3) (fk := 2) d_Primitive_init_27 rfl (Nat.le_of_ble_eq_true rfl) w_64 (fun _ _ => rfl) (by first | assumption | rfl | (simp (disch := omega) only [q_upT_self, q_upT_ne, q_upR_self, q_upR_nea, q_upR_nk, q_upT_at, *]; done) | (simp (disch := omega) only [q_upT_self, q_upT_ne, q_upR_self, q_upR_nea, q_upR_nk, q_upT_at, *]; rfl)) ?_
  rw [q_upI_nea hne, q_upI_nea hne, q_upI_nea hne, hf.2.1]
  refine q_putI (ci := 4) (fk := 3) d_Primitive_init_30 rfl (Nat.le_of_ble_eq_true rfl) w_499 (Or.inr ⟨rfl, rfl, rfl⟩) (fun _ _ => rfl) rfl rfl (by first | assumption | rfl | (simp (disch := omega) only [q_upT_self, q_upT_ne, q_upR_self, q_upR_nea, q_upR_nk, q_upT_at, *]; done) | (simp (disch := omega) only [q_upT_self, q_upT_ne, q_upR_self, q_upR_nea, q_upR_nk, q_upT_at, *]; rfl)) ?_
  refine q_aload_n d_Primitive_init_33 rfl rfl ?_
  refine q_aload_n d_Primitive_init_34 rfl rfl ?_
  refine q_getI (ci := 3) (fk := 3) d_Primitive_init_35 rfl (Nat.le_of_ble_eq_true rfl) w_70 (fun _ _ => rfl) (by first | assumption | rfl | (simp (disch := omega) only [q_upT_self, q_upT_ne, q_upR_self, q_upR_nea, q_upR_nk, q_upT_at, *]; done) | (simp (disch := omega) only [q_upT_self, q_upT_ne, q_upR_self, q_upR_nea, q_upR_nk, q_upT_at, *]; rfl)) ?_
  rw [q_upI_nea hne, q_upI_nea hne, q_upI_nea hne, q_upI_nea hne, hf.2.2.1]
  refine q_putI (ci := 4) (fk := 4) d_Primitive_init_38 rfl (Nat.le_of_ble_eq_true rfl) w_502 (Or.inr ⟨rfl, rfl, rfl⟩) (fun _ _ => rfl) rfl rfl (by first | assumption | rfl | (simp (disch := omega) only [q_upT_self, q_upT_ne, q_upR_self, q_upR_nea, q_upR_nk, q_upT_at, *]; done) | (simp (disch := omega) only [q_upT_self, q_upT_ne, q_upR_self, q_upR_nea, q_upR_nk, q_upT_at, *]; rfl)) ?_
  refine q_aload_n d_Primitive_init_41 rfl rfl ?_
  refine q_iload_n d_Primitive_init_42 rfl rfl ?_
  refine q_putI (ci := 4) (fk := 5) d_Primitive_init_43 rfl (Nat.le_of_ble_eq_true rfl) w_505 (Or.inr ⟨rfl, rfl, rfl⟩) (fun _ _ => rfl) rfl rfl (by first | assumption | rfl | (simp (disch := omega) only [q_upT_self, q_upT_ne, q_upR_self, q_upR_nea, q_upR_nk, q_upT_at, *]; done) | (simp (disch := omega) only [q_upT_self, q_upT_ne, q_upR_self, q_upR_nea, q_upR_nk, q_upT_at, *]; rfl)) ?_
  refine q_aload_n d_Primitive_init_46 rfl rfl ?_
  refine q_iload d_Primitive_init_47 rfl ?_
  refine q_putI (ci := 4) (fk := 6) d_Primitive_init_49 rfl (Nat.le_of_ble_eq_true rfl) w_508 (Or.inr ⟨rfl, rfl, rfl⟩) (fun _ _ => rfl) rfl rfl (by first | assumption | rfl | (simp (disch := omega) only [q_upT_self, q_upT_ne, q_upR_self, q_upR_nea, q_upR_nk, q_upT_at, *]; done) | (simp (disch := omega) only [q_upT_self, q_upT_ne, q_upR_self, q_upR_nea, q_upR_nk, q_upT_at, *]; rfl)) ?_
  refine q_vret d_Primitive_init_52 rfl (by omega) (by omega) ?_
  refine ⟨rfl, _, rfl, fun c hc => ?_, ?_, ?_, ?_, ?_, ?_, ?_, ?_⟩
  · funext i
    rw [q_upI_nea hc, q_upI_nea hc, q_upI_nea hc, q_upI_nea hc, q_upI_nea hc, q_upI_nea hc, q_upI_nea hc]
  · simp (disch := omega) only [q_upI_nea, q_upI_self, q_upI_nk]
  · simp (disch := omega) only [q_upI_nea, q_upI_self, q_upI_nk]
  · simp (disch := omega) only [q_upI_nea, q_upI_self, q_upI_nk]
  · simp (disch := omega) only [q_upI_nea, q_upI_self, q_upI_nk]
  · simp (disch := omega) only [q_upI_nea, q_upI_self, q_upI_nk]
  · simp (disch := omega) only [q_upI_nea, q_upI_self, q_upI_nk]
  · simp (disch := omega) only [q_upI_nea, q_upI_self, q_upI_nk]
/-- what is known of the draft when a primitive is to be made -/
def d_in (d : Nat) (D : List KF) (w : Nat → Nat) (dn sz : Nat) (T : q_T) (I : q_I) (R : q_R) : Prop := q_L 2 t_Draft d T R ∧ k_sc (d + 1) D w T I R ∧ I d (nI 6) = nI dn ∧ (∀ a q, T a = some q → a < sz) ∧ k_okf D ∧ k_dis D ∧ k_srt D
/-- what comes of it: nothing; or a primitive, and the schema behind it -/
def d_post (d : Nat) (D : List KF) (sz : Nat) (T : q_T) (I : q_I) (R : q_R) (J : q_J) (ok : Bool) (p : KP) (dn' : Nat) : Option Nat → q_H → Prop := fun r h' => (ok = false ∧ r = none ∧ h' = (sz, T, I, R, J)) ∨ (ok = true ∧ r = some sz ∧ ∃ (I' : q_I) (R' : q_R) (w' : Nat → Nat) (D' : List KF), h' = (sz + 1, q_upT T sz (104, 0), I', R', J) ∧ (∀ b, b < d ∨ d + 27 ≤ b → b ≠ sz → I' b = I b) ∧ (∀ b, b ≠ d + 2 → R' b = R b) ∧ k_sc (d + 1) D' w' (q_upT T sz (104, 0)) I' R' ∧ D'.Perm (k_fw p D) ∧ k_srt D' ∧ k_prm sz p (q_upT T sz (104, 0)) I' ∧ I' d (nI 6) = nI dn' ∧ ∀ i, i ≠ nI 6 → I' d i = I d i)
theorem d_ext (h : ∀ a q, T a = some q → a < sz) : ∀ a q, T a = some q → q_upT T sz (104, 0) a = some q := fun a q z => by
  rw [q_upT_ne (by have := h a q z; omega)]; exact z
theorem k_sc.setf {s i : Nat} {L : List KF} {w : Nat → Nat} {f f' : KF} {I' : q_I} (hS : k_sc s L w T I R) (hf : L[i]? = some f) (hI : ∀ b, b ≠ s + 2 + w i → I' b = I b) (hf' : k_fd I' (s + 2 + w i) f') : k_sc s (L.set i f') w T I' R := by
  have hi := (List.getElem?_eq_some_iff.mp hf).1
  have h24 := hS.2.2.1
  refine ⟨hS.1, by rw [hI s (by omega), List.length_set]; exact hS.2.1, by rw [List.length_set]; exact h24, fun j e he => ?_⟩
  rw [List.getElem?_set] at he
  by_cases hij : i = j
  · rw [if_pos hij, if_pos hi] at he
    cases he
    rw [← hij]
    exact hf'
  · rw [if_neg hij] at he
    have hj := (List.getElem?_eq_some_iff.mp he).1
    have hw : w j ≠ w i := fun z => hij (hS.1.2.2.1 j i (by omega) (by omega) z).symm
    exact (hS.2.2.2 j e he).cong (hI _ (by omega))
theorem k_at_set {L : List KF} (hd : k_dis L) {i : Nat} {f : KF} (hf : L[i]? = some f) (u : KF → KF) : L.map (k_at f.1 u) = L.set i (u f) := by
  refine List.ext_getElem? fun j => ?_
  rw [List.getElem?_map, List.getElem?_set]
  have hi := (List.getElem?_eq_some_iff.mp hf).1
  by_cases hij : i = j
  · rw [if_pos hij, if_pos hi, ← hij, hf]
    show some (k_at f.1 u f) = _
    unfold k_at
    rw [if_pos rfl]
  · rw [if_neg hij]
    cases he : L[j]? with
    | none => rfl
    | some e =>
      show some (k_at f.1 u e) = _
      unfold k_at
      rw [if_neg]
      intro z
      have h1 := k_fi_at hd he
      have h2 := k_fi_at hd hf
      rw [z, h2] at h1
      exact hij (Option.some.inj h1)
theorem k_srt_nm {L L' : List KF} (h : L'.map (·.1) = L.map (·.1)) (hs : k_srt L) : k_srt L' := by
  have e : ∀ M : List KF, k_srt M ↔ (M.map (fun f : KF => f.1)).Pairwise (fun a b => k_key a ≤ k_key b) := fun M => by unfold k_srt; rw [List.pairwise_map]
  rw [e] at hs ⊢
  have h2 : L'.map (fun f : KF => f.1) = L.map (fun f : KF => f.1) := h
  rw [h2]
  exact hs
theorem k_set_nm {L : List KF} {i : Nat} {f f' : KF} (hf : L[i]? = some f) (hn : f'.1 = f.1) : (L.set i f').map (·.1) = L.map (·.1) := by
  refine List.ext_getElem? fun j => ?_
  rw [List.getElem?_map, List.getElem?_map, List.getElem?_set]
  have hi := (List.getElem?_eq_some_iff.mp hf).1
  by_cases hij : i = j
  · rw [if_pos hij, if_pos hi, ← hij, hf]
    exact congrArg some hn
  · rw [if_neg hij]
theorem c_Draft_wrap {i dn : Nat} {D : List KF} {w : Nat → Nat} {f : KF} {p : KP} (h : d_in d D w dn sz T I R) (hf : D[i]? = some f) (hk : p.kind = 3) (hp : p.f = f) : q_Cr g M_Draft_wrap [.ref d, .ref (d + 1 + 2 + w i)] (sz, T, I, R, J) 1 8 (d_post d D sz T I R J (decide (f.2.1 = 0)) p dn) := by
  obtain ⟨hL, hS, hn, hfr, hok, hdi, hsr⟩ := h
  obtain ⟨g1, g2, g3, g4⟩ := hS.at hf
  obtain ⟨fo, hfo⟩ : ∃ fo, fo = d + 1 + 2 + w i := ⟨_, rfl⟩
  have hwi := (hS.1.2.1 i g1).2
  rw [← hfo] at g3 g4 ⊢
  have hfs := hfr _ _ g3
  have hds := hfr _ _ hL.1
  refine q_C.of (ls0 := [some (.ref d), some (.ref fo), none]) (by decide) rfl (by decide) (Nat.le_of_ble_eq_true rfl) rfl ?_
  refine q_aload_n d_Draft_wrap_0 rfl rfl ?_
  refine q_getI (ci := 3) (fk := 1) d_Draft_wrap_1 rfl (Nat.le_of_ble_eq_true rfl) w_62 (fun _ _ => rfl) (by first | assumption | rfl | (simp (disch := omega) only [q_upT_self, q_upT_ne, q_upR_self, q_upR_nea, q_upR_nk, q_upT_at, *]; done) | (simp (disch := omega) only [q_upT_self, q_upT_ne, q_upR_self, q_upR_nea, q_upR_nk, q_upT_at, *]; rfl)) ?_
  rw [g4.2.1]
  refine q_if_eq (tgt := 9) d_Draft_wrap_4 rfl (fun hc => ?_) (fun hc => ?_)
  rotate_left
  · have h0 : ¬ f.2.1 = 0 := hc
    refine q_null d_Draft_wrap_7 ?_
    refine q_aret (v := none) d_Draft_wrap_8 rfl (by omega) (by omega) ?_
    exact ⟨_, rfl, Or.inl ⟨decide_eq_false h0, rfl, rfl⟩⟩
  have h0 : f.2.1 = 0 := by have := hc; simpa using this
  have hx := d_ext hfr
  have tfo := hx _ _ g3
  refine q_newN (ci := 4) (N := 8) d_Draft_wrap_9 rfl rfl w_141 w_480 w_18 (by omega) (by omega) ?_
  refine q_dup d_Draft_wrap_12 rfl ?_
  refine q_iconst (v := nI 3) d_Draft_wrap_13 (by decide) ?_
  refine q_aload_n d_Draft_wrap_14 rfl rfl ?_
  refine q_iconst (v := nI 0) d_Draft_wrap_15 (by decide) ?_
  refine q_iconst (v := nI 0) d_Draft_wrap_16 (by decide) ?_
  refine q_callIv (M2 := M_Primitive_init) d_Draft_wrap_17 ⟨(Nat.le_of_ble_eq_true rfl), (Nat.le_of_ble_eq_true rfl), w_488, w_18, ⟨by decide, by decide⟩, show _ = some 4 by decide +kernel⟩ rfl rfl rfl w_486 w_487 rfl (Nat.le_of_ble_eq_true rfl) (by omega) (by omega) (c_Primitive_init (q_upT_self) tfo g4.2) ?_
  rintro _ ⟨I1, rfl, i1, i2, i3, i4, i5, i6, -, -⟩
  refine q_astore_n d_Draft_wrap_20 rfl (Nat.le_of_ble_eq_true rfl) (by first | exact q_ok0 | exact q_okI rfl | exact q_okR rfl | exact q_okN rfl) rfl ?_
  refine q_aload_n d_Draft_wrap_21 rfl rfl ?_
  refine q_iconst (v := nI 1) d_Draft_wrap_22 (by decide) ?_
  refine q_putI (ci := 3) (fk := 1) d_Draft_wrap_23 rfl (Nat.le_of_ble_eq_true rfl) w_62 (Or.inl rfl) (fun _ _ => rfl) rfl rfl (by first | assumption | rfl | (simp (disch := omega) only [q_upT_self, q_upT_ne, q_upR_self, q_upR_nea, q_upR_nk, q_upT_at, *]; done) | (simp (disch := omega) only [q_upT_self, q_upT_ne, q_upR_self, q_upR_nea, q_upR_nk, q_upT_at, *]; rfl)) ?_
  refine q_aload_n d_Draft_wrap_26 rfl rfl ?_
  first | refine q_aret (v := some _) d_Draft_wrap_27 rfl (by omega) (by omega) ?_ | refine q_aret (v := none) d_Draft_wrap_27 rfl (by omega) (by omega) ?_ | refine q_aret d_Draft_wrap_27 rfl (by omega) (by omega) ?_
  have e1 : ∀ b, b ≠ fo → b ≠ sz → q_upI I1 fo (nI 1) (nI 1) b = I b := fun b b1 b2 => by
    have : q_upI I1 fo (nI 1) (nI 1) b = I1 b := by funext j; rw [q_upI_nea b1]
    rw [this, i1 b b2]
  have hS1 : k_sc (d + 1) D w (q_upT T sz (104, 0)) I1 R := hS.cong3 hx (fun b b1 b2 => i1 b (by
    obtain ⟨q, hq⟩ := hS.1.tys b1 b2
    have := hfr b q hq
    omega)) (fun _ _ _ => rfl)
  obtain ⟨f', hf'⟩ : ∃ f' : KF, f' = (f.1, 1, f.2.2) := ⟨_, rfl⟩
  have hS2 : k_sc (d + 1) (D.set i f') w (q_upT T sz (104, 0)) (q_upI I1 fo (nI 1) (nI 1)) R := by
    refine hS1.setf hf (fun b hb => by funext j; rw [q_upI_nea (by rw [hfo]; exact hb)]) ?_
    rw [← hfo, hf']
    unfold k_fd
    rw [q_upI_self, q_upI_nk (by omega), q_upI_nk (by omega), q_upI_nk (by omega), q_upI_nk (by omega), i1 fo (by omega)]
    exact ⟨g4.1, rfl, g4.2.2.1, g4.2.2.2.1, g4.2.2.2.2⟩
  have hfw : k_fw p D = D.set i f' := by
    have h9 : p.nm = f.1 := congrArg (·.1) hp
    unfold k_fw
    rw [hk]
    show D.map (k_at p.nm (fun f => (f.1, 1, f.2.2))) = _
    rw [h9, k_at_set hdi hf, hf']
  have z : ∀ k : Nat, k < 8 → q_upI I1 fo (nI 1) (nI 1) sz (nI k) = I1 sz (nI k) := fun k hk => q_upI_nea (by omega)
  refine ⟨_, rfl, Or.inr ⟨decide_eq_true h0, rfl, _, R, w, D.set i f', rfl, fun b b1 b2 => e1 b (by omega) b2, fun b hb => rfl, hS2, by rw [hfw], k_srt_nm (k_set_nm hf (by rw [hf'])) hsr, ⟨q_upT_self, ?_, ?_, ?_, ?_, ?_, ?_, ?_, ?_⟩, ?_, fun j hj => ?_⟩⟩
  · rw [z 0 (by omega), i2, hk]
  · rw [z 1 (by omega), i3]; exact congrArg (fun q : KF => nI q.2.2.2.2) hp.symm
  · rw [z 2 (by omega), i4]; exact congrArg (fun q : KF => q.2.1) hp.symm
  · rw [z 3 (by omega), i5]; exact congrArg (fun q : KF => q.2.2.1) hp.symm
  · rw [z 4 (by omega), i6]; exact congrArg (fun q : KF => q.2.2.2.1) hp.symm
  · intro h5; rw [hk] at h5; omega
  · intro h5; rw [hk] at h5; omega
  · intro h5; rw [hk] at h5; omega
  · rw [e1 d (by omega) (by omega)]; exact hn
  · rw [e1 d (by omega) (by omega)]
theorem k_fil_era {L : List KF} (hd : k_dis L) {i : Nat} {f : KF} (hf : L[i]? = some f) : L.filter (fun e => decide (e.1 ≠ f.1)) = L.eraseIdx i := by
  induction L generalizing i with
  | nil => cases hf
  | cons e t ih =>
    have hd2 : e.1 ∉ t.map (·.1) ∧ k_dis t := List.nodup_cons.mp (show (e.1 :: t.map (·.1)).Nodup from hd)
    cases i with
    | zero =>
      have : e = f := by simpa using hf
      subst this
      rw [List.filter_cons_of_neg (by simp), List.eraseIdx_cons_zero]
      refine List.filter_eq_self.mpr fun q hq => ?_
      exact decide_eq_true (fun z => hd2.1 (by rw [← z]; exact List.mem_map.mpr ⟨q, hq, rfl⟩))
    | succ i =>
      have hft : t[i]? = some f := by simpa using hf
      have hne : e.1 ≠ f.1 := fun z => hd2.1 (by rw [z]; exact List.mem_map.mpr ⟨f, List.mem_of_getElem? hft, rfl⟩)
      rw [List.filter_cons_of_pos (by simpa using hne), List.eraseIdx_cons_succ, ih hd2.2 hft]
theorem c_Draft_remove {i dn : Nat} {D : List KF} {w : Nat → Nat} {f : KF} {p : KP} (h : d_in d D w dn sz T I R) (hf : D[i]? = some f) (hk : p.kind = 2) (hp : p.f = f) : q_Cr g M_Draft_remove [.ref d, .ref (d + 1 + 2 + w i)] (sz, T, I, R, J) 1 8 (d_post d D sz T I R J (decide (k_cin D f.1 = 0)) p dn) := by
  obtain ⟨hL, hS, hn, hfr, hok, hdi, hsr⟩ := h
  obtain ⟨g1, g2, g3, g4⟩ := hS.at hf
  have hwi := (hS.1.2.1 i g1).2
  have hfk := hok f (List.mem_of_getElem? hf)
  obtain ⟨fo, hfo⟩ : ∃ fo, fo = d + 1 + 2 + w i := ⟨_, rfl⟩
  rw [← hfo] at g3 g4 ⊢
  have hfs := hfr _ _ g3
  have hds := hfr _ _ hL.1
  have hs1 := hS.1.1.1
  have hcl : k_cin D f.1 ≤ 24 := Nat.le_trans (List.length_filter_le _ _) hS.2.2.1
  refine q_C.of (ls0 := [some (.ref d), some (.ref fo)]) (by decide) rfl (by decide) (Nat.le_of_ble_eq_true rfl) rfl ?_
  refine q_aload_n d_Draft_remove_0 rfl rfl ?_
  refine q_getR (ci := 2) (fk := 0) d_Draft_remove_1 rfl (Nat.le_of_ble_eq_true rfl) w_143 (fun _ _ => rfl) hL.1 (hL.2 0 _ _ _ rfl).1 ?_
  refine q_aload_n d_Draft_remove_4 rfl rfl ?_
  refine q_getI (ci := 3) (fk := 0) d_Draft_remove_5 rfl (Nat.le_of_ble_eq_true rfl) w_56 (fun _ _ => rfl) (by first | assumption | rfl | (simp (disch := omega) only [q_upT_self, q_upT_ne, q_upR_self, q_upR_nea, q_upR_nk, q_upT_at, *]; done) | (simp (disch := omega) only [q_upT_self, q_upT_ne, q_upR_self, q_upR_nea, q_upR_nk, q_upT_at, *]; rfl)) ?_
  rw [g4.1]
  refine q_callVi (M2 := M_Schema_countInside) d_Draft_remove_8 ⟨(Nat.le_of_ble_eq_true rfl), (Nat.le_of_ble_eq_true rfl), w_561, w_3, ⟨by decide, by decide⟩, show _ = some 1 by decide +kernel⟩ w_558 w_559 (ci := 6) rfl w_560 (by first | assumption | rfl | (simp (disch := omega) only [q_upT_self, q_upT_ne, q_upR_self, q_upR_nea, q_upR_nk, q_upT_at, *]; done) | (simp (disch := omega) only [q_upT_self, q_upT_ne, q_upR_self, q_upR_nea, q_upR_nk, q_upT_at, *]; rfl)) rfl (Nat.le_of_ble_eq_true rfl) (by omega) (by omega) (c_Schema_countInside (o := some f.1) hS hok (fun l hl => by cases hl; exact hfk.1)) ?_
  rintro _ _ ⟨rfl, rfl⟩
  rw [show k_cio D (some f.1) = k_cin D f.1 from rfl]
  refine q_if_eq (tgt := 16) d_Draft_remove_11 rfl (fun hc => ?_) (fun hc => ?_)
  rotate_left
  · have h0 : ¬ k_cin D f.1 = 0 := fun z => hc (by rw [z]; rfl)
    refine q_null d_Draft_remove_14 ?_
    refine q_aret (v := none) d_Draft_remove_15 rfl (by omega) (by omega) ?_
    exact ⟨_, rfl, Or.inl ⟨decide_eq_false h0, rfl, rfl⟩⟩
  have h0 : k_cin D f.1 = 0 := nI_zero (by omega) (by have := hc; simpa using this)
  refine q_aload_n d_Draft_remove_16 rfl rfl ?_
  refine q_getR (ci := 2) (fk := 0) d_Draft_remove_17 rfl (Nat.le_of_ble_eq_true rfl) w_143 (fun _ _ => rfl) hL.1 (hL.2 0 _ _ _ rfl).1 ?_
  refine q_aload_n d_Draft_remove_20 rfl rfl ?_
  rw [hfo]
  refine q_callVv (M2 := M_Schema_takeOut) d_Draft_remove_21 ⟨(Nat.le_of_ble_eq_true rfl), (Nat.le_of_ble_eq_true rfl), w_565, w_3, ⟨by decide, by decide⟩, show _ = some 1 by decide +kernel⟩ w_562 w_563 (ci := 6) rfl w_564 (by first | assumption | rfl | (simp (disch := omega) only [q_upT_self, q_upT_ne, q_upR_self, q_upR_nea, q_upR_nk, q_upT_at, *]; done) | (simp (disch := omega) only [q_upT_self, q_upT_ne, q_upR_self, q_upR_nea, q_upR_nk, q_upT_at, *]; rfl)) rfl (Nat.le_of_ble_eq_true rfl) (by omega) (by omega) (c_Schema_takeOut hS hok hdi hf) ?_
  rintro _ ⟨R1, w1, rfl, r1, r2⟩
  rw [← hfo]
  have hx := d_ext hfr
  have tfo := hx _ _ g3
  have g4' : k_fd (q_upI I (d + 1) (nI 1) (nI (D.length - 1))) fo f := g4.cong (by funext j; rw [q_upI_nea (by omega)])
  refine q_newN (ci := 4) (N := 8) d_Draft_remove_24 rfl rfl w_141 w_480 w_18 (by omega) (by omega) ?_
  refine q_dup d_Draft_remove_27 rfl ?_
  refine q_iconst (v := nI 2) d_Draft_remove_28 (by decide) ?_
  refine q_aload_n d_Draft_remove_29 rfl rfl ?_
  refine q_iconst (v := nI 0) d_Draft_remove_30 (by decide) ?_
  refine q_iconst (v := nI 0) d_Draft_remove_31 (by decide) ?_
  refine q_callIv (M2 := M_Primitive_init) d_Draft_remove_32 ⟨(Nat.le_of_ble_eq_true rfl), (Nat.le_of_ble_eq_true rfl), w_488, w_18, ⟨by decide, by decide⟩, show _ = some 4 by decide +kernel⟩ rfl rfl rfl w_486 w_487 rfl (Nat.le_of_ble_eq_true rfl) (by omega) (by omega) (c_Primitive_init (q_upT_self) tfo g4'.2) ?_
  rintro _ ⟨I1, rfl, i1, i2, i3, i4, i5, i6, -, -⟩
  first | refine q_aret (v := some _) d_Draft_remove_35 rfl (by omega) (by omega) ?_ | refine q_aret (v := none) d_Draft_remove_35 rfl (by omega) (by omega) ?_ | refine q_aret d_Draft_remove_35 rfl (by omega) (by omega) ?_
  have hS1 : k_sc (d + 1) (D.eraseIdx i) w1 (q_upT T sz (104, 0)) I1 R1 := r2.cong3 hx (fun b b1 b2 => i1 b (by
    obtain ⟨q, hq⟩ := hS.1.tys b1 b2
    have := hfr b q hq
    omega)) (fun _ _ _ => rfl)
  have hfw : k_fw p D = D.eraseIdx i := by
    have h9 : p.nm = f.1 := congrArg (·.1) hp
    unfold k_fw
    rw [hk]
    show D.filter (fun f => decide (f.1 ≠ p.nm)) = _
    rw [h9, k_fil_era hdi hf]
  refine ⟨_, rfl, Or.inr ⟨decide_eq_true h0, rfl, I1, R1, w1, D.eraseIdx i, rfl, fun b b1 b2 => ?_, fun b hb => r1 b (by omega), hS1, by rw [hfw], hsr.sublist (List.eraseIdx_sublist _ _), ⟨q_upT_self, ?_, ?_, ?_, ?_, ?_, ?_, ?_, ?_⟩, ?_, fun j hj => ?_⟩⟩
  · rw [i1 b b2]
    funext j
    rw [q_upI_nea (by omega)]
  · rw [i2, hk]
  · rw [i3]; exact congrArg (fun q : KF => nI q.2.2.2.2) hp.symm
  · rw [i4]; exact congrArg (fun q : KF => q.2.1) hp.symm
  · rw [i5]; exact congrArg (fun q : KF => q.2.2.1) hp.symm
  · rw [i6]; exact congrArg (fun q : KF => q.2.2.2.1) hp.symm
  · intro h5; rw [hk] at h5; omega
  · intro h5; rw [hk] at h5; omega
  · intro h5; rw [hk] at h5; omega
  · rw [i1 d (by omega), q_upI_nea (by omega)]; exact hn
  · rw [i1 d (by omega), q_upI_nea (by omega)]
theorem c_Draft_takeSlot {dn : Nat} (hL : q_L 2 t_Draft d T R) (hn : I d (nI 6) = nI dn) : q_Ci g M_Draft_takeSlot [.ref d] (sz, T, I, R, J) 0 0 (fun r h' => r = nI dn ∧ h' = (sz, T, q_upI I d (nI 6) (nI (dn + 1)), R, J)) := by
  refine q_C.of (ls0 := [some (.ref d)]) (by decide) rfl (by decide) (Nat.le_of_ble_eq_true rfl) rfl ?_
  refine q_aload_n d_Draft_takeSlot_0 rfl rfl ?_
  refine q_dup d_Draft_takeSlot_1 rfl ?_
  refine q_getI (ci := 2) (fk := 6) d_Draft_takeSlot_2 rfl (Nat.le_of_ble_eq_true rfl) w_158 (fun _ _ => rfl) hL.1 ?_
  rw [hn]
  refine q_iconst (v := nI 1) d_Draft_takeSlot_5 (by decide) ?_
  first | refine q_iaddN d_Draft_takeSlot_6 ?_ | refine q_iadd d_Draft_takeSlot_6 ?_
  refine q_putI (ci := 2) (fk := 6) d_Draft_takeSlot_7 rfl (Nat.le_of_ble_eq_true rfl) w_158 (Or.inl rfl) (fun _ _ => rfl) rfl rfl hL.1 ?_
  refine q_aload_n d_Draft_takeSlot_10 rfl rfl ?_
  refine q_getI (ci := 2) (fk := 6) d_Draft_takeSlot_11 rfl (Nat.le_of_ble_eq_true rfl) w_158 (fun _ _ => rfl) hL.1 ?_
  rw [q_upI_self]
  refine q_iconst (v := nI 1) d_Draft_takeSlot_14 (by decide) ?_
  refine q_isub d_Draft_takeSlot_15 ?_
  rw [nI_sb dn 1]
  refine q_iret d_Draft_takeSlot_16 rfl (by omega) (by omega) ?_
  exact ⟨_, rfl, rfl, rfl⟩
end PrimC
