/-! the class's own constructor -/
theorem q_upT_at {T : q_T} {a b : Nat} {q : Nat × Nat} (h : b = a) : q_upT T a q b = some q := by rw [h]; exact q_upT_self
theorem q_upR_at {R : q_R} {a b : Nat} {i : Int32} {x : Option Nat} (h : b = a) : q_upR R a i x b i = x := by rw [h]; exact q_upR_self
theorem s_T_f {T : q_T} {f i b : Nat} (h : b = f) : s_T T f i b = some (2, 24) := by rw [s_T, if_pos h]
theorem s_T_in {T : q_T} {f i b : Nat} (h : f < b) (h2 : b < f + 1 + i) : s_T T f i b = some (100 + 3, 0) := by rw [s_T, if_neg (by omega), if_pos ⟨h, h2⟩]
theorem s_R_s {R : q_R} {s f i b : Nat} (h : b = s) : s_R R s f i b (nI 0) = some f := by rw [s_R, if_pos ⟨h, rfl⟩]
theorem s_R_at {R : q_R} {s f i b j : Nat} (h1 : b ≠ s) (h2 : b = f) (h3 : j < i) (h4 : i ≤ 24) : s_R R s f i b (nI j) = some (f + 1 + j) := by
  rw [s_R, if_neg (fun z => h1 z.1), nI_toInt (by omega), if_pos (by omega)]
  rfl
section CInit3
variable {g : q_G} {sz : Nat} {T : q_T} {I : q_I} {R : q_R} {J : q_J}
/-- a schema's fields, none moved yet -/
def s_new (s : Nat) (T : q_T) (R : q_R) : Prop := q_L 6 t_Schema s T R ∧ ∀ i, i < 24 → R (s + 1) (nI i) = some (s + 2 + i) ∧ T (s + 2 + i) = some (100 + 3, 0)
def r_new (r : Nat) (T : q_T) (R : q_R) : Prop := q_L 5 t_Row r T R ∧ q_L 1 (t_Cells 168) (r + 1) T R ∧ q_L 1 (t_Cells 896) (r + 4) T R ∧ q_L 1 (t_Cells 896) (r + 6) T R
/-- the class's object as it is made -/
def x_new (x : Nat) (T : q_T) (R : q_R) : Prop :=
  q_L 10 t_Lens x T R ∧ R x (nI 3) = some (x + 61) ∧ q_L 9 t_Versions (x + 1) T R ∧ R (x + 2) (nI 0) = some (x + 6) ∧ s_new (x + 6) T R ∧ q_L 2 t_Draft (x + 32) T R ∧ s_new (x + 33) T R ∧ r_new (x + 61) T R ∧ q_L 0 t_Carrier (x + 69) T R ∧ q_L 1 (t_Cells 238) (x + 70) T R ∧ q_L 8 t_Terms (x + 72) T R
theorem c_Lens_init (x : Nat) (hx : x + 1 = sz) (hT : T x = some (100 + 10, 0)) : q_Cv g M_Lens_init [.ref x] (sz, T, I, R, J) 82 3861 (fun h' => ∃ (T' : q_T) (R' : q_R), h' = (x + 83, T', q_upI I (x + 1) (nI 1) (nI 1), R', J) ∧ x_new x T' R' ∧ (∀ b, b < x → T' b = T b ∧ R' b = R b) ∧ (∀ b, x + 83 ≤ b → T' b = T b ∧ R' b = R b) ∧ (∀ i, R' (x + 3) i = R (x + 3) i) ∧ (∀ i, R' (x + 59) i = R (x + 59) i) ∧ (∀ i, R' (x + 60) i = R (x + 60) i) ∧ ∀ i, i ≠ nI 0 → R' (x + 2) i = R (x + 2) i) := by
  subst hx
  refine q_C.of (ls0 := [some (.ref x)]) (by decide) rfl (fun _ => rfl) (Nat.le_of_ble_eq_true rfl) rfl ?_
  refine q_aload_n d_Lens_init_0 rfl rfl ?_
  refine q_obj d_Lens_init_1 w_29 w_30 w_31 (Nat.le_of_ble_eq_true rfl) (Nat.le_of_ble_eq_true rfl) (Nat.le_of_ble_eq_true rfl) ?_
  refine q_aload_n d_Lens_init_4 rfl rfl ?_
  refine q_newN (ci := 9) (N := 6) d_Lens_init_5 rfl rfl w_32 w_33 w_2 (by omega) (by omega) ?_
  refine q_dup d_Lens_init_8 rfl ?_
  refine q_callIv (M2 := M_Versions_init) d_Lens_init_9 ⟨(Nat.le_of_ble_eq_true rfl), (Nat.le_of_ble_eq_true rfl), w_36, w_2, ⟨by decide, by decide⟩, show _ = some 0 by decide +kernel⟩ rfl rfl rfl w_34 w_35 rfl (Nat.le_of_ble_eq_true rfl) (by omega) (by omega) (c_Versions_init _ q_upT_self (by omega)) ?_
  rintro _ rfl
  refine q_putR (ci := 10) (fk := 0) (x := some _) d_Lens_init_12 rfl (Nat.le_of_ble_eq_true rfl) w_272 (Or.inr ⟨rfl, rfl, rfl⟩) (fun _ _ => rfl) rfl rfl (by first | assumption | rfl | (simp (disch := omega) only [q_upT_self, q_upT_ne, q_upR_self, q_upR_nea, q_upR_nk, s_T_lo, s_T_hi, s_R_ne, v_T, d_T, r_T, k_T, t_T9, v_R, d_R, r_R, k_R, t_R9, *]; done) | (simp (disch := omega) only [q_upT_self, q_upT_ne, q_upR_self, q_upR_nea, q_upR_nk, s_T_lo, s_T_hi, s_R_ne, v_T, d_T, r_T, k_T, t_T9, v_R, d_R, r_R, k_R, t_R9, *]; rfl)) ?_
  refine q_aload_n d_Lens_init_15 rfl rfl ?_
  refine q_newN (ci := 2) (N := 7) d_Lens_init_16 rfl rfl w_133 w_134 w_5 (by omega) (by omega) ?_
  refine q_dup d_Lens_init_19 rfl ?_
  refine q_callINv (M2 := M_Draft_init) d_Lens_init_20 ⟨(Nat.le_of_ble_eq_true rfl), (Nat.le_of_ble_eq_true rfl), w_137, w_5, ⟨by decide, by decide⟩, show _ = some 0 by decide +kernel⟩ rfl rfl rfl w_135 w_136 rfl (Nat.le_of_ble_eq_true rfl) (by omega) (by omega) (c_Draft_init _ q_upT_self (by omega)) ?_
  rintro _ rfl
  refine q_putR (ci := 10) (fk := 1) (x := some _) d_Lens_init_23 rfl (Nat.le_of_ble_eq_true rfl) w_273 (Or.inr ⟨rfl, rfl, rfl⟩) (fun _ _ => rfl) rfl rfl (by first | assumption | rfl | (simp (disch := omega) only [q_upT_self, q_upT_ne, q_upR_self, q_upR_nea, q_upR_nk, s_T_lo, s_T_hi, s_R_ne, v_T, d_T, r_T, k_T, t_T9, v_R, d_R, r_R, k_R, t_R9, *]; done) | (simp (disch := omega) only [q_upT_self, q_upT_ne, q_upR_self, q_upR_nea, q_upR_nk, s_T_lo, s_T_hi, s_R_ne, v_T, d_T, r_T, k_T, t_T9, v_R, d_R, r_R, k_R, t_R9, *]; rfl)) ?_
  refine q_aload_n d_Lens_init_26 rfl rfl ?_
  refine q_bipush (v := nI 16) d_Lens_init_27 (by decide) ?_
  refine q_newq (kd := 4) (N := _) d_Lens_init_29 rfl (Nat.le_of_ble_eq_true rfl) (Nat.le_of_ble_eq_true rfl) (Nat.le_of_ble_eq_true rfl) w_174 w_175 rfl (by omega) (by omega) (by omega) ?_
  refine q_putR (ci := 10) (fk := 2) (x := some _) d_Lens_init_32 rfl (Nat.le_of_ble_eq_true rfl) w_274 (Or.inr ⟨rfl, rfl, rfl⟩) (fun _ _ => rfl) rfl rfl (by first | assumption | rfl | (simp (disch := omega) only [q_upT_self, q_upT_ne, q_upR_self, q_upR_nea, q_upR_nk, s_T_lo, s_T_hi, s_R_ne, v_T, d_T, r_T, k_T, t_T9, v_R, d_R, r_R, k_R, t_R9, *]; done) | (simp (disch := omega) only [q_upT_self, q_upT_ne, q_upR_self, q_upR_nea, q_upR_nk, s_T_lo, s_T_hi, s_R_ne, v_T, d_T, r_T, k_T, t_T9, v_R, d_R, r_R, k_R, t_R9, *]; rfl)) ?_
  refine q_aload_n d_Lens_init_35 rfl rfl ?_
  refine q_newN (ci := 5) (N := 6) d_Lens_init_36 rfl rfl w_174 w_176 w_6 (by omega) (by omega) ?_
  refine q_dup d_Lens_init_39 rfl ?_
  refine q_callINv (M2 := M_Row_init) d_Lens_init_40 ⟨(Nat.le_of_ble_eq_true rfl), (Nat.le_of_ble_eq_true rfl), w_179, w_6, ⟨by decide, by decide⟩, show _ = some 0 by decide +kernel⟩ rfl rfl rfl w_177 w_178 rfl (Nat.le_of_ble_eq_true rfl) (by omega) (by omega) (c_Row_init _ q_upT_self (by omega)) ?_
  rintro _ rfl
  refine q_putR (ci := 10) (fk := 3) (x := some _) d_Lens_init_43 rfl (Nat.le_of_ble_eq_true rfl) w_275 (Or.inl rfl) (fun _ _ => rfl) rfl rfl (by first | assumption | rfl | (simp (disch := omega) only [q_upT_self, q_upT_ne, q_upR_self, q_upR_nea, q_upR_nk, s_T_lo, s_T_hi, s_R_ne, v_T, d_T, r_T, k_T, t_T9, v_R, d_R, r_R, k_R, t_R9, *]; done) | (simp (disch := omega) only [q_upT_self, q_upT_ne, q_upR_self, q_upR_nea, q_upR_nk, s_T_lo, s_T_hi, s_R_ne, v_T, d_T, r_T, k_T, t_T9, v_R, d_R, r_R, k_R, t_R9, *]; rfl)) ?_
  refine q_aload_n d_Lens_init_46 rfl rfl ?_
  refine q_newN (ci := 0) (N := 1) d_Lens_init_47 rfl rfl w_218 w_219 w_8 (by omega) (by omega) ?_
  refine q_dup d_Lens_init_50 rfl ?_
  refine q_callINv (M2 := M_Carrier_init) d_Lens_init_51 ⟨(Nat.le_of_ble_eq_true rfl), (Nat.le_of_ble_eq_true rfl), w_222, w_8, ⟨by decide, by decide⟩, show _ = some 0 by decide +kernel⟩ rfl rfl rfl w_220 w_221 rfl (Nat.le_of_ble_eq_true rfl) (by omega) (by omega) (c_Carrier_init _ q_upT_self (by omega)) ?_
  rintro _ rfl
  refine q_putR (ci := 10) (fk := 4) (x := some _) d_Lens_init_54 rfl (Nat.le_of_ble_eq_true rfl) w_276 (Or.inr ⟨rfl, rfl, rfl⟩) (fun _ _ => rfl) rfl rfl (by first | assumption | rfl | (simp (disch := omega) only [q_upT_self, q_upT_ne, q_upR_self, q_upR_nea, q_upR_nk, s_T_lo, s_T_hi, s_R_ne, v_T, d_T, r_T, k_T, t_T9, v_R, d_R, r_R, k_R, t_R9, *]; done) | (simp (disch := omega) only [q_upT_self, q_upT_ne, q_upR_self, q_upR_nea, q_upR_nk, s_T_lo, s_T_hi, s_R_ne, v_T, d_T, r_T, k_T, t_T9, v_R, d_R, r_R, k_R, t_R9, *]; rfl)) ?_
  refine q_aload_n d_Lens_init_57 rfl rfl ?_
  refine q_newN (ci := 8) (N := 11) d_Lens_init_58 rfl rfl w_230 w_231 w_9 (by omega) (by omega) ?_
  refine q_dup d_Lens_init_61 rfl ?_
  refine q_callINv (M2 := M_Terms_init) d_Lens_init_62 ⟨(Nat.le_of_ble_eq_true rfl), (Nat.le_of_ble_eq_true rfl), w_234, w_9, ⟨by decide, by decide⟩, show _ = some 0 by decide +kernel⟩ rfl rfl rfl w_232 w_233 rfl (Nat.le_of_ble_eq_true rfl) (by omega) (by omega) (c_Terms_init _ q_upT_self (by omega)) ?_
  rintro _ rfl
  refine q_putR (ci := 10) (fk := 5) (x := some _) d_Lens_init_65 rfl (Nat.le_of_ble_eq_true rfl) w_277 (Or.inr ⟨rfl, rfl, rfl⟩) (fun _ _ => rfl) rfl rfl (by first | assumption | rfl | (simp (disch := omega) only [q_upT_self, q_upT_ne, q_upR_self, q_upR_nea, q_upR_nk, s_T_lo, s_T_hi, s_R_ne, v_T, d_T, r_T, k_T, t_T9, v_R, d_R, r_R, k_R, t_R9, *]; done) | (simp (disch := omega) only [q_upT_self, q_upT_ne, q_upR_self, q_upR_nea, q_upR_nk, s_T_lo, s_T_hi, s_R_ne, v_T, d_T, r_T, k_T, t_T9, v_R, d_R, r_R, k_R, t_R9, *]; rfl)) ?_
  refine q_vret d_Lens_init_68 rfl (by omega) (by omega) ?_
  refine ⟨rfl, _, _, rfl, ?_, ?_, ?_, ?_, ?_, ?_, ?_⟩
  · refine ⟨q_L.mk ?_ ?_, ?_, q_L.mk ?_ ?_, ?_, ⟨q_L.mk ?_ ?_, fun i hi => ⟨?_, ?_⟩⟩, q_L.mk ?_ ?_, ⟨q_L.mk ?_ ?_, fun i hi => ⟨?_, ?_⟩⟩, ⟨q_L.mk ?_ ?_, q_L.mk ?_ ?_, q_L.mk ?_ ?_, q_L.mk ?_ ?_⟩, q_L.mk ?_ ?_, q_L.mk ?_ ?_, q_L.mk ?_ ?_⟩
    all_goals simp (disch := omega) only [q_La, t_Lens, t_Versions, t_Schema, t_Draft, t_Row, t_Carrier, t_Terms, t_Cells, t_T9, k_T, r_T, d_T, v_T, q_upT_at, q_upT_ne, s_T_f, s_T_in, s_T_lo, s_T_hi, t_R9, k_R, r_R, d_R, v_R, q_upR_at, q_upR_nea, q_upR_nk, s_R_s, s_R_at, s_R_ne, hT, and_self]
  · intro b hb
    constructor
    · simp (disch := omega) only [q_La, t_Lens, t_Versions, t_Schema, t_Draft, t_Row, t_Carrier, t_Terms, t_Cells, t_T9, k_T, r_T, d_T, v_T, q_upT_at, q_upT_ne, s_T_f, s_T_in, s_T_lo, s_T_hi, t_R9, k_R, r_R, d_R, v_R, q_upR_at, q_upR_nea, q_upR_nk, s_R_s, s_R_at, s_R_ne, hT, and_self]
    · funext i
      simp (disch := omega) only [q_La, t_Lens, t_Versions, t_Schema, t_Draft, t_Row, t_Carrier, t_Terms, t_Cells, t_T9, k_T, r_T, d_T, v_T, q_upT_at, q_upT_ne, s_T_f, s_T_in, s_T_lo, s_T_hi, t_R9, k_R, r_R, d_R, v_R, q_upR_at, q_upR_nea, q_upR_nk, s_R_s, s_R_at, s_R_ne, hT, and_self]
  · intro b hb
    constructor
    · simp (disch := omega) only [q_La, t_Lens, t_Versions, t_Schema, t_Draft, t_Row, t_Carrier, t_Terms, t_Cells, t_T9, k_T, r_T, d_T, v_T, q_upT_at, q_upT_ne, s_T_f, s_T_in, s_T_lo, s_T_hi, t_R9, k_R, r_R, d_R, v_R, q_upR_at, q_upR_nea, q_upR_nk, s_R_s, s_R_at, s_R_ne, hT, and_self]
    · funext i
      simp (disch := omega) only [q_La, t_Lens, t_Versions, t_Schema, t_Draft, t_Row, t_Carrier, t_Terms, t_Cells, t_T9, k_T, r_T, d_T, v_T, q_upT_at, q_upT_ne, s_T_f, s_T_in, s_T_lo, s_T_hi, t_R9, k_R, r_R, d_R, v_R, q_upR_at, q_upR_nea, q_upR_nk, s_R_s, s_R_at, s_R_ne, hT, and_self]
  · intro i
    simp (disch := omega) only [q_La, t_Lens, t_Versions, t_Schema, t_Draft, t_Row, t_Carrier, t_Terms, t_Cells, t_T9, k_T, r_T, d_T, v_T, q_upT_at, q_upT_ne, s_T_f, s_T_in, s_T_lo, s_T_hi, t_R9, k_R, r_R, d_R, v_R, q_upR_at, q_upR_nea, q_upR_nk, s_R_s, s_R_at, s_R_ne, hT, and_self]
  · intro i
    simp (disch := omega) only [q_La, t_Lens, t_Versions, t_Schema, t_Draft, t_Row, t_Carrier, t_Terms, t_Cells, t_T9, k_T, r_T, d_T, v_T, q_upT_at, q_upT_ne, s_T_f, s_T_in, s_T_lo, s_T_hi, t_R9, k_R, r_R, d_R, v_R, q_upR_at, q_upR_nea, q_upR_nk, s_R_s, s_R_at, s_R_ne, hT, and_self]
  · intro i
    simp (disch := omega) only [q_La, t_Lens, t_Versions, t_Schema, t_Draft, t_Row, t_Carrier, t_Terms, t_Cells, t_T9, k_T, r_T, d_T, v_T, q_upT_at, q_upT_ne, s_T_f, s_T_in, s_T_lo, s_T_hi, t_R9, k_R, r_R, d_R, v_R, q_upR_at, q_upR_nea, q_upR_nk, s_R_s, s_R_at, s_R_ne, hT, and_self]
  · intro i hi
    simp (disch := first | omega | assumption) only [t_T9, k_T, r_T, d_T, v_T, t_R9, k_R, r_R, d_R, v_R, q_upR_nea, s_R_ne, q_upR_nei]
end CInit3
