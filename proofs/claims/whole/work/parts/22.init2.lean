/-! constructors of the class: the larger ones -/
theorem s_T_lo {T : q_T} {f i b : Nat} (h : b < f) : s_T T f i b = T b := by rw [s_T, if_neg (by omega), if_neg (by omega)]
theorem s_T_hi {T : q_T} {f i b : Nat} (h : f + 1 + i ≤ b) : s_T T f i b = T b := by rw [s_T, if_neg (by omega), if_neg (by omega)]
theorem s_R_ne {R : q_R} {s f i b : Nat} {j : Int32} (h1 : b ≠ s) (h2 : b ≠ f) : s_R R s f i b j = R b j := by rw [s_R, if_neg (fun z => h1 z.1), if_neg (fun z => h2 z.1)]
section CInit2
variable {g : q_G} {sz : Nat} {T : q_T} {I : q_I} {R : q_R} {J : q_J}
def v_T (T : q_T) (a : Nat) : q_T := s_T (q_upT (q_upT (q_upT (q_upT (q_upT T a (5, 8)) (a + 1) (6, 16)) (a + 1 + 1) (0, 8)) (a + 1 + 1 + 1) (0, 8)) (a + 1 + 1 + 1 + 1) (100 + 6, 0)) (a + 1 + 1 + 1 + 1 + 1) 24
def v_R (R : q_R) (v a : Nat) : q_R := q_upR (s_R (q_upR (q_upR (q_upR (q_upR R v (nI 0) (some a)) v (nI 2) (some (a + 1))) v (nI 4) (some (a + 1 + 1))) v (nI 5) (some (a + 1 + 1 + 1))) (a + 1 + 1 + 1 + 1) (a + 1 + 1 + 1 + 1 + 1) 24) a (nI 0) (some (a + 1 + 1 + 1 + 1))
theorem c_Versions_init (v : Nat) (hT : T v = some (100 + 9, 0)) (ha : v < sz) : q_Cv g M_Versions_init [.ref v] (sz, T, I, R, J) 30 186 (fun h' => h' = (sz + 1 + 1 + 1 + 1 + 1 + 25, v_T T sz, q_upI I v (nI 1) (nI 1), v_R R v sz, J)) := by
  refine q_C.of (ls0 := [some (.ref v)]) (by decide) rfl (fun _ => rfl) (Nat.le_of_ble_eq_true rfl) rfl ?_
  refine q_aload_n d_Versions_init_0 rfl rfl ?_
  refine q_obj d_Versions_init_1 w_37 w_30 w_31 (Nat.le_of_ble_eq_true rfl) (Nat.le_of_ble_eq_true rfl) (Nat.le_of_ble_eq_true rfl) ?_
  refine q_aload_n d_Versions_init_4 rfl rfl ?_
  refine q_bipush (v := nI 8) d_Versions_init_5 (by decide) ?_
  refine q_newq (kd := 5) (N := _) d_Versions_init_7 rfl (Nat.le_of_ble_eq_true rfl) (Nat.le_of_ble_eq_true rfl) (Nat.le_of_ble_eq_true rfl) w_38 w_39 rfl (by omega) (by omega) (by omega) ?_
  refine q_putR (ci := 9) (fk := 0) (x := some _) d_Versions_init_10 rfl (Nat.le_of_ble_eq_true rfl) w_109 (Or.inr ⟨rfl, rfl, rfl⟩) (fun _ _ => rfl) rfl rfl (by first | assumption | rfl | (simp (disch := omega) only [q_upT_self, q_upT_ne, q_upR_self, q_upR_nea, q_upR_nk, s_T_lo, s_T_hi, s_R_ne, *]; done) | (simp (disch := omega) only [q_upT_self, q_upT_ne, q_upR_self, q_upR_nea, q_upR_nk, s_T_lo, s_T_hi, s_R_ne, *]; rfl)) ?_
  refine q_aload_n d_Versions_init_13 rfl rfl ?_
  refine q_iconst (v := nI 1) d_Versions_init_14 (by decide) ?_
  refine q_putI (ci := 9) (fk := 1) d_Versions_init_15 rfl (Nat.le_of_ble_eq_true rfl) w_111 (Or.inl rfl) (fun _ _ => rfl) rfl rfl (by first | assumption | rfl | (simp (disch := omega) only [q_upT_self, q_upT_ne, q_upR_self, q_upR_nea, q_upR_nk, s_T_lo, s_T_hi, s_R_ne, *]; done) | (simp (disch := omega) only [q_upT_self, q_upT_ne, q_upR_self, q_upR_nea, q_upR_nk, s_T_lo, s_T_hi, s_R_ne, *]; rfl)) ?_
  refine q_aload_n d_Versions_init_18 rfl rfl ?_
  refine q_bipush (v := nI 16) d_Versions_init_19 (by decide) ?_
  refine q_newq (kd := 6) (N := _) d_Versions_init_21 rfl (Nat.le_of_ble_eq_true rfl) (Nat.le_of_ble_eq_true rfl) (Nat.le_of_ble_eq_true rfl) w_40 w_41 rfl (by omega) (by omega) (by omega) ?_
  refine q_putR (ci := 9) (fk := 2) (x := some _) d_Versions_init_24 rfl (Nat.le_of_ble_eq_true rfl) w_113 (Or.inr ⟨rfl, rfl, rfl⟩) (fun _ _ => rfl) rfl rfl (by first | assumption | rfl | (simp (disch := omega) only [q_upT_self, q_upT_ne, q_upR_self, q_upR_nea, q_upR_nk, s_T_lo, s_T_hi, s_R_ne, *]; done) | (simp (disch := omega) only [q_upT_self, q_upT_ne, q_upR_self, q_upR_nea, q_upR_nk, s_T_lo, s_T_hi, s_R_ne, *]; rfl)) ?_
  refine q_aload_n d_Versions_init_27 rfl rfl ?_
  refine q_bipush (v := nI 8) d_Versions_init_28 (by decide) ?_
  refine q_newa (ty := .int) (kd := 0) (N := _) d_Versions_init_30 (Or.inl ⟨rfl, rfl⟩) w_91 rfl (by omega) (by omega) (by omega) ?_
  refine q_putR (ci := 9) (fk := 4) (x := some _) d_Versions_init_32 rfl (Nat.le_of_ble_eq_true rfl) w_117 (Or.inr ⟨rfl, rfl, rfl⟩) (fun _ _ => rfl) rfl rfl (by first | assumption | rfl | (simp (disch := omega) only [q_upT_self, q_upT_ne, q_upR_self, q_upR_nea, q_upR_nk, s_T_lo, s_T_hi, s_R_ne, *]; done) | (simp (disch := omega) only [q_upT_self, q_upT_ne, q_upR_self, q_upR_nea, q_upR_nk, s_T_lo, s_T_hi, s_R_ne, *]; rfl)) ?_
  refine q_aload_n d_Versions_init_35 rfl rfl ?_
  refine q_bipush (v := nI 8) d_Versions_init_36 (by decide) ?_
  refine q_newa (ty := .int) (kd := 0) (N := _) d_Versions_init_38 (Or.inl ⟨rfl, rfl⟩) w_91 rfl (by omega) (by omega) (by omega) ?_
  refine q_putR (ci := 9) (fk := 5) (x := some _) d_Versions_init_40 rfl (Nat.le_of_ble_eq_true rfl) w_119 (Or.inr ⟨rfl, rfl, rfl⟩) (fun _ _ => rfl) rfl rfl (by first | assumption | rfl | (simp (disch := omega) only [q_upT_self, q_upT_ne, q_upR_self, q_upR_nea, q_upR_nk, s_T_lo, s_T_hi, s_R_ne, *]; done) | (simp (disch := omega) only [q_upT_self, q_upT_ne, q_upR_self, q_upR_nea, q_upR_nk, s_T_lo, s_T_hi, s_R_ne, *]; rfl)) ?_
  refine q_aload_n d_Versions_init_43 rfl rfl ?_
  refine q_getR (q := sz) (ci := 9) (fk := 0) d_Versions_init_44 rfl (Nat.le_of_ble_eq_true rfl) w_109 (fun _ _ => rfl) (by first | assumption | rfl | (simp (disch := omega) only [q_upT_self, q_upT_ne, q_upR_self, q_upR_nea, q_upR_nk, s_T_lo, s_T_hi, s_R_ne, *]; done) | (simp (disch := omega) only [q_upT_self, q_upT_ne, q_upR_self, q_upR_nea, q_upR_nk, s_T_lo, s_T_hi, s_R_ne, *]; rfl)) (by first | assumption | rfl | (simp (disch := omega) only [q_upT_self, q_upT_ne, q_upR_self, q_upR_nea, q_upR_nk, s_T_lo, s_T_hi, s_R_ne, *]; done) | (simp (disch := omega) only [q_upT_self, q_upT_ne, q_upR_self, q_upR_nea, q_upR_nk, s_T_lo, s_T_hi, s_R_ne, *]; rfl)) ?_
  refine q_iconst (v := nI 0) d_Versions_init_47 (by decide) ?_
  refine q_newN (ci := 6) (N := 2) d_Versions_init_48 rfl rfl w_38 w_42 w_3 (by omega) (by omega) ?_
  refine q_dup d_Versions_init_51 rfl ?_
  refine q_callIv (M2 := M_Schema_init) d_Versions_init_52 ⟨(Nat.le_of_ble_eq_true rfl), (Nat.le_of_ble_eq_true rfl), w_45, w_3, ⟨by decide, by decide⟩, show _ = some 0 by decide +kernel⟩ rfl rfl rfl w_43 w_44 rfl (Nat.le_of_ble_eq_true rfl) (by omega) (by omega) (c_Schema_init _ q_upT_self (by omega)) ?_
  rintro _ rfl
  refine q_aast (kd := 5) (ci := 6) d_Versions_init_55 rfl rfl (Nat.le_of_ble_eq_true rfl) (Nat.le_of_ble_eq_true rfl) (by first | assumption | rfl | (simp (disch := omega) only [q_upT_self, q_upT_ne, q_upR_self, q_upR_nea, q_upR_nk, s_T_lo, s_T_hi, s_R_ne, *]; done) | (simp (disch := omega) only [q_upT_self, q_upT_ne, q_upR_self, q_upR_nea, q_upR_nk, s_T_lo, s_T_hi, s_R_ne, *]; rfl)) (by first | assumption | rfl | (simp (disch := omega) only [q_upT_self, q_upT_ne, q_upR_self, q_upR_nea, q_upR_nk, s_T_lo, s_T_hi, s_R_ne, *]; done) | (simp (disch := omega) only [q_upT_self, q_upT_ne, q_upR_self, q_upR_nea, q_upR_nk, s_T_lo, s_T_hi, s_R_ne, *]; rfl)) (by first | assumption | exact vp_in_nI (by omega) (by omega)) ?_
  refine q_vret d_Versions_init_56 rfl (by omega) (by omega) ?_
  exact ⟨rfl, rfl⟩
def d_T (T : q_T) (a : Nat) : q_T := q_upT (s_T (q_upT T a (100 + 6, 0)) (a + 1) 24) (a + 1 + 25) (3, 8)
def d_R (R : q_R) (d a : Nat) : q_R := q_upR (q_upR (s_R R a (a + 1) 24) d (nI 0) (some a)) d (nI 1) (some (a + 1 + 25))
theorem c_Draft_init (d : Nat) (hT : T d = some (100 + 2, 0)) (ha : d < sz) : q_Cv g M_Draft_init [.ref d] (sz, T, I, R, J) 27 154 (fun h' => h' = (sz + 1 + 25 + 1, d_T T sz, I, d_R R d sz, J)) := by
  refine q_C.of (ls0 := [some (.ref d)]) (by decide) rfl (fun _ => rfl) (Nat.le_of_ble_eq_true rfl) rfl ?_
  refine q_aload_n d_Draft_init_0 rfl rfl ?_
  refine q_obj d_Draft_init_1 w_138 w_30 w_31 (Nat.le_of_ble_eq_true rfl) (Nat.le_of_ble_eq_true rfl) (Nat.le_of_ble_eq_true rfl) ?_
  refine q_aload_n d_Draft_init_4 rfl rfl ?_
  refine q_newN (ci := 6) (N := 2) d_Draft_init_5 rfl rfl w_139 w_42 w_3 (by omega) (by omega) ?_
  refine q_dup d_Draft_init_8 rfl ?_
  refine q_callIv (M2 := M_Schema_init) d_Draft_init_9 ⟨(Nat.le_of_ble_eq_true rfl), (Nat.le_of_ble_eq_true rfl), w_45, w_3, ⟨by decide, by decide⟩, show _ = some 0 by decide +kernel⟩ rfl rfl rfl w_140 w_44 rfl (Nat.le_of_ble_eq_true rfl) (by omega) (by omega) (c_Schema_init _ q_upT_self (by omega)) ?_
  rintro _ rfl
  refine q_putR (ci := 2) (fk := 0) (x := some _) d_Draft_init_12 rfl (Nat.le_of_ble_eq_true rfl) w_143 (Or.inr ⟨rfl, rfl, rfl⟩) (fun _ _ => rfl) rfl rfl (by first | assumption | rfl | (simp (disch := omega) only [q_upT_self, q_upT_ne, q_upR_self, q_upR_nea, q_upR_nk, s_T_lo, s_T_hi, s_R_ne, *]; done) | (simp (disch := omega) only [q_upT_self, q_upT_ne, q_upR_self, q_upR_nea, q_upR_nk, s_T_lo, s_T_hi, s_R_ne, *]; rfl)) ?_
  refine q_aload_n d_Draft_init_15 rfl rfl ?_
  refine q_bipush (v := nI 8) d_Draft_init_16 (by decide) ?_
  refine q_newq (kd := 3) (N := _) d_Draft_init_18 rfl (Nat.le_of_ble_eq_true rfl) (Nat.le_of_ble_eq_true rfl) (Nat.le_of_ble_eq_true rfl) w_141 w_142 rfl (by omega) (by omega) (by omega) ?_
  refine q_putR (ci := 2) (fk := 1) (x := some _) d_Draft_init_21 rfl (Nat.le_of_ble_eq_true rfl) w_146 (Or.inr ⟨rfl, rfl, rfl⟩) (fun _ _ => rfl) rfl rfl (by first | assumption | rfl | (simp (disch := omega) only [q_upT_self, q_upT_ne, q_upR_self, q_upR_nea, q_upR_nk, s_T_lo, s_T_hi, s_R_ne, *]; done) | (simp (disch := omega) only [q_upT_self, q_upT_ne, q_upR_self, q_upR_nea, q_upR_nk, s_T_lo, s_T_hi, s_R_ne, *]; rfl)) ?_
  refine q_vret d_Draft_init_24 rfl (by omega) (by omega) ?_
  exact ⟨rfl, rfl⟩
def r_T (T : q_T) (a : Nat) : q_T := q_upT (q_upT (q_upT (q_upT (q_upT (q_upT (q_upT T a (100 + 1, 0)) (a + 1) (0, 24 * 7)) (a + 1 + 1) (0, 128)) (a + 1 + 1 + 1) (100 + 1, 0)) (a + 1 + 1 + 1 + 1) (0, 128 * 7)) (a + 1 + 1 + 1 + 1 + 1) (100 + 1, 0)) (a + 1 + 1 + 1 + 1 + 1 + 1) (0, 128 * 7)
def r_R (R : q_R) (r a : Nat) : q_R := q_upR (q_upR (q_upR (q_upR (q_upR (q_upR (q_upR R a (nI 0) (some (a + 1))) r (nI 2) (some a)) r (nI 3) (some (a + 1 + 1))) (a + 1 + 1 + 1) (nI 0) (some (a + 1 + 1 + 1 + 1))) r (nI 4) (some (a + 1 + 1 + 1))) (a + 1 + 1 + 1 + 1 + 1) (nI 0) (some (a + 1 + 1 + 1 + 1 + 1 + 1))) r (nI 5) (some (a + 1 + 1 + 1 + 1 + 1))
theorem c_Row_init (r : Nat) (hT : T r = some (100 + 5, 0)) (ha : r < sz) : q_Cv g M_Row_init [.ref r] (sz, T, I, R, J) 7 2091 (fun h' => h' = (sz + 1 + 1 + 1 + 1 + 1 + 1 + 1, r_T T sz, I, r_R R r sz, J)) := by
  refine q_C.of (ls0 := [some (.ref r)]) (by decide) rfl (fun _ => rfl) (Nat.le_of_ble_eq_true rfl) rfl ?_
  refine q_aload_n d_Row_init_0 rfl rfl ?_
  refine q_obj d_Row_init_1 w_180 w_30 w_31 (Nat.le_of_ble_eq_true rfl) (Nat.le_of_ble_eq_true rfl) (Nat.le_of_ble_eq_true rfl) ?_
  refine q_aload_n d_Row_init_4 rfl rfl ?_
  refine q_newN (ci := 1) (N := 1) d_Row_init_5 rfl rfl w_181 w_182 w_7 (by omega) (by omega) ?_
  refine q_dup d_Row_init_8 rfl ?_
  refine q_bipush (v := nI 24) d_Row_init_9 (by decide) ?_
  refine q_callIv (M2 := M_Cells_init) d_Row_init_11 ⟨(Nat.le_of_ble_eq_true rfl), (Nat.le_of_ble_eq_true rfl), w_185, w_7, ⟨by decide, by decide⟩, show _ = some 1 by decide +kernel⟩ rfl rfl rfl w_183 w_184 rfl (Nat.le_of_ble_eq_true rfl) (by omega) (by omega) (c_Cells_init _ 24 q_upT_self (by omega) (by omega)) ?_
  rintro _ rfl
  refine q_putR (ci := 5) (fk := 2) (x := some _) d_Row_init_14 rfl (Nat.le_of_ble_eq_true rfl) w_196 (Or.inr ⟨rfl, rfl, rfl⟩) (fun _ _ => rfl) rfl rfl (by first | assumption | rfl | (simp (disch := omega) only [q_upT_self, q_upT_ne, q_upR_self, q_upR_nea, q_upR_nk, s_T_lo, s_T_hi, s_R_ne, *]; done) | (simp (disch := omega) only [q_upT_self, q_upT_ne, q_upR_self, q_upR_nea, q_upR_nk, s_T_lo, s_T_hi, s_R_ne, *]; rfl)) ?_
  refine q_aload_n d_Row_init_17 rfl rfl ?_
  refine q_sipush (v := nI 128) d_Row_init_18 (by decide) ?_
  refine q_newa (ty := .int) (kd := 0) (N := _) d_Row_init_21 (Or.inl ⟨rfl, rfl⟩) w_91 rfl (by omega) (by omega) (by omega) ?_
  refine q_putR (ci := 5) (fk := 3) (x := some _) d_Row_init_23 rfl (Nat.le_of_ble_eq_true rfl) w_199 (Or.inr ⟨rfl, rfl, rfl⟩) (fun _ _ => rfl) rfl rfl (by first | assumption | rfl | (simp (disch := omega) only [q_upT_self, q_upT_ne, q_upR_self, q_upR_nea, q_upR_nk, s_T_lo, s_T_hi, s_R_ne, *]; done) | (simp (disch := omega) only [q_upT_self, q_upT_ne, q_upR_self, q_upR_nea, q_upR_nk, s_T_lo, s_T_hi, s_R_ne, *]; rfl)) ?_
  refine q_aload_n d_Row_init_26 rfl rfl ?_
  refine q_newN (ci := 1) (N := 1) d_Row_init_27 rfl rfl w_181 w_182 w_7 (by omega) (by omega) ?_
  refine q_dup d_Row_init_30 rfl ?_
  refine q_sipush (v := nI 128) d_Row_init_31 (by decide) ?_
  refine q_callIv (M2 := M_Cells_init) d_Row_init_34 ⟨(Nat.le_of_ble_eq_true rfl), (Nat.le_of_ble_eq_true rfl), w_185, w_7, ⟨by decide, by decide⟩, show _ = some 1 by decide +kernel⟩ rfl rfl rfl w_183 w_184 rfl (Nat.le_of_ble_eq_true rfl) (by omega) (by omega) (c_Cells_init _ 128 q_upT_self (by omega) (by omega)) ?_
  rintro _ rfl
  refine q_putR (ci := 5) (fk := 4) (x := some _) d_Row_init_37 rfl (Nat.le_of_ble_eq_true rfl) w_201 (Or.inr ⟨rfl, rfl, rfl⟩) (fun _ _ => rfl) rfl rfl (by first | assumption | rfl | (simp (disch := omega) only [q_upT_self, q_upT_ne, q_upR_self, q_upR_nea, q_upR_nk, s_T_lo, s_T_hi, s_R_ne, *]; done) | (simp (disch := omega) only [q_upT_self, q_upT_ne, q_upR_self, q_upR_nea, q_upR_nk, s_T_lo, s_T_hi, s_R_ne, *]; rfl)) ?_
  refine q_aload_n d_Row_init_40 rfl rfl ?_
  refine q_newN (ci := 1) (N := 1) d_Row_init_41 rfl rfl w_181 w_182 w_7 (by omega) (by omega) ?_
  refine q_dup d_Row_init_44 rfl ?_
  refine q_sipush (v := nI 128) d_Row_init_45 (by decide) ?_
  refine q_callIv (M2 := M_Cells_init) d_Row_init_48 ⟨(Nat.le_of_ble_eq_true rfl), (Nat.le_of_ble_eq_true rfl), w_185, w_7, ⟨by decide, by decide⟩, show _ = some 1 by decide +kernel⟩ rfl rfl rfl w_183 w_184 rfl (Nat.le_of_ble_eq_true rfl) (by omega) (by omega) (c_Cells_init _ 128 q_upT_self (by omega) (by omega)) ?_
  rintro _ rfl
  refine q_putR (ci := 5) (fk := 5) (x := some _) d_Row_init_51 rfl (Nat.le_of_ble_eq_true rfl) w_203 (Or.inr ⟨rfl, rfl, rfl⟩) (fun _ _ => rfl) rfl rfl (by first | assumption | rfl | (simp (disch := omega) only [q_upT_self, q_upT_ne, q_upR_self, q_upR_nea, q_upR_nk, s_T_lo, s_T_hi, s_R_ne, *]; done) | (simp (disch := omega) only [q_upT_self, q_upT_ne, q_upR_self, q_upR_nea, q_upR_nk, s_T_lo, s_T_hi, s_R_ne, *]; rfl)) ?_
  refine q_vret d_Row_init_54 rfl (by omega) (by omega) ?_
  exact ⟨rfl, rfl⟩
def k_T (T : q_T) (a : Nat) : q_T := q_upT (q_upT T a (100 + 1, 0)) (a + 1) (0, 34 * 7)
def k_R (R : q_R) (c a : Nat) : q_R := q_upR (q_upR R a (nI 0) (some (a + 1))) c (nI 0) (some a)
theorem c_Carrier_init (c : Nat) (hT : T c = some (100 + 0, 0)) (ha : c < sz) : q_Cv g M_Carrier_init [.ref c] (sz, T, I, R, J) 2 239 (fun h' => h' = (sz + 1 + 1, k_T T sz, I, k_R R c sz, J)) := by
  refine q_C.of (ls0 := [some (.ref c)]) (by decide) rfl (fun _ => rfl) (Nat.le_of_ble_eq_true rfl) rfl ?_
  refine q_aload_n d_Carrier_init_0 rfl rfl ?_
  refine q_obj d_Carrier_init_1 w_223 w_30 w_31 (Nat.le_of_ble_eq_true rfl) (Nat.le_of_ble_eq_true rfl) (Nat.le_of_ble_eq_true rfl) ?_
  refine q_aload_n d_Carrier_init_4 rfl rfl ?_
  refine q_newN (ci := 1) (N := 1) d_Carrier_init_5 rfl rfl w_224 w_182 w_7 (by omega) (by omega) ?_
  refine q_dup d_Carrier_init_8 rfl ?_
  refine q_bipush (v := nI 34) d_Carrier_init_9 (by decide) ?_
  refine q_callIv (M2 := M_Cells_init) d_Carrier_init_11 ⟨(Nat.le_of_ble_eq_true rfl), (Nat.le_of_ble_eq_true rfl), w_185, w_7, ⟨by decide, by decide⟩, show _ = some 1 by decide +kernel⟩ rfl rfl rfl w_225 w_184 rfl (Nat.le_of_ble_eq_true rfl) (by omega) (by omega) (c_Cells_init _ 34 q_upT_self (by omega) (by omega)) ?_
  rintro _ rfl
  refine q_putR (ci := 0) (fk := 0) (x := some _) d_Carrier_init_14 rfl (Nat.le_of_ble_eq_true rfl) w_226 (Or.inr ⟨rfl, rfl, rfl⟩) (fun _ _ => rfl) rfl rfl (by first | assumption | rfl | (simp (disch := omega) only [q_upT_self, q_upT_ne, q_upR_self, q_upR_nea, q_upR_nk, s_T_lo, s_T_hi, s_R_ne, *]; done) | (simp (disch := omega) only [q_upT_self, q_upT_ne, q_upR_self, q_upR_nea, q_upR_nk, s_T_lo, s_T_hi, s_R_ne, *]; rfl)) ?_
  refine q_vret d_Carrier_init_17 rfl (by omega) (by omega) ?_
  exact ⟨rfl, rfl⟩
def t_T9 (T : q_T) (a : Nat) : q_T := q_upT (q_upT (q_upT (q_upT (q_upT (q_upT (q_upT (q_upT (q_upT (q_upT T a (0, 24)) (a + 1) (0, 24)) (a + 1 + 1) (0, 32)) (a + 1 + 1 + 1) (0, 152)) (a + 1 + 1 + 1 + 1) (0, 152)) (a + 1 + 1 + 1 + 1 + 1) (0, 152)) (a + 1 + 1 + 1 + 1 + 1 + 1) (0, 152)) (a + 1 + 1 + 1 + 1 + 1 + 1 + 1) (0, 152)) (a + 1 + 1 + 1 + 1 + 1 + 1 + 1 + 1) (0, 152)) (a + 1 + 1 + 1 + 1 + 1 + 1 + 1 + 1 + 1) (0, 152)
def t_R9 (R : q_R) (t a : Nat) : q_R := q_upR (q_upR (q_upR (q_upR (q_upR (q_upR (q_upR (q_upR (q_upR (q_upR R t (nI 0) (some a)) t (nI 1) (some (a + 1))) t (nI 2) (some (a + 1 + 1))) t (nI 3) (some (a + 1 + 1 + 1))) t (nI 4) (some (a + 1 + 1 + 1 + 1))) t (nI 5) (some (a + 1 + 1 + 1 + 1 + 1))) t (nI 6) (some (a + 1 + 1 + 1 + 1 + 1 + 1))) t (nI 7) (some (a + 1 + 1 + 1 + 1 + 1 + 1 + 1))) t (nI 8) (some (a + 1 + 1 + 1 + 1 + 1 + 1 + 1 + 1))) t (nI 9) (some (a + 1 + 1 + 1 + 1 + 1 + 1 + 1 + 1 + 1))
theorem c_Terms_init (t : Nat) (hT : T t = some (100 + 8, 0)) (ha : t < sz) : q_Cv g M_Terms_init [.ref t] (sz, T, I, R, J) 10 1144 (fun h' => h' = (sz + 1 + 1 + 1 + 1 + 1 + 1 + 1 + 1 + 1 + 1, t_T9 T sz, I, t_R9 R t sz, J)) := by
  refine q_C.of (ls0 := [some (.ref t)]) (by decide) rfl (fun _ => rfl) (Nat.le_of_ble_eq_true rfl) rfl ?_
  refine q_aload_n d_Terms_init_0 rfl rfl ?_
  refine q_obj d_Terms_init_1 w_235 w_30 w_31 (Nat.le_of_ble_eq_true rfl) (Nat.le_of_ble_eq_true rfl) (Nat.le_of_ble_eq_true rfl) ?_
  refine q_aload_n d_Terms_init_4 rfl rfl ?_
  refine q_bipush (v := nI 24) d_Terms_init_5 (by decide) ?_
  refine q_newa (ty := .int) (kd := 0) (N := _) d_Terms_init_7 (Or.inl ⟨rfl, rfl⟩) w_91 rfl (by omega) (by omega) (by omega) ?_
  refine q_putR (ci := 8) (fk := 0) (x := some _) d_Terms_init_9 rfl (Nat.le_of_ble_eq_true rfl) w_236 (Or.inr ⟨rfl, rfl, rfl⟩) (fun _ _ => rfl) rfl rfl (by first | assumption | rfl | (simp (disch := omega) only [q_upT_self, q_upT_ne, q_upR_self, q_upR_nea, q_upR_nk, s_T_lo, s_T_hi, s_R_ne, *]; done) | (simp (disch := omega) only [q_upT_self, q_upT_ne, q_upR_self, q_upR_nea, q_upR_nk, s_T_lo, s_T_hi, s_R_ne, *]; rfl)) ?_
  refine q_aload_n d_Terms_init_12 rfl rfl ?_
  refine q_bipush (v := nI 24) d_Terms_init_13 (by decide) ?_
  refine q_newa (ty := .int) (kd := 0) (N := _) d_Terms_init_15 (Or.inl ⟨rfl, rfl⟩) w_91 rfl (by omega) (by omega) (by omega) ?_
  refine q_putR (ci := 8) (fk := 1) (x := some _) d_Terms_init_17 rfl (Nat.le_of_ble_eq_true rfl) w_238 (Or.inr ⟨rfl, rfl, rfl⟩) (fun _ _ => rfl) rfl rfl (by first | assumption | rfl | (simp (disch := omega) only [q_upT_self, q_upT_ne, q_upR_self, q_upR_nea, q_upR_nk, s_T_lo, s_T_hi, s_R_ne, *]; done) | (simp (disch := omega) only [q_upT_self, q_upT_ne, q_upR_self, q_upR_nea, q_upR_nk, s_T_lo, s_T_hi, s_R_ne, *]; rfl)) ?_
  refine q_aload_n d_Terms_init_20 rfl rfl ?_
  refine q_bipush (v := nI 32) d_Terms_init_21 (by decide) ?_
  refine q_newa (ty := .int) (kd := 0) (N := _) d_Terms_init_23 (Or.inl ⟨rfl, rfl⟩) w_91 rfl (by omega) (by omega) (by omega) ?_
  refine q_putR (ci := 8) (fk := 2) (x := some _) d_Terms_init_25 rfl (Nat.le_of_ble_eq_true rfl) w_240 (Or.inr ⟨rfl, rfl, rfl⟩) (fun _ _ => rfl) rfl rfl (by first | assumption | rfl | (simp (disch := omega) only [q_upT_self, q_upT_ne, q_upR_self, q_upR_nea, q_upR_nk, s_T_lo, s_T_hi, s_R_ne, *]; done) | (simp (disch := omega) only [q_upT_self, q_upT_ne, q_upR_self, q_upR_nea, q_upR_nk, s_T_lo, s_T_hi, s_R_ne, *]; rfl)) ?_
  refine q_aload_n d_Terms_init_28 rfl rfl ?_
  refine q_sipush (v := nI 152) d_Terms_init_29 (by decide) ?_
  refine q_newa (ty := .int) (kd := 0) (N := _) d_Terms_init_32 (Or.inl ⟨rfl, rfl⟩) w_91 rfl (by omega) (by omega) (by omega) ?_
  refine q_putR (ci := 8) (fk := 3) (x := some _) d_Terms_init_34 rfl (Nat.le_of_ble_eq_true rfl) w_241 (Or.inr ⟨rfl, rfl, rfl⟩) (fun _ _ => rfl) rfl rfl (by first | assumption | rfl | (simp (disch := omega) only [q_upT_self, q_upT_ne, q_upR_self, q_upR_nea, q_upR_nk, s_T_lo, s_T_hi, s_R_ne, *]; done) | (simp (disch := omega) only [q_upT_self, q_upT_ne, q_upR_self, q_upR_nea, q_upR_nk, s_T_lo, s_T_hi, s_R_ne, *]; rfl)) ?_
  refine q_aload_n d_Terms_init_37 rfl rfl ?_
  refine q_sipush (v := nI 152) d_Terms_init_38 (by decide) ?_
  refine q_newa (ty := .int) (kd := 0) (N := _) d_Terms_init_41 (Or.inl ⟨rfl, rfl⟩) w_91 rfl (by omega) (by omega) (by omega) ?_
  refine q_putR (ci := 8) (fk := 4) (x := some _) d_Terms_init_43 rfl (Nat.le_of_ble_eq_true rfl) w_242 (Or.inr ⟨rfl, rfl, rfl⟩) (fun _ _ => rfl) rfl rfl (by first | assumption | rfl | (simp (disch := omega) only [q_upT_self, q_upT_ne, q_upR_self, q_upR_nea, q_upR_nk, s_T_lo, s_T_hi, s_R_ne, *]; done) | (simp (disch := omega) only [q_upT_self, q_upT_ne, q_upR_self, q_upR_nea, q_upR_nk, s_T_lo, s_T_hi, s_R_ne, *]; rfl)) ?_
  refine q_aload_n d_Terms_init_46 rfl rfl ?_
  refine q_sipush (v := nI 152) d_Terms_init_47 (by decide) ?_
  refine q_newa (ty := .int) (kd := 0) (N := _) d_Terms_init_50 (Or.inl ⟨rfl, rfl⟩) w_91 rfl (by omega) (by omega) (by omega) ?_
  refine q_putR (ci := 8) (fk := 5) (x := some _) d_Terms_init_52 rfl (Nat.le_of_ble_eq_true rfl) w_243 (Or.inr ⟨rfl, rfl, rfl⟩) (fun _ _ => rfl) rfl rfl (by first | assumption | rfl | (simp (disch := omega) only [q_upT_self, q_upT_ne, q_upR_self, q_upR_nea, q_upR_nk, s_T_lo, s_T_hi, s_R_ne, *]; done) | (simp (disch := omega) only [q_upT_self, q_upT_ne, q_upR_self, q_upR_nea, q_upR_nk, s_T_lo, s_T_hi, s_R_ne, *]; rfl)) ?_
  refine q_aload_n d_Terms_init_55 rfl rfl ?_
  refine q_sipush (v := nI 152) d_Terms_init_56 (by decide) ?_
  refine q_newa (ty := .int) (kd := 0) (N := _) d_Terms_init_59 (Or.inl ⟨rfl, rfl⟩) w_91 rfl (by omega) (by omega) (by omega) ?_
  refine q_putR (ci := 8) (fk := 6) (x := some _) d_Terms_init_61 rfl (Nat.le_of_ble_eq_true rfl) w_244 (Or.inr ⟨rfl, rfl, rfl⟩) (fun _ _ => rfl) rfl rfl (by first | assumption | rfl | (simp (disch := omega) only [q_upT_self, q_upT_ne, q_upR_self, q_upR_nea, q_upR_nk, s_T_lo, s_T_hi, s_R_ne, *]; done) | (simp (disch := omega) only [q_upT_self, q_upT_ne, q_upR_self, q_upR_nea, q_upR_nk, s_T_lo, s_T_hi, s_R_ne, *]; rfl)) ?_
  refine q_aload_n d_Terms_init_64 rfl rfl ?_
  refine q_sipush (v := nI 152) d_Terms_init_65 (by decide) ?_
  refine q_newa (ty := .int) (kd := 0) (N := _) d_Terms_init_68 (Or.inl ⟨rfl, rfl⟩) w_91 rfl (by omega) (by omega) (by omega) ?_
  refine q_putR (ci := 8) (fk := 7) (x := some _) d_Terms_init_70 rfl (Nat.le_of_ble_eq_true rfl) w_245 (Or.inr ⟨rfl, rfl, rfl⟩) (fun _ _ => rfl) rfl rfl (by first | assumption | rfl | (simp (disch := omega) only [q_upT_self, q_upT_ne, q_upR_self, q_upR_nea, q_upR_nk, s_T_lo, s_T_hi, s_R_ne, *]; done) | (simp (disch := omega) only [q_upT_self, q_upT_ne, q_upR_self, q_upR_nea, q_upR_nk, s_T_lo, s_T_hi, s_R_ne, *]; rfl)) ?_
  refine q_aload_n d_Terms_init_73 rfl rfl ?_
  refine q_sipush (v := nI 152) d_Terms_init_74 (by decide) ?_
  refine q_newa (ty := .int) (kd := 0) (N := _) d_Terms_init_77 (Or.inl ⟨rfl, rfl⟩) w_91 rfl (by omega) (by omega) (by omega) ?_
  refine q_putR (ci := 8) (fk := 8) (x := some _) d_Terms_init_79 rfl (Nat.le_of_ble_eq_true rfl) w_246 (Or.inr ⟨rfl, rfl, rfl⟩) (fun _ _ => rfl) rfl rfl (by first | assumption | rfl | (simp (disch := omega) only [q_upT_self, q_upT_ne, q_upR_self, q_upR_nea, q_upR_nk, s_T_lo, s_T_hi, s_R_ne, *]; done) | (simp (disch := omega) only [q_upT_self, q_upT_ne, q_upR_self, q_upR_nea, q_upR_nk, s_T_lo, s_T_hi, s_R_ne, *]; rfl)) ?_
  refine q_aload_n d_Terms_init_82 rfl rfl ?_
  refine q_sipush (v := nI 152) d_Terms_init_83 (by decide) ?_
  refine q_newa (ty := .int) (kd := 0) (N := _) d_Terms_init_86 (Or.inl ⟨rfl, rfl⟩) w_91 rfl (by omega) (by omega) (by omega) ?_
  refine q_putR (ci := 8) (fk := 9) (x := some _) d_Terms_init_88 rfl (Nat.le_of_ble_eq_true rfl) w_247 (Or.inr ⟨rfl, rfl, rfl⟩) (fun _ _ => rfl) rfl rfl (by first | assumption | rfl | (simp (disch := omega) only [q_upT_self, q_upT_ne, q_upR_self, q_upR_nea, q_upR_nk, s_T_lo, s_T_hi, s_R_ne, *]; done) | (simp (disch := omega) only [q_upT_self, q_upT_ne, q_upR_self, q_upR_nea, q_upR_nk, s_T_lo, s_T_hi, s_R_ne, *]; rfl)) ?_
  refine q_vret d_Terms_init_91 rfl (by omega) (by omega) ?_
  exact ⟨rfl, rfl⟩
end CInit2
