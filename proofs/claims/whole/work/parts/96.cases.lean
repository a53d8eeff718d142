/-! the law's cases: the class's call, the reference's call, the comparison -/
abbrev M_Model_thrown : q_M := (⟨"LensPathsModel", "thrown", "()I"⟩, prog_14_method_2_code, 1, (some .int), "LensPathsModel", [], false, 0, 0)
theorem d_Model_thrown_0 : decode prog_14_method_2_code 0 = .ok (.aload_n 0, 1) := by decide +kernel
theorem d_Model_thrown_1 : decode prog_14_method_2_code 1 = .ok (.getfield 101, 3) := by decide +kernel
theorem d_Model_thrown_4 : decode prog_14_method_2_code 4 = .ok (.ireturn, 1) := by decide +kernel
section LCase
variable {g : q_G} {sz : Nat} {T : q_T} {I : q_I} {R : q_R} {J : q_J}
theorem c_Model_thrown {m : Nat} (hm : T m = some (111, 0)) : q_Ci g M_Model_thrown [.ref m] (sz, T, I, R, J) 0 0 (fun r h' => r = I m (nI 0) ∧ h' = (sz, T, I, R, J)) := by
  have hL : q_L 11 [] m T R := ⟨hm, fun fk off kd n z => nomatch z⟩
  refine q_C.of (ls0 := [some (.ref m)]) (by decide) rfl (by decide) (Nat.le_of_ble_eq_true rfl) rfl ?_
  refine q_aload_n d_Model_thrown_0 rfl rfl ?_
  refine q_getI (ci := 11) (fk := 0) d_Model_thrown_1 rfl (Nat.le_of_ble_eq_true rfl) w_1104 (fun _ _ => rfl) hL.1 ?_
  refine q_iret d_Model_thrown_4 rfl (by omega) (by omega) ?_
  exact ⟨_, rfl, rfl, rfl⟩
/-- what the law itself reads -/
def q_Lw (b x L : Nat) (f : Int32 → Int32) (T : q_T) (I : q_I) : Prop := T b = some (50, L) ∧ I b = f ∧ T x = some (110, 0) ∧ T (x + 83) = some (111, 0) ∧ T (x + 113) = some (1, 1)
abbrev q_Inv : Type := Nat → Nat → q_T → q_I → q_R → Prop
def q_LQ : q_O → q_H → Prop := fun o _ => o = .inl (some (.int 1))
theorem q_Wi_use {out : Nat} {P : Int32 → Int32 → q_H → Prop} {kv : Int32} {h' : q_H} (hw : q_Wi out P kv h') : ∃ (r : Int32) (sz1 : Nat) (T1 : q_T) (I1 : q_I) (R1 : q_R) (J1 J2 : q_J), P kv r (sz1, T1, I1, R1, J1) ∧ h' = (sz1, T1, I1, R1, J2) ∧ (kv = 0 → J2 out (nI 0) = r.toInt64) := by
  rcases hw with ⟨e1, r, ⟨sz1, T1, I1, R1, J1⟩, hp, e2⟩ | ⟨hk, hp⟩
  · subst e1
    exact ⟨r, sz1, T1, I1, R1, J1, _, hp, e2, fun _ => if_pos ⟨rfl, rfl⟩⟩
  · obtain ⟨sz1, T1, I1, R1, J1⟩ := h'
    exact ⟨0, sz1, T1, I1, R1, J1, J1, hp, rfl, fun z => absurd z hk⟩
theorem q_Wz_use {out : Nat} {P : Int32 → Int32 → q_H → Prop} {kv : Int32} {h' : q_H} (hw : q_Wz out P kv h') : ∃ (r : Int32) (sz1 : Nat) (T1 : q_T) (I1 : q_I) (R1 : q_R) (J1 J2 : q_J), P kv r (sz1, T1, I1, R1, J1) ∧ h' = (sz1, T1, I1, R1, J2) ∧ (kv = 0 → J2 out (nI 0) = if r = 0 then lN 0 else lN 1) := by
  rcases hw with ⟨e1, r, ⟨sz1, T1, I1, R1, J1⟩, hp, e2⟩ | ⟨hk, hp⟩
  · subst e1
    exact ⟨r, sz1, T1, I1, R1, J1, _, hp, e2, fun _ => if_pos ⟨rfl, rfl⟩⟩
  · obtain ⟨sz1, T1, I1, R1, J1⟩ := h'
    exact ⟨0, sz1, T1, I1, R1, J1, J1, hp, rfl, fun z => absurd z hk⟩
def q_op_field (g : q_G) (b x L : Nat) (f : Int32 → Int32) (Inv : q_Inv) : Prop := ∀ (n sz : Nat) (T : q_T) (I : q_I) (R : q_R) (J : q_J), Inv (n + 1) sz T I R → ∀ p0 p1 p2 p3 : Int32, ∃ P : Int32 → Int32 → q_H → Prop, q_C g M_Lens_field [.ref x, .int p0, .int p1, .int p2, .int p3] (sz, T, I, R, J) 1000 14000 (q_Xi [0, 1] P) ∧ ∀ (k r : Int32) (h1 : q_H), P k r h1 → q_Lw b x L f h1.2.1 h1.2.2.1 ∧ ∀ J1 : q_J, q_Ci g M_Model_field [.ref (x + 83), .int p0, .int p1, .int p2, .int p3] (h1.1, h1.2.1, h1.2.2.1, h1.2.2.2.1, J1) 0 0 (fun v h2 => (k = 0 → v = r) ∧ h2.2.2.1 (x + 83) (nI 0) = k ∧ h2.2.2.2.2 = J1 ∧ Inv n h2.1 h2.2.1 h2.2.2.1 h2.2.2.2.1)
theorem l_field {b x L : Nat} {f : Int32 → Int32} {Inv : q_Inv} (hop : q_op_field g b x L f Inv) (hNC : q_NC g) (hI : ∀ n sz T I R, Inv n sz T I R → q_Lw b x L f T I) {n d c k : Nat} {l5 l6 : Option Value} (hd : 6 * d + 6 ≤ L) (hL : L ≤ 3072) (hi : Inv (n + 1) sz T I R) (hc0 : c + 1000 ≤ 601024) (hk0 : k + 14000 ≤ 7293034) (kk : ∀ sz T I R J v5 v6, Inv n sz T I R → q_V g M_Law_law 601024 7293034 (c + 1000) (k + 14000) (sz, T, I, R, J) q_LQ 1548 [some (.ref b), some (.ref x), some (.ref (x + 83)), some (.ref (x + 113)), some (.int (nI (6 * d))), v5, v6] []) : q_V g M_Law_law 601024 7293034 c k (sz, T, I, R, J) q_LQ 144 [some (.ref b), some (.ref x), some (.ref (x + 83)), some (.ref (x + 113)), some (.int (nI (6 * d))), l5, l6] [] := by
  obtain ⟨hb, hf, hx, hm, ho⟩ := hI _ _ _ _ _ hi
  obtain ⟨P, hK, hM⟩ := hop n sz T I R J hi (f (nI (6 * d + 1))) (f (nI (6 * d + 2))) (f (nI (6 * d + 3))) (f (nI (6 * d + 4)))
  refine q_aload_n d_Law_law_144 rfl rfl ?_
  refine q_aload_n d_Law_law_145 rfl rfl ?_
  refine q_iload d_Law_law_146 rfl ?_
  refine q_iconst (v := nI 1) d_Law_law_148 (by decide) ?_
  first | refine q_iaddN d_Law_law_149 ?_ | refine q_iadd d_Law_law_149 ?_
  refine q_ialdX d_Law_law_150 (by assumption) (by first | assumption | exact vp_in_nI (by omega) (by omega)) ?_
  refine q_aload_n d_Law_law_151 rfl rfl ?_
  refine q_iload d_Law_law_152 rfl ?_
  refine q_iconst (v := nI 2) d_Law_law_154 (by decide) ?_
  first | refine q_iaddN d_Law_law_155 ?_ | refine q_iadd d_Law_law_155 ?_
  refine q_ialdX d_Law_law_156 (by assumption) (by first | assumption | exact vp_in_nI (by omega) (by omega)) ?_
  refine q_aload_n d_Law_law_157 rfl rfl ?_
  refine q_iload d_Law_law_158 rfl ?_
  refine q_iconst (v := nI 3) d_Law_law_160 (by decide) ?_
  first | refine q_iaddN d_Law_law_161 ?_ | refine q_iadd d_Law_law_161 ?_
  refine q_ialdX d_Law_law_162 (by assumption) (by first | assumption | exact vp_in_nI (by omega) (by omega)) ?_
  refine q_aload_n d_Law_law_163 rfl rfl ?_
  refine q_iload d_Law_law_164 rfl ?_
  refine q_iconst (v := nI 4) d_Law_law_166 (by decide) ?_
  first | refine q_iaddN d_Law_law_167 ?_ | refine q_iadd d_Law_law_167 ?_
  refine q_ialdX d_Law_law_168 (by assumption) (by first | assumption | exact vp_in_nI (by omega) (by omega)) ?_
  refine q_aload_n d_Law_law_169 rfl rfl ?_
  rw [hf]
  refine q_callSi (M2 := M_Law_field) d_Law_law_170 ⟨(Nat.le_of_ble_eq_true rfl), (Nat.le_of_ble_eq_true rfl), w_300, w_0, ⟨by decide, by decide⟩, show _ = some 6 by decide +kernel⟩ w_298 w_299 rfl (Nat.le_of_ble_eq_true rfl) (by omega) (by omega) (w_field hNC hx hK (fun r h' hp => (hM 0 r h' hp).1.2.2.2.2)) ?_
  intro kv h' hw
  obtain ⟨r, sz1, T1, I1, R1, J1, J2, hp, e2, hJ⟩ := q_Wi_use hw
  subst e2
  obtain ⟨⟨hb1, hf1, hx1, hm1, ho1⟩, hM1⟩ := hM kv r _ hp
  have hb2 : T1 b = some (50, L) := hb1
  have hf2 : I1 b = f := hf1
  have hm2 : T1 (x + 83) = some (111, 0) := hm1
  refine q_istore d_Law_law_173 (Nat.le_of_ble_eq_true rfl) (by first | exact q_ok0 | exact q_okI rfl | exact q_okR rfl | exact q_okN rfl) rfl ?_
  refine q_aload_n d_Law_law_175 rfl rfl ?_
  refine q_aload_n d_Law_law_176 rfl rfl ?_
  refine q_iload d_Law_law_177 rfl ?_
  refine q_iconst (v := nI 1) d_Law_law_179 (by decide) ?_
  first | refine q_iaddN d_Law_law_180 ?_ | refine q_iadd d_Law_law_180 ?_
  refine q_ialdX d_Law_law_181 (by assumption) (by first | assumption | exact vp_in_nI (by omega) (by omega)) ?_
  refine q_aload_n d_Law_law_182 rfl rfl ?_
  refine q_iload d_Law_law_183 rfl ?_
  refine q_iconst (v := nI 2) d_Law_law_185 (by decide) ?_
  first | refine q_iaddN d_Law_law_186 ?_ | refine q_iadd d_Law_law_186 ?_
  refine q_ialdX d_Law_law_187 (by assumption) (by first | assumption | exact vp_in_nI (by omega) (by omega)) ?_
  refine q_aload_n d_Law_law_188 rfl rfl ?_
  refine q_iload d_Law_law_189 rfl ?_
  refine q_iconst (v := nI 3) d_Law_law_191 (by decide) ?_
  first | refine q_iaddN d_Law_law_192 ?_ | refine q_iadd d_Law_law_192 ?_
  refine q_ialdX d_Law_law_193 (by assumption) (by first | assumption | exact vp_in_nI (by omega) (by omega)) ?_
  refine q_aload_n d_Law_law_194 rfl rfl ?_
  refine q_iload d_Law_law_195 rfl ?_
  refine q_iconst (v := nI 4) d_Law_law_197 (by decide) ?_
  first | refine q_iaddN d_Law_law_198 ?_ | refine q_iadd d_Law_law_198 ?_
  refine q_ialdX d_Law_law_199 (by assumption) (by first | assumption | exact vp_in_nI (by omega) (by omega)) ?_
  rw [hf2]
  refine q_callVi (M2 := M_Model_field) d_Law_law_200 ⟨(Nat.le_of_ble_eq_true rfl), (Nat.le_of_ble_eq_true rfl), w_1229, w_10, ⟨by decide, by decide⟩, show _ = some 4 by decide +kernel⟩ w_1226 w_1227 (ci := 11) rfl w_1228 (by first | assumption | rfl | (simp (disch := omega) only [q_upT_self, q_upT_ne, q_upR_self, q_upR_nea, q_upR_nk, s_T_lo, s_T_hi, s_R_ne, *]; done) | (simp (disch := omega) only [q_upT_self, q_upT_ne, q_upR_self, q_upR_nea, q_upR_nk, s_T_lo, s_T_hi, s_R_ne, *]; rfl)) rfl (Nat.le_of_ble_eq_true rfl) (by omega) (by omega) (hM1 J2) ?_
  rintro v ⟨sz2, T2, I2, R2, J3⟩ ⟨hv, ht, hJ2, hi2⟩
  have hJ3 : J3 = J2 := hJ2
  subst hJ3
  have ht2 : I2 (x + 83) (nI 0) = kv := ht
  obtain ⟨hb3, hf3, hx3, hm3, ho3⟩ := hI _ _ _ _ _ hi2
  have hm4 : T2 (x + 83) = some (111, 0) := hm3
  have ho4 : T2 (x + 113) = some (1, 1) := ho3
  refine q_istore d_Law_law_203 (Nat.le_of_ble_eq_true rfl) (by first | exact q_ok0 | exact q_okI rfl | exact q_okR rfl | exact q_okN rfl) rfl ?_
  refine q_aload_n d_Law_law_205 rfl rfl ?_
  refine q_callVi (M2 := M_Model_thrown) d_Law_law_206 ⟨(Nat.le_of_ble_eq_true rfl), (Nat.le_of_ble_eq_true rfl), w_1225, w_10, ⟨by decide, by decide⟩, show _ = some 0 by decide +kernel⟩ w_1222 w_1223 (ci := 11) rfl w_1224 (by first | assumption | rfl | (simp (disch := omega) only [q_upT_self, q_upT_ne, q_upR_self, q_upR_nea, q_upR_nk, s_T_lo, s_T_hi, s_R_ne, *]; done) | (simp (disch := omega) only [q_upT_self, q_upT_ne, q_upR_self, q_upR_nea, q_upR_nk, s_T_lo, s_T_hi, s_R_ne, *]; rfl)) rfl (Nat.le_of_ble_eq_true rfl) (by omega) (by omega) (c_Model_thrown hm4) ?_
  rintro _ _ ⟨rfl, rfl⟩
  rw [ht2]
  refine q_iload d_Law_law_209 rfl ?_
  refine q_icmp_eq (tgt := 216) d_Law_law_211 rfl (fun hc => ?_) (fun hc => ?_)
  · refine q_iload d_Law_law_216 rfl ?_
    refine q_if_ne (tgt := 233) d_Law_law_218 rfl (fun hc => ?_) (fun hc => ?_)
    · refine q_goto (tgt := 1548) d_Law_law_233 (by omega) ?_
      exact kk _ _ _ _ _ _ _ hi2
    · have hz : kv = 0 := by first | exact hc | exact Decidable.not_not.mp hc
      refine q_aload_n d_Law_law_221 rfl rfl ?_
      refine q_iconst (v := nI 0) d_Law_law_222 (by decide) ?_
      refine q_lald d_Law_law_223 (by first | assumption | rfl | (simp (disch := omega) only [q_upT_self, q_upT_ne, q_upR_self, q_upR_nea, q_upR_nk, s_T_lo, s_T_hi, s_R_ne, *]; done) | (simp (disch := omega) only [q_upT_self, q_upT_ne, q_upR_self, q_upR_nea, q_upR_nk, s_T_lo, s_T_hi, s_R_ne, *]; rfl)) (by first | assumption | exact vp_in_nI (by omega) (by omega)) ?_
      refine q_iload d_Law_law_224 rfl ?_
      refine q_i2l d_Law_law_226 rfl ?_
      refine q_lcmp d_Law_law_227 ?_
      refine q_if_eq (tgt := 233) d_Law_law_228 rfl (fun hc => ?_) (fun hc => ?_)
      · refine q_goto (tgt := 1548) d_Law_law_233 (by omega) ?_
        exact kk _ _ _ _ _ _ _ hi2
      · exact absurd ((lg_cmp_eq _ _).mpr (by rw [hJ hz, hv hz])) hc
  · exact absurd rfl hc
def q_op_begin (g : q_G) (b x L : Nat) (f : Int32 → Int32) (Inv : q_Inv) : Prop := ∀ (n sz : Nat) (T : q_T) (I : q_I) (R : q_R) (J : q_J), Inv (n + 1) sz T I R → ∀ p0 : Int32, ∃ P : Int32 → q_H → Prop, q_C g M_Lens_begin [.ref x, .int p0] (sz, T, I, R, J) 1000 14000 (q_Xv [2, 0] P) ∧ ∀ (k : Int32) (h1 : q_H), P k h1 → q_Lw b x L f h1.2.1 h1.2.2.1 ∧ q_Cv g M_Model_begin [.ref (x + 83), .int p0] h1 0 0 (fun h2 => h2.2.2.1 (x + 83) (nI 0) = k ∧ Inv n h2.1 h2.2.1 h2.2.2.1 h2.2.2.2.1)
theorem l_begin {b x L : Nat} {f : Int32 → Int32} {Inv : q_Inv} (hop : q_op_begin g b x L f Inv) (hNC : q_NC g) (hI : ∀ n sz T I R, Inv n sz T I R → q_Lw b x L f T I) {n d c k : Nat} {l5 l6 : Option Value} (hd : 6 * d + 6 ≤ L) (hL : L ≤ 3072) (hi : Inv (n + 1) sz T I R) (hc0 : c + 1000 ≤ 601024) (hk0 : k + 14000 ≤ 7293034) (kk : ∀ sz T I R J v5 v6, Inv n sz T I R → q_V g M_Law_law 601024 7293034 (c + 1000) (k + 14000) (sz, T, I, R, J) q_LQ 1548 [some (.ref b), some (.ref x), some (.ref (x + 83)), some (.ref (x + 113)), some (.int (nI (6 * d))), v5, v6] []) : q_V g M_Law_law 601024 7293034 c k (sz, T, I, R, J) q_LQ 236 [some (.ref b), some (.ref x), some (.ref (x + 83)), some (.ref (x + 113)), some (.int (nI (6 * d))), l5, l6] [] := by
  obtain ⟨hb, hf, hx, hm, ho⟩ := hI _ _ _ _ _ hi
  obtain ⟨P, hK, hM⟩ := hop n sz T I R J hi (f (nI (6 * d + 1)))
  refine q_aload_n d_Law_law_236 rfl rfl ?_
  refine q_aload_n d_Law_law_237 rfl rfl ?_
  refine q_iload d_Law_law_238 rfl ?_
  refine q_iconst (v := nI 1) d_Law_law_240 (by decide) ?_
  first | refine q_iaddN d_Law_law_241 ?_ | refine q_iadd d_Law_law_241 ?_
  refine q_ialdX d_Law_law_242 (by assumption) (by first | assumption | exact vp_in_nI (by omega) (by omega)) ?_
  rw [hf]
  refine q_callSi (M2 := M_Law_begin) d_Law_law_243 ⟨(Nat.le_of_ble_eq_true rfl), (Nat.le_of_ble_eq_true rfl), w_421, w_0, ⟨by decide, by decide⟩, show _ = some 2 by decide +kernel⟩ w_419 w_420 rfl (Nat.le_of_ble_eq_true rfl) (by omega) (by omega) (w_begin hNC hx hK) ?_
  rintro kv ⟨sz1, T1, I1, R1, J1⟩ hp
  obtain ⟨⟨hb1, hf1, hx1, hm1, ho1⟩, hM1⟩ := hM kv _ hp
  have hb2 : T1 b = some (50, L) := hb1
  have hf2 : I1 b = f := hf1
  have hm2 : T1 (x + 83) = some (111, 0) := hm1
  refine q_istore d_Law_law_246 (Nat.le_of_ble_eq_true rfl) (by first | exact q_ok0 | exact q_okI rfl | exact q_okR rfl | exact q_okN rfl) rfl ?_
  refine q_aload_n d_Law_law_248 rfl rfl ?_
  refine q_aload_n d_Law_law_249 rfl rfl ?_
  refine q_iload d_Law_law_250 rfl ?_
  refine q_iconst (v := nI 1) d_Law_law_252 (by decide) ?_
  first | refine q_iaddN d_Law_law_253 ?_ | refine q_iadd d_Law_law_253 ?_
  refine q_ialdX d_Law_law_254 (by assumption) (by first | assumption | exact vp_in_nI (by omega) (by omega)) ?_
  rw [hf2]
  refine q_callVv (M2 := M_Model_begin) d_Law_law_255 ⟨(Nat.le_of_ble_eq_true rfl), (Nat.le_of_ble_eq_true rfl), w_1277, w_10, ⟨by decide, by decide⟩, show _ = some 1 by decide +kernel⟩ w_1274 w_1275 (ci := 11) rfl w_1276 (by first | assumption | rfl | (simp (disch := omega) only [q_upT_self, q_upT_ne, q_upR_self, q_upR_nea, q_upR_nk, s_T_lo, s_T_hi, s_R_ne, *]; done) | (simp (disch := omega) only [q_upT_self, q_upT_ne, q_upR_self, q_upR_nea, q_upR_nk, s_T_lo, s_T_hi, s_R_ne, *]; rfl)) rfl (Nat.le_of_ble_eq_true rfl) (by omega) (by omega) (hM1) ?_
  rintro ⟨sz2, T2, I2, R2, J3⟩ ⟨ht, hi2⟩
  have ht2 : I2 (x + 83) (nI 0) = kv := ht
  obtain ⟨hb3, hf3, hx3, hm3, ho3⟩ := hI _ _ _ _ _ hi2
  have hm4 : T2 (x + 83) = some (111, 0) := hm3
  have ho4 : T2 (x + 113) = some (1, 1) := ho3
  refine q_aload_n d_Law_law_258 rfl rfl ?_
  refine q_callVi (M2 := M_Model_thrown) d_Law_law_259 ⟨(Nat.le_of_ble_eq_true rfl), (Nat.le_of_ble_eq_true rfl), w_1225, w_10, ⟨by decide, by decide⟩, show _ = some 0 by decide +kernel⟩ w_1222 w_1223 (ci := 11) rfl w_1224 (by first | assumption | rfl | (simp (disch := omega) only [q_upT_self, q_upT_ne, q_upR_self, q_upR_nea, q_upR_nk, s_T_lo, s_T_hi, s_R_ne, *]; done) | (simp (disch := omega) only [q_upT_self, q_upT_ne, q_upR_self, q_upR_nea, q_upR_nk, s_T_lo, s_T_hi, s_R_ne, *]; rfl)) rfl (Nat.le_of_ble_eq_true rfl) (by omega) (by omega) (c_Model_thrown hm4) ?_
  rintro _ _ ⟨rfl, rfl⟩
  rw [ht2]
  refine q_iload d_Law_law_262 rfl ?_
  refine q_icmp_eq (tgt := 269) d_Law_law_264 rfl (fun hc => ?_) (fun hc => ?_)
  · refine q_goto (tgt := 1548) d_Law_law_269 (by omega) ?_
    exact kk _ _ _ _ _ _ _ hi2
  · exact absurd rfl hc
def q_op_primitive (g : q_G) (b x L : Nat) (f : Int32 → Int32) (Inv : q_Inv) : Prop := ∀ (n sz : Nat) (T : q_T) (I : q_I) (R : q_R) (J : q_J), Inv (n + 1) sz T I R → ∀ p0 p1 p2 p3 p4 : Int32, ∃ P : Int32 → Int32 → q_H → Prop, q_C g M_Lens_primitive [.ref x, .int p0, .int p1, .int p2, .int p3, .int p4] (sz, T, I, R, J) 1000 14000 (q_Xi [0, 1] P) ∧ ∀ (k r : Int32) (h1 : q_H), P k r h1 → q_Lw b x L f h1.2.1 h1.2.2.1 ∧ ∀ J1 : q_J, q_Ci g M_Model_primitive [.ref (x + 83), .int p0, .int p1, .int p2, .int p3, .int p4] (h1.1, h1.2.1, h1.2.2.1, h1.2.2.2.1, J1) 0 0 (fun v h2 => (k = 0 → v = r) ∧ h2.2.2.1 (x + 83) (nI 0) = k ∧ h2.2.2.2.2 = J1 ∧ Inv n h2.1 h2.2.1 h2.2.2.1 h2.2.2.2.1)
theorem l_primitive {b x L : Nat} {f : Int32 → Int32} {Inv : q_Inv} (hop : q_op_primitive g b x L f Inv) (hNC : q_NC g) (hI : ∀ n sz T I R, Inv n sz T I R → q_Lw b x L f T I) {n d c k : Nat} {l5 l6 : Option Value} (hd : 6 * d + 6 ≤ L) (hL : L ≤ 3072) (hi : Inv (n + 1) sz T I R) (hc0 : c + 1000 ≤ 601024) (hk0 : k + 14000 ≤ 7293034) (kk : ∀ sz T I R J v5 v6, Inv n sz T I R → q_V g M_Law_law 601024 7293034 (c + 1000) (k + 14000) (sz, T, I, R, J) q_LQ 1548 [some (.ref b), some (.ref x), some (.ref (x + 83)), some (.ref (x + 113)), some (.int (nI (6 * d))), v5, v6] []) : q_V g M_Law_law 601024 7293034 c k (sz, T, I, R, J) q_LQ 272 [some (.ref b), some (.ref x), some (.ref (x + 83)), some (.ref (x + 113)), some (.int (nI (6 * d))), l5, l6] [] := by
  obtain ⟨hb, hf, hx, hm, ho⟩ := hI _ _ _ _ _ hi
  obtain ⟨P, hK, hM⟩ := hop n sz T I R J hi (f (nI (6 * d + 1))) (f (nI (6 * d + 2))) (f (nI (6 * d + 3))) (f (nI (6 * d + 4))) (f (nI (6 * d + 5)))
  refine q_aload_n d_Law_law_272 rfl rfl ?_
  refine q_aload_n d_Law_law_273 rfl rfl ?_
  refine q_iload d_Law_law_274 rfl ?_
  refine q_iconst (v := nI 1) d_Law_law_276 (by decide) ?_
  first | refine q_iaddN d_Law_law_277 ?_ | refine q_iadd d_Law_law_277 ?_
  refine q_ialdX d_Law_law_278 (by assumption) (by first | assumption | exact vp_in_nI (by omega) (by omega)) ?_
  refine q_aload_n d_Law_law_279 rfl rfl ?_
  refine q_iload d_Law_law_280 rfl ?_
  refine q_iconst (v := nI 2) d_Law_law_282 (by decide) ?_
  first | refine q_iaddN d_Law_law_283 ?_ | refine q_iadd d_Law_law_283 ?_
  refine q_ialdX d_Law_law_284 (by assumption) (by first | assumption | exact vp_in_nI (by omega) (by omega)) ?_
  refine q_aload_n d_Law_law_285 rfl rfl ?_
  refine q_iload d_Law_law_286 rfl ?_
  refine q_iconst (v := nI 3) d_Law_law_288 (by decide) ?_
  first | refine q_iaddN d_Law_law_289 ?_ | refine q_iadd d_Law_law_289 ?_
  refine q_ialdX d_Law_law_290 (by assumption) (by first | assumption | exact vp_in_nI (by omega) (by omega)) ?_
  refine q_aload_n d_Law_law_291 rfl rfl ?_
  refine q_iload d_Law_law_292 rfl ?_
  refine q_iconst (v := nI 4) d_Law_law_294 (by decide) ?_
  first | refine q_iaddN d_Law_law_295 ?_ | refine q_iadd d_Law_law_295 ?_
  refine q_ialdX d_Law_law_296 (by assumption) (by first | assumption | exact vp_in_nI (by omega) (by omega)) ?_
  refine q_aload_n d_Law_law_297 rfl rfl ?_
  refine q_iload d_Law_law_298 rfl ?_
  refine q_iconst (v := nI 5) d_Law_law_300 (by decide) ?_
  first | refine q_iaddN d_Law_law_301 ?_ | refine q_iadd d_Law_law_301 ?_
  refine q_ialdX d_Law_law_302 (by assumption) (by first | assumption | exact vp_in_nI (by omega) (by omega)) ?_
  refine q_aload_n d_Law_law_303 rfl rfl ?_
  rw [hf]
  refine q_callSi (M2 := M_Law_primitive) d_Law_law_304 ⟨(Nat.le_of_ble_eq_true rfl), (Nat.le_of_ble_eq_true rfl), w_464, w_0, ⟨by decide, by decide⟩, show _ = some 7 by decide +kernel⟩ w_462 w_463 rfl (Nat.le_of_ble_eq_true rfl) (by omega) (by omega) (w_primitive hNC hx hK (fun r h' hp => (hM 0 r h' hp).1.2.2.2.2)) ?_
  intro kv h' hw
  obtain ⟨r, sz1, T1, I1, R1, J1, J2, hp, e2, hJ⟩ := q_Wi_use hw
  subst e2
  obtain ⟨⟨hb1, hf1, hx1, hm1, ho1⟩, hM1⟩ := hM kv r _ hp
  have hb2 : T1 b = some (50, L) := hb1
  have hf2 : I1 b = f := hf1
  have hm2 : T1 (x + 83) = some (111, 0) := hm1
  refine q_istore d_Law_law_307 (Nat.le_of_ble_eq_true rfl) (by first | exact q_ok0 | exact q_okI rfl | exact q_okR rfl | exact q_okN rfl) rfl ?_
  refine q_aload_n d_Law_law_309 rfl rfl ?_
  refine q_aload_n d_Law_law_310 rfl rfl ?_
  refine q_iload d_Law_law_311 rfl ?_
  refine q_iconst (v := nI 1) d_Law_law_313 (by decide) ?_
  first | refine q_iaddN d_Law_law_314 ?_ | refine q_iadd d_Law_law_314 ?_
  refine q_ialdX d_Law_law_315 (by assumption) (by first | assumption | exact vp_in_nI (by omega) (by omega)) ?_
  refine q_aload_n d_Law_law_316 rfl rfl ?_
  refine q_iload d_Law_law_317 rfl ?_
  refine q_iconst (v := nI 2) d_Law_law_319 (by decide) ?_
  first | refine q_iaddN d_Law_law_320 ?_ | refine q_iadd d_Law_law_320 ?_
  refine q_ialdX d_Law_law_321 (by assumption) (by first | assumption | exact vp_in_nI (by omega) (by omega)) ?_
  refine q_aload_n d_Law_law_322 rfl rfl ?_
  refine q_iload d_Law_law_323 rfl ?_
  refine q_iconst (v := nI 3) d_Law_law_325 (by decide) ?_
  first | refine q_iaddN d_Law_law_326 ?_ | refine q_iadd d_Law_law_326 ?_
  refine q_ialdX d_Law_law_327 (by assumption) (by first | assumption | exact vp_in_nI (by omega) (by omega)) ?_
  refine q_aload_n d_Law_law_328 rfl rfl ?_
  refine q_iload d_Law_law_329 rfl ?_
  refine q_iconst (v := nI 4) d_Law_law_331 (by decide) ?_
  first | refine q_iaddN d_Law_law_332 ?_ | refine q_iadd d_Law_law_332 ?_
  refine q_ialdX d_Law_law_333 (by assumption) (by first | assumption | exact vp_in_nI (by omega) (by omega)) ?_
  refine q_aload_n d_Law_law_334 rfl rfl ?_
  refine q_iload d_Law_law_335 rfl ?_
  refine q_iconst (v := nI 5) d_Law_law_337 (by decide) ?_
  first | refine q_iaddN d_Law_law_338 ?_ | refine q_iadd d_Law_law_338 ?_
  refine q_ialdX d_Law_law_339 (by assumption) (by first | assumption | exact vp_in_nI (by omega) (by omega)) ?_
  rw [hf2]
  refine q_callVi (M2 := M_Model_primitive) d_Law_law_340 ⟨(Nat.le_of_ble_eq_true rfl), (Nat.le_of_ble_eq_true rfl), w_1285, w_10, ⟨by decide, by decide⟩, show _ = some 5 by decide +kernel⟩ w_1282 w_1283 (ci := 11) rfl w_1284 (by first | assumption | rfl | (simp (disch := omega) only [q_upT_self, q_upT_ne, q_upR_self, q_upR_nea, q_upR_nk, s_T_lo, s_T_hi, s_R_ne, *]; done) | (simp (disch := omega) only [q_upT_self, q_upT_ne, q_upR_self, q_upR_nea, q_upR_nk, s_T_lo, s_T_hi, s_R_ne, *]; rfl)) rfl (Nat.le_of_ble_eq_true rfl) (by omega) (by omega) (hM1 J2) ?_
  rintro v ⟨sz2, T2, I2, R2, J3⟩ ⟨hv, ht, hJ2, hi2⟩
  have hJ3 : J3 = J2 := hJ2
  subst hJ3
  have ht2 : I2 (x + 83) (nI 0) = kv := ht
  obtain ⟨hb3, hf3, hx3, hm3, ho3⟩ := hI _ _ _ _ _ hi2
  have hm4 : T2 (x + 83) = some (111, 0) := hm3
  have ho4 : T2 (x + 113) = some (1, 1) := ho3
  refine q_istore d_Law_law_343 (Nat.le_of_ble_eq_true rfl) (by first | exact q_ok0 | exact q_okI rfl | exact q_okR rfl | exact q_okN rfl) rfl ?_
  refine q_aload_n d_Law_law_345 rfl rfl ?_
  refine q_callVi (M2 := M_Model_thrown) d_Law_law_346 ⟨(Nat.le_of_ble_eq_true rfl), (Nat.le_of_ble_eq_true rfl), w_1225, w_10, ⟨by decide, by decide⟩, show _ = some 0 by decide +kernel⟩ w_1222 w_1223 (ci := 11) rfl w_1224 (by first | assumption | rfl | (simp (disch := omega) only [q_upT_self, q_upT_ne, q_upR_self, q_upR_nea, q_upR_nk, s_T_lo, s_T_hi, s_R_ne, *]; done) | (simp (disch := omega) only [q_upT_self, q_upT_ne, q_upR_self, q_upR_nea, q_upR_nk, s_T_lo, s_T_hi, s_R_ne, *]; rfl)) rfl (Nat.le_of_ble_eq_true rfl) (by omega) (by omega) (c_Model_thrown hm4) ?_
  rintro _ _ ⟨rfl, rfl⟩
  rw [ht2]
  refine q_iload d_Law_law_349 rfl ?_
  refine q_icmp_eq (tgt := 356) d_Law_law_351 rfl (fun hc => ?_) (fun hc => ?_)
  · refine q_iload d_Law_law_356 rfl ?_
    refine q_if_ne (tgt := 373) d_Law_law_358 rfl (fun hc => ?_) (fun hc => ?_)
    · refine q_goto (tgt := 1548) d_Law_law_373 (by omega) ?_
      exact kk _ _ _ _ _ _ _ hi2
    · have hz : kv = 0 := by first | exact hc | exact Decidable.not_not.mp hc
      refine q_aload_n d_Law_law_361 rfl rfl ?_
      refine q_iconst (v := nI 0) d_Law_law_362 (by decide) ?_
      refine q_lald d_Law_law_363 (by first | assumption | rfl | (simp (disch := omega) only [q_upT_self, q_upT_ne, q_upR_self, q_upR_nea, q_upR_nk, s_T_lo, s_T_hi, s_R_ne, *]; done) | (simp (disch := omega) only [q_upT_self, q_upT_ne, q_upR_self, q_upR_nea, q_upR_nk, s_T_lo, s_T_hi, s_R_ne, *]; rfl)) (by first | assumption | exact vp_in_nI (by omega) (by omega)) ?_
      refine q_iload d_Law_law_364 rfl ?_
      refine q_i2l d_Law_law_366 rfl ?_
      refine q_lcmp d_Law_law_367 ?_
      refine q_if_eq (tgt := 373) d_Law_law_368 rfl (fun hc => ?_) (fun hc => ?_)
      · refine q_goto (tgt := 1548) d_Law_law_373 (by omega) ?_
        exact kk _ _ _ _ _ _ _ hi2
      · exact absurd ((lg_cmp_eq _ _).mpr (by rw [hJ hz, hv hz])) hc
  · exact absurd rfl hc
def q_op_end (g : q_G) (b x L : Nat) (f : Int32 → Int32) (Inv : q_Inv) : Prop := ∀ (n sz : Nat) (T : q_T) (I : q_I) (R : q_R) (J : q_J), Inv (n + 1) sz T I R → ∀ p0 : Int32, ∃ P : Int32 → Int32 → q_H → Prop, q_C g M_Lens_end [.ref x, .int p0] (sz, T, I, R, J) 1000 14000 (q_Xi [0, 2, 1, 3] P) ∧ ∀ (k r : Int32) (h1 : q_H), P k r h1 → q_Lw b x L f h1.2.1 h1.2.2.1 ∧ ∀ J1 : q_J, q_Ci g M_Model_end [.ref (x + 83), .int p0] (h1.1, h1.2.1, h1.2.2.1, h1.2.2.2.1, J1) 0 0 (fun v h2 => (k = 0 → v = r) ∧ h2.2.2.1 (x + 83) (nI 0) = k ∧ h2.2.2.2.2 = J1 ∧ Inv n h2.1 h2.2.1 h2.2.2.1 h2.2.2.2.1)
theorem l_end {b x L : Nat} {f : Int32 → Int32} {Inv : q_Inv} (hop : q_op_end g b x L f Inv) (hNC : q_NC g) (hI : ∀ n sz T I R, Inv n sz T I R → q_Lw b x L f T I) {n d c k : Nat} {l5 l6 : Option Value} (hd : 6 * d + 6 ≤ L) (hL : L ≤ 3072) (hi : Inv (n + 1) sz T I R) (hc0 : c + 1000 ≤ 601024) (hk0 : k + 14000 ≤ 7293034) (kk : ∀ sz T I R J v5 v6, Inv n sz T I R → q_V g M_Law_law 601024 7293034 (c + 1000) (k + 14000) (sz, T, I, R, J) q_LQ 1548 [some (.ref b), some (.ref x), some (.ref (x + 83)), some (.ref (x + 113)), some (.int (nI (6 * d))), v5, v6] []) : q_V g M_Law_law 601024 7293034 c k (sz, T, I, R, J) q_LQ 376 [some (.ref b), some (.ref x), some (.ref (x + 83)), some (.ref (x + 113)), some (.int (nI (6 * d))), l5, l6] [] := by
  obtain ⟨hb, hf, hx, hm, ho⟩ := hI _ _ _ _ _ hi
  obtain ⟨P, hK, hM⟩ := hop n sz T I R J hi (f (nI (6 * d + 1)))
  refine q_aload_n d_Law_law_376 rfl rfl ?_
  refine q_aload_n d_Law_law_377 rfl rfl ?_
  refine q_iload d_Law_law_378 rfl ?_
  refine q_iconst (v := nI 1) d_Law_law_380 (by decide) ?_
  first | refine q_iaddN d_Law_law_381 ?_ | refine q_iadd d_Law_law_381 ?_
  refine q_ialdX d_Law_law_382 (by assumption) (by first | assumption | exact vp_in_nI (by omega) (by omega)) ?_
  refine q_aload_n d_Law_law_383 rfl rfl ?_
  rw [hf]
  refine q_callSi (M2 := M_Law_end) d_Law_law_384 ⟨(Nat.le_of_ble_eq_true rfl), (Nat.le_of_ble_eq_true rfl), w_602, w_0, ⟨by decide, by decide⟩, show _ = some 3 by decide +kernel⟩ w_600 w_601 rfl (Nat.le_of_ble_eq_true rfl) (by omega) (by omega) (w_end hNC hx hK (fun r h' hp => (hM 0 r h' hp).1.2.2.2.2)) ?_
  intro kv h' hw
  obtain ⟨r, sz1, T1, I1, R1, J1, J2, hp, e2, hJ⟩ := q_Wi_use hw
  subst e2
  obtain ⟨⟨hb1, hf1, hx1, hm1, ho1⟩, hM1⟩ := hM kv r _ hp
  have hb2 : T1 b = some (50, L) := hb1
  have hf2 : I1 b = f := hf1
  have hm2 : T1 (x + 83) = some (111, 0) := hm1
  refine q_istore d_Law_law_387 (Nat.le_of_ble_eq_true rfl) (by first | exact q_ok0 | exact q_okI rfl | exact q_okR rfl | exact q_okN rfl) rfl ?_
  refine q_aload_n d_Law_law_389 rfl rfl ?_
  refine q_aload_n d_Law_law_390 rfl rfl ?_
  refine q_iload d_Law_law_391 rfl ?_
  refine q_iconst (v := nI 1) d_Law_law_393 (by decide) ?_
  first | refine q_iaddN d_Law_law_394 ?_ | refine q_iadd d_Law_law_394 ?_
  refine q_ialdX d_Law_law_395 (by assumption) (by first | assumption | exact vp_in_nI (by omega) (by omega)) ?_
  rw [hf2]
  refine q_callVi (M2 := M_Model_end) d_Law_law_396 ⟨(Nat.le_of_ble_eq_true rfl), (Nat.le_of_ble_eq_true rfl), w_1385, w_10, ⟨by decide, by decide⟩, show _ = some 1 by decide +kernel⟩ w_1382 w_1383 (ci := 11) rfl w_1384 (by first | assumption | rfl | (simp (disch := omega) only [q_upT_self, q_upT_ne, q_upR_self, q_upR_nea, q_upR_nk, s_T_lo, s_T_hi, s_R_ne, *]; done) | (simp (disch := omega) only [q_upT_self, q_upT_ne, q_upR_self, q_upR_nea, q_upR_nk, s_T_lo, s_T_hi, s_R_ne, *]; rfl)) rfl (Nat.le_of_ble_eq_true rfl) (by omega) (by omega) (hM1 J2) ?_
  rintro v ⟨sz2, T2, I2, R2, J3⟩ ⟨hv, ht, hJ2, hi2⟩
  have hJ3 : J3 = J2 := hJ2
  subst hJ3
  have ht2 : I2 (x + 83) (nI 0) = kv := ht
  obtain ⟨hb3, hf3, hx3, hm3, ho3⟩ := hI _ _ _ _ _ hi2
  have hm4 : T2 (x + 83) = some (111, 0) := hm3
  have ho4 : T2 (x + 113) = some (1, 1) := ho3
  refine q_istore d_Law_law_399 (Nat.le_of_ble_eq_true rfl) (by first | exact q_ok0 | exact q_okI rfl | exact q_okR rfl | exact q_okN rfl) rfl ?_
  refine q_aload_n d_Law_law_401 rfl rfl ?_
  refine q_callVi (M2 := M_Model_thrown) d_Law_law_402 ⟨(Nat.le_of_ble_eq_true rfl), (Nat.le_of_ble_eq_true rfl), w_1225, w_10, ⟨by decide, by decide⟩, show _ = some 0 by decide +kernel⟩ w_1222 w_1223 (ci := 11) rfl w_1224 (by first | assumption | rfl | (simp (disch := omega) only [q_upT_self, q_upT_ne, q_upR_self, q_upR_nea, q_upR_nk, s_T_lo, s_T_hi, s_R_ne, *]; done) | (simp (disch := omega) only [q_upT_self, q_upT_ne, q_upR_self, q_upR_nea, q_upR_nk, s_T_lo, s_T_hi, s_R_ne, *]; rfl)) rfl (Nat.le_of_ble_eq_true rfl) (by omega) (by omega) (c_Model_thrown hm4) ?_
  rintro _ _ ⟨rfl, rfl⟩
  rw [ht2]
  refine q_iload d_Law_law_405 rfl ?_
  refine q_icmp_eq (tgt := 412) d_Law_law_407 rfl (fun hc => ?_) (fun hc => ?_)
  · refine q_iload d_Law_law_412 rfl ?_
    refine q_if_ne (tgt := 429) d_Law_law_414 rfl (fun hc => ?_) (fun hc => ?_)
    · refine q_goto (tgt := 1548) d_Law_law_429 (by omega) ?_
      exact kk _ _ _ _ _ _ _ hi2
    · have hz : kv = 0 := by first | exact hc | exact Decidable.not_not.mp hc
      refine q_aload_n d_Law_law_417 rfl rfl ?_
      refine q_iconst (v := nI 0) d_Law_law_418 (by decide) ?_
      refine q_lald d_Law_law_419 (by first | assumption | rfl | (simp (disch := omega) only [q_upT_self, q_upT_ne, q_upR_self, q_upR_nea, q_upR_nk, s_T_lo, s_T_hi, s_R_ne, *]; done) | (simp (disch := omega) only [q_upT_self, q_upT_ne, q_upR_self, q_upR_nea, q_upR_nk, s_T_lo, s_T_hi, s_R_ne, *]; rfl)) (by first | assumption | exact vp_in_nI (by omega) (by omega)) ?_
      refine q_iload d_Law_law_420 rfl ?_
      refine q_i2l d_Law_law_422 rfl ?_
      refine q_lcmp d_Law_law_423 ?_
      refine q_if_eq (tgt := 429) d_Law_law_424 rfl (fun hc => ?_) (fun hc => ?_)
      · refine q_goto (tgt := 1548) d_Law_law_429 (by omega) ?_
        exact kk _ _ _ _ _ _ _ hi2
      · exact absurd ((lg_cmp_eq _ _).mpr (by rw [hJ hz, hv hz])) hc
  · exact absurd rfl hc
def q_op_leave (g : q_G) (b x L : Nat) (f : Int32 → Int32) (Inv : q_Inv) : Prop := ∀ (n sz : Nat) (T : q_T) (I : q_I) (R : q_R) (J : q_J), Inv (n + 1) sz T I R → ∃ P : Int32 → q_H → Prop, q_Ci g M_Lens_leave [.ref x] (sz, T, I, R, J) 1000 14000 P ∧ ∀ (r : Int32) (h1 : q_H), P r h1 → q_Lw b x L f h1.2.1 h1.2.2.1 ∧ q_Ci g M_Model_leave [.ref (x + 83)] h1 0 0 (fun v h2 => v = r ∧ Inv n h2.1 h2.2.1 h2.2.2.1 h2.2.2.2.1)
theorem l_leave {b x L : Nat} {f : Int32 → Int32} {Inv : q_Inv} (hop : q_op_leave g b x L f Inv) (hNC : q_NC g) (hI : ∀ n sz T I R, Inv n sz T I R → q_Lw b x L f T I) {n d c k : Nat} {l5 l6 : Option Value} (hd : 6 * d + 6 ≤ L) (hL : L ≤ 3072) (hi : Inv (n + 1) sz T I R) (hc0 : c + 1000 ≤ 601024) (hk0 : k + 14000 ≤ 7293034) (kk : ∀ sz T I R J v5 v6, Inv n sz T I R → q_V g M_Law_law 601024 7293034 (c + 1000) (k + 14000) (sz, T, I, R, J) q_LQ 1548 [some (.ref b), some (.ref x), some (.ref (x + 83)), some (.ref (x + 113)), some (.int (nI (6 * d))), v5, v6] []) : q_V g M_Law_law 601024 7293034 c k (sz, T, I, R, J) q_LQ 432 [some (.ref b), some (.ref x), some (.ref (x + 83)), some (.ref (x + 113)), some (.int (nI (6 * d))), l5, l6] [] := by
  obtain ⟨hb, hf, hx, hm, ho⟩ := hI _ _ _ _ _ hi
  obtain ⟨P, hK, hM⟩ := hop n sz T I R J hi
  refine q_aload_n d_Law_law_432 rfl rfl ?_
  refine q_callVi (M2 := M_Lens_leave) d_Law_law_433 ⟨(Nat.le_of_ble_eq_true rfl), (Nat.le_of_ble_eq_true rfl), w_297, w_1, ⟨by decide, by decide⟩, show _ = some 0 by decide +kernel⟩ w_294 w_295 (ci := 10) rfl w_296 (by first | assumption | rfl | (simp (disch := omega) only [q_upT_self, q_upT_ne, q_upR_self, q_upR_nea, q_upR_nk, s_T_lo, s_T_hi, s_R_ne, *]; done) | (simp (disch := omega) only [q_upT_self, q_upT_ne, q_upR_self, q_upR_nea, q_upR_nk, s_T_lo, s_T_hi, s_R_ne, *]; rfl)) rfl (Nat.le_of_ble_eq_true rfl) (by omega) (by omega) (hK) ?_
  rintro r ⟨sz1, T1, I1, R1, J1⟩ hp
  obtain ⟨⟨hb1, hf1, hx1, hm1, ho1⟩, hM1⟩ := hM r _ hp
  have hm2 : T1 (x + 83) = some (111, 0) := hm1
  refine q_aload_n d_Law_law_436 rfl rfl ?_
  refine q_callVi (M2 := M_Model_leave) d_Law_law_437 ⟨(Nat.le_of_ble_eq_true rfl), (Nat.le_of_ble_eq_true rfl), w_1393, w_10, ⟨by decide, by decide⟩, show _ = some 0 by decide +kernel⟩ w_1390 w_1391 (ci := 11) rfl w_1392 (by first | assumption | rfl | (simp (disch := omega) only [q_upT_self, q_upT_ne, q_upR_self, q_upR_nea, q_upR_nk, s_T_lo, s_T_hi, s_R_ne, *]; done) | (simp (disch := omega) only [q_upT_self, q_upT_ne, q_upR_self, q_upR_nea, q_upR_nk, s_T_lo, s_T_hi, s_R_ne, *]; rfl)) rfl (Nat.le_of_ble_eq_true rfl) (by omega) (by omega) (hM1) ?_
  rintro v ⟨sz2, T2, I2, R2, J2⟩ ⟨hv, hi2⟩
  subst hv
  refine q_icmp_eq (tgt := 1548) d_Law_law_440 rfl (fun hc => ?_) (fun hc => ?_)
  · exact kk _ _ _ _ _ _ _ hi2
  · exact absurd rfl hc
def q_op_about (g : q_G) (b x L : Nat) (f : Int32 → Int32) (Inv : q_Inv) : Prop := ∀ (n sz : Nat) (T : q_T) (I : q_I) (R : q_R) (J : q_J), Inv (n + 1) sz T I R → ∀ p0 p1 p2 : Int32, ∃ P : Int32 → Int32 → q_H → Prop, q_C g M_Lens_about [.ref x, .int p0, .int p1, .int p2] (sz, T, I, R, J) 1000 14000 (q_Xi [2, 1] P) ∧ ∀ (k r : Int32) (h1 : q_H), P k r h1 → q_Lw b x L f h1.2.1 h1.2.2.1 ∧ ∀ J1 : q_J, q_Ci g M_Model_about [.ref (x + 83), .int p0, .int p1, .int p2] (h1.1, h1.2.1, h1.2.2.1, h1.2.2.2.1, J1) 0 0 (fun v h2 => (k = 0 → v = r) ∧ h2.2.2.1 (x + 83) (nI 0) = k ∧ h2.2.2.2.2 = J1 ∧ Inv n h2.1 h2.2.1 h2.2.2.1 h2.2.2.2.1)
theorem l_about {b x L : Nat} {f : Int32 → Int32} {Inv : q_Inv} (hop : q_op_about g b x L f Inv) (hNC : q_NC g) (hI : ∀ n sz T I R, Inv n sz T I R → q_Lw b x L f T I) {n d c k : Nat} {l5 l6 : Option Value} (hd : 6 * d + 6 ≤ L) (hL : L ≤ 3072) (hi : Inv (n + 1) sz T I R) (hc0 : c + 1000 ≤ 601024) (hk0 : k + 14000 ≤ 7293034) (kk : ∀ sz T I R J v5 v6, Inv n sz T I R → q_V g M_Law_law 601024 7293034 (c + 1000) (k + 14000) (sz, T, I, R, J) q_LQ 1548 [some (.ref b), some (.ref x), some (.ref (x + 83)), some (.ref (x + 113)), some (.int (nI (6 * d))), v5, v6] []) : q_V g M_Law_law 601024 7293034 c k (sz, T, I, R, J) q_LQ 445 [some (.ref b), some (.ref x), some (.ref (x + 83)), some (.ref (x + 113)), some (.int (nI (6 * d))), l5, l6] [] := by
  obtain ⟨hb, hf, hx, hm, ho⟩ := hI _ _ _ _ _ hi
  obtain ⟨P, hK, hM⟩ := hop n sz T I R J hi (f (nI (6 * d + 1))) (f (nI (6 * d + 2))) (f (nI (6 * d + 3)))
  refine q_aload_n d_Law_law_445 rfl rfl ?_
  refine q_aload_n d_Law_law_446 rfl rfl ?_
  refine q_iload d_Law_law_447 rfl ?_
  refine q_iconst (v := nI 1) d_Law_law_449 (by decide) ?_
  first | refine q_iaddN d_Law_law_450 ?_ | refine q_iadd d_Law_law_450 ?_
  refine q_ialdX d_Law_law_451 (by assumption) (by first | assumption | exact vp_in_nI (by omega) (by omega)) ?_
  refine q_aload_n d_Law_law_452 rfl rfl ?_
  refine q_iload d_Law_law_453 rfl ?_
  refine q_iconst (v := nI 2) d_Law_law_455 (by decide) ?_
  first | refine q_iaddN d_Law_law_456 ?_ | refine q_iadd d_Law_law_456 ?_
  refine q_ialdX d_Law_law_457 (by assumption) (by first | assumption | exact vp_in_nI (by omega) (by omega)) ?_
  refine q_aload_n d_Law_law_458 rfl rfl ?_
  refine q_iload d_Law_law_459 rfl ?_
  refine q_iconst (v := nI 3) d_Law_law_461 (by decide) ?_
  first | refine q_iaddN d_Law_law_462 ?_ | refine q_iadd d_Law_law_462 ?_
  refine q_ialdX d_Law_law_463 (by assumption) (by first | assumption | exact vp_in_nI (by omega) (by omega)) ?_
  refine q_aload_n d_Law_law_464 rfl rfl ?_
  rw [hf]
  refine q_callSi (M2 := M_Law_about) d_Law_law_465 ⟨(Nat.le_of_ble_eq_true rfl), (Nat.le_of_ble_eq_true rfl), w_681, w_0, ⟨by decide, by decide⟩, show _ = some 5 by decide +kernel⟩ w_679 w_680 rfl (Nat.le_of_ble_eq_true rfl) (by omega) (by omega) (w_about hNC hx hK (fun r h' hp => (hM 0 r h' hp).1.2.2.2.2)) ?_
  intro kv h' hw
  obtain ⟨r, sz1, T1, I1, R1, J1, J2, hp, e2, hJ⟩ := q_Wi_use hw
  subst e2
  obtain ⟨⟨hb1, hf1, hx1, hm1, ho1⟩, hM1⟩ := hM kv r _ hp
  have hb2 : T1 b = some (50, L) := hb1
  have hf2 : I1 b = f := hf1
  have hm2 : T1 (x + 83) = some (111, 0) := hm1
  refine q_istore d_Law_law_468 (Nat.le_of_ble_eq_true rfl) (by first | exact q_ok0 | exact q_okI rfl | exact q_okR rfl | exact q_okN rfl) rfl ?_
  refine q_aload_n d_Law_law_470 rfl rfl ?_
  refine q_aload_n d_Law_law_471 rfl rfl ?_
  refine q_iload d_Law_law_472 rfl ?_
  refine q_iconst (v := nI 1) d_Law_law_474 (by decide) ?_
  first | refine q_iaddN d_Law_law_475 ?_ | refine q_iadd d_Law_law_475 ?_
  refine q_ialdX d_Law_law_476 (by assumption) (by first | assumption | exact vp_in_nI (by omega) (by omega)) ?_
  refine q_aload_n d_Law_law_477 rfl rfl ?_
  refine q_iload d_Law_law_478 rfl ?_
  refine q_iconst (v := nI 2) d_Law_law_480 (by decide) ?_
  first | refine q_iaddN d_Law_law_481 ?_ | refine q_iadd d_Law_law_481 ?_
  refine q_ialdX d_Law_law_482 (by assumption) (by first | assumption | exact vp_in_nI (by omega) (by omega)) ?_
  refine q_aload_n d_Law_law_483 rfl rfl ?_
  refine q_iload d_Law_law_484 rfl ?_
  refine q_iconst (v := nI 3) d_Law_law_486 (by decide) ?_
  first | refine q_iaddN d_Law_law_487 ?_ | refine q_iadd d_Law_law_487 ?_
  refine q_ialdX d_Law_law_488 (by assumption) (by first | assumption | exact vp_in_nI (by omega) (by omega)) ?_
  rw [hf2]
  refine q_callVi (M2 := M_Model_about) d_Law_law_489 ⟨(Nat.le_of_ble_eq_true rfl), (Nat.le_of_ble_eq_true rfl), w_1397, w_10, ⟨by decide, by decide⟩, show _ = some 3 by decide +kernel⟩ w_1394 w_1395 (ci := 11) rfl w_1396 (by first | assumption | rfl | (simp (disch := omega) only [q_upT_self, q_upT_ne, q_upR_self, q_upR_nea, q_upR_nk, s_T_lo, s_T_hi, s_R_ne, *]; done) | (simp (disch := omega) only [q_upT_self, q_upT_ne, q_upR_self, q_upR_nea, q_upR_nk, s_T_lo, s_T_hi, s_R_ne, *]; rfl)) rfl (Nat.le_of_ble_eq_true rfl) (by omega) (by omega) (hM1 J2) ?_
  rintro v ⟨sz2, T2, I2, R2, J3⟩ ⟨hv, ht, hJ2, hi2⟩
  have hJ3 : J3 = J2 := hJ2
  subst hJ3
  have ht2 : I2 (x + 83) (nI 0) = kv := ht
  obtain ⟨hb3, hf3, hx3, hm3, ho3⟩ := hI _ _ _ _ _ hi2
  have hm4 : T2 (x + 83) = some (111, 0) := hm3
  have ho4 : T2 (x + 113) = some (1, 1) := ho3
  refine q_istore d_Law_law_492 (Nat.le_of_ble_eq_true rfl) (by first | exact q_ok0 | exact q_okI rfl | exact q_okR rfl | exact q_okN rfl) rfl ?_
  refine q_aload_n d_Law_law_494 rfl rfl ?_
  refine q_callVi (M2 := M_Model_thrown) d_Law_law_495 ⟨(Nat.le_of_ble_eq_true rfl), (Nat.le_of_ble_eq_true rfl), w_1225, w_10, ⟨by decide, by decide⟩, show _ = some 0 by decide +kernel⟩ w_1222 w_1223 (ci := 11) rfl w_1224 (by first | assumption | rfl | (simp (disch := omega) only [q_upT_self, q_upT_ne, q_upR_self, q_upR_nea, q_upR_nk, s_T_lo, s_T_hi, s_R_ne, *]; done) | (simp (disch := omega) only [q_upT_self, q_upT_ne, q_upR_self, q_upR_nea, q_upR_nk, s_T_lo, s_T_hi, s_R_ne, *]; rfl)) rfl (Nat.le_of_ble_eq_true rfl) (by omega) (by omega) (c_Model_thrown hm4) ?_
  rintro _ _ ⟨rfl, rfl⟩
  rw [ht2]
  refine q_iload d_Law_law_498 rfl ?_
  refine q_icmp_eq (tgt := 505) d_Law_law_500 rfl (fun hc => ?_) (fun hc => ?_)
  · refine q_iload d_Law_law_505 rfl ?_
    refine q_if_ne (tgt := 522) d_Law_law_507 rfl (fun hc => ?_) (fun hc => ?_)
    · refine q_goto (tgt := 1548) d_Law_law_522 (by omega) ?_
      exact kk _ _ _ _ _ _ _ hi2
    · have hz : kv = 0 := by first | exact hc | exact Decidable.not_not.mp hc
      refine q_aload_n d_Law_law_510 rfl rfl ?_
      refine q_iconst (v := nI 0) d_Law_law_511 (by decide) ?_
      refine q_lald d_Law_law_512 (by first | assumption | rfl | (simp (disch := omega) only [q_upT_self, q_upT_ne, q_upR_self, q_upR_nea, q_upR_nk, s_T_lo, s_T_hi, s_R_ne, *]; done) | (simp (disch := omega) only [q_upT_self, q_upT_ne, q_upR_self, q_upR_nea, q_upR_nk, s_T_lo, s_T_hi, s_R_ne, *]; rfl)) (by first | assumption | exact vp_in_nI (by omega) (by omega)) ?_
      refine q_iload d_Law_law_513 rfl ?_
      refine q_i2l d_Law_law_515 rfl ?_
      refine q_lcmp d_Law_law_516 ?_
      refine q_if_eq (tgt := 522) d_Law_law_517 rfl (fun hc => ?_) (fun hc => ?_)
      · refine q_goto (tgt := 1548) d_Law_law_522 (by omega) ?_
        exact kk _ _ _ _ _ _ _ hi2
      · exact absurd ((lg_cmp_eq _ _).mpr (by rw [hJ hz, hv hz])) hc
  · exact absurd rfl hc
def q_op_count (g : q_G) (b x L : Nat) (f : Int32 → Int32) (Inv : q_Inv) : Prop := ∀ (n sz : Nat) (T : q_T) (I : q_I) (R : q_R) (J : q_J), Inv (n + 1) sz T I R → ∀ p0 : Int32, ∃ P : Int32 → Int32 → q_H → Prop, q_C g M_Lens_count [.ref x, .int p0] (sz, T, I, R, J) 1000 14000 (q_Xi [1] P) ∧ ∀ (k r : Int32) (h1 : q_H), P k r h1 → q_Lw b x L f h1.2.1 h1.2.2.1 ∧ ∀ J1 : q_J, q_Ci g M_Model_count [.ref (x + 83), .int p0] (h1.1, h1.2.1, h1.2.2.1, h1.2.2.2.1, J1) 0 0 (fun v h2 => (k = 0 → v = r) ∧ h2.2.2.1 (x + 83) (nI 0) = k ∧ h2.2.2.2.2 = J1 ∧ Inv n h2.1 h2.2.1 h2.2.2.1 h2.2.2.2.1)
theorem l_count {b x L : Nat} {f : Int32 → Int32} {Inv : q_Inv} (hop : q_op_count g b x L f Inv) (hNC : q_NC g) (hI : ∀ n sz T I R, Inv n sz T I R → q_Lw b x L f T I) {n d c k : Nat} {l5 l6 : Option Value} (hd : 6 * d + 6 ≤ L) (hL : L ≤ 3072) (hi : Inv (n + 1) sz T I R) (hc0 : c + 1000 ≤ 601024) (hk0 : k + 14000 ≤ 7293034) (kk : ∀ sz T I R J v5 v6, Inv n sz T I R → q_V g M_Law_law 601024 7293034 (c + 1000) (k + 14000) (sz, T, I, R, J) q_LQ 1548 [some (.ref b), some (.ref x), some (.ref (x + 83)), some (.ref (x + 113)), some (.int (nI (6 * d))), v5, v6] []) : q_V g M_Law_law 601024 7293034 c k (sz, T, I, R, J) q_LQ 525 [some (.ref b), some (.ref x), some (.ref (x + 83)), some (.ref (x + 113)), some (.int (nI (6 * d))), l5, l6] [] := by
  obtain ⟨hb, hf, hx, hm, ho⟩ := hI _ _ _ _ _ hi
  obtain ⟨P, hK, hM⟩ := hop n sz T I R J hi (f (nI (6 * d + 1)))
  refine q_aload_n d_Law_law_525 rfl rfl ?_
  refine q_aload_n d_Law_law_526 rfl rfl ?_
  refine q_iload d_Law_law_527 rfl ?_
  refine q_iconst (v := nI 1) d_Law_law_529 (by decide) ?_
  first | refine q_iaddN d_Law_law_530 ?_ | refine q_iadd d_Law_law_530 ?_
  refine q_ialdX d_Law_law_531 (by assumption) (by first | assumption | exact vp_in_nI (by omega) (by omega)) ?_
  refine q_aload_n d_Law_law_532 rfl rfl ?_
  rw [hf]
  refine q_callSi (M2 := M_Law_count) d_Law_law_533 ⟨(Nat.le_of_ble_eq_true rfl), (Nat.le_of_ble_eq_true rfl), w_690, w_0, ⟨by decide, by decide⟩, show _ = some 3 by decide +kernel⟩ w_688 w_689 rfl (Nat.le_of_ble_eq_true rfl) (by omega) (by omega) (w_count hNC hx hK (fun r h' hp => (hM 0 r h' hp).1.2.2.2.2)) ?_
  intro kv h' hw
  obtain ⟨r, sz1, T1, I1, R1, J1, J2, hp, e2, hJ⟩ := q_Wi_use hw
  subst e2
  obtain ⟨⟨hb1, hf1, hx1, hm1, ho1⟩, hM1⟩ := hM kv r _ hp
  have hb2 : T1 b = some (50, L) := hb1
  have hf2 : I1 b = f := hf1
  have hm2 : T1 (x + 83) = some (111, 0) := hm1
  refine q_istore d_Law_law_536 (Nat.le_of_ble_eq_true rfl) (by first | exact q_ok0 | exact q_okI rfl | exact q_okR rfl | exact q_okN rfl) rfl ?_
  refine q_aload_n d_Law_law_538 rfl rfl ?_
  refine q_aload_n d_Law_law_539 rfl rfl ?_
  refine q_iload d_Law_law_540 rfl ?_
  refine q_iconst (v := nI 1) d_Law_law_542 (by decide) ?_
  first | refine q_iaddN d_Law_law_543 ?_ | refine q_iadd d_Law_law_543 ?_
  refine q_ialdX d_Law_law_544 (by assumption) (by first | assumption | exact vp_in_nI (by omega) (by omega)) ?_
  rw [hf2]
  refine q_callVi (M2 := M_Model_count) d_Law_law_545 ⟨(Nat.le_of_ble_eq_true rfl), (Nat.le_of_ble_eq_true rfl), w_1401, w_10, ⟨by decide, by decide⟩, show _ = some 1 by decide +kernel⟩ w_1398 w_1399 (ci := 11) rfl w_1400 (by first | assumption | rfl | (simp (disch := omega) only [q_upT_self, q_upT_ne, q_upR_self, q_upR_nea, q_upR_nk, s_T_lo, s_T_hi, s_R_ne, *]; done) | (simp (disch := omega) only [q_upT_self, q_upT_ne, q_upR_self, q_upR_nea, q_upR_nk, s_T_lo, s_T_hi, s_R_ne, *]; rfl)) rfl (Nat.le_of_ble_eq_true rfl) (by omega) (by omega) (hM1 J2) ?_
  rintro v ⟨sz2, T2, I2, R2, J3⟩ ⟨hv, ht, hJ2, hi2⟩
  have hJ3 : J3 = J2 := hJ2
  subst hJ3
  have ht2 : I2 (x + 83) (nI 0) = kv := ht
  obtain ⟨hb3, hf3, hx3, hm3, ho3⟩ := hI _ _ _ _ _ hi2
  have hm4 : T2 (x + 83) = some (111, 0) := hm3
  have ho4 : T2 (x + 113) = some (1, 1) := ho3
  refine q_istore d_Law_law_548 (Nat.le_of_ble_eq_true rfl) (by first | exact q_ok0 | exact q_okI rfl | exact q_okR rfl | exact q_okN rfl) rfl ?_
  refine q_aload_n d_Law_law_550 rfl rfl ?_
  refine q_callVi (M2 := M_Model_thrown) d_Law_law_551 ⟨(Nat.le_of_ble_eq_true rfl), (Nat.le_of_ble_eq_true rfl), w_1225, w_10, ⟨by decide, by decide⟩, show _ = some 0 by decide +kernel⟩ w_1222 w_1223 (ci := 11) rfl w_1224 (by first | assumption | rfl | (simp (disch := omega) only [q_upT_self, q_upT_ne, q_upR_self, q_upR_nea, q_upR_nk, s_T_lo, s_T_hi, s_R_ne, *]; done) | (simp (disch := omega) only [q_upT_self, q_upT_ne, q_upR_self, q_upR_nea, q_upR_nk, s_T_lo, s_T_hi, s_R_ne, *]; rfl)) rfl (Nat.le_of_ble_eq_true rfl) (by omega) (by omega) (c_Model_thrown hm4) ?_
  rintro _ _ ⟨rfl, rfl⟩
  rw [ht2]
  refine q_iload d_Law_law_554 rfl ?_
  refine q_icmp_eq (tgt := 561) d_Law_law_556 rfl (fun hc => ?_) (fun hc => ?_)
  · refine q_iload d_Law_law_561 rfl ?_
    refine q_if_ne (tgt := 578) d_Law_law_563 rfl (fun hc => ?_) (fun hc => ?_)
    · refine q_goto (tgt := 1548) d_Law_law_578 (by omega) ?_
      exact kk _ _ _ _ _ _ _ hi2
    · have hz : kv = 0 := by first | exact hc | exact Decidable.not_not.mp hc
      refine q_aload_n d_Law_law_566 rfl rfl ?_
      refine q_iconst (v := nI 0) d_Law_law_567 (by decide) ?_
      refine q_lald d_Law_law_568 (by first | assumption | rfl | (simp (disch := omega) only [q_upT_self, q_upT_ne, q_upR_self, q_upR_nea, q_upR_nk, s_T_lo, s_T_hi, s_R_ne, *]; done) | (simp (disch := omega) only [q_upT_self, q_upT_ne, q_upR_self, q_upR_nea, q_upR_nk, s_T_lo, s_T_hi, s_R_ne, *]; rfl)) (by first | assumption | exact vp_in_nI (by omega) (by omega)) ?_
      refine q_iload d_Law_law_569 rfl ?_
      refine q_i2l d_Law_law_571 rfl ?_
      refine q_lcmp d_Law_law_572 ?_
      refine q_if_eq (tgt := 578) d_Law_law_573 rfl (fun hc => ?_) (fun hc => ?_)
      · refine q_goto (tgt := 1548) d_Law_law_578 (by omega) ?_
        exact kk _ _ _ _ _ _ _ hi2
      · exact absurd ((lg_cmp_eq _ _).mpr (by rw [hJ hz, hv hz])) hc
  · exact absurd rfl hc
def q_op_record (g : q_G) (b x L : Nat) (f : Int32 → Int32) (Inv : q_Inv) : Prop := ∀ (n sz : Nat) (T : q_T) (I : q_I) (R : q_R) (J : q_J), Inv (n + 1) sz T I R → ∀ p0 : Int32, ∃ P : Int32 → Int32 → q_H → Prop, q_C g M_Lens_record [.ref x, .int p0] (sz, T, I, R, J) 1000 14000 (q_Xi [2, 3] P) ∧ ∀ (k r : Int32) (h1 : q_H), P k r h1 → q_Lw b x L f h1.2.1 h1.2.2.1 ∧ ∀ J1 : q_J, q_Ci g M_Model_record [.ref (x + 83), .int p0] (h1.1, h1.2.1, h1.2.2.1, h1.2.2.2.1, J1) 0 0 (fun v h2 => (k = 0 → v = r) ∧ h2.2.2.1 (x + 83) (nI 0) = k ∧ h2.2.2.2.2 = J1 ∧ Inv n h2.1 h2.2.1 h2.2.2.1 h2.2.2.2.1)
theorem l_record {b x L : Nat} {f : Int32 → Int32} {Inv : q_Inv} (hop : q_op_record g b x L f Inv) (hNC : q_NC g) (hI : ∀ n sz T I R, Inv n sz T I R → q_Lw b x L f T I) {n d c k : Nat} {l5 l6 : Option Value} (hd : 6 * d + 6 ≤ L) (hL : L ≤ 3072) (hi : Inv (n + 1) sz T I R) (hc0 : c + 1000 ≤ 601024) (hk0 : k + 14000 ≤ 7293034) (kk : ∀ sz T I R J v5 v6, Inv n sz T I R → q_V g M_Law_law 601024 7293034 (c + 1000) (k + 14000) (sz, T, I, R, J) q_LQ 1548 [some (.ref b), some (.ref x), some (.ref (x + 83)), some (.ref (x + 113)), some (.int (nI (6 * d))), v5, v6] []) : q_V g M_Law_law 601024 7293034 c k (sz, T, I, R, J) q_LQ 581 [some (.ref b), some (.ref x), some (.ref (x + 83)), some (.ref (x + 113)), some (.int (nI (6 * d))), l5, l6] [] := by
  obtain ⟨hb, hf, hx, hm, ho⟩ := hI _ _ _ _ _ hi
  obtain ⟨P, hK, hM⟩ := hop n sz T I R J hi (f (nI (6 * d + 1)))
  refine q_aload_n d_Law_law_581 rfl rfl ?_
  refine q_aload_n d_Law_law_582 rfl rfl ?_
  refine q_iload d_Law_law_583 rfl ?_
  refine q_iconst (v := nI 1) d_Law_law_585 (by decide) ?_
  first | refine q_iaddN d_Law_law_586 ?_ | refine q_iadd d_Law_law_586 ?_
  refine q_ialdX d_Law_law_587 (by assumption) (by first | assumption | exact vp_in_nI (by omega) (by omega)) ?_
  refine q_aload_n d_Law_law_588 rfl rfl ?_
  rw [hf]
  refine q_callSi (M2 := M_Law_record) d_Law_law_589 ⟨(Nat.le_of_ble_eq_true rfl), (Nat.le_of_ble_eq_true rfl), w_705, w_0, ⟨by decide, by decide⟩, show _ = some 3 by decide +kernel⟩ w_703 w_704 rfl (Nat.le_of_ble_eq_true rfl) (by omega) (by omega) (w_record hNC hx hK (fun r h' hp => (hM 0 r h' hp).1.2.2.2.2)) ?_
  intro kv h' hw
  obtain ⟨r, sz1, T1, I1, R1, J1, J2, hp, e2, hJ⟩ := q_Wi_use hw
  subst e2
  obtain ⟨⟨hb1, hf1, hx1, hm1, ho1⟩, hM1⟩ := hM kv r _ hp
  have hb2 : T1 b = some (50, L) := hb1
  have hf2 : I1 b = f := hf1
  have hm2 : T1 (x + 83) = some (111, 0) := hm1
  refine q_istore d_Law_law_592 (Nat.le_of_ble_eq_true rfl) (by first | exact q_ok0 | exact q_okI rfl | exact q_okR rfl | exact q_okN rfl) rfl ?_
  refine q_aload_n d_Law_law_594 rfl rfl ?_
  refine q_aload_n d_Law_law_595 rfl rfl ?_
  refine q_iload d_Law_law_596 rfl ?_
  refine q_iconst (v := nI 1) d_Law_law_598 (by decide) ?_
  first | refine q_iaddN d_Law_law_599 ?_ | refine q_iadd d_Law_law_599 ?_
  refine q_ialdX d_Law_law_600 (by assumption) (by first | assumption | exact vp_in_nI (by omega) (by omega)) ?_
  rw [hf2]
  refine q_callVi (M2 := M_Model_record) d_Law_law_601 ⟨(Nat.le_of_ble_eq_true rfl), (Nat.le_of_ble_eq_true rfl), w_1405, w_10, ⟨by decide, by decide⟩, show _ = some 1 by decide +kernel⟩ w_1402 w_1403 (ci := 11) rfl w_1404 (by first | assumption | rfl | (simp (disch := omega) only [q_upT_self, q_upT_ne, q_upR_self, q_upR_nea, q_upR_nk, s_T_lo, s_T_hi, s_R_ne, *]; done) | (simp (disch := omega) only [q_upT_self, q_upT_ne, q_upR_self, q_upR_nea, q_upR_nk, s_T_lo, s_T_hi, s_R_ne, *]; rfl)) rfl (Nat.le_of_ble_eq_true rfl) (by omega) (by omega) (hM1 J2) ?_
  rintro v ⟨sz2, T2, I2, R2, J3⟩ ⟨hv, ht, hJ2, hi2⟩
  have hJ3 : J3 = J2 := hJ2
  subst hJ3
  have ht2 : I2 (x + 83) (nI 0) = kv := ht
  obtain ⟨hb3, hf3, hx3, hm3, ho3⟩ := hI _ _ _ _ _ hi2
  have hm4 : T2 (x + 83) = some (111, 0) := hm3
  have ho4 : T2 (x + 113) = some (1, 1) := ho3
  refine q_istore d_Law_law_604 (Nat.le_of_ble_eq_true rfl) (by first | exact q_ok0 | exact q_okI rfl | exact q_okR rfl | exact q_okN rfl) rfl ?_
  refine q_aload_n d_Law_law_606 rfl rfl ?_
  refine q_callVi (M2 := M_Model_thrown) d_Law_law_607 ⟨(Nat.le_of_ble_eq_true rfl), (Nat.le_of_ble_eq_true rfl), w_1225, w_10, ⟨by decide, by decide⟩, show _ = some 0 by decide +kernel⟩ w_1222 w_1223 (ci := 11) rfl w_1224 (by first | assumption | rfl | (simp (disch := omega) only [q_upT_self, q_upT_ne, q_upR_self, q_upR_nea, q_upR_nk, s_T_lo, s_T_hi, s_R_ne, *]; done) | (simp (disch := omega) only [q_upT_self, q_upT_ne, q_upR_self, q_upR_nea, q_upR_nk, s_T_lo, s_T_hi, s_R_ne, *]; rfl)) rfl (Nat.le_of_ble_eq_true rfl) (by omega) (by omega) (c_Model_thrown hm4) ?_
  rintro _ _ ⟨rfl, rfl⟩
  rw [ht2]
  refine q_iload d_Law_law_610 rfl ?_
  refine q_icmp_eq (tgt := 617) d_Law_law_612 rfl (fun hc => ?_) (fun hc => ?_)
  · refine q_iload d_Law_law_617 rfl ?_
    refine q_if_ne (tgt := 634) d_Law_law_619 rfl (fun hc => ?_) (fun hc => ?_)
    · refine q_goto (tgt := 1548) d_Law_law_634 (by omega) ?_
      exact kk _ _ _ _ _ _ _ hi2
    · have hz : kv = 0 := by first | exact hc | exact Decidable.not_not.mp hc
      refine q_aload_n d_Law_law_622 rfl rfl ?_
      refine q_iconst (v := nI 0) d_Law_law_623 (by decide) ?_
      refine q_lald d_Law_law_624 (by first | assumption | rfl | (simp (disch := omega) only [q_upT_self, q_upT_ne, q_upR_self, q_upR_nea, q_upR_nk, s_T_lo, s_T_hi, s_R_ne, *]; done) | (simp (disch := omega) only [q_upT_self, q_upT_ne, q_upR_self, q_upR_nea, q_upR_nk, s_T_lo, s_T_hi, s_R_ne, *]; rfl)) (by first | assumption | exact vp_in_nI (by omega) (by omega)) ?_
      refine q_iload d_Law_law_625 rfl ?_
      refine q_i2l d_Law_law_627 rfl ?_
      refine q_lcmp d_Law_law_628 ?_
      refine q_if_eq (tgt := 634) d_Law_law_629 rfl (fun hc => ?_) (fun hc => ?_)
      · refine q_goto (tgt := 1548) d_Law_law_634 (by omega) ?_
        exact kk _ _ _ _ _ _ _ hi2
      · exact absurd ((lg_cmp_eq _ _).mpr (by rw [hJ hz, hv hz])) hc
  · exact absurd rfl hc
def q_op_copy (g : q_G) (b x L : Nat) (f : Int32 → Int32) (Inv : q_Inv) : Prop := ∀ (n sz : Nat) (T : q_T) (I : q_I) (R : q_R) (J : q_J), Inv (n + 1) sz T I R → ∀ p0 : Int32, ∃ P : Int32 → Int32 → q_H → Prop, q_C g M_Lens_copy [.ref x, .int p0] (sz, T, I, R, J) 1000 14000 (q_Xi [2, 3] P) ∧ ∀ (k r : Int32) (h1 : q_H), P k r h1 → q_Lw b x L f h1.2.1 h1.2.2.1 ∧ ∀ J1 : q_J, q_Ci g M_Model_copy [.ref (x + 83), .int p0] (h1.1, h1.2.1, h1.2.2.1, h1.2.2.2.1, J1) 0 0 (fun v h2 => (k = 0 → v = r) ∧ h2.2.2.1 (x + 83) (nI 0) = k ∧ h2.2.2.2.2 = J1 ∧ Inv n h2.1 h2.2.1 h2.2.2.1 h2.2.2.2.1)
theorem l_copy {b x L : Nat} {f : Int32 → Int32} {Inv : q_Inv} (hop : q_op_copy g b x L f Inv) (hNC : q_NC g) (hI : ∀ n sz T I R, Inv n sz T I R → q_Lw b x L f T I) {n d c k : Nat} {l5 l6 : Option Value} (hd : 6 * d + 6 ≤ L) (hL : L ≤ 3072) (hi : Inv (n + 1) sz T I R) (hc0 : c + 1000 ≤ 601024) (hk0 : k + 14000 ≤ 7293034) (kk : ∀ sz T I R J v5 v6, Inv n sz T I R → q_V g M_Law_law 601024 7293034 (c + 1000) (k + 14000) (sz, T, I, R, J) q_LQ 1548 [some (.ref b), some (.ref x), some (.ref (x + 83)), some (.ref (x + 113)), some (.int (nI (6 * d))), v5, v6] []) : q_V g M_Law_law 601024 7293034 c k (sz, T, I, R, J) q_LQ 637 [some (.ref b), some (.ref x), some (.ref (x + 83)), some (.ref (x + 113)), some (.int (nI (6 * d))), l5, l6] [] := by
  obtain ⟨hb, hf, hx, hm, ho⟩ := hI _ _ _ _ _ hi
  obtain ⟨P, hK, hM⟩ := hop n sz T I R J hi (f (nI (6 * d + 1)))
  refine q_aload_n d_Law_law_637 rfl rfl ?_
  refine q_aload_n d_Law_law_638 rfl rfl ?_
  refine q_iload d_Law_law_639 rfl ?_
  refine q_iconst (v := nI 1) d_Law_law_641 (by decide) ?_
  first | refine q_iaddN d_Law_law_642 ?_ | refine q_iadd d_Law_law_642 ?_
  refine q_ialdX d_Law_law_643 (by assumption) (by first | assumption | exact vp_in_nI (by omega) (by omega)) ?_
  refine q_aload_n d_Law_law_644 rfl rfl ?_
  rw [hf]
  refine q_callSi (M2 := M_Law_copy) d_Law_law_645 ⟨(Nat.le_of_ble_eq_true rfl), (Nat.le_of_ble_eq_true rfl), w_739, w_0, ⟨by decide, by decide⟩, show _ = some 3 by decide +kernel⟩ w_737 w_738 rfl (Nat.le_of_ble_eq_true rfl) (by omega) (by omega) (w_copy hNC hx hK (fun r h' hp => (hM 0 r h' hp).1.2.2.2.2)) ?_
  intro kv h' hw
  obtain ⟨r, sz1, T1, I1, R1, J1, J2, hp, e2, hJ⟩ := q_Wi_use hw
  subst e2
  obtain ⟨⟨hb1, hf1, hx1, hm1, ho1⟩, hM1⟩ := hM kv r _ hp
  have hb2 : T1 b = some (50, L) := hb1
  have hf2 : I1 b = f := hf1
  have hm2 : T1 (x + 83) = some (111, 0) := hm1
  refine q_istore d_Law_law_648 (Nat.le_of_ble_eq_true rfl) (by first | exact q_ok0 | exact q_okI rfl | exact q_okR rfl | exact q_okN rfl) rfl ?_
  refine q_aload_n d_Law_law_650 rfl rfl ?_
  refine q_aload_n d_Law_law_651 rfl rfl ?_
  refine q_iload d_Law_law_652 rfl ?_
  refine q_iconst (v := nI 1) d_Law_law_654 (by decide) ?_
  first | refine q_iaddN d_Law_law_655 ?_ | refine q_iadd d_Law_law_655 ?_
  refine q_ialdX d_Law_law_656 (by assumption) (by first | assumption | exact vp_in_nI (by omega) (by omega)) ?_
  rw [hf2]
  refine q_callVi (M2 := M_Model_copy) d_Law_law_657 ⟨(Nat.le_of_ble_eq_true rfl), (Nat.le_of_ble_eq_true rfl), w_1413, w_10, ⟨by decide, by decide⟩, show _ = some 1 by decide +kernel⟩ w_1410 w_1411 (ci := 11) rfl w_1412 (by first | assumption | rfl | (simp (disch := omega) only [q_upT_self, q_upT_ne, q_upR_self, q_upR_nea, q_upR_nk, s_T_lo, s_T_hi, s_R_ne, *]; done) | (simp (disch := omega) only [q_upT_self, q_upT_ne, q_upR_self, q_upR_nea, q_upR_nk, s_T_lo, s_T_hi, s_R_ne, *]; rfl)) rfl (Nat.le_of_ble_eq_true rfl) (by omega) (by omega) (hM1 J2) ?_
  rintro v ⟨sz2, T2, I2, R2, J3⟩ ⟨hv, ht, hJ2, hi2⟩
  have hJ3 : J3 = J2 := hJ2
  subst hJ3
  have ht2 : I2 (x + 83) (nI 0) = kv := ht
  obtain ⟨hb3, hf3, hx3, hm3, ho3⟩ := hI _ _ _ _ _ hi2
  have hm4 : T2 (x + 83) = some (111, 0) := hm3
  have ho4 : T2 (x + 113) = some (1, 1) := ho3
  refine q_istore d_Law_law_660 (Nat.le_of_ble_eq_true rfl) (by first | exact q_ok0 | exact q_okI rfl | exact q_okR rfl | exact q_okN rfl) rfl ?_
  refine q_aload_n d_Law_law_662 rfl rfl ?_
  refine q_callVi (M2 := M_Model_thrown) d_Law_law_663 ⟨(Nat.le_of_ble_eq_true rfl), (Nat.le_of_ble_eq_true rfl), w_1225, w_10, ⟨by decide, by decide⟩, show _ = some 0 by decide +kernel⟩ w_1222 w_1223 (ci := 11) rfl w_1224 (by first | assumption | rfl | (simp (disch := omega) only [q_upT_self, q_upT_ne, q_upR_self, q_upR_nea, q_upR_nk, s_T_lo, s_T_hi, s_R_ne, *]; done) | (simp (disch := omega) only [q_upT_self, q_upT_ne, q_upR_self, q_upR_nea, q_upR_nk, s_T_lo, s_T_hi, s_R_ne, *]; rfl)) rfl (Nat.le_of_ble_eq_true rfl) (by omega) (by omega) (c_Model_thrown hm4) ?_
  rintro _ _ ⟨rfl, rfl⟩
  rw [ht2]
  refine q_iload d_Law_law_666 rfl ?_
  refine q_icmp_eq (tgt := 673) d_Law_law_668 rfl (fun hc => ?_) (fun hc => ?_)
  · refine q_iload d_Law_law_673 rfl ?_
    refine q_if_ne (tgt := 690) d_Law_law_675 rfl (fun hc => ?_) (fun hc => ?_)
    · refine q_goto (tgt := 1548) d_Law_law_690 (by omega) ?_
      exact kk _ _ _ _ _ _ _ hi2
    · have hz : kv = 0 := by first | exact hc | exact Decidable.not_not.mp hc
      refine q_aload_n d_Law_law_678 rfl rfl ?_
      refine q_iconst (v := nI 0) d_Law_law_679 (by decide) ?_
      refine q_lald d_Law_law_680 (by first | assumption | rfl | (simp (disch := omega) only [q_upT_self, q_upT_ne, q_upR_self, q_upR_nea, q_upR_nk, s_T_lo, s_T_hi, s_R_ne, *]; done) | (simp (disch := omega) only [q_upT_self, q_upT_ne, q_upR_self, q_upR_nea, q_upR_nk, s_T_lo, s_T_hi, s_R_ne, *]; rfl)) (by first | assumption | exact vp_in_nI (by omega) (by omega)) ?_
      refine q_iload d_Law_law_681 rfl ?_
      refine q_i2l d_Law_law_683 rfl ?_
      refine q_lcmp d_Law_law_684 ?_
      refine q_if_eq (tgt := 690) d_Law_law_685 rfl (fun hc => ?_) (fun hc => ?_)
      · refine q_goto (tgt := 1548) d_Law_law_690 (by omega) ?_
        exact kk _ _ _ _ _ _ _ hi2
      · exact absurd ((lg_cmp_eq _ _).mpr (by rw [hJ hz, hv hz])) hc
  · exact absurd rfl hc
def q_op_drop (g : q_G) (b x L : Nat) (f : Int32 → Int32) (Inv : q_Inv) : Prop := ∀ (n sz : Nat) (T : q_T) (I : q_I) (R : q_R) (J : q_J), Inv (n + 1) sz T I R → ∀ p0 : Int32, ∃ P : Int32 → q_H → Prop, q_C g M_Lens_drop [.ref x, .int p0] (sz, T, I, R, J) 1000 14000 (q_Xv [2] P) ∧ ∀ (k : Int32) (h1 : q_H), P k h1 → q_Lw b x L f h1.2.1 h1.2.2.1 ∧ q_Cv g M_Model_drop [.ref (x + 83), .int p0] h1 0 0 (fun h2 => h2.2.2.1 (x + 83) (nI 0) = k ∧ Inv n h2.1 h2.2.1 h2.2.2.1 h2.2.2.2.1)
theorem l_drop {b x L : Nat} {f : Int32 → Int32} {Inv : q_Inv} (hop : q_op_drop g b x L f Inv) (hNC : q_NC g) (hI : ∀ n sz T I R, Inv n sz T I R → q_Lw b x L f T I) {n d c k : Nat} {l5 l6 : Option Value} (hd : 6 * d + 6 ≤ L) (hL : L ≤ 3072) (hi : Inv (n + 1) sz T I R) (hc0 : c + 1000 ≤ 601024) (hk0 : k + 14000 ≤ 7293034) (kk : ∀ sz T I R J v5 v6, Inv n sz T I R → q_V g M_Law_law 601024 7293034 (c + 1000) (k + 14000) (sz, T, I, R, J) q_LQ 1548 [some (.ref b), some (.ref x), some (.ref (x + 83)), some (.ref (x + 113)), some (.int (nI (6 * d))), v5, v6] []) : q_V g M_Law_law 601024 7293034 c k (sz, T, I, R, J) q_LQ 693 [some (.ref b), some (.ref x), some (.ref (x + 83)), some (.ref (x + 113)), some (.int (nI (6 * d))), l5, l6] [] := by
  obtain ⟨hb, hf, hx, hm, ho⟩ := hI _ _ _ _ _ hi
  obtain ⟨P, hK, hM⟩ := hop n sz T I R J hi (f (nI (6 * d + 1)))
  refine q_aload_n d_Law_law_693 rfl rfl ?_
  refine q_aload_n d_Law_law_694 rfl rfl ?_
  refine q_iload d_Law_law_695 rfl ?_
  refine q_iconst (v := nI 1) d_Law_law_697 (by decide) ?_
  first | refine q_iaddN d_Law_law_698 ?_ | refine q_iadd d_Law_law_698 ?_
  refine q_ialdX d_Law_law_699 (by assumption) (by first | assumption | exact vp_in_nI (by omega) (by omega)) ?_
  rw [hf]
  refine q_callSi (M2 := M_Law_drop) d_Law_law_700 ⟨(Nat.le_of_ble_eq_true rfl), (Nat.le_of_ble_eq_true rfl), w_762, w_0, ⟨by decide, by decide⟩, show _ = some 2 by decide +kernel⟩ w_760 w_761 rfl (Nat.le_of_ble_eq_true rfl) (by omega) (by omega) (w_drop hNC hx hK) ?_
  rintro kv ⟨sz1, T1, I1, R1, J1⟩ hp
  obtain ⟨⟨hb1, hf1, hx1, hm1, ho1⟩, hM1⟩ := hM kv _ hp
  have hb2 : T1 b = some (50, L) := hb1
  have hf2 : I1 b = f := hf1
  have hm2 : T1 (x + 83) = some (111, 0) := hm1
  refine q_istore d_Law_law_703 (Nat.le_of_ble_eq_true rfl) (by first | exact q_ok0 | exact q_okI rfl | exact q_okR rfl | exact q_okN rfl) rfl ?_
  refine q_aload_n d_Law_law_705 rfl rfl ?_
  refine q_aload_n d_Law_law_706 rfl rfl ?_
  refine q_iload d_Law_law_707 rfl ?_
  refine q_iconst (v := nI 1) d_Law_law_709 (by decide) ?_
  first | refine q_iaddN d_Law_law_710 ?_ | refine q_iadd d_Law_law_710 ?_
  refine q_ialdX d_Law_law_711 (by assumption) (by first | assumption | exact vp_in_nI (by omega) (by omega)) ?_
  rw [hf2]
  refine q_callVv (M2 := M_Model_drop) d_Law_law_712 ⟨(Nat.le_of_ble_eq_true rfl), (Nat.le_of_ble_eq_true rfl), w_1421, w_10, ⟨by decide, by decide⟩, show _ = some 1 by decide +kernel⟩ w_1418 w_1419 (ci := 11) rfl w_1420 (by first | assumption | rfl | (simp (disch := omega) only [q_upT_self, q_upT_ne, q_upR_self, q_upR_nea, q_upR_nk, s_T_lo, s_T_hi, s_R_ne, *]; done) | (simp (disch := omega) only [q_upT_self, q_upT_ne, q_upR_self, q_upR_nea, q_upR_nk, s_T_lo, s_T_hi, s_R_ne, *]; rfl)) rfl (Nat.le_of_ble_eq_true rfl) (by omega) (by omega) (hM1) ?_
  rintro ⟨sz2, T2, I2, R2, J3⟩ ⟨ht, hi2⟩
  have ht2 : I2 (x + 83) (nI 0) = kv := ht
  obtain ⟨hb3, hf3, hx3, hm3, ho3⟩ := hI _ _ _ _ _ hi2
  have hm4 : T2 (x + 83) = some (111, 0) := hm3
  have ho4 : T2 (x + 113) = some (1, 1) := ho3
  refine q_aload_n d_Law_law_715 rfl rfl ?_
  refine q_callVi (M2 := M_Model_thrown) d_Law_law_716 ⟨(Nat.le_of_ble_eq_true rfl), (Nat.le_of_ble_eq_true rfl), w_1225, w_10, ⟨by decide, by decide⟩, show _ = some 0 by decide +kernel⟩ w_1222 w_1223 (ci := 11) rfl w_1224 (by first | assumption | rfl | (simp (disch := omega) only [q_upT_self, q_upT_ne, q_upR_self, q_upR_nea, q_upR_nk, s_T_lo, s_T_hi, s_R_ne, *]; done) | (simp (disch := omega) only [q_upT_self, q_upT_ne, q_upR_self, q_upR_nea, q_upR_nk, s_T_lo, s_T_hi, s_R_ne, *]; rfl)) rfl (Nat.le_of_ble_eq_true rfl) (by omega) (by omega) (c_Model_thrown hm4) ?_
  rintro _ _ ⟨rfl, rfl⟩
  rw [ht2]
  refine q_iload d_Law_law_719 rfl ?_
  refine q_icmp_eq (tgt := 726) d_Law_law_721 rfl (fun hc => ?_) (fun hc => ?_)
  · refine q_goto (tgt := 1548) d_Law_law_726 (by omega) ?_
    exact kk _ _ _ _ _ _ _ hi2
  · exact absurd rfl hc
def q_op_set (g : q_G) (b x L : Nat) (f : Int32 → Int32) (Inv : q_Inv) : Prop := ∀ (n sz : Nat) (T : q_T) (I : q_I) (R : q_R) (J : q_J), Inv (n + 1) sz T I R → ∀ p0 p1 p2 : Int32, ∃ P : Int32 → q_H → Prop, q_C g M_Lens_set [.ref x, .int p0, .int p1, .int p2] (sz, T, I, R, J) 1000 14000 (q_Xv [2, 1] P) ∧ ∀ (k : Int32) (h1 : q_H), P k h1 → q_Lw b x L f h1.2.1 h1.2.2.1 ∧ q_Cv g M_Model_set [.ref (x + 83), .int p0, .int p1, .int p2] h1 0 0 (fun h2 => h2.2.2.1 (x + 83) (nI 0) = k ∧ Inv n h2.1 h2.2.1 h2.2.2.1 h2.2.2.2.1)
theorem l_set {b x L : Nat} {f : Int32 → Int32} {Inv : q_Inv} (hop : q_op_set g b x L f Inv) (hNC : q_NC g) (hI : ∀ n sz T I R, Inv n sz T I R → q_Lw b x L f T I) {n d c k : Nat} {l5 l6 : Option Value} (hd : 6 * d + 6 ≤ L) (hL : L ≤ 3072) (hi : Inv (n + 1) sz T I R) (hc0 : c + 1000 ≤ 601024) (hk0 : k + 14000 ≤ 7293034) (kk : ∀ sz T I R J v5 v6, Inv n sz T I R → q_V g M_Law_law 601024 7293034 (c + 1000) (k + 14000) (sz, T, I, R, J) q_LQ 1548 [some (.ref b), some (.ref x), some (.ref (x + 83)), some (.ref (x + 113)), some (.int (nI (6 * d))), v5, v6] []) : q_V g M_Law_law 601024 7293034 c k (sz, T, I, R, J) q_LQ 729 [some (.ref b), some (.ref x), some (.ref (x + 83)), some (.ref (x + 113)), some (.int (nI (6 * d))), l5, l6] [] := by
  obtain ⟨hb, hf, hx, hm, ho⟩ := hI _ _ _ _ _ hi
  obtain ⟨P, hK, hM⟩ := hop n sz T I R J hi (f (nI (6 * d + 1))) (f (nI (6 * d + 2))) (f (nI (6 * d + 3)))
  refine q_aload_n d_Law_law_729 rfl rfl ?_
  refine q_aload_n d_Law_law_730 rfl rfl ?_
  refine q_iload d_Law_law_731 rfl ?_
  refine q_iconst (v := nI 1) d_Law_law_733 (by decide) ?_
  first | refine q_iaddN d_Law_law_734 ?_ | refine q_iadd d_Law_law_734 ?_
  refine q_ialdX d_Law_law_735 (by assumption) (by first | assumption | exact vp_in_nI (by omega) (by omega)) ?_
  refine q_aload_n d_Law_law_736 rfl rfl ?_
  refine q_iload d_Law_law_737 rfl ?_
  refine q_iconst (v := nI 2) d_Law_law_739 (by decide) ?_
  first | refine q_iaddN d_Law_law_740 ?_ | refine q_iadd d_Law_law_740 ?_
  refine q_ialdX d_Law_law_741 (by assumption) (by first | assumption | exact vp_in_nI (by omega) (by omega)) ?_
  refine q_aload_n d_Law_law_742 rfl rfl ?_
  refine q_iload d_Law_law_743 rfl ?_
  refine q_iconst (v := nI 3) d_Law_law_745 (by decide) ?_
  first | refine q_iaddN d_Law_law_746 ?_ | refine q_iadd d_Law_law_746 ?_
  refine q_ialdX d_Law_law_747 (by assumption) (by first | assumption | exact vp_in_nI (by omega) (by omega)) ?_
  rw [hf]
  refine q_callSi (M2 := M_Law_set) d_Law_law_748 ⟨(Nat.le_of_ble_eq_true rfl), (Nat.le_of_ble_eq_true rfl), w_769, w_0, ⟨by decide, by decide⟩, show _ = some 4 by decide +kernel⟩ w_767 w_768 rfl (Nat.le_of_ble_eq_true rfl) (by omega) (by omega) (w_set hNC hx hK) ?_
  rintro kv ⟨sz1, T1, I1, R1, J1⟩ hp
  obtain ⟨⟨hb1, hf1, hx1, hm1, ho1⟩, hM1⟩ := hM kv _ hp
  have hb2 : T1 b = some (50, L) := hb1
  have hf2 : I1 b = f := hf1
  have hm2 : T1 (x + 83) = some (111, 0) := hm1
  refine q_istore d_Law_law_751 (Nat.le_of_ble_eq_true rfl) (by first | exact q_ok0 | exact q_okI rfl | exact q_okR rfl | exact q_okN rfl) rfl ?_
  refine q_aload_n d_Law_law_753 rfl rfl ?_
  refine q_aload_n d_Law_law_754 rfl rfl ?_
  refine q_iload d_Law_law_755 rfl ?_
  refine q_iconst (v := nI 1) d_Law_law_757 (by decide) ?_
  first | refine q_iaddN d_Law_law_758 ?_ | refine q_iadd d_Law_law_758 ?_
  refine q_ialdX d_Law_law_759 (by assumption) (by first | assumption | exact vp_in_nI (by omega) (by omega)) ?_
  refine q_aload_n d_Law_law_760 rfl rfl ?_
  refine q_iload d_Law_law_761 rfl ?_
  refine q_iconst (v := nI 2) d_Law_law_763 (by decide) ?_
  first | refine q_iaddN d_Law_law_764 ?_ | refine q_iadd d_Law_law_764 ?_
  refine q_ialdX d_Law_law_765 (by assumption) (by first | assumption | exact vp_in_nI (by omega) (by omega)) ?_
  refine q_aload_n d_Law_law_766 rfl rfl ?_
  refine q_iload d_Law_law_767 rfl ?_
  refine q_iconst (v := nI 3) d_Law_law_769 (by decide) ?_
  first | refine q_iaddN d_Law_law_770 ?_ | refine q_iadd d_Law_law_770 ?_
  refine q_ialdX d_Law_law_771 (by assumption) (by first | assumption | exact vp_in_nI (by omega) (by omega)) ?_
  rw [hf2]
  refine q_callVv (M2 := M_Model_set) d_Law_law_772 ⟨(Nat.le_of_ble_eq_true rfl), (Nat.le_of_ble_eq_true rfl), w_1425, w_10, ⟨by decide, by decide⟩, show _ = some 3 by decide +kernel⟩ w_1422 w_1423 (ci := 11) rfl w_1424 (by first | assumption | rfl | (simp (disch := omega) only [q_upT_self, q_upT_ne, q_upR_self, q_upR_nea, q_upR_nk, s_T_lo, s_T_hi, s_R_ne, *]; done) | (simp (disch := omega) only [q_upT_self, q_upT_ne, q_upR_self, q_upR_nea, q_upR_nk, s_T_lo, s_T_hi, s_R_ne, *]; rfl)) rfl (Nat.le_of_ble_eq_true rfl) (by omega) (by omega) (hM1) ?_
  rintro ⟨sz2, T2, I2, R2, J3⟩ ⟨ht, hi2⟩
  have ht2 : I2 (x + 83) (nI 0) = kv := ht
  obtain ⟨hb3, hf3, hx3, hm3, ho3⟩ := hI _ _ _ _ _ hi2
  have hm4 : T2 (x + 83) = some (111, 0) := hm3
  have ho4 : T2 (x + 113) = some (1, 1) := ho3
  refine q_aload_n d_Law_law_775 rfl rfl ?_
  refine q_callVi (M2 := M_Model_thrown) d_Law_law_776 ⟨(Nat.le_of_ble_eq_true rfl), (Nat.le_of_ble_eq_true rfl), w_1225, w_10, ⟨by decide, by decide⟩, show _ = some 0 by decide +kernel⟩ w_1222 w_1223 (ci := 11) rfl w_1224 (by first | assumption | rfl | (simp (disch := omega) only [q_upT_self, q_upT_ne, q_upR_self, q_upR_nea, q_upR_nk, s_T_lo, s_T_hi, s_R_ne, *]; done) | (simp (disch := omega) only [q_upT_self, q_upT_ne, q_upR_self, q_upR_nea, q_upR_nk, s_T_lo, s_T_hi, s_R_ne, *]; rfl)) rfl (Nat.le_of_ble_eq_true rfl) (by omega) (by omega) (c_Model_thrown hm4) ?_
  rintro _ _ ⟨rfl, rfl⟩
  rw [ht2]
  refine q_iload d_Law_law_779 rfl ?_
  refine q_icmp_eq (tgt := 786) d_Law_law_781 rfl (fun hc => ?_) (fun hc => ?_)
  · refine q_goto (tgt := 1548) d_Law_law_786 (by omega) ?_
    exact kk _ _ _ _ _ _ _ hi2
  · exact absurd rfl hc
def q_op_put (g : q_G) (b x L : Nat) (f : Int32 → Int32) (Inv : q_Inv) : Prop := ∀ (n sz : Nat) (T : q_T) (I : q_I) (R : q_R) (J : q_J), Inv (n + 1) sz T I R → ∀ p0 p1 p2 p3 : Int32, ∃ P : Int32 → Int32 → q_H → Prop, q_C g M_Lens_put [.ref x, .int p0, .int p1, .int p2, .int p3] (sz, T, I, R, J) 1000 14000 (q_Xi [2, 1] P) ∧ ∀ (k r : Int32) (h1 : q_H), P k r h1 → q_Lw b x L f h1.2.1 h1.2.2.1 ∧ ∀ J1 : q_J, q_Ci g M_Model_put [.ref (x + 83), .int p0, .int p1, .int p2, .int p3] (h1.1, h1.2.1, h1.2.2.1, h1.2.2.2.1, J1) 0 0 (fun v h2 => (k = 0 → v = r) ∧ h2.2.2.1 (x + 83) (nI 0) = k ∧ h2.2.2.2.2 = J1 ∧ Inv n h2.1 h2.2.1 h2.2.2.1 h2.2.2.2.1)
theorem l_put {b x L : Nat} {f : Int32 → Int32} {Inv : q_Inv} (hop : q_op_put g b x L f Inv) (hNC : q_NC g) (hI : ∀ n sz T I R, Inv n sz T I R → q_Lw b x L f T I) {n d c k : Nat} {l5 l6 : Option Value} (hd : 6 * d + 6 ≤ L) (hL : L ≤ 3072) (hi : Inv (n + 1) sz T I R) (hc0 : c + 1000 ≤ 601024) (hk0 : k + 14000 ≤ 7293034) (kk : ∀ sz T I R J v5 v6, Inv n sz T I R → q_V g M_Law_law 601024 7293034 (c + 1000) (k + 14000) (sz, T, I, R, J) q_LQ 1548 [some (.ref b), some (.ref x), some (.ref (x + 83)), some (.ref (x + 113)), some (.int (nI (6 * d))), v5, v6] []) : q_V g M_Law_law 601024 7293034 c k (sz, T, I, R, J) q_LQ 789 [some (.ref b), some (.ref x), some (.ref (x + 83)), some (.ref (x + 113)), some (.int (nI (6 * d))), l5, l6] [] := by
  obtain ⟨hb, hf, hx, hm, ho⟩ := hI _ _ _ _ _ hi
  obtain ⟨P, hK, hM⟩ := hop n sz T I R J hi (f (nI (6 * d + 1))) (f (nI (6 * d + 2))) (f (nI (6 * d + 3))) (f (nI (6 * d + 4)))
  refine q_aload_n d_Law_law_789 rfl rfl ?_
  refine q_aload_n d_Law_law_790 rfl rfl ?_
  refine q_iload d_Law_law_791 rfl ?_
  refine q_iconst (v := nI 1) d_Law_law_793 (by decide) ?_
  first | refine q_iaddN d_Law_law_794 ?_ | refine q_iadd d_Law_law_794 ?_
  refine q_ialdX d_Law_law_795 (by assumption) (by first | assumption | exact vp_in_nI (by omega) (by omega)) ?_
  refine q_aload_n d_Law_law_796 rfl rfl ?_
  refine q_iload d_Law_law_797 rfl ?_
  refine q_iconst (v := nI 2) d_Law_law_799 (by decide) ?_
  first | refine q_iaddN d_Law_law_800 ?_ | refine q_iadd d_Law_law_800 ?_
  refine q_ialdX d_Law_law_801 (by assumption) (by first | assumption | exact vp_in_nI (by omega) (by omega)) ?_
  refine q_aload_n d_Law_law_802 rfl rfl ?_
  refine q_iload d_Law_law_803 rfl ?_
  refine q_iconst (v := nI 3) d_Law_law_805 (by decide) ?_
  first | refine q_iaddN d_Law_law_806 ?_ | refine q_iadd d_Law_law_806 ?_
  refine q_ialdX d_Law_law_807 (by assumption) (by first | assumption | exact vp_in_nI (by omega) (by omega)) ?_
  refine q_aload_n d_Law_law_808 rfl rfl ?_
  refine q_iload d_Law_law_809 rfl ?_
  refine q_iconst (v := nI 4) d_Law_law_811 (by decide) ?_
  first | refine q_iaddN d_Law_law_812 ?_ | refine q_iadd d_Law_law_812 ?_
  refine q_ialdX d_Law_law_813 (by assumption) (by first | assumption | exact vp_in_nI (by omega) (by omega)) ?_
  refine q_aload_n d_Law_law_814 rfl rfl ?_
  rw [hf]
  refine q_callSi (M2 := M_Law_put) d_Law_law_815 ⟨(Nat.le_of_ble_eq_true rfl), (Nat.le_of_ble_eq_true rfl), w_786, w_0, ⟨by decide, by decide⟩, show _ = some 6 by decide +kernel⟩ w_784 w_785 rfl (Nat.le_of_ble_eq_true rfl) (by omega) (by omega) (w_put hNC hx hK (fun r h' hp => (hM 0 r h' hp).1.2.2.2.2)) ?_
  intro kv h' hw
  obtain ⟨r, sz1, T1, I1, R1, J1, J2, hp, e2, hJ⟩ := q_Wi_use hw
  subst e2
  obtain ⟨⟨hb1, hf1, hx1, hm1, ho1⟩, hM1⟩ := hM kv r _ hp
  have hb2 : T1 b = some (50, L) := hb1
  have hf2 : I1 b = f := hf1
  have hm2 : T1 (x + 83) = some (111, 0) := hm1
  refine q_istore d_Law_law_818 (Nat.le_of_ble_eq_true rfl) (by first | exact q_ok0 | exact q_okI rfl | exact q_okR rfl | exact q_okN rfl) rfl ?_
  refine q_aload_n d_Law_law_820 rfl rfl ?_
  refine q_aload_n d_Law_law_821 rfl rfl ?_
  refine q_iload d_Law_law_822 rfl ?_
  refine q_iconst (v := nI 1) d_Law_law_824 (by decide) ?_
  first | refine q_iaddN d_Law_law_825 ?_ | refine q_iadd d_Law_law_825 ?_
  refine q_ialdX d_Law_law_826 (by assumption) (by first | assumption | exact vp_in_nI (by omega) (by omega)) ?_
  refine q_aload_n d_Law_law_827 rfl rfl ?_
  refine q_iload d_Law_law_828 rfl ?_
  refine q_iconst (v := nI 2) d_Law_law_830 (by decide) ?_
  first | refine q_iaddN d_Law_law_831 ?_ | refine q_iadd d_Law_law_831 ?_
  refine q_ialdX d_Law_law_832 (by assumption) (by first | assumption | exact vp_in_nI (by omega) (by omega)) ?_
  refine q_aload_n d_Law_law_833 rfl rfl ?_
  refine q_iload d_Law_law_834 rfl ?_
  refine q_iconst (v := nI 3) d_Law_law_836 (by decide) ?_
  first | refine q_iaddN d_Law_law_837 ?_ | refine q_iadd d_Law_law_837 ?_
  refine q_ialdX d_Law_law_838 (by assumption) (by first | assumption | exact vp_in_nI (by omega) (by omega)) ?_
  refine q_aload_n d_Law_law_839 rfl rfl ?_
  refine q_iload d_Law_law_840 rfl ?_
  refine q_iconst (v := nI 4) d_Law_law_842 (by decide) ?_
  first | refine q_iaddN d_Law_law_843 ?_ | refine q_iadd d_Law_law_843 ?_
  refine q_ialdX d_Law_law_844 (by assumption) (by first | assumption | exact vp_in_nI (by omega) (by omega)) ?_
  rw [hf2]
  refine q_callVi (M2 := M_Model_put) d_Law_law_845 ⟨(Nat.le_of_ble_eq_true rfl), (Nat.le_of_ble_eq_true rfl), w_1441, w_10, ⟨by decide, by decide⟩, show _ = some 4 by decide +kernel⟩ w_1438 w_1439 (ci := 11) rfl w_1440 (by first | assumption | rfl | (simp (disch := omega) only [q_upT_self, q_upT_ne, q_upR_self, q_upR_nea, q_upR_nk, s_T_lo, s_T_hi, s_R_ne, *]; done) | (simp (disch := omega) only [q_upT_self, q_upT_ne, q_upR_self, q_upR_nea, q_upR_nk, s_T_lo, s_T_hi, s_R_ne, *]; rfl)) rfl (Nat.le_of_ble_eq_true rfl) (by omega) (by omega) (hM1 J2) ?_
  rintro v ⟨sz2, T2, I2, R2, J3⟩ ⟨hv, ht, hJ2, hi2⟩
  have hJ3 : J3 = J2 := hJ2
  subst hJ3
  have ht2 : I2 (x + 83) (nI 0) = kv := ht
  obtain ⟨hb3, hf3, hx3, hm3, ho3⟩ := hI _ _ _ _ _ hi2
  have hm4 : T2 (x + 83) = some (111, 0) := hm3
  have ho4 : T2 (x + 113) = some (1, 1) := ho3
  refine q_istore d_Law_law_848 (Nat.le_of_ble_eq_true rfl) (by first | exact q_ok0 | exact q_okI rfl | exact q_okR rfl | exact q_okN rfl) rfl ?_
  refine q_aload_n d_Law_law_850 rfl rfl ?_
  refine q_callVi (M2 := M_Model_thrown) d_Law_law_851 ⟨(Nat.le_of_ble_eq_true rfl), (Nat.le_of_ble_eq_true rfl), w_1225, w_10, ⟨by decide, by decide⟩, show _ = some 0 by decide +kernel⟩ w_1222 w_1223 (ci := 11) rfl w_1224 (by first | assumption | rfl | (simp (disch := omega) only [q_upT_self, q_upT_ne, q_upR_self, q_upR_nea, q_upR_nk, s_T_lo, s_T_hi, s_R_ne, *]; done) | (simp (disch := omega) only [q_upT_self, q_upT_ne, q_upR_self, q_upR_nea, q_upR_nk, s_T_lo, s_T_hi, s_R_ne, *]; rfl)) rfl (Nat.le_of_ble_eq_true rfl) (by omega) (by omega) (c_Model_thrown hm4) ?_
  rintro _ _ ⟨rfl, rfl⟩
  rw [ht2]
  refine q_iload d_Law_law_854 rfl ?_
  refine q_icmp_eq (tgt := 861) d_Law_law_856 rfl (fun hc => ?_) (fun hc => ?_)
  · refine q_iload d_Law_law_861 rfl ?_
    refine q_if_ne (tgt := 878) d_Law_law_863 rfl (fun hc => ?_) (fun hc => ?_)
    · refine q_goto (tgt := 1548) d_Law_law_878 (by omega) ?_
      exact kk _ _ _ _ _ _ _ hi2
    · have hz : kv = 0 := by first | exact hc | exact Decidable.not_not.mp hc
      refine q_aload_n d_Law_law_866 rfl rfl ?_
      refine q_iconst (v := nI 0) d_Law_law_867 (by decide) ?_
      refine q_lald d_Law_law_868 (by first | assumption | rfl | (simp (disch := omega) only [q_upT_self, q_upT_ne, q_upR_self, q_upR_nea, q_upR_nk, s_T_lo, s_T_hi, s_R_ne, *]; done) | (simp (disch := omega) only [q_upT_self, q_upT_ne, q_upR_self, q_upR_nea, q_upR_nk, s_T_lo, s_T_hi, s_R_ne, *]; rfl)) (by first | assumption | exact vp_in_nI (by omega) (by omega)) ?_
      refine q_iload d_Law_law_869 rfl ?_
      refine q_i2l d_Law_law_871 rfl ?_
      refine q_lcmp d_Law_law_872 ?_
      refine q_if_eq (tgt := 878) d_Law_law_873 rfl (fun hc => ?_) (fun hc => ?_)
      · refine q_goto (tgt := 1548) d_Law_law_878 (by omega) ?_
        exact kk _ _ _ _ _ _ _ hi2
      · exact absurd ((lg_cmp_eq _ _).mpr (by rw [hJ hz, hv hz])) hc
  · exact absurd rfl hc
def q_op_cut (g : q_G) (b x L : Nat) (f : Int32 → Int32) (Inv : q_Inv) : Prop := ∀ (n sz : Nat) (T : q_T) (I : q_I) (R : q_R) (J : q_J), Inv (n + 1) sz T I R → ∀ p0 p1 p2 : Int32, ∃ P : Int32 → q_H → Prop, q_C g M_Lens_cut [.ref x, .int p0, .int p1, .int p2] (sz, T, I, R, J) 1000 14000 (q_Xv [2, 1] P) ∧ ∀ (k : Int32) (h1 : q_H), P k h1 → q_Lw b x L f h1.2.1 h1.2.2.1 ∧ q_Cv g M_Model_cut [.ref (x + 83), .int p0, .int p1, .int p2] h1 0 0 (fun h2 => h2.2.2.1 (x + 83) (nI 0) = k ∧ Inv n h2.1 h2.2.1 h2.2.2.1 h2.2.2.2.1)
theorem l_cut {b x L : Nat} {f : Int32 → Int32} {Inv : q_Inv} (hop : q_op_cut g b x L f Inv) (hNC : q_NC g) (hI : ∀ n sz T I R, Inv n sz T I R → q_Lw b x L f T I) {n d c k : Nat} {l5 l6 : Option Value} (hd : 6 * d + 6 ≤ L) (hL : L ≤ 3072) (hi : Inv (n + 1) sz T I R) (hc0 : c + 1000 ≤ 601024) (hk0 : k + 14000 ≤ 7293034) (kk : ∀ sz T I R J v5 v6, Inv n sz T I R → q_V g M_Law_law 601024 7293034 (c + 1000) (k + 14000) (sz, T, I, R, J) q_LQ 1548 [some (.ref b), some (.ref x), some (.ref (x + 83)), some (.ref (x + 113)), some (.int (nI (6 * d))), v5, v6] []) : q_V g M_Law_law 601024 7293034 c k (sz, T, I, R, J) q_LQ 881 [some (.ref b), some (.ref x), some (.ref (x + 83)), some (.ref (x + 113)), some (.int (nI (6 * d))), l5, l6] [] := by
  obtain ⟨hb, hf, hx, hm, ho⟩ := hI _ _ _ _ _ hi
  obtain ⟨P, hK, hM⟩ := hop n sz T I R J hi (f (nI (6 * d + 1))) (f (nI (6 * d + 2))) (f (nI (6 * d + 3)))
  refine q_aload_n d_Law_law_881 rfl rfl ?_
  refine q_aload_n d_Law_law_882 rfl rfl ?_
  refine q_iload d_Law_law_883 rfl ?_
  refine q_iconst (v := nI 1) d_Law_law_885 (by decide) ?_
  first | refine q_iaddN d_Law_law_886 ?_ | refine q_iadd d_Law_law_886 ?_
  refine q_ialdX d_Law_law_887 (by assumption) (by first | assumption | exact vp_in_nI (by omega) (by omega)) ?_
  refine q_aload_n d_Law_law_888 rfl rfl ?_
  refine q_iload d_Law_law_889 rfl ?_
  refine q_iconst (v := nI 2) d_Law_law_891 (by decide) ?_
  first | refine q_iaddN d_Law_law_892 ?_ | refine q_iadd d_Law_law_892 ?_
  refine q_ialdX d_Law_law_893 (by assumption) (by first | assumption | exact vp_in_nI (by omega) (by omega)) ?_
  refine q_aload_n d_Law_law_894 rfl rfl ?_
  refine q_iload d_Law_law_895 rfl ?_
  refine q_iconst (v := nI 3) d_Law_law_897 (by decide) ?_
  first | refine q_iaddN d_Law_law_898 ?_ | refine q_iadd d_Law_law_898 ?_
  refine q_ialdX d_Law_law_899 (by assumption) (by first | assumption | exact vp_in_nI (by omega) (by omega)) ?_
  rw [hf]
  refine q_callSi (M2 := M_Law_cut) d_Law_law_900 ⟨(Nat.le_of_ble_eq_true rfl), (Nat.le_of_ble_eq_true rfl), w_802, w_0, ⟨by decide, by decide⟩, show _ = some 4 by decide +kernel⟩ w_800 w_801 rfl (Nat.le_of_ble_eq_true rfl) (by omega) (by omega) (w_cut hNC hx hK) ?_
  rintro kv ⟨sz1, T1, I1, R1, J1⟩ hp
  obtain ⟨⟨hb1, hf1, hx1, hm1, ho1⟩, hM1⟩ := hM kv _ hp
  have hb2 : T1 b = some (50, L) := hb1
  have hf2 : I1 b = f := hf1
  have hm2 : T1 (x + 83) = some (111, 0) := hm1
  refine q_istore d_Law_law_903 (Nat.le_of_ble_eq_true rfl) (by first | exact q_ok0 | exact q_okI rfl | exact q_okR rfl | exact q_okN rfl) rfl ?_
  refine q_aload_n d_Law_law_905 rfl rfl ?_
  refine q_aload_n d_Law_law_906 rfl rfl ?_
  refine q_iload d_Law_law_907 rfl ?_
  refine q_iconst (v := nI 1) d_Law_law_909 (by decide) ?_
  first | refine q_iaddN d_Law_law_910 ?_ | refine q_iadd d_Law_law_910 ?_
  refine q_ialdX d_Law_law_911 (by assumption) (by first | assumption | exact vp_in_nI (by omega) (by omega)) ?_
  refine q_aload_n d_Law_law_912 rfl rfl ?_
  refine q_iload d_Law_law_913 rfl ?_
  refine q_iconst (v := nI 2) d_Law_law_915 (by decide) ?_
  first | refine q_iaddN d_Law_law_916 ?_ | refine q_iadd d_Law_law_916 ?_
  refine q_ialdX d_Law_law_917 (by assumption) (by first | assumption | exact vp_in_nI (by omega) (by omega)) ?_
  refine q_aload_n d_Law_law_918 rfl rfl ?_
  refine q_iload d_Law_law_919 rfl ?_
  refine q_iconst (v := nI 3) d_Law_law_921 (by decide) ?_
  first | refine q_iaddN d_Law_law_922 ?_ | refine q_iadd d_Law_law_922 ?_
  refine q_ialdX d_Law_law_923 (by assumption) (by first | assumption | exact vp_in_nI (by omega) (by omega)) ?_
  rw [hf2]
  refine q_callVv (M2 := M_Model_cut) d_Law_law_924 ⟨(Nat.le_of_ble_eq_true rfl), (Nat.le_of_ble_eq_true rfl), w_1445, w_10, ⟨by decide, by decide⟩, show _ = some 3 by decide +kernel⟩ w_1442 w_1443 (ci := 11) rfl w_1444 (by first | assumption | rfl | (simp (disch := omega) only [q_upT_self, q_upT_ne, q_upR_self, q_upR_nea, q_upR_nk, s_T_lo, s_T_hi, s_R_ne, *]; done) | (simp (disch := omega) only [q_upT_self, q_upT_ne, q_upR_self, q_upR_nea, q_upR_nk, s_T_lo, s_T_hi, s_R_ne, *]; rfl)) rfl (Nat.le_of_ble_eq_true rfl) (by omega) (by omega) (hM1) ?_
  rintro ⟨sz2, T2, I2, R2, J3⟩ ⟨ht, hi2⟩
  have ht2 : I2 (x + 83) (nI 0) = kv := ht
  obtain ⟨hb3, hf3, hx3, hm3, ho3⟩ := hI _ _ _ _ _ hi2
  have hm4 : T2 (x + 83) = some (111, 0) := hm3
  have ho4 : T2 (x + 113) = some (1, 1) := ho3
  refine q_aload_n d_Law_law_927 rfl rfl ?_
  refine q_callVi (M2 := M_Model_thrown) d_Law_law_928 ⟨(Nat.le_of_ble_eq_true rfl), (Nat.le_of_ble_eq_true rfl), w_1225, w_10, ⟨by decide, by decide⟩, show _ = some 0 by decide +kernel⟩ w_1222 w_1223 (ci := 11) rfl w_1224 (by first | assumption | rfl | (simp (disch := omega) only [q_upT_self, q_upT_ne, q_upR_self, q_upR_nea, q_upR_nk, s_T_lo, s_T_hi, s_R_ne, *]; done) | (simp (disch := omega) only [q_upT_self, q_upT_ne, q_upR_self, q_upR_nea, q_upR_nk, s_T_lo, s_T_hi, s_R_ne, *]; rfl)) rfl (Nat.le_of_ble_eq_true rfl) (by omega) (by omega) (c_Model_thrown hm4) ?_
  rintro _ _ ⟨rfl, rfl⟩
  rw [ht2]
  refine q_iload d_Law_law_931 rfl ?_
  refine q_icmp_eq (tgt := 938) d_Law_law_933 rfl (fun hc => ?_) (fun hc => ?_)
  · refine q_goto (tgt := 1548) d_Law_law_938 (by omega) ?_
    exact kk _ _ _ _ _ _ _ hi2
  · exact absurd rfl hc
def q_op_get (g : q_G) (b x L : Nat) (f : Int32 → Int32) (Inv : q_Inv) : Prop := ∀ (n sz : Nat) (T : q_T) (I : q_I) (R : q_R) (J : q_J), Inv (n + 1) sz T I R → ∀ p0 p1 : Int32, ∃ P : Int32 → Int32 → q_H → Prop, q_C g M_Lens_get [.ref x, .int p0, .int p1] (sz, T, I, R, J) 1000 14000 (q_Xi [2, 1] P) ∧ ∀ (k r : Int32) (h1 : q_H), P k r h1 → q_Lw b x L f h1.2.1 h1.2.2.1 ∧ ∀ J1 : q_J, q_Ci g M_Model_get [.ref (x + 83), .int p0, .int p1] (h1.1, h1.2.1, h1.2.2.1, h1.2.2.2.1, J1) 0 0 (fun v h2 => (k = 0 → v = r) ∧ h2.2.2.1 (x + 83) (nI 0) = k ∧ h2.2.2.2.2 = J1 ∧ Inv n h2.1 h2.2.1 h2.2.2.1 h2.2.2.2.1)
theorem l_get {b x L : Nat} {f : Int32 → Int32} {Inv : q_Inv} (hop : q_op_get g b x L f Inv) (hNC : q_NC g) (hI : ∀ n sz T I R, Inv n sz T I R → q_Lw b x L f T I) {n d c k : Nat} {l5 l6 : Option Value} (hd : 6 * d + 6 ≤ L) (hL : L ≤ 3072) (hi : Inv (n + 1) sz T I R) (hc0 : c + 1000 ≤ 601024) (hk0 : k + 14000 ≤ 7293034) (kk : ∀ sz T I R J v5 v6, Inv n sz T I R → q_V g M_Law_law 601024 7293034 (c + 1000) (k + 14000) (sz, T, I, R, J) q_LQ 1548 [some (.ref b), some (.ref x), some (.ref (x + 83)), some (.ref (x + 113)), some (.int (nI (6 * d))), v5, v6] []) : q_V g M_Law_law 601024 7293034 c k (sz, T, I, R, J) q_LQ 941 [some (.ref b), some (.ref x), some (.ref (x + 83)), some (.ref (x + 113)), some (.int (nI (6 * d))), l5, l6] [] := by
  obtain ⟨hb, hf, hx, hm, ho⟩ := hI _ _ _ _ _ hi
  obtain ⟨P, hK, hM⟩ := hop n sz T I R J hi (f (nI (6 * d + 1))) (f (nI (6 * d + 2)))
  refine q_aload_n d_Law_law_941 rfl rfl ?_
  refine q_aload_n d_Law_law_942 rfl rfl ?_
  refine q_iload d_Law_law_943 rfl ?_
  refine q_iconst (v := nI 1) d_Law_law_945 (by decide) ?_
  first | refine q_iaddN d_Law_law_946 ?_ | refine q_iadd d_Law_law_946 ?_
  refine q_ialdX d_Law_law_947 (by assumption) (by first | assumption | exact vp_in_nI (by omega) (by omega)) ?_
  refine q_aload_n d_Law_law_948 rfl rfl ?_
  refine q_iload d_Law_law_949 rfl ?_
  refine q_iconst (v := nI 2) d_Law_law_951 (by decide) ?_
  first | refine q_iaddN d_Law_law_952 ?_ | refine q_iadd d_Law_law_952 ?_
  refine q_ialdX d_Law_law_953 (by assumption) (by first | assumption | exact vp_in_nI (by omega) (by omega)) ?_
  refine q_aload_n d_Law_law_954 rfl rfl ?_
  rw [hf]
  refine q_callSi (M2 := M_Law_get) d_Law_law_955 ⟨(Nat.le_of_ble_eq_true rfl), (Nat.le_of_ble_eq_true rfl), w_809, w_0, ⟨by decide, by decide⟩, show _ = some 4 by decide +kernel⟩ w_807 w_808 rfl (Nat.le_of_ble_eq_true rfl) (by omega) (by omega) (w_get hNC hx hK (fun r h' hp => (hM 0 r h' hp).1.2.2.2.2)) ?_
  intro kv h' hw
  obtain ⟨r, sz1, T1, I1, R1, J1, J2, hp, e2, hJ⟩ := q_Wi_use hw
  subst e2
  obtain ⟨⟨hb1, hf1, hx1, hm1, ho1⟩, hM1⟩ := hM kv r _ hp
  have hb2 : T1 b = some (50, L) := hb1
  have hf2 : I1 b = f := hf1
  have hm2 : T1 (x + 83) = some (111, 0) := hm1
  refine q_istore d_Law_law_958 (Nat.le_of_ble_eq_true rfl) (by first | exact q_ok0 | exact q_okI rfl | exact q_okR rfl | exact q_okN rfl) rfl ?_
  refine q_aload_n d_Law_law_960 rfl rfl ?_
  refine q_aload_n d_Law_law_961 rfl rfl ?_
  refine q_iload d_Law_law_962 rfl ?_
  refine q_iconst (v := nI 1) d_Law_law_964 (by decide) ?_
  first | refine q_iaddN d_Law_law_965 ?_ | refine q_iadd d_Law_law_965 ?_
  refine q_ialdX d_Law_law_966 (by assumption) (by first | assumption | exact vp_in_nI (by omega) (by omega)) ?_
  refine q_aload_n d_Law_law_967 rfl rfl ?_
  refine q_iload d_Law_law_968 rfl ?_
  refine q_iconst (v := nI 2) d_Law_law_970 (by decide) ?_
  first | refine q_iaddN d_Law_law_971 ?_ | refine q_iadd d_Law_law_971 ?_
  refine q_ialdX d_Law_law_972 (by assumption) (by first | assumption | exact vp_in_nI (by omega) (by omega)) ?_
  rw [hf2]
  refine q_callVi (M2 := M_Model_get) d_Law_law_973 ⟨(Nat.le_of_ble_eq_true rfl), (Nat.le_of_ble_eq_true rfl), w_1449, w_10, ⟨by decide, by decide⟩, show _ = some 2 by decide +kernel⟩ w_1446 w_1447 (ci := 11) rfl w_1448 (by first | assumption | rfl | (simp (disch := omega) only [q_upT_self, q_upT_ne, q_upR_self, q_upR_nea, q_upR_nk, s_T_lo, s_T_hi, s_R_ne, *]; done) | (simp (disch := omega) only [q_upT_self, q_upT_ne, q_upR_self, q_upR_nea, q_upR_nk, s_T_lo, s_T_hi, s_R_ne, *]; rfl)) rfl (Nat.le_of_ble_eq_true rfl) (by omega) (by omega) (hM1 J2) ?_
  rintro v ⟨sz2, T2, I2, R2, J3⟩ ⟨hv, ht, hJ2, hi2⟩
  have hJ3 : J3 = J2 := hJ2
  subst hJ3
  have ht2 : I2 (x + 83) (nI 0) = kv := ht
  obtain ⟨hb3, hf3, hx3, hm3, ho3⟩ := hI _ _ _ _ _ hi2
  have hm4 : T2 (x + 83) = some (111, 0) := hm3
  have ho4 : T2 (x + 113) = some (1, 1) := ho3
  refine q_istore d_Law_law_976 (Nat.le_of_ble_eq_true rfl) (by first | exact q_ok0 | exact q_okI rfl | exact q_okR rfl | exact q_okN rfl) rfl ?_
  refine q_aload_n d_Law_law_978 rfl rfl ?_
  refine q_callVi (M2 := M_Model_thrown) d_Law_law_979 ⟨(Nat.le_of_ble_eq_true rfl), (Nat.le_of_ble_eq_true rfl), w_1225, w_10, ⟨by decide, by decide⟩, show _ = some 0 by decide +kernel⟩ w_1222 w_1223 (ci := 11) rfl w_1224 (by first | assumption | rfl | (simp (disch := omega) only [q_upT_self, q_upT_ne, q_upR_self, q_upR_nea, q_upR_nk, s_T_lo, s_T_hi, s_R_ne, *]; done) | (simp (disch := omega) only [q_upT_self, q_upT_ne, q_upR_self, q_upR_nea, q_upR_nk, s_T_lo, s_T_hi, s_R_ne, *]; rfl)) rfl (Nat.le_of_ble_eq_true rfl) (by omega) (by omega) (c_Model_thrown hm4) ?_
  rintro _ _ ⟨rfl, rfl⟩
  rw [ht2]
  refine q_iload d_Law_law_982 rfl ?_
  refine q_icmp_eq (tgt := 989) d_Law_law_984 rfl (fun hc => ?_) (fun hc => ?_)
  · refine q_iload d_Law_law_989 rfl ?_
    refine q_if_ne (tgt := 1006) d_Law_law_991 rfl (fun hc => ?_) (fun hc => ?_)
    · refine q_goto (tgt := 1548) d_Law_law_1006 (by omega) ?_
      exact kk _ _ _ _ _ _ _ hi2
    · have hz : kv = 0 := by first | exact hc | exact Decidable.not_not.mp hc
      refine q_aload_n d_Law_law_994 rfl rfl ?_
      refine q_iconst (v := nI 0) d_Law_law_995 (by decide) ?_
      refine q_lald d_Law_law_996 (by first | assumption | rfl | (simp (disch := omega) only [q_upT_self, q_upT_ne, q_upR_self, q_upR_nea, q_upR_nk, s_T_lo, s_T_hi, s_R_ne, *]; done) | (simp (disch := omega) only [q_upT_self, q_upT_ne, q_upR_self, q_upR_nea, q_upR_nk, s_T_lo, s_T_hi, s_R_ne, *]; rfl)) (by first | assumption | exact vp_in_nI (by omega) (by omega)) ?_
      refine q_iload d_Law_law_997 rfl ?_
      refine q_i2l d_Law_law_999 rfl ?_
      refine q_lcmp d_Law_law_1000 ?_
      refine q_if_eq (tgt := 1006) d_Law_law_1001 rfl (fun hc => ?_) (fun hc => ?_)
      · refine q_goto (tgt := 1548) d_Law_law_1006 (by omega) ?_
        exact kk _ _ _ _ _ _ _ hi2
      · exact absurd ((lg_cmp_eq _ _).mpr (by rw [hJ hz, hv hz])) hc
  · exact absurd rfl hc
def q_op_size (g : q_G) (b x L : Nat) (f : Int32 → Int32) (Inv : q_Inv) : Prop := ∀ (n sz : Nat) (T : q_T) (I : q_I) (R : q_R) (J : q_J), Inv (n + 1) sz T I R → ∀ p0 p1 : Int32, ∃ P : Int32 → Int32 → q_H → Prop, q_C g M_Lens_size [.ref x, .int p0, .int p1] (sz, T, I, R, J) 1000 14000 (q_Xi [2, 1] P) ∧ ∀ (k r : Int32) (h1 : q_H), P k r h1 → q_Lw b x L f h1.2.1 h1.2.2.1 ∧ ∀ J1 : q_J, q_Ci g M_Model_size [.ref (x + 83), .int p0, .int p1] (h1.1, h1.2.1, h1.2.2.1, h1.2.2.2.1, J1) 0 0 (fun v h2 => (k = 0 → v = r) ∧ h2.2.2.1 (x + 83) (nI 0) = k ∧ h2.2.2.2.2 = J1 ∧ Inv n h2.1 h2.2.1 h2.2.2.1 h2.2.2.2.1)
theorem l_size {b x L : Nat} {f : Int32 → Int32} {Inv : q_Inv} (hop : q_op_size g b x L f Inv) (hNC : q_NC g) (hI : ∀ n sz T I R, Inv n sz T I R → q_Lw b x L f T I) {n d c k : Nat} {l5 l6 : Option Value} (hd : 6 * d + 6 ≤ L) (hL : L ≤ 3072) (hi : Inv (n + 1) sz T I R) (hc0 : c + 1000 ≤ 601024) (hk0 : k + 14000 ≤ 7293034) (kk : ∀ sz T I R J v5 v6, Inv n sz T I R → q_V g M_Law_law 601024 7293034 (c + 1000) (k + 14000) (sz, T, I, R, J) q_LQ 1548 [some (.ref b), some (.ref x), some (.ref (x + 83)), some (.ref (x + 113)), some (.int (nI (6 * d))), v5, v6] []) : q_V g M_Law_law 601024 7293034 c k (sz, T, I, R, J) q_LQ 1009 [some (.ref b), some (.ref x), some (.ref (x + 83)), some (.ref (x + 113)), some (.int (nI (6 * d))), l5, l6] [] := by
  obtain ⟨hb, hf, hx, hm, ho⟩ := hI _ _ _ _ _ hi
  obtain ⟨P, hK, hM⟩ := hop n sz T I R J hi (f (nI (6 * d + 1))) (f (nI (6 * d + 2)))
  refine q_aload_n d_Law_law_1009 rfl rfl ?_
  refine q_aload_n d_Law_law_1010 rfl rfl ?_
  refine q_iload d_Law_law_1011 rfl ?_
  refine q_iconst (v := nI 1) d_Law_law_1013 (by decide) ?_
  first | refine q_iaddN d_Law_law_1014 ?_ | refine q_iadd d_Law_law_1014 ?_
  refine q_ialdX d_Law_law_1015 (by assumption) (by first | assumption | exact vp_in_nI (by omega) (by omega)) ?_
  refine q_aload_n d_Law_law_1016 rfl rfl ?_
  refine q_iload d_Law_law_1017 rfl ?_
  refine q_iconst (v := nI 2) d_Law_law_1019 (by decide) ?_
  first | refine q_iaddN d_Law_law_1020 ?_ | refine q_iadd d_Law_law_1020 ?_
  refine q_ialdX d_Law_law_1021 (by assumption) (by first | assumption | exact vp_in_nI (by omega) (by omega)) ?_
  refine q_aload_n d_Law_law_1022 rfl rfl ?_
  rw [hf]
  refine q_callSi (M2 := M_Law_size) d_Law_law_1023 ⟨(Nat.le_of_ble_eq_true rfl), (Nat.le_of_ble_eq_true rfl), w_820, w_0, ⟨by decide, by decide⟩, show _ = some 4 by decide +kernel⟩ w_818 w_819 rfl (Nat.le_of_ble_eq_true rfl) (by omega) (by omega) (w_size hNC hx hK (fun r h' hp => (hM 0 r h' hp).1.2.2.2.2)) ?_
  intro kv h' hw
  obtain ⟨r, sz1, T1, I1, R1, J1, J2, hp, e2, hJ⟩ := q_Wi_use hw
  subst e2
  obtain ⟨⟨hb1, hf1, hx1, hm1, ho1⟩, hM1⟩ := hM kv r _ hp
  have hb2 : T1 b = some (50, L) := hb1
  have hf2 : I1 b = f := hf1
  have hm2 : T1 (x + 83) = some (111, 0) := hm1
  refine q_istore d_Law_law_1026 (Nat.le_of_ble_eq_true rfl) (by first | exact q_ok0 | exact q_okI rfl | exact q_okR rfl | exact q_okN rfl) rfl ?_
  refine q_aload_n d_Law_law_1028 rfl rfl ?_
  refine q_aload_n d_Law_law_1029 rfl rfl ?_
  refine q_iload d_Law_law_1030 rfl ?_
  refine q_iconst (v := nI 1) d_Law_law_1032 (by decide) ?_
  first | refine q_iaddN d_Law_law_1033 ?_ | refine q_iadd d_Law_law_1033 ?_
  refine q_ialdX d_Law_law_1034 (by assumption) (by first | assumption | exact vp_in_nI (by omega) (by omega)) ?_
  refine q_aload_n d_Law_law_1035 rfl rfl ?_
  refine q_iload d_Law_law_1036 rfl ?_
  refine q_iconst (v := nI 2) d_Law_law_1038 (by decide) ?_
  first | refine q_iaddN d_Law_law_1039 ?_ | refine q_iadd d_Law_law_1039 ?_
  refine q_ialdX d_Law_law_1040 (by assumption) (by first | assumption | exact vp_in_nI (by omega) (by omega)) ?_
  rw [hf2]
  refine q_callVi (M2 := M_Model_size) d_Law_law_1041 ⟨(Nat.le_of_ble_eq_true rfl), (Nat.le_of_ble_eq_true rfl), w_1453, w_10, ⟨by decide, by decide⟩, show _ = some 2 by decide +kernel⟩ w_1450 w_1451 (ci := 11) rfl w_1452 (by first | assumption | rfl | (simp (disch := omega) only [q_upT_self, q_upT_ne, q_upR_self, q_upR_nea, q_upR_nk, s_T_lo, s_T_hi, s_R_ne, *]; done) | (simp (disch := omega) only [q_upT_self, q_upT_ne, q_upR_self, q_upR_nea, q_upR_nk, s_T_lo, s_T_hi, s_R_ne, *]; rfl)) rfl (Nat.le_of_ble_eq_true rfl) (by omega) (by omega) (hM1 J2) ?_
  rintro v ⟨sz2, T2, I2, R2, J3⟩ ⟨hv, ht, hJ2, hi2⟩
  have hJ3 : J3 = J2 := hJ2
  subst hJ3
  have ht2 : I2 (x + 83) (nI 0) = kv := ht
  obtain ⟨hb3, hf3, hx3, hm3, ho3⟩ := hI _ _ _ _ _ hi2
  have hm4 : T2 (x + 83) = some (111, 0) := hm3
  have ho4 : T2 (x + 113) = some (1, 1) := ho3
  refine q_istore d_Law_law_1044 (Nat.le_of_ble_eq_true rfl) (by first | exact q_ok0 | exact q_okI rfl | exact q_okR rfl | exact q_okN rfl) rfl ?_
  refine q_aload_n d_Law_law_1046 rfl rfl ?_
  refine q_callVi (M2 := M_Model_thrown) d_Law_law_1047 ⟨(Nat.le_of_ble_eq_true rfl), (Nat.le_of_ble_eq_true rfl), w_1225, w_10, ⟨by decide, by decide⟩, show _ = some 0 by decide +kernel⟩ w_1222 w_1223 (ci := 11) rfl w_1224 (by first | assumption | rfl | (simp (disch := omega) only [q_upT_self, q_upT_ne, q_upR_self, q_upR_nea, q_upR_nk, s_T_lo, s_T_hi, s_R_ne, *]; done) | (simp (disch := omega) only [q_upT_self, q_upT_ne, q_upR_self, q_upR_nea, q_upR_nk, s_T_lo, s_T_hi, s_R_ne, *]; rfl)) rfl (Nat.le_of_ble_eq_true rfl) (by omega) (by omega) (c_Model_thrown hm4) ?_
  rintro _ _ ⟨rfl, rfl⟩
  rw [ht2]
  refine q_iload d_Law_law_1050 rfl ?_
  refine q_icmp_eq (tgt := 1057) d_Law_law_1052 rfl (fun hc => ?_) (fun hc => ?_)
  · refine q_iload d_Law_law_1057 rfl ?_
    refine q_if_ne (tgt := 1074) d_Law_law_1059 rfl (fun hc => ?_) (fun hc => ?_)
    · refine q_goto (tgt := 1548) d_Law_law_1074 (by omega) ?_
      exact kk _ _ _ _ _ _ _ hi2
    · have hz : kv = 0 := by first | exact hc | exact Decidable.not_not.mp hc
      refine q_aload_n d_Law_law_1062 rfl rfl ?_
      refine q_iconst (v := nI 0) d_Law_law_1063 (by decide) ?_
      refine q_lald d_Law_law_1064 (by first | assumption | rfl | (simp (disch := omega) only [q_upT_self, q_upT_ne, q_upR_self, q_upR_nea, q_upR_nk, s_T_lo, s_T_hi, s_R_ne, *]; done) | (simp (disch := omega) only [q_upT_self, q_upT_ne, q_upR_self, q_upR_nea, q_upR_nk, s_T_lo, s_T_hi, s_R_ne, *]; rfl)) (by first | assumption | exact vp_in_nI (by omega) (by omega)) ?_
      refine q_iload d_Law_law_1065 rfl ?_
      refine q_i2l d_Law_law_1067 rfl ?_
      refine q_lcmp d_Law_law_1068 ?_
      refine q_if_eq (tgt := 1074) d_Law_law_1069 rfl (fun hc => ?_) (fun hc => ?_)
      · refine q_goto (tgt := 1548) d_Law_law_1074 (by omega) ?_
        exact kk _ _ _ _ _ _ _ hi2
      · exact absurd ((lg_cmp_eq _ _).mpr (by rw [hJ hz, hv hz])) hc
  · exact absurd rfl hc
def q_op_item (g : q_G) (b x L : Nat) (f : Int32 → Int32) (Inv : q_Inv) : Prop := ∀ (n sz : Nat) (T : q_T) (I : q_I) (R : q_R) (J : q_J), Inv (n + 1) sz T I R → ∀ p0 p1 p2 : Int32, ∃ P : Int32 → Int32 → q_H → Prop, q_C g M_Lens_item [.ref x, .int p0, .int p1, .int p2] (sz, T, I, R, J) 1000 14000 (q_Xi [2, 1] P) ∧ ∀ (k r : Int32) (h1 : q_H), P k r h1 → q_Lw b x L f h1.2.1 h1.2.2.1 ∧ ∀ J1 : q_J, q_Ci g M_Model_item [.ref (x + 83), .int p0, .int p1, .int p2] (h1.1, h1.2.1, h1.2.2.1, h1.2.2.2.1, J1) 0 0 (fun v h2 => (k = 0 → v = r) ∧ h2.2.2.1 (x + 83) (nI 0) = k ∧ h2.2.2.2.2 = J1 ∧ Inv n h2.1 h2.2.1 h2.2.2.1 h2.2.2.2.1)
theorem l_item {b x L : Nat} {f : Int32 → Int32} {Inv : q_Inv} (hop : q_op_item g b x L f Inv) (hNC : q_NC g) (hI : ∀ n sz T I R, Inv n sz T I R → q_Lw b x L f T I) {n d c k : Nat} {l5 l6 : Option Value} (hd : 6 * d + 6 ≤ L) (hL : L ≤ 3072) (hi : Inv (n + 1) sz T I R) (hc0 : c + 1000 ≤ 601024) (hk0 : k + 14000 ≤ 7293034) (kk : ∀ sz T I R J v5 v6, Inv n sz T I R → q_V g M_Law_law 601024 7293034 (c + 1000) (k + 14000) (sz, T, I, R, J) q_LQ 1548 [some (.ref b), some (.ref x), some (.ref (x + 83)), some (.ref (x + 113)), some (.int (nI (6 * d))), v5, v6] []) : q_V g M_Law_law 601024 7293034 c k (sz, T, I, R, J) q_LQ 1077 [some (.ref b), some (.ref x), some (.ref (x + 83)), some (.ref (x + 113)), some (.int (nI (6 * d))), l5, l6] [] := by
  obtain ⟨hb, hf, hx, hm, ho⟩ := hI _ _ _ _ _ hi
  obtain ⟨P, hK, hM⟩ := hop n sz T I R J hi (f (nI (6 * d + 1))) (f (nI (6 * d + 2))) (f (nI (6 * d + 3)))
  refine q_aload_n d_Law_law_1077 rfl rfl ?_
  refine q_aload_n d_Law_law_1078 rfl rfl ?_
  refine q_iload d_Law_law_1079 rfl ?_
  refine q_iconst (v := nI 1) d_Law_law_1081 (by decide) ?_
  first | refine q_iaddN d_Law_law_1082 ?_ | refine q_iadd d_Law_law_1082 ?_
  refine q_ialdX d_Law_law_1083 (by assumption) (by first | assumption | exact vp_in_nI (by omega) (by omega)) ?_
  refine q_aload_n d_Law_law_1084 rfl rfl ?_
  refine q_iload d_Law_law_1085 rfl ?_
  refine q_iconst (v := nI 2) d_Law_law_1087 (by decide) ?_
  first | refine q_iaddN d_Law_law_1088 ?_ | refine q_iadd d_Law_law_1088 ?_
  refine q_ialdX d_Law_law_1089 (by assumption) (by first | assumption | exact vp_in_nI (by omega) (by omega)) ?_
  refine q_aload_n d_Law_law_1090 rfl rfl ?_
  refine q_iload d_Law_law_1091 rfl ?_
  refine q_iconst (v := nI 3) d_Law_law_1093 (by decide) ?_
  first | refine q_iaddN d_Law_law_1094 ?_ | refine q_iadd d_Law_law_1094 ?_
  refine q_ialdX d_Law_law_1095 (by assumption) (by first | assumption | exact vp_in_nI (by omega) (by omega)) ?_
  refine q_aload_n d_Law_law_1096 rfl rfl ?_
  rw [hf]
  refine q_callSi (M2 := M_Law_item) d_Law_law_1097 ⟨(Nat.le_of_ble_eq_true rfl), (Nat.le_of_ble_eq_true rfl), w_827, w_0, ⟨by decide, by decide⟩, show _ = some 5 by decide +kernel⟩ w_825 w_826 rfl (Nat.le_of_ble_eq_true rfl) (by omega) (by omega) (w_item hNC hx hK (fun r h' hp => (hM 0 r h' hp).1.2.2.2.2)) ?_
  intro kv h' hw
  obtain ⟨r, sz1, T1, I1, R1, J1, J2, hp, e2, hJ⟩ := q_Wi_use hw
  subst e2
  obtain ⟨⟨hb1, hf1, hx1, hm1, ho1⟩, hM1⟩ := hM kv r _ hp
  have hb2 : T1 b = some (50, L) := hb1
  have hf2 : I1 b = f := hf1
  have hm2 : T1 (x + 83) = some (111, 0) := hm1
  refine q_istore d_Law_law_1100 (Nat.le_of_ble_eq_true rfl) (by first | exact q_ok0 | exact q_okI rfl | exact q_okR rfl | exact q_okN rfl) rfl ?_
  refine q_aload_n d_Law_law_1102 rfl rfl ?_
  refine q_aload_n d_Law_law_1103 rfl rfl ?_
  refine q_iload d_Law_law_1104 rfl ?_
  refine q_iconst (v := nI 1) d_Law_law_1106 (by decide) ?_
  first | refine q_iaddN d_Law_law_1107 ?_ | refine q_iadd d_Law_law_1107 ?_
  refine q_ialdX d_Law_law_1108 (by assumption) (by first | assumption | exact vp_in_nI (by omega) (by omega)) ?_
  refine q_aload_n d_Law_law_1109 rfl rfl ?_
  refine q_iload d_Law_law_1110 rfl ?_
  refine q_iconst (v := nI 2) d_Law_law_1112 (by decide) ?_
  first | refine q_iaddN d_Law_law_1113 ?_ | refine q_iadd d_Law_law_1113 ?_
  refine q_ialdX d_Law_law_1114 (by assumption) (by first | assumption | exact vp_in_nI (by omega) (by omega)) ?_
  refine q_aload_n d_Law_law_1115 rfl rfl ?_
  refine q_iload d_Law_law_1116 rfl ?_
  refine q_iconst (v := nI 3) d_Law_law_1118 (by decide) ?_
  first | refine q_iaddN d_Law_law_1119 ?_ | refine q_iadd d_Law_law_1119 ?_
  refine q_ialdX d_Law_law_1120 (by assumption) (by first | assumption | exact vp_in_nI (by omega) (by omega)) ?_
  rw [hf2]
  refine q_callVi (M2 := M_Model_item) d_Law_law_1121 ⟨(Nat.le_of_ble_eq_true rfl), (Nat.le_of_ble_eq_true rfl), w_1457, w_10, ⟨by decide, by decide⟩, show _ = some 3 by decide +kernel⟩ w_1454 w_1455 (ci := 11) rfl w_1456 (by first | assumption | rfl | (simp (disch := omega) only [q_upT_self, q_upT_ne, q_upR_self, q_upR_nea, q_upR_nk, s_T_lo, s_T_hi, s_R_ne, *]; done) | (simp (disch := omega) only [q_upT_self, q_upT_ne, q_upR_self, q_upR_nea, q_upR_nk, s_T_lo, s_T_hi, s_R_ne, *]; rfl)) rfl (Nat.le_of_ble_eq_true rfl) (by omega) (by omega) (hM1 J2) ?_
  rintro v ⟨sz2, T2, I2, R2, J3⟩ ⟨hv, ht, hJ2, hi2⟩
  have hJ3 : J3 = J2 := hJ2
  subst hJ3
  have ht2 : I2 (x + 83) (nI 0) = kv := ht
  obtain ⟨hb3, hf3, hx3, hm3, ho3⟩ := hI _ _ _ _ _ hi2
  have hm4 : T2 (x + 83) = some (111, 0) := hm3
  have ho4 : T2 (x + 113) = some (1, 1) := ho3
  refine q_istore d_Law_law_1124 (Nat.le_of_ble_eq_true rfl) (by first | exact q_ok0 | exact q_okI rfl | exact q_okR rfl | exact q_okN rfl) rfl ?_
  refine q_aload_n d_Law_law_1126 rfl rfl ?_
  refine q_callVi (M2 := M_Model_thrown) d_Law_law_1127 ⟨(Nat.le_of_ble_eq_true rfl), (Nat.le_of_ble_eq_true rfl), w_1225, w_10, ⟨by decide, by decide⟩, show _ = some 0 by decide +kernel⟩ w_1222 w_1223 (ci := 11) rfl w_1224 (by first | assumption | rfl | (simp (disch := omega) only [q_upT_self, q_upT_ne, q_upR_self, q_upR_nea, q_upR_nk, s_T_lo, s_T_hi, s_R_ne, *]; done) | (simp (disch := omega) only [q_upT_self, q_upT_ne, q_upR_self, q_upR_nea, q_upR_nk, s_T_lo, s_T_hi, s_R_ne, *]; rfl)) rfl (Nat.le_of_ble_eq_true rfl) (by omega) (by omega) (c_Model_thrown hm4) ?_
  rintro _ _ ⟨rfl, rfl⟩
  rw [ht2]
  refine q_iload d_Law_law_1130 rfl ?_
  refine q_icmp_eq (tgt := 1137) d_Law_law_1132 rfl (fun hc => ?_) (fun hc => ?_)
  · refine q_iload d_Law_law_1137 rfl ?_
    refine q_if_ne (tgt := 1154) d_Law_law_1139 rfl (fun hc => ?_) (fun hc => ?_)
    · refine q_goto (tgt := 1548) d_Law_law_1154 (by omega) ?_
      exact kk _ _ _ _ _ _ _ hi2
    · have hz : kv = 0 := by first | exact hc | exact Decidable.not_not.mp hc
      refine q_aload_n d_Law_law_1142 rfl rfl ?_
      refine q_iconst (v := nI 0) d_Law_law_1143 (by decide) ?_
      refine q_lald d_Law_law_1144 (by first | assumption | rfl | (simp (disch := omega) only [q_upT_self, q_upT_ne, q_upR_self, q_upR_nea, q_upR_nk, s_T_lo, s_T_hi, s_R_ne, *]; done) | (simp (disch := omega) only [q_upT_self, q_upT_ne, q_upR_self, q_upR_nea, q_upR_nk, s_T_lo, s_T_hi, s_R_ne, *]; rfl)) (by first | assumption | exact vp_in_nI (by omega) (by omega)) ?_
      refine q_iload d_Law_law_1145 rfl ?_
      refine q_i2l d_Law_law_1147 rfl ?_
      refine q_lcmp d_Law_law_1148 ?_
      refine q_if_eq (tgt := 1154) d_Law_law_1149 rfl (fun hc => ?_) (fun hc => ?_)
      · refine q_goto (tgt := 1548) d_Law_law_1154 (by omega) ?_
        exact kk _ _ _ _ _ _ _ hi2
      · exact absurd ((lg_cmp_eq _ _).mpr (by rw [hJ hz, hv hz])) hc
  · exact absurd rfl hc
def q_op_version (g : q_G) (b x L : Nat) (f : Int32 → Int32) (Inv : q_Inv) : Prop := ∀ (n sz : Nat) (T : q_T) (I : q_I) (R : q_R) (J : q_J), Inv (n + 1) sz T I R → ∀ p0 : Int32, ∃ P : Int32 → Int32 → q_H → Prop, q_C g M_Lens_version [.ref x, .int p0] (sz, T, I, R, J) 1000 14000 (q_Xi [2] P) ∧ ∀ (k r : Int32) (h1 : q_H), P k r h1 → q_Lw b x L f h1.2.1 h1.2.2.1 ∧ ∀ J1 : q_J, q_Ci g M_Model_version [.ref (x + 83), .int p0] (h1.1, h1.2.1, h1.2.2.1, h1.2.2.2.1, J1) 0 0 (fun v h2 => (k = 0 → v = r) ∧ h2.2.2.1 (x + 83) (nI 0) = k ∧ h2.2.2.2.2 = J1 ∧ Inv n h2.1 h2.2.1 h2.2.2.1 h2.2.2.2.1)
theorem l_version {b x L : Nat} {f : Int32 → Int32} {Inv : q_Inv} (hop : q_op_version g b x L f Inv) (hNC : q_NC g) (hI : ∀ n sz T I R, Inv n sz T I R → q_Lw b x L f T I) {n d c k : Nat} {l5 l6 : Option Value} (hd : 6 * d + 6 ≤ L) (hL : L ≤ 3072) (hi : Inv (n + 1) sz T I R) (hc0 : c + 1000 ≤ 601024) (hk0 : k + 14000 ≤ 7293034) (kk : ∀ sz T I R J v5 v6, Inv n sz T I R → q_V g M_Law_law 601024 7293034 (c + 1000) (k + 14000) (sz, T, I, R, J) q_LQ 1548 [some (.ref b), some (.ref x), some (.ref (x + 83)), some (.ref (x + 113)), some (.int (nI (6 * d))), v5, v6] []) : q_V g M_Law_law 601024 7293034 c k (sz, T, I, R, J) q_LQ 1157 [some (.ref b), some (.ref x), some (.ref (x + 83)), some (.ref (x + 113)), some (.int (nI (6 * d))), l5, l6] [] := by
  obtain ⟨hb, hf, hx, hm, ho⟩ := hI _ _ _ _ _ hi
  obtain ⟨P, hK, hM⟩ := hop n sz T I R J hi (f (nI (6 * d + 1)))
  refine q_aload_n d_Law_law_1157 rfl rfl ?_
  refine q_aload_n d_Law_law_1158 rfl rfl ?_
  refine q_iload d_Law_law_1159 rfl ?_
  refine q_iconst (v := nI 1) d_Law_law_1161 (by decide) ?_
  first | refine q_iaddN d_Law_law_1162 ?_ | refine q_iadd d_Law_law_1162 ?_
  refine q_ialdX d_Law_law_1163 (by assumption) (by first | assumption | exact vp_in_nI (by omega) (by omega)) ?_
  refine q_aload_n d_Law_law_1164 rfl rfl ?_
  rw [hf]
  refine q_callSi (M2 := M_Law_version) d_Law_law_1165 ⟨(Nat.le_of_ble_eq_true rfl), (Nat.le_of_ble_eq_true rfl), w_834, w_0, ⟨by decide, by decide⟩, show _ = some 3 by decide +kernel⟩ w_832 w_833 rfl (Nat.le_of_ble_eq_true rfl) (by omega) (by omega) (w_version hNC hx hK (fun r h' hp => (hM 0 r h' hp).1.2.2.2.2)) ?_
  intro kv h' hw
  obtain ⟨r, sz1, T1, I1, R1, J1, J2, hp, e2, hJ⟩ := q_Wi_use hw
  subst e2
  obtain ⟨⟨hb1, hf1, hx1, hm1, ho1⟩, hM1⟩ := hM kv r _ hp
  have hb2 : T1 b = some (50, L) := hb1
  have hf2 : I1 b = f := hf1
  have hm2 : T1 (x + 83) = some (111, 0) := hm1
  refine q_istore d_Law_law_1168 (Nat.le_of_ble_eq_true rfl) (by first | exact q_ok0 | exact q_okI rfl | exact q_okR rfl | exact q_okN rfl) rfl ?_
  refine q_aload_n d_Law_law_1170 rfl rfl ?_
  refine q_aload_n d_Law_law_1171 rfl rfl ?_
  refine q_iload d_Law_law_1172 rfl ?_
  refine q_iconst (v := nI 1) d_Law_law_1174 (by decide) ?_
  first | refine q_iaddN d_Law_law_1175 ?_ | refine q_iadd d_Law_law_1175 ?_
  refine q_ialdX d_Law_law_1176 (by assumption) (by first | assumption | exact vp_in_nI (by omega) (by omega)) ?_
  rw [hf2]
  refine q_callVi (M2 := M_Model_version) d_Law_law_1177 ⟨(Nat.le_of_ble_eq_true rfl), (Nat.le_of_ble_eq_true rfl), w_1461, w_10, ⟨by decide, by decide⟩, show _ = some 1 by decide +kernel⟩ w_1458 w_1459 (ci := 11) rfl w_1460 (by first | assumption | rfl | (simp (disch := omega) only [q_upT_self, q_upT_ne, q_upR_self, q_upR_nea, q_upR_nk, s_T_lo, s_T_hi, s_R_ne, *]; done) | (simp (disch := omega) only [q_upT_self, q_upT_ne, q_upR_self, q_upR_nea, q_upR_nk, s_T_lo, s_T_hi, s_R_ne, *]; rfl)) rfl (Nat.le_of_ble_eq_true rfl) (by omega) (by omega) (hM1 J2) ?_
  rintro v ⟨sz2, T2, I2, R2, J3⟩ ⟨hv, ht, hJ2, hi2⟩
  have hJ3 : J3 = J2 := hJ2
  subst hJ3
  have ht2 : I2 (x + 83) (nI 0) = kv := ht
  obtain ⟨hb3, hf3, hx3, hm3, ho3⟩ := hI _ _ _ _ _ hi2
  have hm4 : T2 (x + 83) = some (111, 0) := hm3
  have ho4 : T2 (x + 113) = some (1, 1) := ho3
  refine q_istore d_Law_law_1180 (Nat.le_of_ble_eq_true rfl) (by first | exact q_ok0 | exact q_okI rfl | exact q_okR rfl | exact q_okN rfl) rfl ?_
  refine q_aload_n d_Law_law_1182 rfl rfl ?_
  refine q_callVi (M2 := M_Model_thrown) d_Law_law_1183 ⟨(Nat.le_of_ble_eq_true rfl), (Nat.le_of_ble_eq_true rfl), w_1225, w_10, ⟨by decide, by decide⟩, show _ = some 0 by decide +kernel⟩ w_1222 w_1223 (ci := 11) rfl w_1224 (by first | assumption | rfl | (simp (disch := omega) only [q_upT_self, q_upT_ne, q_upR_self, q_upR_nea, q_upR_nk, s_T_lo, s_T_hi, s_R_ne, *]; done) | (simp (disch := omega) only [q_upT_self, q_upT_ne, q_upR_self, q_upR_nea, q_upR_nk, s_T_lo, s_T_hi, s_R_ne, *]; rfl)) rfl (Nat.le_of_ble_eq_true rfl) (by omega) (by omega) (c_Model_thrown hm4) ?_
  rintro _ _ ⟨rfl, rfl⟩
  rw [ht2]
  refine q_iload d_Law_law_1186 rfl ?_
  refine q_icmp_eq (tgt := 1193) d_Law_law_1188 rfl (fun hc => ?_) (fun hc => ?_)
  · refine q_iload d_Law_law_1193 rfl ?_
    refine q_if_ne (tgt := 1210) d_Law_law_1195 rfl (fun hc => ?_) (fun hc => ?_)
    · refine q_goto (tgt := 1548) d_Law_law_1210 (by omega) ?_
      exact kk _ _ _ _ _ _ _ hi2
    · have hz : kv = 0 := by first | exact hc | exact Decidable.not_not.mp hc
      refine q_aload_n d_Law_law_1198 rfl rfl ?_
      refine q_iconst (v := nI 0) d_Law_law_1199 (by decide) ?_
      refine q_lald d_Law_law_1200 (by first | assumption | rfl | (simp (disch := omega) only [q_upT_self, q_upT_ne, q_upR_self, q_upR_nea, q_upR_nk, s_T_lo, s_T_hi, s_R_ne, *]; done) | (simp (disch := omega) only [q_upT_self, q_upT_ne, q_upR_self, q_upR_nea, q_upR_nk, s_T_lo, s_T_hi, s_R_ne, *]; rfl)) (by first | assumption | exact vp_in_nI (by omega) (by omega)) ?_
      refine q_iload d_Law_law_1201 rfl ?_
      refine q_i2l d_Law_law_1203 rfl ?_
      refine q_lcmp d_Law_law_1204 ?_
      refine q_if_eq (tgt := 1210) d_Law_law_1205 rfl (fun hc => ?_) (fun hc => ?_)
      · refine q_goto (tgt := 1548) d_Law_law_1210 (by omega) ?_
        exact kk _ _ _ _ _ _ _ hi2
      · exact absurd ((lg_cmp_eq _ _).mpr (by rw [hJ hz, hv hz])) hc
  · exact absurd rfl hc
def q_op_kept (g : q_G) (b x L : Nat) (f : Int32 → Int32) (Inv : q_Inv) : Prop := ∀ (n sz : Nat) (T : q_T) (I : q_I) (R : q_R) (J : q_J), Inv (n + 1) sz T I R → ∀ p0 : Int32, ∃ P : Int32 → Int32 → q_H → Prop, q_C g M_Lens_kept [.ref x, .int p0] (sz, T, I, R, J) 1000 14000 (q_Xi [2] P) ∧ ∀ (k r : Int32) (h1 : q_H), P k r h1 → q_Lw b x L f h1.2.1 h1.2.2.1 ∧ ∀ J1 : q_J, q_Ci g M_Model_kept [.ref (x + 83), .int p0] (h1.1, h1.2.1, h1.2.2.1, h1.2.2.2.1, J1) 0 0 (fun v h2 => (k = 0 → v = r) ∧ h2.2.2.1 (x + 83) (nI 0) = k ∧ h2.2.2.2.2 = J1 ∧ Inv n h2.1 h2.2.1 h2.2.2.1 h2.2.2.2.1)
theorem l_kept {b x L : Nat} {f : Int32 → Int32} {Inv : q_Inv} (hop : q_op_kept g b x L f Inv) (hNC : q_NC g) (hI : ∀ n sz T I R, Inv n sz T I R → q_Lw b x L f T I) {n d c k : Nat} {l5 l6 : Option Value} (hd : 6 * d + 6 ≤ L) (hL : L ≤ 3072) (hi : Inv (n + 1) sz T I R) (hc0 : c + 1000 ≤ 601024) (hk0 : k + 14000 ≤ 7293034) (kk : ∀ sz T I R J v5 v6, Inv n sz T I R → q_V g M_Law_law 601024 7293034 (c + 1000) (k + 14000) (sz, T, I, R, J) q_LQ 1548 [some (.ref b), some (.ref x), some (.ref (x + 83)), some (.ref (x + 113)), some (.int (nI (6 * d))), v5, v6] []) : q_V g M_Law_law 601024 7293034 c k (sz, T, I, R, J) q_LQ 1213 [some (.ref b), some (.ref x), some (.ref (x + 83)), some (.ref (x + 113)), some (.int (nI (6 * d))), l5, l6] [] := by
  obtain ⟨hb, hf, hx, hm, ho⟩ := hI _ _ _ _ _ hi
  obtain ⟨P, hK, hM⟩ := hop n sz T I R J hi (f (nI (6 * d + 1)))
  refine q_aload_n d_Law_law_1213 rfl rfl ?_
  refine q_aload_n d_Law_law_1214 rfl rfl ?_
  refine q_iload d_Law_law_1215 rfl ?_
  refine q_iconst (v := nI 1) d_Law_law_1217 (by decide) ?_
  first | refine q_iaddN d_Law_law_1218 ?_ | refine q_iadd d_Law_law_1218 ?_
  refine q_ialdX d_Law_law_1219 (by assumption) (by first | assumption | exact vp_in_nI (by omega) (by omega)) ?_
  refine q_aload_n d_Law_law_1220 rfl rfl ?_
  rw [hf]
  refine q_callSi (M2 := M_Law_kept) d_Law_law_1221 ⟨(Nat.le_of_ble_eq_true rfl), (Nat.le_of_ble_eq_true rfl), w_841, w_0, ⟨by decide, by decide⟩, show _ = some 3 by decide +kernel⟩ w_839 w_840 rfl (Nat.le_of_ble_eq_true rfl) (by omega) (by omega) (w_kept hNC hx hK (fun r h' hp => (hM 0 r h' hp).1.2.2.2.2)) ?_
  intro kv h' hw
  obtain ⟨r, sz1, T1, I1, R1, J1, J2, hp, e2, hJ⟩ := q_Wi_use hw
  subst e2
  obtain ⟨⟨hb1, hf1, hx1, hm1, ho1⟩, hM1⟩ := hM kv r _ hp
  have hb2 : T1 b = some (50, L) := hb1
  have hf2 : I1 b = f := hf1
  have hm2 : T1 (x + 83) = some (111, 0) := hm1
  refine q_istore d_Law_law_1224 (Nat.le_of_ble_eq_true rfl) (by first | exact q_ok0 | exact q_okI rfl | exact q_okR rfl | exact q_okN rfl) rfl ?_
  refine q_aload_n d_Law_law_1226 rfl rfl ?_
  refine q_aload_n d_Law_law_1227 rfl rfl ?_
  refine q_iload d_Law_law_1228 rfl ?_
  refine q_iconst (v := nI 1) d_Law_law_1230 (by decide) ?_
  first | refine q_iaddN d_Law_law_1231 ?_ | refine q_iadd d_Law_law_1231 ?_
  refine q_ialdX d_Law_law_1232 (by assumption) (by first | assumption | exact vp_in_nI (by omega) (by omega)) ?_
  rw [hf2]
  refine q_callVi (M2 := M_Model_kept) d_Law_law_1233 ⟨(Nat.le_of_ble_eq_true rfl), (Nat.le_of_ble_eq_true rfl), w_1465, w_10, ⟨by decide, by decide⟩, show _ = some 1 by decide +kernel⟩ w_1462 w_1463 (ci := 11) rfl w_1464 (by first | assumption | rfl | (simp (disch := omega) only [q_upT_self, q_upT_ne, q_upR_self, q_upR_nea, q_upR_nk, s_T_lo, s_T_hi, s_R_ne, *]; done) | (simp (disch := omega) only [q_upT_self, q_upT_ne, q_upR_self, q_upR_nea, q_upR_nk, s_T_lo, s_T_hi, s_R_ne, *]; rfl)) rfl (Nat.le_of_ble_eq_true rfl) (by omega) (by omega) (hM1 J2) ?_
  rintro v ⟨sz2, T2, I2, R2, J3⟩ ⟨hv, ht, hJ2, hi2⟩
  have hJ3 : J3 = J2 := hJ2
  subst hJ3
  have ht2 : I2 (x + 83) (nI 0) = kv := ht
  obtain ⟨hb3, hf3, hx3, hm3, ho3⟩ := hI _ _ _ _ _ hi2
  have hm4 : T2 (x + 83) = some (111, 0) := hm3
  have ho4 : T2 (x + 113) = some (1, 1) := ho3
  refine q_istore d_Law_law_1236 (Nat.le_of_ble_eq_true rfl) (by first | exact q_ok0 | exact q_okI rfl | exact q_okR rfl | exact q_okN rfl) rfl ?_
  refine q_aload_n d_Law_law_1238 rfl rfl ?_
  refine q_callVi (M2 := M_Model_thrown) d_Law_law_1239 ⟨(Nat.le_of_ble_eq_true rfl), (Nat.le_of_ble_eq_true rfl), w_1225, w_10, ⟨by decide, by decide⟩, show _ = some 0 by decide +kernel⟩ w_1222 w_1223 (ci := 11) rfl w_1224 (by first | assumption | rfl | (simp (disch := omega) only [q_upT_self, q_upT_ne, q_upR_self, q_upR_nea, q_upR_nk, s_T_lo, s_T_hi, s_R_ne, *]; done) | (simp (disch := omega) only [q_upT_self, q_upT_ne, q_upR_self, q_upR_nea, q_upR_nk, s_T_lo, s_T_hi, s_R_ne, *]; rfl)) rfl (Nat.le_of_ble_eq_true rfl) (by omega) (by omega) (c_Model_thrown hm4) ?_
  rintro _ _ ⟨rfl, rfl⟩
  rw [ht2]
  refine q_iload d_Law_law_1242 rfl ?_
  refine q_icmp_eq (tgt := 1249) d_Law_law_1244 rfl (fun hc => ?_) (fun hc => ?_)
  · refine q_iload d_Law_law_1249 rfl ?_
    refine q_if_ne (tgt := 1266) d_Law_law_1251 rfl (fun hc => ?_) (fun hc => ?_)
    · refine q_goto (tgt := 1548) d_Law_law_1266 (by omega) ?_
      exact kk _ _ _ _ _ _ _ hi2
    · have hz : kv = 0 := by first | exact hc | exact Decidable.not_not.mp hc
      refine q_aload_n d_Law_law_1254 rfl rfl ?_
      refine q_iconst (v := nI 0) d_Law_law_1255 (by decide) ?_
      refine q_lald d_Law_law_1256 (by first | assumption | rfl | (simp (disch := omega) only [q_upT_self, q_upT_ne, q_upR_self, q_upR_nea, q_upR_nk, s_T_lo, s_T_hi, s_R_ne, *]; done) | (simp (disch := omega) only [q_upT_self, q_upT_ne, q_upR_self, q_upR_nea, q_upR_nk, s_T_lo, s_T_hi, s_R_ne, *]; rfl)) (by first | assumption | exact vp_in_nI (by omega) (by omega)) ?_
      refine q_iload d_Law_law_1257 rfl ?_
      refine q_i2l d_Law_law_1259 rfl ?_
      refine q_lcmp d_Law_law_1260 ?_
      refine q_if_eq (tgt := 1266) d_Law_law_1261 rfl (fun hc => ?_) (fun hc => ?_)
      · refine q_goto (tgt := 1548) d_Law_law_1266 (by omega) ?_
        exact kk _ _ _ _ _ _ _ hi2
      · exact absurd ((lg_cmp_eq _ _).mpr (by rw [hJ hz, hv hz])) hc
  · exact absurd rfl hc
def q_op_same (g : q_G) (b x L : Nat) (f : Int32 → Int32) (Inv : q_Inv) : Prop := ∀ (n sz : Nat) (T : q_T) (I : q_I) (R : q_R) (J : q_J), Inv (n + 1) sz T I R → ∀ p0 p1 : Int32, ∃ P : Int32 → Int32 → q_H → Prop, q_C g M_Lens_same [.ref x, .int p0, .int p1] (sz, T, I, R, J) 1000 14000 (q_Xi [2] P) ∧ ∀ (k r : Int32) (h1 : q_H), P k r h1 → q_Lw b x L f h1.2.1 h1.2.2.1 ∧ ∀ J1 : q_J, q_Ci g M_Model_same [.ref (x + 83), .int p0, .int p1] (h1.1, h1.2.1, h1.2.2.1, h1.2.2.2.1, J1) 0 0 (fun v h2 => (k = 0 → v = r) ∧ h2.2.2.1 (x + 83) (nI 0) = k ∧ h2.2.2.2.2 = J1 ∧ Inv n h2.1 h2.2.1 h2.2.2.1 h2.2.2.2.1)
theorem l_same {b x L : Nat} {f : Int32 → Int32} {Inv : q_Inv} (hop : q_op_same g b x L f Inv) (hNC : q_NC g) (hI : ∀ n sz T I R, Inv n sz T I R → q_Lw b x L f T I) {n d c k : Nat} {l5 l6 : Option Value} (hd : 6 * d + 6 ≤ L) (hL : L ≤ 3072) (hi : Inv (n + 1) sz T I R) (hc0 : c + 1000 ≤ 601024) (hk0 : k + 14000 ≤ 7293034) (kk : ∀ sz T I R J v5 v6, Inv n sz T I R → q_V g M_Law_law 601024 7293034 (c + 1000) (k + 14000) (sz, T, I, R, J) q_LQ 1548 [some (.ref b), some (.ref x), some (.ref (x + 83)), some (.ref (x + 113)), some (.int (nI (6 * d))), v5, v6] []) : q_V g M_Law_law 601024 7293034 c k (sz, T, I, R, J) q_LQ 1269 [some (.ref b), some (.ref x), some (.ref (x + 83)), some (.ref (x + 113)), some (.int (nI (6 * d))), l5, l6] [] := by
  obtain ⟨hb, hf, hx, hm, ho⟩ := hI _ _ _ _ _ hi
  obtain ⟨P, hK, hM⟩ := hop n sz T I R J hi (f (nI (6 * d + 1))) (f (nI (6 * d + 2)))
  refine q_aload_n d_Law_law_1269 rfl rfl ?_
  refine q_aload_n d_Law_law_1270 rfl rfl ?_
  refine q_iload d_Law_law_1271 rfl ?_
  refine q_iconst (v := nI 1) d_Law_law_1273 (by decide) ?_
  first | refine q_iaddN d_Law_law_1274 ?_ | refine q_iadd d_Law_law_1274 ?_
  refine q_ialdX d_Law_law_1275 (by assumption) (by first | assumption | exact vp_in_nI (by omega) (by omega)) ?_
  refine q_aload_n d_Law_law_1276 rfl rfl ?_
  refine q_iload d_Law_law_1277 rfl ?_
  refine q_iconst (v := nI 2) d_Law_law_1279 (by decide) ?_
  first | refine q_iaddN d_Law_law_1280 ?_ | refine q_iadd d_Law_law_1280 ?_
  refine q_ialdX d_Law_law_1281 (by assumption) (by first | assumption | exact vp_in_nI (by omega) (by omega)) ?_
  refine q_aload_n d_Law_law_1282 rfl rfl ?_
  rw [hf]
  refine q_callSi (M2 := M_Law_same) d_Law_law_1283 ⟨(Nat.le_of_ble_eq_true rfl), (Nat.le_of_ble_eq_true rfl), w_852, w_0, ⟨by decide, by decide⟩, show _ = some 4 by decide +kernel⟩ w_850 w_851 rfl (Nat.le_of_ble_eq_true rfl) (by omega) (by omega) (w_same hNC hx hK (fun r h' hp => (hM 0 r h' hp).1.2.2.2.2)) ?_
  intro kv h' hw
  obtain ⟨r, sz1, T1, I1, R1, J1, J2, hp, e2, hJ⟩ := q_Wz_use hw
  subst e2
  obtain ⟨⟨hb1, hf1, hx1, hm1, ho1⟩, hM1⟩ := hM kv r _ hp
  have hb2 : T1 b = some (50, L) := hb1
  have hf2 : I1 b = f := hf1
  have hm2 : T1 (x + 83) = some (111, 0) := hm1
  refine q_istore d_Law_law_1286 (Nat.le_of_ble_eq_true rfl) (by first | exact q_ok0 | exact q_okI rfl | exact q_okR rfl | exact q_okN rfl) rfl ?_
  refine q_aload_n d_Law_law_1288 rfl rfl ?_
  refine q_aload_n d_Law_law_1289 rfl rfl ?_
  refine q_iload d_Law_law_1290 rfl ?_
  refine q_iconst (v := nI 1) d_Law_law_1292 (by decide) ?_
  first | refine q_iaddN d_Law_law_1293 ?_ | refine q_iadd d_Law_law_1293 ?_
  refine q_ialdX d_Law_law_1294 (by assumption) (by first | assumption | exact vp_in_nI (by omega) (by omega)) ?_
  refine q_aload_n d_Law_law_1295 rfl rfl ?_
  refine q_iload d_Law_law_1296 rfl ?_
  refine q_iconst (v := nI 2) d_Law_law_1298 (by decide) ?_
  first | refine q_iaddN d_Law_law_1299 ?_ | refine q_iadd d_Law_law_1299 ?_
  refine q_ialdX d_Law_law_1300 (by assumption) (by first | assumption | exact vp_in_nI (by omega) (by omega)) ?_
  rw [hf2]
  refine q_callVi (M2 := M_Model_same) d_Law_law_1301 ⟨(Nat.le_of_ble_eq_true rfl), (Nat.le_of_ble_eq_true rfl), w_1469, w_10, ⟨by decide, by decide⟩, show _ = some 2 by decide +kernel⟩ w_1466 w_1467 (ci := 11) rfl w_1468 (by first | assumption | rfl | (simp (disch := omega) only [q_upT_self, q_upT_ne, q_upR_self, q_upR_nea, q_upR_nk, s_T_lo, s_T_hi, s_R_ne, *]; done) | (simp (disch := omega) only [q_upT_self, q_upT_ne, q_upR_self, q_upR_nea, q_upR_nk, s_T_lo, s_T_hi, s_R_ne, *]; rfl)) rfl (Nat.le_of_ble_eq_true rfl) (by omega) (by omega) (hM1 J2) ?_
  rintro v ⟨sz2, T2, I2, R2, J3⟩ ⟨hv, ht, hJ2, hi2⟩
  have hJ3 : J3 = J2 := hJ2
  subst hJ3
  have ht2 : I2 (x + 83) (nI 0) = kv := ht
  obtain ⟨hb3, hf3, hx3, hm3, ho3⟩ := hI _ _ _ _ _ hi2
  have hm4 : T2 (x + 83) = some (111, 0) := hm3
  have ho4 : T2 (x + 113) = some (1, 1) := ho3
  refine q_istore d_Law_law_1304 (Nat.le_of_ble_eq_true rfl) (by first | exact q_ok0 | exact q_okI rfl | exact q_okR rfl | exact q_okN rfl) rfl ?_
  refine q_aload_n d_Law_law_1306 rfl rfl ?_
  refine q_callVi (M2 := M_Model_thrown) d_Law_law_1307 ⟨(Nat.le_of_ble_eq_true rfl), (Nat.le_of_ble_eq_true rfl), w_1225, w_10, ⟨by decide, by decide⟩, show _ = some 0 by decide +kernel⟩ w_1222 w_1223 (ci := 11) rfl w_1224 (by first | assumption | rfl | (simp (disch := omega) only [q_upT_self, q_upT_ne, q_upR_self, q_upR_nea, q_upR_nk, s_T_lo, s_T_hi, s_R_ne, *]; done) | (simp (disch := omega) only [q_upT_self, q_upT_ne, q_upR_self, q_upR_nea, q_upR_nk, s_T_lo, s_T_hi, s_R_ne, *]; rfl)) rfl (Nat.le_of_ble_eq_true rfl) (by omega) (by omega) (c_Model_thrown hm4) ?_
  rintro _ _ ⟨rfl, rfl⟩
  rw [ht2]
  refine q_iload d_Law_law_1310 rfl ?_
  refine q_icmp_eq (tgt := 1317) d_Law_law_1312 rfl (fun hc => ?_) (fun hc => ?_)
  · refine q_iload d_Law_law_1317 rfl ?_
    refine q_if_ne (tgt := 1341) d_Law_law_1319 rfl (fun hc => ?_) (fun hc => ?_)
    · refine q_goto (tgt := 1548) d_Law_law_1341 (by omega) ?_
      exact kk _ _ _ _ _ _ _ hi2
    · have hz : kv = 0 := by first | exact hc | exact Decidable.not_not.mp hc
      refine q_aload_n d_Law_law_1322 rfl rfl ?_
      refine q_iconst (v := nI 0) d_Law_law_1323 (by decide) ?_
      refine q_lald d_Law_law_1324 (by first | assumption | rfl | (simp (disch := omega) only [q_upT_self, q_upT_ne, q_upR_self, q_upR_nea, q_upR_nk, s_T_lo, s_T_hi, s_R_ne, *]; done) | (simp (disch := omega) only [q_upT_self, q_upT_ne, q_upR_self, q_upR_nea, q_upR_nk, s_T_lo, s_T_hi, s_R_ne, *]; rfl)) (by first | assumption | exact vp_in_nI (by omega) (by omega)) ?_
      refine q_iload d_Law_law_1325 rfl ?_
      refine q_if_eq (tgt := 1334) d_Law_law_1327 rfl (fun hc => ?_) (fun hc => ?_)
      · have hv9 := hc
        refine q_lconst (v := lN 0) d_Law_law_1334 (by decide) ?_
        refine q_lcmp d_Law_law_1335 ?_
        refine q_if_eq (tgt := 1341) d_Law_law_1336 rfl (fun hc => ?_) (fun hc => ?_)
        · refine q_goto (tgt := 1548) d_Law_law_1341 (by omega) ?_
          exact kk _ _ _ _ _ _ _ hi2
        · exact absurd ((lg_cmp_eq _ _).mpr (by rw [hJ hz, ← hv hz, if_pos hv9])) hc
      · have hv9 := hc
        refine q_lconst (v := lN 1) d_Law_law_1330 (by decide) ?_
        refine q_goto (tgt := 1335) d_Law_law_1331 (by omega) ?_
        refine q_lcmp d_Law_law_1335 ?_
        refine q_if_eq (tgt := 1341) d_Law_law_1336 rfl (fun hc => ?_) (fun hc => ?_)
        · refine q_goto (tgt := 1548) d_Law_law_1341 (by omega) ?_
          exact kk _ _ _ _ _ _ _ hi2
        · exact absurd ((lg_cmp_eq _ _).mpr (by rw [hJ hz, ← hv hz, if_neg hv9])) hc
  · exact absurd rfl hc
def q_op_translate (g : q_G) (b x L : Nat) (f : Int32 → Int32) (Inv : q_Inv) : Prop := ∀ (n sz : Nat) (T : q_T) (I : q_I) (R : q_R) (J : q_J), Inv (n + 1) sz T I R → ∀ p0 p1 : Int32, ∃ P : Int32 → Int32 → q_H → Prop, q_C g M_Lens_translate [.ref x, .int p0, .int p1] (sz, T, I, R, J) 1000 14000 (q_Xi [2, 0, 4] P) ∧ ∀ (k r : Int32) (h1 : q_H), P k r h1 → q_Lw b x L f h1.2.1 h1.2.2.1 ∧ ∀ J1 : q_J, q_Ci g M_Model_translate [.ref (x + 83), .int p0, .int p1] (h1.1, h1.2.1, h1.2.2.1, h1.2.2.2.1, J1) 0 0 (fun v h2 => (k = 0 → v = r) ∧ h2.2.2.1 (x + 83) (nI 0) = k ∧ h2.2.2.2.2 = J1 ∧ Inv n h2.1 h2.2.1 h2.2.2.1 h2.2.2.2.1)
theorem l_translate {b x L : Nat} {f : Int32 → Int32} {Inv : q_Inv} (hop : q_op_translate g b x L f Inv) (hNC : q_NC g) (hI : ∀ n sz T I R, Inv n sz T I R → q_Lw b x L f T I) {n d c k : Nat} {l5 l6 : Option Value} (hd : 6 * d + 6 ≤ L) (hL : L ≤ 3072) (hi : Inv (n + 1) sz T I R) (hc0 : c + 1000 ≤ 601024) (hk0 : k + 14000 ≤ 7293034) (kk : ∀ sz T I R J v5 v6, Inv n sz T I R → q_V g M_Law_law 601024 7293034 (c + 1000) (k + 14000) (sz, T, I, R, J) q_LQ 1548 [some (.ref b), some (.ref x), some (.ref (x + 83)), some (.ref (x + 113)), some (.int (nI (6 * d))), v5, v6] []) : q_V g M_Law_law 601024 7293034 c k (sz, T, I, R, J) q_LQ 1344 [some (.ref b), some (.ref x), some (.ref (x + 83)), some (.ref (x + 113)), some (.int (nI (6 * d))), l5, l6] [] := by
  obtain ⟨hb, hf, hx, hm, ho⟩ := hI _ _ _ _ _ hi
  obtain ⟨P, hK, hM⟩ := hop n sz T I R J hi (f (nI (6 * d + 1))) (f (nI (6 * d + 2)))
  refine q_aload_n d_Law_law_1344 rfl rfl ?_
  refine q_aload_n d_Law_law_1345 rfl rfl ?_
  refine q_iload d_Law_law_1346 rfl ?_
  refine q_iconst (v := nI 1) d_Law_law_1348 (by decide) ?_
  first | refine q_iaddN d_Law_law_1349 ?_ | refine q_iadd d_Law_law_1349 ?_
  refine q_ialdX d_Law_law_1350 (by assumption) (by first | assumption | exact vp_in_nI (by omega) (by omega)) ?_
  refine q_aload_n d_Law_law_1351 rfl rfl ?_
  refine q_iload d_Law_law_1352 rfl ?_
  refine q_iconst (v := nI 2) d_Law_law_1354 (by decide) ?_
  first | refine q_iaddN d_Law_law_1355 ?_ | refine q_iadd d_Law_law_1355 ?_
  refine q_ialdX d_Law_law_1356 (by assumption) (by first | assumption | exact vp_in_nI (by omega) (by omega)) ?_
  refine q_aload_n d_Law_law_1357 rfl rfl ?_
  rw [hf]
  refine q_callSi (M2 := M_Law_translate) d_Law_law_1358 ⟨(Nat.le_of_ble_eq_true rfl), (Nat.le_of_ble_eq_true rfl), w_869, w_0, ⟨by decide, by decide⟩, show _ = some 4 by decide +kernel⟩ w_867 w_868 rfl (Nat.le_of_ble_eq_true rfl) (by omega) (by omega) (w_translate hNC hx hK (fun r h' hp => (hM 0 r h' hp).1.2.2.2.2)) ?_
  intro kv h' hw
  obtain ⟨r, sz1, T1, I1, R1, J1, J2, hp, e2, hJ⟩ := q_Wi_use hw
  subst e2
  obtain ⟨⟨hb1, hf1, hx1, hm1, ho1⟩, hM1⟩ := hM kv r _ hp
  have hb2 : T1 b = some (50, L) := hb1
  have hf2 : I1 b = f := hf1
  have hm2 : T1 (x + 83) = some (111, 0) := hm1
  refine q_istore d_Law_law_1361 (Nat.le_of_ble_eq_true rfl) (by first | exact q_ok0 | exact q_okI rfl | exact q_okR rfl | exact q_okN rfl) rfl ?_
  refine q_aload_n d_Law_law_1363 rfl rfl ?_
  refine q_aload_n d_Law_law_1364 rfl rfl ?_
  refine q_iload d_Law_law_1365 rfl ?_
  refine q_iconst (v := nI 1) d_Law_law_1367 (by decide) ?_
  first | refine q_iaddN d_Law_law_1368 ?_ | refine q_iadd d_Law_law_1368 ?_
  refine q_ialdX d_Law_law_1369 (by assumption) (by first | assumption | exact vp_in_nI (by omega) (by omega)) ?_
  refine q_aload_n d_Law_law_1370 rfl rfl ?_
  refine q_iload d_Law_law_1371 rfl ?_
  refine q_iconst (v := nI 2) d_Law_law_1373 (by decide) ?_
  first | refine q_iaddN d_Law_law_1374 ?_ | refine q_iadd d_Law_law_1374 ?_
  refine q_ialdX d_Law_law_1375 (by assumption) (by first | assumption | exact vp_in_nI (by omega) (by omega)) ?_
  rw [hf2]
  refine q_callVi (M2 := M_Model_translate) d_Law_law_1376 ⟨(Nat.le_of_ble_eq_true rfl), (Nat.le_of_ble_eq_true rfl), w_1473, w_10, ⟨by decide, by decide⟩, show _ = some 2 by decide +kernel⟩ w_1470 w_1471 (ci := 11) rfl w_1472 (by first | assumption | rfl | (simp (disch := omega) only [q_upT_self, q_upT_ne, q_upR_self, q_upR_nea, q_upR_nk, s_T_lo, s_T_hi, s_R_ne, *]; done) | (simp (disch := omega) only [q_upT_self, q_upT_ne, q_upR_self, q_upR_nea, q_upR_nk, s_T_lo, s_T_hi, s_R_ne, *]; rfl)) rfl (Nat.le_of_ble_eq_true rfl) (by omega) (by omega) (hM1 J2) ?_
  rintro v ⟨sz2, T2, I2, R2, J3⟩ ⟨hv, ht, hJ2, hi2⟩
  have hJ3 : J3 = J2 := hJ2
  subst hJ3
  have ht2 : I2 (x + 83) (nI 0) = kv := ht
  obtain ⟨hb3, hf3, hx3, hm3, ho3⟩ := hI _ _ _ _ _ hi2
  have hm4 : T2 (x + 83) = some (111, 0) := hm3
  have ho4 : T2 (x + 113) = some (1, 1) := ho3
  refine q_istore d_Law_law_1379 (Nat.le_of_ble_eq_true rfl) (by first | exact q_ok0 | exact q_okI rfl | exact q_okR rfl | exact q_okN rfl) rfl ?_
  refine q_aload_n d_Law_law_1381 rfl rfl ?_
  refine q_callVi (M2 := M_Model_thrown) d_Law_law_1382 ⟨(Nat.le_of_ble_eq_true rfl), (Nat.le_of_ble_eq_true rfl), w_1225, w_10, ⟨by decide, by decide⟩, show _ = some 0 by decide +kernel⟩ w_1222 w_1223 (ci := 11) rfl w_1224 (by first | assumption | rfl | (simp (disch := omega) only [q_upT_self, q_upT_ne, q_upR_self, q_upR_nea, q_upR_nk, s_T_lo, s_T_hi, s_R_ne, *]; done) | (simp (disch := omega) only [q_upT_self, q_upT_ne, q_upR_self, q_upR_nea, q_upR_nk, s_T_lo, s_T_hi, s_R_ne, *]; rfl)) rfl (Nat.le_of_ble_eq_true rfl) (by omega) (by omega) (c_Model_thrown hm4) ?_
  rintro _ _ ⟨rfl, rfl⟩
  rw [ht2]
  refine q_iload d_Law_law_1385 rfl ?_
  refine q_icmp_eq (tgt := 1392) d_Law_law_1387 rfl (fun hc => ?_) (fun hc => ?_)
  · refine q_iload d_Law_law_1392 rfl ?_
    refine q_if_ne (tgt := 1409) d_Law_law_1394 rfl (fun hc => ?_) (fun hc => ?_)
    · refine q_goto (tgt := 1548) d_Law_law_1409 (by omega) ?_
      exact kk _ _ _ _ _ _ _ hi2
    · have hz : kv = 0 := by first | exact hc | exact Decidable.not_not.mp hc
      refine q_aload_n d_Law_law_1397 rfl rfl ?_
      refine q_iconst (v := nI 0) d_Law_law_1398 (by decide) ?_
      refine q_lald d_Law_law_1399 (by first | assumption | rfl | (simp (disch := omega) only [q_upT_self, q_upT_ne, q_upR_self, q_upR_nea, q_upR_nk, s_T_lo, s_T_hi, s_R_ne, *]; done) | (simp (disch := omega) only [q_upT_self, q_upT_ne, q_upR_self, q_upR_nea, q_upR_nk, s_T_lo, s_T_hi, s_R_ne, *]; rfl)) (by first | assumption | exact vp_in_nI (by omega) (by omega)) ?_
      refine q_iload d_Law_law_1400 rfl ?_
      refine q_i2l d_Law_law_1402 rfl ?_
      refine q_lcmp d_Law_law_1403 ?_
      refine q_if_eq (tgt := 1409) d_Law_law_1404 rfl (fun hc => ?_) (fun hc => ?_)
      · refine q_goto (tgt := 1548) d_Law_law_1409 (by omega) ?_
        exact kk _ _ _ _ _ _ _ hi2
      · exact absurd ((lg_cmp_eq _ _).mpr (by rw [hJ hz, hv hz])) hc
  · exact absurd rfl hc
def q_op_route (g : q_G) (b x L : Nat) (f : Int32 → Int32) (Inv : q_Inv) : Prop := ∀ (n sz : Nat) (T : q_T) (I : q_I) (R : q_R) (J : q_J), Inv (n + 1) sz T I R → ∀ p0 p1 p2 : Int32, ∃ P : Int32 → Int32 → q_H → Prop, q_C g M_Lens_route [.ref x, .int p0, .int p1, .int p2] (sz, T, I, R, J) 1000 14000 (q_Xi [2] P) ∧ ∀ (k r : Int32) (h1 : q_H), P k r h1 → q_Lw b x L f h1.2.1 h1.2.2.1 ∧ ∀ J1 : q_J, q_Ci g M_Model_route [.ref (x + 83), .int p0, .int p1, .int p2] (h1.1, h1.2.1, h1.2.2.1, h1.2.2.2.1, J1) 0 0 (fun v h2 => (k = 0 → v = r) ∧ h2.2.2.1 (x + 83) (nI 0) = k ∧ h2.2.2.2.2 = J1 ∧ Inv n h2.1 h2.2.1 h2.2.2.1 h2.2.2.2.1)
theorem l_route {b x L : Nat} {f : Int32 → Int32} {Inv : q_Inv} (hop : q_op_route g b x L f Inv) (hNC : q_NC g) (hI : ∀ n sz T I R, Inv n sz T I R → q_Lw b x L f T I) {n d c k : Nat} {l5 l6 : Option Value} (hd : 6 * d + 6 ≤ L) (hL : L ≤ 3072) (hi : Inv (n + 1) sz T I R) (hc0 : c + 1000 ≤ 601024) (hk0 : k + 14000 ≤ 7293034) (kk : ∀ sz T I R J v5 v6, Inv n sz T I R → q_V g M_Law_law 601024 7293034 (c + 1000) (k + 14000) (sz, T, I, R, J) q_LQ 1548 [some (.ref b), some (.ref x), some (.ref (x + 83)), some (.ref (x + 113)), some (.int (nI (6 * d))), v5, v6] []) : q_V g M_Law_law 601024 7293034 c k (sz, T, I, R, J) q_LQ 1412 [some (.ref b), some (.ref x), some (.ref (x + 83)), some (.ref (x + 113)), some (.int (nI (6 * d))), l5, l6] [] := by
  obtain ⟨hb, hf, hx, hm, ho⟩ := hI _ _ _ _ _ hi
  obtain ⟨P, hK, hM⟩ := hop n sz T I R J hi (f (nI (6 * d + 1))) (f (nI (6 * d + 2))) (f (nI (6 * d + 3)))
  refine q_aload_n d_Law_law_1412 rfl rfl ?_
  refine q_aload_n d_Law_law_1413 rfl rfl ?_
  refine q_iload d_Law_law_1414 rfl ?_
  refine q_iconst (v := nI 1) d_Law_law_1416 (by decide) ?_
  first | refine q_iaddN d_Law_law_1417 ?_ | refine q_iadd d_Law_law_1417 ?_
  refine q_ialdX d_Law_law_1418 (by assumption) (by first | assumption | exact vp_in_nI (by omega) (by omega)) ?_
  refine q_aload_n d_Law_law_1419 rfl rfl ?_
  refine q_iload d_Law_law_1420 rfl ?_
  refine q_iconst (v := nI 2) d_Law_law_1422 (by decide) ?_
  first | refine q_iaddN d_Law_law_1423 ?_ | refine q_iadd d_Law_law_1423 ?_
  refine q_ialdX d_Law_law_1424 (by assumption) (by first | assumption | exact vp_in_nI (by omega) (by omega)) ?_
  refine q_aload_n d_Law_law_1425 rfl rfl ?_
  refine q_iload d_Law_law_1426 rfl ?_
  refine q_iconst (v := nI 3) d_Law_law_1428 (by decide) ?_
  first | refine q_iaddN d_Law_law_1429 ?_ | refine q_iadd d_Law_law_1429 ?_
  refine q_ialdX d_Law_law_1430 (by assumption) (by first | assumption | exact vp_in_nI (by omega) (by omega)) ?_
  refine q_aload_n d_Law_law_1431 rfl rfl ?_
  rw [hf]
  refine q_callSi (M2 := M_Law_route) d_Law_law_1432 ⟨(Nat.le_of_ble_eq_true rfl), (Nat.le_of_ble_eq_true rfl), w_1020, w_0, ⟨by decide, by decide⟩, show _ = some 5 by decide +kernel⟩ w_1018 w_1019 rfl (Nat.le_of_ble_eq_true rfl) (by omega) (by omega) (w_route hNC hx hK (fun r h' hp => (hM 0 r h' hp).1.2.2.2.2)) ?_
  intro kv h' hw
  obtain ⟨r, sz1, T1, I1, R1, J1, J2, hp, e2, hJ⟩ := q_Wi_use hw
  subst e2
  obtain ⟨⟨hb1, hf1, hx1, hm1, ho1⟩, hM1⟩ := hM kv r _ hp
  have hb2 : T1 b = some (50, L) := hb1
  have hf2 : I1 b = f := hf1
  have hm2 : T1 (x + 83) = some (111, 0) := hm1
  refine q_istore d_Law_law_1435 (Nat.le_of_ble_eq_true rfl) (by first | exact q_ok0 | exact q_okI rfl | exact q_okR rfl | exact q_okN rfl) rfl ?_
  refine q_aload_n d_Law_law_1437 rfl rfl ?_
  refine q_aload_n d_Law_law_1438 rfl rfl ?_
  refine q_iload d_Law_law_1439 rfl ?_
  refine q_iconst (v := nI 1) d_Law_law_1441 (by decide) ?_
  first | refine q_iaddN d_Law_law_1442 ?_ | refine q_iadd d_Law_law_1442 ?_
  refine q_ialdX d_Law_law_1443 (by assumption) (by first | assumption | exact vp_in_nI (by omega) (by omega)) ?_
  refine q_aload_n d_Law_law_1444 rfl rfl ?_
  refine q_iload d_Law_law_1445 rfl ?_
  refine q_iconst (v := nI 2) d_Law_law_1447 (by decide) ?_
  first | refine q_iaddN d_Law_law_1448 ?_ | refine q_iadd d_Law_law_1448 ?_
  refine q_ialdX d_Law_law_1449 (by assumption) (by first | assumption | exact vp_in_nI (by omega) (by omega)) ?_
  refine q_aload_n d_Law_law_1450 rfl rfl ?_
  refine q_iload d_Law_law_1451 rfl ?_
  refine q_iconst (v := nI 3) d_Law_law_1453 (by decide) ?_
  first | refine q_iaddN d_Law_law_1454 ?_ | refine q_iadd d_Law_law_1454 ?_
  refine q_ialdX d_Law_law_1455 (by assumption) (by first | assumption | exact vp_in_nI (by omega) (by omega)) ?_
  rw [hf2]
  refine q_callVi (M2 := M_Model_route) d_Law_law_1456 ⟨(Nat.le_of_ble_eq_true rfl), (Nat.le_of_ble_eq_true rfl), w_1509, w_10, ⟨by decide, by decide⟩, show _ = some 3 by decide +kernel⟩ w_1506 w_1507 (ci := 11) rfl w_1508 (by first | assumption | rfl | (simp (disch := omega) only [q_upT_self, q_upT_ne, q_upR_self, q_upR_nea, q_upR_nk, s_T_lo, s_T_hi, s_R_ne, *]; done) | (simp (disch := omega) only [q_upT_self, q_upT_ne, q_upR_self, q_upR_nea, q_upR_nk, s_T_lo, s_T_hi, s_R_ne, *]; rfl)) rfl (Nat.le_of_ble_eq_true rfl) (by omega) (by omega) (hM1 J2) ?_
  rintro v ⟨sz2, T2, I2, R2, J3⟩ ⟨hv, ht, hJ2, hi2⟩
  have hJ3 : J3 = J2 := hJ2
  subst hJ3
  have ht2 : I2 (x + 83) (nI 0) = kv := ht
  obtain ⟨hb3, hf3, hx3, hm3, ho3⟩ := hI _ _ _ _ _ hi2
  have hm4 : T2 (x + 83) = some (111, 0) := hm3
  have ho4 : T2 (x + 113) = some (1, 1) := ho3
  refine q_istore d_Law_law_1459 (Nat.le_of_ble_eq_true rfl) (by first | exact q_ok0 | exact q_okI rfl | exact q_okR rfl | exact q_okN rfl) rfl ?_
  refine q_aload_n d_Law_law_1461 rfl rfl ?_
  refine q_callVi (M2 := M_Model_thrown) d_Law_law_1462 ⟨(Nat.le_of_ble_eq_true rfl), (Nat.le_of_ble_eq_true rfl), w_1225, w_10, ⟨by decide, by decide⟩, show _ = some 0 by decide +kernel⟩ w_1222 w_1223 (ci := 11) rfl w_1224 (by first | assumption | rfl | (simp (disch := omega) only [q_upT_self, q_upT_ne, q_upR_self, q_upR_nea, q_upR_nk, s_T_lo, s_T_hi, s_R_ne, *]; done) | (simp (disch := omega) only [q_upT_self, q_upT_ne, q_upR_self, q_upR_nea, q_upR_nk, s_T_lo, s_T_hi, s_R_ne, *]; rfl)) rfl (Nat.le_of_ble_eq_true rfl) (by omega) (by omega) (c_Model_thrown hm4) ?_
  rintro _ _ ⟨rfl, rfl⟩
  rw [ht2]
  refine q_iload d_Law_law_1465 rfl ?_
  refine q_icmp_eq (tgt := 1472) d_Law_law_1467 rfl (fun hc => ?_) (fun hc => ?_)
  · refine q_iload d_Law_law_1472 rfl ?_
    refine q_if_ne (tgt := 1489) d_Law_law_1474 rfl (fun hc => ?_) (fun hc => ?_)
    · refine q_goto (tgt := 1548) d_Law_law_1489 (by omega) ?_
      exact kk _ _ _ _ _ _ _ hi2
    · have hz : kv = 0 := by first | exact hc | exact Decidable.not_not.mp hc
      refine q_aload_n d_Law_law_1477 rfl rfl ?_
      refine q_iconst (v := nI 0) d_Law_law_1478 (by decide) ?_
      refine q_lald d_Law_law_1479 (by first | assumption | rfl | (simp (disch := omega) only [q_upT_self, q_upT_ne, q_upR_self, q_upR_nea, q_upR_nk, s_T_lo, s_T_hi, s_R_ne, *]; done) | (simp (disch := omega) only [q_upT_self, q_upT_ne, q_upR_self, q_upR_nea, q_upR_nk, s_T_lo, s_T_hi, s_R_ne, *]; rfl)) (by first | assumption | exact vp_in_nI (by omega) (by omega)) ?_
      refine q_iload d_Law_law_1480 rfl ?_
      refine q_i2l d_Law_law_1482 rfl ?_
      refine q_lcmp d_Law_law_1483 ?_
      refine q_if_eq (tgt := 1489) d_Law_law_1484 rfl (fun hc => ?_) (fun hc => ?_)
      · refine q_goto (tgt := 1548) d_Law_law_1489 (by omega) ?_
        exact kk _ _ _ _ _ _ _ hi2
      · exact absurd ((lg_cmp_eq _ _).mpr (by rw [hJ hz, hv hz])) hc
  · exact absurd rfl hc
def q_op_clash (g : q_G) (b x L : Nat) (f : Int32 → Int32) (Inv : q_Inv) : Prop := ∀ (n sz : Nat) (T : q_T) (I : q_I) (R : q_R) (J : q_J), Inv (n + 1) sz T I R → ∀ p0 : Int32, ∃ P : Int32 → Int32 → q_H → Prop, q_C g M_Lens_clash [.ref x, .int p0] (sz, T, I, R, J) 1000 14000 (q_Xi [2] P) ∧ ∀ (k r : Int32) (h1 : q_H), P k r h1 → q_Lw b x L f h1.2.1 h1.2.2.1 ∧ ∀ J1 : q_J, q_Ci g M_Model_clash [.ref (x + 83), .int p0] (h1.1, h1.2.1, h1.2.2.1, h1.2.2.2.1, J1) 0 0 (fun v h2 => (k = 0 → v = r) ∧ h2.2.2.1 (x + 83) (nI 0) = k ∧ h2.2.2.2.2 = J1 ∧ Inv n h2.1 h2.2.1 h2.2.2.1 h2.2.2.2.1)
theorem l_clash {b x L : Nat} {f : Int32 → Int32} {Inv : q_Inv} (hop : q_op_clash g b x L f Inv) (hNC : q_NC g) (hI : ∀ n sz T I R, Inv n sz T I R → q_Lw b x L f T I) {n d c k : Nat} {l5 l6 : Option Value} (hd : 6 * d + 6 ≤ L) (hL : L ≤ 3072) (hi : Inv (n + 1) sz T I R) (hc0 : c + 1000 ≤ 601024) (hk0 : k + 14000 ≤ 7293034) (kk : ∀ sz T I R J v5 v6, Inv n sz T I R → q_V g M_Law_law 601024 7293034 (c + 1000) (k + 14000) (sz, T, I, R, J) q_LQ 1548 [some (.ref b), some (.ref x), some (.ref (x + 83)), some (.ref (x + 113)), some (.int (nI (6 * d))), v5, v6] []) : q_V g M_Law_law 601024 7293034 c k (sz, T, I, R, J) q_LQ 1492 [some (.ref b), some (.ref x), some (.ref (x + 83)), some (.ref (x + 113)), some (.int (nI (6 * d))), l5, l6] [] := by
  obtain ⟨hb, hf, hx, hm, ho⟩ := hI _ _ _ _ _ hi
  obtain ⟨P, hK, hM⟩ := hop n sz T I R J hi (f (nI (6 * d + 1)))
  refine q_aload_n d_Law_law_1492 rfl rfl ?_
  refine q_aload_n d_Law_law_1493 rfl rfl ?_
  refine q_iload d_Law_law_1494 rfl ?_
  refine q_iconst (v := nI 1) d_Law_law_1496 (by decide) ?_
  first | refine q_iaddN d_Law_law_1497 ?_ | refine q_iadd d_Law_law_1497 ?_
  refine q_ialdX d_Law_law_1498 (by assumption) (by first | assumption | exact vp_in_nI (by omega) (by omega)) ?_
  refine q_aload_n d_Law_law_1499 rfl rfl ?_
  rw [hf]
  refine q_callSi (M2 := M_Law_clash) d_Law_law_1500 ⟨(Nat.le_of_ble_eq_true rfl), (Nat.le_of_ble_eq_true rfl), w_1027, w_0, ⟨by decide, by decide⟩, show _ = some 3 by decide +kernel⟩ w_1025 w_1026 rfl (Nat.le_of_ble_eq_true rfl) (by omega) (by omega) (w_clash hNC hx hK (fun r h' hp => (hM 0 r h' hp).1.2.2.2.2)) ?_
  intro kv h' hw
  obtain ⟨r, sz1, T1, I1, R1, J1, J2, hp, e2, hJ⟩ := q_Wi_use hw
  subst e2
  obtain ⟨⟨hb1, hf1, hx1, hm1, ho1⟩, hM1⟩ := hM kv r _ hp
  have hb2 : T1 b = some (50, L) := hb1
  have hf2 : I1 b = f := hf1
  have hm2 : T1 (x + 83) = some (111, 0) := hm1
  refine q_istore d_Law_law_1503 (Nat.le_of_ble_eq_true rfl) (by first | exact q_ok0 | exact q_okI rfl | exact q_okR rfl | exact q_okN rfl) rfl ?_
  refine q_aload_n d_Law_law_1505 rfl rfl ?_
  refine q_aload_n d_Law_law_1506 rfl rfl ?_
  refine q_iload d_Law_law_1507 rfl ?_
  refine q_iconst (v := nI 1) d_Law_law_1509 (by decide) ?_
  first | refine q_iaddN d_Law_law_1510 ?_ | refine q_iadd d_Law_law_1510 ?_
  refine q_ialdX d_Law_law_1511 (by assumption) (by first | assumption | exact vp_in_nI (by omega) (by omega)) ?_
  rw [hf2]
  refine q_callVi (M2 := M_Model_clash) d_Law_law_1512 ⟨(Nat.le_of_ble_eq_true rfl), (Nat.le_of_ble_eq_true rfl), w_1513, w_10, ⟨by decide, by decide⟩, show _ = some 1 by decide +kernel⟩ w_1510 w_1511 (ci := 11) rfl w_1512 (by first | assumption | rfl | (simp (disch := omega) only [q_upT_self, q_upT_ne, q_upR_self, q_upR_nea, q_upR_nk, s_T_lo, s_T_hi, s_R_ne, *]; done) | (simp (disch := omega) only [q_upT_self, q_upT_ne, q_upR_self, q_upR_nea, q_upR_nk, s_T_lo, s_T_hi, s_R_ne, *]; rfl)) rfl (Nat.le_of_ble_eq_true rfl) (by omega) (by omega) (hM1 J2) ?_
  rintro v ⟨sz2, T2, I2, R2, J3⟩ ⟨hv, ht, hJ2, hi2⟩
  have hJ3 : J3 = J2 := hJ2
  subst hJ3
  have ht2 : I2 (x + 83) (nI 0) = kv := ht
  obtain ⟨hb3, hf3, hx3, hm3, ho3⟩ := hI _ _ _ _ _ hi2
  have hm4 : T2 (x + 83) = some (111, 0) := hm3
  have ho4 : T2 (x + 113) = some (1, 1) := ho3
  refine q_istore d_Law_law_1515 (Nat.le_of_ble_eq_true rfl) (by first | exact q_ok0 | exact q_okI rfl | exact q_okR rfl | exact q_okN rfl) rfl ?_
  refine q_aload_n d_Law_law_1517 rfl rfl ?_
  refine q_callVi (M2 := M_Model_thrown) d_Law_law_1518 ⟨(Nat.le_of_ble_eq_true rfl), (Nat.le_of_ble_eq_true rfl), w_1225, w_10, ⟨by decide, by decide⟩, show _ = some 0 by decide +kernel⟩ w_1222 w_1223 (ci := 11) rfl w_1224 (by first | assumption | rfl | (simp (disch := omega) only [q_upT_self, q_upT_ne, q_upR_self, q_upR_nea, q_upR_nk, s_T_lo, s_T_hi, s_R_ne, *]; done) | (simp (disch := omega) only [q_upT_self, q_upT_ne, q_upR_self, q_upR_nea, q_upR_nk, s_T_lo, s_T_hi, s_R_ne, *]; rfl)) rfl (Nat.le_of_ble_eq_true rfl) (by omega) (by omega) (c_Model_thrown hm4) ?_
  rintro _ _ ⟨rfl, rfl⟩
  rw [ht2]
  refine q_iload d_Law_law_1521 rfl ?_
  refine q_icmp_eq (tgt := 1528) d_Law_law_1523 rfl (fun hc => ?_) (fun hc => ?_)
  · refine q_iload d_Law_law_1528 rfl ?_
    refine q_if_ne (tgt := 1545) d_Law_law_1530 rfl (fun hc => ?_) (fun hc => ?_)
    · refine q_goto (tgt := 1548) d_Law_law_1545 (by omega) ?_
      exact kk _ _ _ _ _ _ _ hi2
    · have hz : kv = 0 := by first | exact hc | exact Decidable.not_not.mp hc
      refine q_aload_n d_Law_law_1533 rfl rfl ?_
      refine q_iconst (v := nI 0) d_Law_law_1534 (by decide) ?_
      refine q_lald d_Law_law_1535 (by first | assumption | rfl | (simp (disch := omega) only [q_upT_self, q_upT_ne, q_upR_self, q_upR_nea, q_upR_nk, s_T_lo, s_T_hi, s_R_ne, *]; done) | (simp (disch := omega) only [q_upT_self, q_upT_ne, q_upR_self, q_upR_nea, q_upR_nk, s_T_lo, s_T_hi, s_R_ne, *]; rfl)) (by first | assumption | exact vp_in_nI (by omega) (by omega)) ?_
      refine q_iload d_Law_law_1536 rfl ?_
      refine q_i2l d_Law_law_1538 rfl ?_
      refine q_lcmp d_Law_law_1539 ?_
      refine q_if_eq (tgt := 1545) d_Law_law_1540 rfl (fun hc => ?_) (fun hc => ?_)
      · refine q_goto (tgt := 1548) d_Law_law_1545 (by omega) ?_
        exact kk _ _ _ _ _ _ _ hi2
      · exact absurd ((lg_cmp_eq _ _).mpr (by rw [hJ hz, hv hz])) hc
  · exact absurd rfl hc
end LCase
