/-! clash, by the reference: split and join, in mode 2 -/
section MSpl2
variable {g : q_G} {sz m : Nat} {T : q_T} {I : q_I} {R : q_R} {J : q_J} {tb : List KT} {M : List KF} {Z : KZ} {p : KP}
set_option maxHeartbeats 1000000 in
theorem c_Model_split2 {k n : Nat} (hL : q_L 11 t_Model m T R) (h : m_z m M Z tb I) (hlen : tb.length + 3 ≤ 1024) (hn : k_nds M) (hfk : k_ok 4 p.nm ∧ p.nm ≠ []) (hlt : M.length < 25) (hf : M[k]? = some p.f) (hso : p.so ≠ 2) (ha : nI 2 ≤ p.a) (hrs : ∀ e ∈ M, e.2.2.2.2 ≠ p.rs) : q_Cv g M_Model_split [.ref m, .int (nI k), .int (nI (k_path p.nm)), .int p.a, .int (nI n)] (sz, T, I, R, J) 0 0 (m_zo m (M.set k (p.nm, p.so, z_div p.lo p.a, z_div p.hi p.a, p.sl) ++ [(p.nm.dropLast ++ [n + 1], 0, 0, p.a - 1, p.rs)]) (k_ud (k_ud Z p.sl (z_sp1 p (Z p.sl))) p.rs (z_sp2 p (Z p.sl))) tb 3 sz T I R J) := by
  have hM := h.1
  have hkl := (List.getElem?_eq_some_iff.mp hf).1
  obtain ⟨w1, w2, w3, w4⟩ := hM.2.2 k p.f hf
  have w3 : I (m + 16) (nI k) = p.lo := w3
  have w4 : I (m + 17) (nI k) = p.hi := w4
  obtain ⟨x1, hnz⟩ := z_flr (x := p.lo) ha
  obtain ⟨x2, -⟩ := z_flr (x := p.hi) ha
  obtain ⟨xv, hxv⟩ : ∃ xv, xv = I (m + 18) (nI (7 * k + 1)) := ⟨_, rfl⟩
  obtain ⟨t0, t1⟩ := h.2.1 k p.f hf hso
  obtain ⟨t, ht⟩ : ∃ t, t = Z p.sl := ⟨_, rfl⟩
  rw [show Z p.f.2.2.2.2 = t from ht.symm] at t0 t1
  rw [← ht]
  refine q_C.of (ls0 := [some (.ref m), some (.int (nI k)), some (.int (nI (k_path p.nm))), some (.int p.a), some (.int (nI n)), none, none, none, none, none]) (by decide) rfl (by decide) (Nat.le_of_ble_eq_true rfl) rfl ?_
  refine q_aload_n d_Model_split_0 rfl rfl ?_
  refine q_getR (ci := 11) (fk := 23) d_Model_split_1 rfl (Nat.le_of_ble_eq_true rfl) w_1127 (fun _ _ => rfl) hL.1 (hL.2 23 _ _ _ rfl).1 ?_
  refine q_bipush (v := nI 7) d_Model_split_4 (by decide) ?_
  refine q_iload_n d_Model_split_6 rfl rfl ?_
  first | refine q_imulN d_Model_split_7 ?_ | refine q_imul d_Model_split_7 ?_
  refine q_iconst (v := nI 1) d_Model_split_8 (by decide) ?_
  first | refine q_iaddN d_Model_split_9 ?_ | refine q_iadd d_Model_split_9 ?_
  refine q_iald d_Model_split_10 (hL.2 23 _ _ _ rfl).2 (by first | assumption | exact vp_in_nI (by omega) (by omega)) ?_
  rw [← hxv]
  refine q_istore d_Model_split_11 (Nat.le_of_ble_eq_true rfl) (by first | exact q_ok0 | exact q_okI rfl | exact q_okR rfl | exact q_okN rfl) rfl ?_
  refine q_aload_n d_Model_split_13 rfl rfl ?_
  refine q_getR (ci := 11) (fk := 24) d_Model_split_14 rfl (Nat.le_of_ble_eq_true rfl) w_1128 (fun _ _ => rfl) hL.1 (hL.2 24 _ _ _ rfl).1 ?_
  refine q_iload_n d_Model_split_17 rfl rfl ?_
  refine q_iald d_Model_split_18 (hL.2 24 _ _ _ rfl).2 (by first | assumption | exact vp_in_nI (by omega) (by omega)) ?_
  rw [t1]
  refine q_istore d_Model_split_19 (Nat.le_of_ble_eq_true rfl) (by first | exact q_ok0 | exact q_okI rfl | exact q_okR rfl | exact q_okN rfl) rfl ?_
  refine q_aload_n d_Model_split_21 rfl rfl ?_
  refine q_getR (ci := 11) (fk := 21) d_Model_split_22 rfl (Nat.le_of_ble_eq_true rfl) w_1125 (fun _ _ => rfl) hL.1 (hL.2 21 _ _ _ rfl).1 ?_
  refine q_iload_n d_Model_split_25 rfl rfl ?_
  refine q_aload_n d_Model_split_26 rfl rfl ?_
  refine q_getR (ci := 11) (fk := 21) d_Model_split_27 rfl (Nat.le_of_ble_eq_true rfl) w_1125 (fun _ _ => rfl) hL.1 (hL.2 21 _ _ _ rfl).1 ?_
  refine q_iload_n d_Model_split_30 rfl rfl ?_
  refine q_iald d_Model_split_31 (hL.2 21 _ _ _ rfl).2 (by first | assumption | exact vp_in_nI (by omega) (by omega)) ?_
  rw [w3]
  refine q_i2l d_Model_split_32 rfl ?_
  refine q_iload_n d_Model_split_33 rfl rfl ?_
  refine q_i2l d_Model_split_34 rfl ?_
  refine q_callSl (M2 := M_Model_floor) d_Model_split_35 ⟨(Nat.le_of_ble_eq_true rfl), (Nat.le_of_ble_eq_true rfl), w_1344, w_10, ⟨by decide, by decide⟩, show _ = some 2 by decide +kernel⟩ w_1342 w_1343 rfl (Nat.le_of_ble_eq_true rfl) (by omega) (by omega) (c_Model_floor hnz) ?_
  rintro _ _ ⟨rfl, rfl⟩
  refine q_l2i d_Model_split_38 rfl ?_
  rw [x1]
  refine q_iast d_Model_split_39 (hL.2 21 _ _ _ rfl).2 (by first | assumption | exact vp_in_nI (by omega) (by omega)) ?_
  refine q_aload_n d_Model_split_40 rfl rfl ?_
  refine q_getR (ci := 11) (fk := 22) d_Model_split_41 rfl (Nat.le_of_ble_eq_true rfl) w_1126 (fun _ _ => rfl) hL.1 (hL.2 22 _ _ _ rfl).1 ?_
  refine q_iload_n d_Model_split_44 rfl rfl ?_
  refine q_aload_n d_Model_split_45 rfl rfl ?_
  refine q_getR (ci := 11) (fk := 22) d_Model_split_46 rfl (Nat.le_of_ble_eq_true rfl) w_1126 (fun _ _ => rfl) hL.1 (hL.2 22 _ _ _ rfl).1 ?_
  refine q_iload_n d_Model_split_49 rfl rfl ?_
  refine q_iald d_Model_split_50 (hL.2 22 _ _ _ rfl).2 (by first | assumption | exact vp_in_nI (by omega) (by omega)) ?_
  rw [q_upI_nea (by omega), w4]
  refine q_i2l d_Model_split_51 rfl ?_
  refine q_iload_n d_Model_split_52 rfl rfl ?_
  refine q_i2l d_Model_split_53 rfl ?_
  refine q_callSl (M2 := M_Model_floor) d_Model_split_54 ⟨(Nat.le_of_ble_eq_true rfl), (Nat.le_of_ble_eq_true rfl), w_1344, w_10, ⟨by decide, by decide⟩, show _ = some 2 by decide +kernel⟩ w_1342 w_1343 rfl (Nat.le_of_ble_eq_true rfl) (by omega) (by omega) (c_Model_floor hnz) ?_
  rintro _ _ ⟨rfl, rfl⟩
  refine q_l2i d_Model_split_57 rfl ?_
  rw [x2]
  refine q_iast d_Model_split_58 (hL.2 22 _ _ _ rfl).2 (by first | assumption | exact vp_in_nI (by omega) (by omega)) ?_
  refine q_aload_n d_Model_split_59 rfl rfl ?_
  refine q_iload_n d_Model_split_60 rfl rfl ?_
  refine q_iload d_Model_split_61 rfl ?_
  refine q_callSi (M2 := M_Model_besides) d_Model_split_63 ⟨(Nat.le_of_ble_eq_true rfl), (Nat.le_of_ble_eq_true rfl), w_1347, w_10, ⟨by decide, by decide⟩, show _ = some 2 by decide +kernel⟩ w_1345 w_1346 rfl (Nat.le_of_ble_eq_true rfl) (by omega) (by omega) (c_Model_besides hfk.1 hfk.2) ?_
  rintro _ _ ⟨rfl, rfl⟩
  refine q_iconst (v := nI 0) d_Model_split_66 (by decide) ?_
  refine q_iconst (v := nI 0) d_Model_split_67 (by decide) ?_
  refine q_iload_n d_Model_split_68 rfl rfl ?_
  refine q_iconst (v := nI 1) d_Model_split_69 (by decide) ?_
  refine q_isub d_Model_split_70 ?_
  obtain ⟨I1, hI1⟩ : ∃ I1, I1 = q_upI (q_upI I (m + 16) (nI k) (z_div p.lo p.a)) (m + 17) (nI k) (z_div p.hi p.a) := ⟨_, rfl⟩
  rw [← hI1]
  have o1 : ∀ b, b ≠ m + 16 → b ≠ m + 17 → I1 b = I b := fun b b1 b2 => by rw [hI1]; funext j; rw [q_upI_nea b2, q_upI_nea b1]
  obtain ⟨f', hf'⟩ : ∃ f' : KF, f' = (p.nm, p.so, z_div p.lo p.a, z_div p.hi p.a, p.sl) := ⟨_, rfl⟩
  have hM1 : k_mw m (M.set k f') I1 := by
    rw [hf']
    refine hM.set hf (by rw [o1 m (by omega) (by omega)]) ⟨by rw [o1 (m + 14) (by omega) (by omega)]; exact w1, by rw [o1 (m + 15) (by omega) (by omega)]; exact w2, ?_, ?_⟩ (fun j i j1 j2 hi hik => ?_)
    · rw [hI1, q_upI_nea (by omega), q_upI_self]
    · rw [hI1, q_upI_self]
    · rw [hI1, q_upI_nk (by omega), q_upI_nk (by omega)]
  have hs' : f'.2.2.2.2 = p.f.2.2.2.2 := by rw [hf']
  have y1 : m_z m (M.set k f') Z tb I1 := h.set hf hs' hso hM1 (fun j j1 j2 => o1 _ (by omega) (by omega)) (by rw [o1 m (by omega) (by omega)]) (by rw [o1 m (by omega) (by omega)])
  have g1 : m_zf m I I1 := m_zf.arr fun b hb => o1 b (by omega) (by omega)
  have n1 := k_nds_set hn hf hs'
  rw [← hf']
  obtain ⟨e, he⟩ : ∃ e : KF, e = (p.nm.dropLast ++ [n + 1], 0, 0, p.a - 1, p.rs) := ⟨_, rfl⟩
  have hl1 : (M.set k f').length = M.length := List.length_set
  have hcome := c_Model_come2 (g := g) (sz := sz) (J := J) hL hM1 y1.2.2.1 (by omega) (by rw [hl1]; omega) y1.2.2.2 e
  have hrs1 : ∀ q ∈ M.set k f', q.2.2.2.2 ≠ e.2.2.2.2 := by rw [he]; exact k_set_slo hf hs' hrs
  rw [he] at hcome
  refine q_callVi (M2 := M_Model_come) d_Model_split_71 ⟨(Nat.le_of_ble_eq_true rfl), (Nat.le_of_ble_eq_true rfl), w_1237, w_10, ⟨by decide, by decide⟩, show _ = some 4 by decide +kernel⟩ w_1234 w_1236 (ci := 11) rfl s_48 hL.1 rfl (Nat.le_of_ble_eq_true rfl) (by omega) (by omega) (hcome) ?_
  rw [← he]
  rintro _ _ ⟨rfl, I2, rfl, hc2⟩
  have g2 := g1.trans hc2.1
  obtain ⟨tb2, b1, b2, y2⟩ := y1.come hrs1 hc2 (fun _ => rfl)
  have n2 : k_nds (M.set k f' ++ [e]) := k_nds_snoc n1 hrs1
  have hkl2 : k < (M.set k f').length := by rw [hl1]; exact hkl
  have hf2 : (M.set k f' ++ [e])[k]? = some f' := by rw [List.getElem?_append_left hkl2, List.getElem?_set, if_pos rfl, if_pos hkl]
  have he2 : (M.set k f' ++ [e])[M.length]? = some e := by rw [List.getElem?_append_right (by omega), hl1, Nat.sub_self]; rfl
  have e1 : e.2.2.2.2 = p.rs := by rw [he]
  have f1 : f'.2.2.2.2 = p.sl := by rw [hf']
  have hne : p.sl ≠ p.rs := hrs p.f (List.mem_of_getElem? hf)
  have ht2 : t ∈ tb2 := b1.mem t0
  have hix2 := z_ix_lt ht2
  rw [hl1, ← b1.ix t0]
  have fin : ∀ (I3 I4 I5 : q_I) (tb3 tb4 : List KT), m_fk m I2 I3 → m_tb m tb3 I3 → z_ex tb2 tb3 → tb3.length ≤ tb2.length + 1 → z_sp1 p t ∈ tb3 → I4 = q_upI I3 (m + 19) (nI k) (nI (tb3.idxOf (z_sp1 p t))) → m_fk m I4 I5 → m_tb m tb4 I5 → z_ex tb3 tb4 → tb4.length ≤ tb3.length + 1 → z_sp2 p t ∈ tb4 → m_zo m (M.set k f' ++ [e]) (k_ud (k_ud Z p.sl (z_sp1 p t)) p.rs (z_sp2 p t)) tb 3 sz T I R J (sz, T, q_upI I5 (m + 19) (nI M.length) (nI (tb4.idxOf (z_sp2 p t))), R, J) := by
    intro I3 I4 I5 tb3 tb4 a1 a2 a3 a4 a5 a6 c1 c2 c3 c4 c5
    obtain ⟨q1, q2⟩ := y2.st n2 hf2 a1 a2 a3 a5
    rw [← a6] at q1 q2
    obtain ⟨q3, q4⟩ := q2.st n2 he2 c1 c2 c3 c5
    refine ⟨_, tb4, rfl, (g2.trans q1).trans q3, ?_, (b1.trans a3).trans c3, by omega⟩
    rw [f1, e1] at q4
    have ev : k_ud (k_ud (k_ud Z p.rs (z_cd e)) p.sl (z_sp1 p t)) p.rs (z_sp2 p t) = k_ud (k_ud Z p.sl (z_sp1 p t)) p.rs (z_sp2 p t) := by
      funext j
      by_cases j1 : j = p.rs
      · simp [k_ud, j1]
      · by_cases j2 : j = p.sl
        · simp [k_ud, j2, hne]
        · simp [k_ud, j1, j2]
    rw [← ev]
    exact q4
  have tab : ∀ (I3 : q_I) (tb3 : List KT) (s : KT), m_fk m I2 I3 → m_tb m tb3 I3 → z_ex tb2 tb3 → s ∈ tb3 → m_tb m tb3 (q_upI I3 (m + 19) (nI k) (nI (tb3.idxOf s))) := fun I3 tb3 s a1 a2 a3 a5 => (y2.st n2 hf2 a1 a2 a3 a5).2.2.2.1
  refine q_istore d_Model_split_74 (Nat.le_of_ble_eq_true rfl) (by first | exact q_ok0 | exact q_okI rfl | exact q_okR rfl | exact q_okN rfl) rfl ?_
  refine q_aload_n d_Model_split_76 rfl rfl ?_
  refine q_getI (ci := 11) (fk := 27) d_Model_split_77 rfl (Nat.le_of_ble_eq_true rfl) w_1131 (fun _ _ => rfl) hL.1 ?_
  rw [y2.2.2.2]
  refine q_iconst (v := nI 1) d_Model_split_80 (by decide) ?_
  refine q_icmp_ne (tgt := 132) d_Model_split_81 rfl (fun hc => ?_) (fun hc => ?_)
  rotate_left
  · exact absurd hc (by decide)
  refine q_aload_n d_Model_split_132 rfl rfl ?_
  refine q_getI (ci := 11) (fk := 27) d_Model_split_133 rfl (Nat.le_of_ble_eq_true rfl) w_1131 (fun _ _ => rfl) hL.1 ?_
  rw [y2.2.2.2]
  refine q_iconst (v := nI 2) d_Model_split_136 (by decide) ?_
  refine q_icmp_eq (tgt := 141) d_Model_split_137 rfl (fun hc => ?_) (fun hc => ?_)
  rotate_left
  · exact absurd rfl hc
  refine q_aload_n d_Model_split_141 rfl rfl ?_
  refine q_iload d_Model_split_142 rfl ?_
  refine q_callVi (M2 := M_Model_isNumber) d_Model_split_144 ⟨(Nat.le_of_ble_eq_true rfl), (Nat.le_of_ble_eq_true rfl), w_1351, w_10, ⟨by decide, by decide⟩, show _ = some 1 by decide +kernel⟩ w_1348 w_1350 (ci := 11) rfl s_67 hL.1 rfl (Nat.le_of_ble_eq_true rfl) (by omega) (by omega) (c_isNumber2 hL y2.2.2.1 (by omega) ht2) ?_
  rintro _ _ ⟨rfl, rfl⟩
  by_cases k1 : z_k t = 1
  · rw [decide_eq_true k1]
    have ex := y2.2.2.1.x ht2 (by omega)
    have s1 : z_sp1 p t = z_lf 1 (z_div (z_x t) p.a) := by unfold z_sp1; rw [if_pos k1]
    have s2 : z_sp2 p t = z_lf 1 (z_mod (z_x t) p.a) := by unfold z_sp2; rw [if_pos k1]
    rw [s1, s2] at fin ⊢
    obtain ⟨x3, -⟩ := z_flr (x := z_x t) ha
    refine q_if_eq (tgt := 206) d_Model_split_147 rfl (fun hc => ?_) (fun hc => ?_)
    · exact absurd hc (by decide)
    refine q_aload_n d_Model_split_150 rfl rfl ?_
    refine q_iload d_Model_split_151 rfl ?_
    refine q_iconst (v := nI 0) d_Model_split_153 (by decide) ?_
    refine q_callVi (M2 := M_Model_argument) d_Model_split_154 ⟨(Nat.le_of_ble_eq_true rfl), (Nat.le_of_ble_eq_true rfl), w_1355, w_10, ⟨by decide, by decide⟩, show _ = some 2 by decide +kernel⟩ w_1352 w_1354 (ci := 11) rfl s_68 hL.1 rfl (Nat.le_of_ble_eq_true rfl) (by omega) (by omega) (c_Model_argument hL (by omega)) ?_
    rintro _ _ ⟨rfl, rfl⟩
    rw [ex]
    refine q_i2l d_Model_split_157 rfl ?_
    refine q_lstore d_Model_split_158 (Nat.le_of_ble_eq_true rfl) (by first | exact q_ok0 | exact q_okI rfl | exact q_okR rfl | exact q_okN rfl) rfl ?_
    refine q_aload_n d_Model_split_160 rfl rfl ?_
    refine q_getR (ci := 11) (fk := 24) d_Model_split_161 rfl (Nat.le_of_ble_eq_true rfl) w_1128 (fun _ _ => rfl) hL.1 (hL.2 24 _ _ _ rfl).1 ?_
    refine q_iload_n d_Model_split_164 rfl rfl ?_
    refine q_aload_n d_Model_split_165 rfl rfl ?_
    refine q_lload d_Model_split_166 rfl ?_
    refine q_iload_n d_Model_split_168 rfl rfl ?_
    refine q_i2l d_Model_split_169 rfl ?_
    refine q_callSl (M2 := M_Model_floor) d_Model_split_170 ⟨(Nat.le_of_ble_eq_true rfl), (Nat.le_of_ble_eq_true rfl), w_1344, w_10, ⟨by decide, by decide⟩, show _ = some 2 by decide +kernel⟩ w_1342 w_1343 rfl (Nat.le_of_ble_eq_true rfl) (by omega) (by omega) (c_Model_floor hnz) ?_
    rintro _ _ ⟨rfl, rfl⟩
    refine q_l2i d_Model_split_173 rfl ?_
    rw [x3]
    refine q_callVi (M2 := M_Model_number) d_Model_split_174 ⟨(Nat.le_of_ble_eq_true rfl), (Nat.le_of_ble_eq_true rfl), w_1244, w_10, ⟨by decide, by decide⟩, show _ = some 1 by decide +kernel⟩ w_1241 w_1243 (ci := 11) rfl s_49 hL.1 rfl (Nat.le_of_ble_eq_true rfl) (by omega) (by omega) (c_Model_number hL y2.2.2.1 (by omega) _) ?_
    rintro _ _ ⟨I3, tb3, rfl, a1, a2, a3, a4, a5, rfl⟩
    refine q_iast d_Model_split_177 (hL.2 24 _ _ _ rfl).2 (by first | assumption | exact vp_in_nI (by omega) (by omega)) ?_
    have tb3' := tab I3 tb3 _ a1 a2 a3 a5
    obtain ⟨I4, hI4⟩ : ∃ I4, I4 = q_upI I3 (m + 19) (nI k) (nI (tb3.idxOf (z_lf 1 (z_div (z_x t) p.a)))) := ⟨_, rfl⟩
    rw [← hI4] at tb3' ⊢
    refine q_aload_n d_Model_split_178 rfl rfl ?_
    refine q_getR (ci := 11) (fk := 24) d_Model_split_179 rfl (Nat.le_of_ble_eq_true rfl) w_1128 (fun _ _ => rfl) hL.1 (hL.2 24 _ _ _ rfl).1 ?_
    refine q_iload d_Model_split_182 rfl ?_
    refine q_aload_n d_Model_split_184 rfl rfl ?_
    refine q_lload d_Model_split_185 rfl ?_
    refine q_iload_n d_Model_split_187 rfl rfl ?_
    refine q_i2l d_Model_split_188 rfl ?_
    refine q_lload d_Model_split_189 rfl ?_
    refine q_iload_n d_Model_split_191 rfl rfl ?_
    refine q_i2l d_Model_split_192 rfl ?_
    refine q_callSl (M2 := M_Model_floor) d_Model_split_193 ⟨(Nat.le_of_ble_eq_true rfl), (Nat.le_of_ble_eq_true rfl), w_1344, w_10, ⟨by decide, by decide⟩, show _ = some 2 by decide +kernel⟩ w_1342 w_1343 rfl (Nat.le_of_ble_eq_true rfl) (by omega) (by omega) (c_Model_floor hnz) ?_
    rintro _ _ ⟨rfl, rfl⟩
    refine q_lmul d_Model_split_196 ?_
    refine q_lsub d_Model_split_197 ?_
    refine q_l2i d_Model_split_198 rfl ?_
    rw [z_flm ha]
    refine q_callVi (M2 := M_Model_number) d_Model_split_199 ⟨(Nat.le_of_ble_eq_true rfl), (Nat.le_of_ble_eq_true rfl), w_1244, w_10, ⟨by decide, by decide⟩, show _ = some 1 by decide +kernel⟩ w_1241 w_1243 (ci := 11) rfl s_49 hL.1 rfl (Nat.le_of_ble_eq_true rfl) (by omega) (by omega) (c_Model_number hL tb3' (by omega) _) ?_
    rintro _ _ ⟨I5, tb4, rfl, c1, c2, c3, c4, c5, rfl⟩
    refine q_iast d_Model_split_202 (hL.2 24 _ _ _ rfl).2 (by first | assumption | exact vp_in_nI (by omega) (by omega)) ?_
    refine q_goto (tgt := 295) d_Model_split_203 rfl ?_
    refine q_vret d_Model_split_295 rfl (by omega) (by omega) ?_
    exact ⟨rfl, fin I3 I4 I5 tb3 tb4 a1 a2 a3 a4 a5 hI4 c1 c2 c3 c4 c5⟩
  · rw [decide_eq_false k1]
    refine q_if_eq (tgt := 206) d_Model_split_147 rfl (fun hc => ?_) (fun hc => ?_)
    rotate_left
    · exact absurd rfl hc
    have oth : ¬ (z_k t = 7 ∧ z_a t = p.a) → ∀ (mcc msc : Nat), mcc = 0 → msc = 0 → q_V g M_Model_split 0 0 mcc msc (sz, T, I2, R, J) (fun o h' => o = .inl none ∧ m_zo m (M.set k f' ++ [e]) (k_ud (k_ud Z p.sl (z_sp1 p t)) p.rs (z_sp2 p t)) tb 3 sz T I R J h') 259 [some (.ref m), some (.int (nI k)), some (.int (nI (k_path p.nm))), some (.int p.a), some (.int (nI n)), some (.int xv), some (.int (nI (tb2.idxOf t))), some (.int (nI M.length)), none, none] [] := by
      intro h7 mcc msc m1 m2
      subst m1 m2
      have s1 : z_sp1 p t = z_u1 5 t p.a 0 0 0 := by unfold z_sp1; rw [if_neg k1, if_neg h7]
      have s2 : z_sp2 p t = z_u1 6 t p.a 0 0 0 := by unfold z_sp2; rw [if_neg k1, if_neg h7]
      rw [s1, s2] at fin ⊢
      refine q_aload_n d_Model_split_259 rfl rfl ?_
      refine q_getR (ci := 11) (fk := 24) d_Model_split_260 rfl (Nat.le_of_ble_eq_true rfl) w_1128 (fun _ _ => rfl) hL.1 (hL.2 24 _ _ _ rfl).1 ?_
      refine q_iload_n d_Model_split_263 rfl rfl ?_
      refine q_aload_n d_Model_split_264 rfl rfl ?_
      refine q_iconst (v := nI 5) d_Model_split_265 (by decide) ?_
      refine q_iload d_Model_split_266 rfl ?_
      refine q_iload_n d_Model_split_268 rfl rfl ?_
      refine q_iconst (v := nI 0) d_Model_split_269 (by decide) ?_
      refine q_iconst (v := nI 0) d_Model_split_270 (by decide) ?_
      refine q_iconst (v := nI 0) d_Model_split_271 (by decide) ?_
      refine q_callVi (M2 := M_Model_known) d_Model_split_272 ⟨(Nat.le_of_ble_eq_true rfl), (Nat.le_of_ble_eq_true rfl), w_1248, w_10, ⟨by decide, by decide⟩, show _ = some 6 by decide +kernel⟩ w_1245 w_1247 (ci := 11) rfl s_50 hL.1 rfl (Nat.le_of_ble_eq_true rfl) (by omega) (by omega) (c_known_u1 hL y2.2.2.1 (by omega) (by omega) (by omega) (by omega) ht2 p.a 0 0 0) ?_
      rintro _ _ ⟨I3, tb3, rfl, a1, a2, a3, a4, a5, rfl⟩
      refine q_iast d_Model_split_275 (hL.2 24 _ _ _ rfl).2 (by first | assumption | exact vp_in_nI (by omega) (by omega)) ?_
      have tb3' := tab I3 tb3 _ a1 a2 a3 a5
      obtain ⟨I4, hI4⟩ : ∃ I4, I4 = q_upI I3 (m + 19) (nI k) (nI (tb3.idxOf (z_u1 5 t p.a 0 0 0))) := ⟨_, rfl⟩
      rw [← hI4] at tb3' ⊢
      have ht3 : t ∈ tb3 := a3.mem ht2
      refine q_aload_n d_Model_split_276 rfl rfl ?_
      refine q_getR (ci := 11) (fk := 24) d_Model_split_277 rfl (Nat.le_of_ble_eq_true rfl) w_1128 (fun _ _ => rfl) hL.1 (hL.2 24 _ _ _ rfl).1 ?_
      refine q_iload d_Model_split_280 rfl ?_
      refine q_aload_n d_Model_split_282 rfl rfl ?_
      refine q_bipush (v := nI 6) d_Model_split_283 (by decide) ?_
      refine q_iload d_Model_split_285 rfl ?_
      refine q_iload_n d_Model_split_287 rfl rfl ?_
      refine q_iconst (v := nI 0) d_Model_split_288 (by decide) ?_
      refine q_iconst (v := nI 0) d_Model_split_289 (by decide) ?_
      refine q_iconst (v := nI 0) d_Model_split_290 (by decide) ?_
      rw [← a3.ix ht2]
      refine q_callVi (M2 := M_Model_known) d_Model_split_291 ⟨(Nat.le_of_ble_eq_true rfl), (Nat.le_of_ble_eq_true rfl), w_1248, w_10, ⟨by decide, by decide⟩, show _ = some 6 by decide +kernel⟩ w_1245 w_1247 (ci := 11) rfl s_50 hL.1 rfl (Nat.le_of_ble_eq_true rfl) (by omega) (by omega) (c_known_u1 hL tb3' (by omega) (by omega) (by omega) (by omega) ht3 p.a 0 0 0) ?_
      rintro _ _ ⟨I5, tb4, rfl, c1, c2, c3, c4, c5, rfl⟩
      refine q_iast d_Model_split_294 (hL.2 24 _ _ _ rfl).2 (by first | assumption | exact vp_in_nI (by omega) (by omega)) ?_
      refine q_vret d_Model_split_295 rfl (by omega) (by omega) ?_
      exact ⟨rfl, fin I3 I4 I5 tb3 tb4 a1 a2 a3 a4 a5 hI4 c1 c2 c3 c4 c5⟩
    refine q_aload_n d_Model_split_206 rfl rfl ?_
    refine q_getR (ci := 11) (fk := 30) d_Model_split_207 rfl (Nat.le_of_ble_eq_true rfl) w_1134 (fun _ _ => rfl) hL.1 (hL.2 30 _ _ _ rfl).1 ?_
    refine q_iload d_Model_split_210 rfl ?_
    refine q_iald d_Model_split_212 (hL.2 30 _ _ _ rfl).2 (by first | assumption | exact vp_in_nI (by omega) (by omega)) ?_
    rw [y2.2.2.1.k ht2]
    refine q_bipush (v := nI 7) d_Model_split_213 (by decide) ?_
    refine q_icmp_ne (tgt := 259) d_Model_split_215 rfl (fun hc => ?_) (fun hc => ?_)
    · exact oth (fun z => hc (by rw [z.1])) _ _ rfl rfl
    have k7 : z_k t = 7 := (y2.2.2.1.ke ht2 (by omega)).mp hc
    refine q_aload_n d_Model_split_218 rfl rfl ?_
    refine q_iload d_Model_split_219 rfl ?_
    refine q_iconst (v := nI 2) d_Model_split_221 (by decide) ?_
    refine q_callVi (M2 := M_Model_argument) d_Model_split_222 ⟨(Nat.le_of_ble_eq_true rfl), (Nat.le_of_ble_eq_true rfl), w_1355, w_10, ⟨by decide, by decide⟩, show _ = some 2 by decide +kernel⟩ w_1352 w_1354 (ci := 11) rfl s_68 hL.1 rfl (Nat.le_of_ble_eq_true rfl) (by omega) (by omega) (c_Model_argument hL (by omega)) ?_
    rintro _ _ ⟨rfl, rfl⟩
    rw [y2.2.2.1.a2 ht2 k7]
    refine q_iload_n d_Model_split_225 rfl rfl ?_
    refine q_icmp_ne (tgt := 259) d_Model_split_226 rfl (fun hc => ?_) (fun hc => ?_)
    · have hcx : ¬ z_a t = p.a := hc
      exact oth (fun z => hcx z.2) _ _ rfl rfl
    have ka : z_a t = p.a := hc
    obtain ⟨u1, u2⟩ := y2.2.2.1.c1 ht2 (by omega)
    obtain ⟨u3, u4⟩ := y2.2.2.1.c2 ht2 k7
    have s1 : z_sp1 p t = z_c1 t := by unfold z_sp1; rw [if_neg k1, if_pos ⟨k7, ka⟩]
    have s2 : z_sp2 p t = z_c2 t := by unfold z_sp2; rw [if_neg k1, if_pos ⟨k7, ka⟩]
    rw [s1, s2] at fin ⊢
    refine q_aload_n d_Model_split_229 rfl rfl ?_
    refine q_getR (ci := 11) (fk := 24) d_Model_split_230 rfl (Nat.le_of_ble_eq_true rfl) w_1128 (fun _ _ => rfl) hL.1 (hL.2 24 _ _ _ rfl).1 ?_
    refine q_iload_n d_Model_split_233 rfl rfl ?_
    refine q_aload_n d_Model_split_234 rfl rfl ?_
    refine q_iload d_Model_split_235 rfl ?_
    refine q_iconst (v := nI 0) d_Model_split_237 (by decide) ?_
    refine q_callVi (M2 := M_Model_argument) d_Model_split_238 ⟨(Nat.le_of_ble_eq_true rfl), (Nat.le_of_ble_eq_true rfl), w_1355, w_10, ⟨by decide, by decide⟩, show _ = some 2 by decide +kernel⟩ w_1352 w_1354 (ci := 11) rfl s_68 hL.1 rfl (Nat.le_of_ble_eq_true rfl) (by omega) (by omega) (c_Model_argument hL (by omega)) ?_
    rintro _ _ ⟨rfl, rfl⟩
    rw [u2]
    refine q_iast d_Model_split_241 (hL.2 24 _ _ _ rfl).2 (by first | assumption | exact vp_in_nI (by omega) (by omega)) ?_
    have tb3' := tab I2 tb2 (z_c1 t) m_fk.refl y2.2.2.1 (z_ex.refl tb2) u1
    obtain ⟨I4, hI4⟩ : ∃ I4, I4 = q_upI I2 (m + 19) (nI k) (nI (tb2.idxOf (z_c1 t))) := ⟨_, rfl⟩
    rw [← hI4] at tb3' ⊢
    refine q_aload_n d_Model_split_242 rfl rfl ?_
    refine q_getR (ci := 11) (fk := 24) d_Model_split_243 rfl (Nat.le_of_ble_eq_true rfl) w_1128 (fun _ _ => rfl) hL.1 (hL.2 24 _ _ _ rfl).1 ?_
    refine q_iload d_Model_split_246 rfl ?_
    refine q_aload_n d_Model_split_248 rfl rfl ?_
    refine q_iload d_Model_split_249 rfl ?_
    refine q_iconst (v := nI 1) d_Model_split_251 (by decide) ?_
    refine q_callVi (M2 := M_Model_argument) d_Model_split_252 ⟨(Nat.le_of_ble_eq_true rfl), (Nat.le_of_ble_eq_true rfl), w_1355, w_10, ⟨by decide, by decide⟩, show _ = some 2 by decide +kernel⟩ w_1352 w_1354 (ci := 11) rfl s_68 hL.1 rfl (Nat.le_of_ble_eq_true rfl) (by omega) (by omega) (c_Model_argument hL (by omega)) ?_
    rintro _ _ ⟨rfl, rfl⟩
    rw [(tb3'.c2 ht2 k7).2]
    refine q_iast d_Model_split_255 (hL.2 24 _ _ _ rfl).2 (by first | assumption | exact vp_in_nI (by omega) (by omega)) ?_
    refine q_goto (tgt := 295) d_Model_split_256 rfl ?_
    refine q_vret d_Model_split_295 rfl (by omega) (by omega) ?_
    exact ⟨rfl, fin I2 I4 I4 tb2 tb2 m_fk.refl y2.2.2.1 (z_ex.refl tb2) (by omega) u1 hI4 m_fk.refl tb3' (z_ex.refl tb2) (by omega) u3⟩
set_option maxHeartbeats 1000000 in
theorem c_Model_join2 {k r q : Nat} {f e : KF} (hL : q_L 11 t_Model m T R) (h : m_z m M Z tb I) (hlen : tb.length < 1024) (hn : k_nds M) (hf : M[k]? = some f) (he : M[r]? = some e) (hfs : f.2.2.2.2 = p.sl) (hes : e.2.2.2.2 = p.rs) (hf0 : f.2.1 ≠ 2) (he0 : e.2.1 ≠ 2) (hkr : k ≠ r) (hp : k_mp m q p I) (hq : q + 7 < 1088) : q_Cv g M_Model_join [.ref m, .int (nI k), .int (nI r), .int p.a, .int (nI q)] (sz, T, I, R, J) 0 0 (m_zo m (k_goL (M.set k (f.1, f.2.1, p.lo, p.hi, f.2.2.2.2)) r) (k_ud Z p.sl (z_jn p (Z p.sl) (Z p.rs))) tb 1 sz T I R J) := by
  have hM := h.1
  have h26 := hM.2.1
  have hkl := (List.getElem?_eq_some_iff.mp hf).1
  have hrl := (List.getElem?_eq_some_iff.mp he).1
  obtain ⟨w1, w2, w3, w4⟩ := hM.2.2 k f hf
  obtain ⟨p0, p1, p2, p3, p5, p6, p7⟩ := hp
  obtain ⟨t0, t1⟩ := h.2.1 k f hf hf0
  obtain ⟨u0, u1⟩ := h.2.1 r e he he0
  rw [hfs] at t0 t1
  rw [hes] at u0 u1
  obtain ⟨t, ht⟩ : ∃ t, t = Z p.sl := ⟨_, rfl⟩
  obtain ⟨u, hu⟩ : ∃ u, u = Z p.rs := ⟨_, rfl⟩
  rw [← ht] at t0 t1 ⊢
  rw [← hu] at u0 u1 ⊢
  have hit := z_ix_lt t0
  have hiu := z_ix_lt u0
  refine q_C.of (ls0 := [some (.ref m), some (.int (nI k)), some (.int (nI r)), some (.int p.a), some (.int (nI q)), none, none, none, none]) (by decide) rfl (by decide) (Nat.le_of_ble_eq_true rfl) rfl ?_
  refine q_aload_n d_Model_join_0 rfl rfl ?_
  refine q_getR (ci := 11) (fk := 24) d_Model_join_1 rfl (Nat.le_of_ble_eq_true rfl) w_1128 (fun _ _ => rfl) hL.1 (hL.2 24 _ _ _ rfl).1 ?_
  refine q_iload_n d_Model_join_4 rfl rfl ?_
  refine q_iald d_Model_join_5 (hL.2 24 _ _ _ rfl).2 (by first | assumption | exact vp_in_nI (by omega) (by omega)) ?_
  rw [t1]
  refine q_istore d_Model_join_6 (Nat.le_of_ble_eq_true rfl) (by first | exact q_ok0 | exact q_okI rfl | exact q_okR rfl | exact q_okN rfl) rfl ?_
  refine q_aload_n d_Model_join_8 rfl rfl ?_
  refine q_getR (ci := 11) (fk := 24) d_Model_join_9 rfl (Nat.le_of_ble_eq_true rfl) w_1128 (fun _ _ => rfl) hL.1 (hL.2 24 _ _ _ rfl).1 ?_
  refine q_iload_n d_Model_join_12 rfl rfl ?_
  refine q_iald d_Model_join_13 (hL.2 24 _ _ _ rfl).2 (by first | assumption | exact vp_in_nI (by omega) (by omega)) ?_
  rw [u1]
  refine q_istore d_Model_join_14 (Nat.le_of_ble_eq_true rfl) (by first | exact q_ok0 | exact q_okI rfl | exact q_okR rfl | exact q_okN rfl) rfl ?_
  refine q_aload_n d_Model_join_16 rfl rfl ?_
  refine q_getR (ci := 11) (fk := 21) d_Model_join_17 rfl (Nat.le_of_ble_eq_true rfl) w_1125 (fun _ _ => rfl) hL.1 (hL.2 21 _ _ _ rfl).1 ?_
  refine q_iload_n d_Model_join_20 rfl rfl ?_
  refine q_aload_n d_Model_join_21 rfl rfl ?_
  refine q_getR (ci := 11) (fk := 12) d_Model_join_22 rfl (Nat.le_of_ble_eq_true rfl) w_1116 (fun _ _ => rfl) hL.1 (hL.2 12 _ _ _ rfl).1 ?_
  refine q_iload d_Model_join_25 rfl ?_
  refine q_bipush (v := nI 6) d_Model_join_27 (by decide) ?_
  first | refine q_iaddN d_Model_join_29 ?_ | refine q_iadd d_Model_join_29 ?_
  refine q_iald d_Model_join_30 (hL.2 12 _ _ _ rfl).2 (by first | assumption | exact vp_in_nI (by omega) (by omega)) ?_
  rw [p6]
  refine q_iast d_Model_join_31 (hL.2 21 _ _ _ rfl).2 (by first | assumption | exact vp_in_nI (by omega) (by omega)) ?_
  refine q_aload_n d_Model_join_32 rfl rfl ?_
  refine q_getR (ci := 11) (fk := 22) d_Model_join_33 rfl (Nat.le_of_ble_eq_true rfl) w_1126 (fun _ _ => rfl) hL.1 (hL.2 22 _ _ _ rfl).1 ?_
  refine q_iload_n d_Model_join_36 rfl rfl ?_
  refine q_aload_n d_Model_join_37 rfl rfl ?_
  refine q_getR (ci := 11) (fk := 12) d_Model_join_38 rfl (Nat.le_of_ble_eq_true rfl) w_1116 (fun _ _ => rfl) hL.1 (hL.2 12 _ _ _ rfl).1 ?_
  refine q_iload d_Model_join_41 rfl ?_
  refine q_bipush (v := nI 7) d_Model_join_43 (by decide) ?_
  first | refine q_iaddN d_Model_join_45 ?_ | refine q_iadd d_Model_join_45 ?_
  refine q_iald d_Model_join_46 (hL.2 12 _ _ _ rfl).2 (by first | assumption | exact vp_in_nI (by omega) (by omega)) ?_
  rw [q_upI_nea (by omega), p7]
  refine q_iast d_Model_join_47 (hL.2 22 _ _ _ rfl).2 (by first | assumption | exact vp_in_nI (by omega) (by omega)) ?_
  obtain ⟨I1, hI1⟩ : ∃ I1, I1 = q_upI (q_upI I (m + 16) (nI k) p.lo) (m + 17) (nI k) p.hi := ⟨_, rfl⟩
  rw [← hI1]
  have o1 : ∀ b, b ≠ m + 16 → b ≠ m + 17 → I1 b = I b := fun b b1 b2 => by rw [hI1]; funext j; rw [q_upI_nea b2, q_upI_nea b1]
  obtain ⟨f', hf'⟩ : ∃ f' : KF, f' = (f.1, f.2.1, p.lo, p.hi, f.2.2.2.2) := ⟨_, rfl⟩
  have hM1 : k_mw m (M.set k f') I1 := by
    rw [hf']
    refine hM.set hf (by rw [o1 m (by omega) (by omega)]) ⟨by rw [o1 (m + 14) (by omega) (by omega)]; exact w1, by rw [o1 (m + 15) (by omega) (by omega)]; exact w2, ?_, ?_⟩ (fun j i j1 j2 hi hik => ?_)
    · rw [hI1, q_upI_nea (by omega), q_upI_self]
    · rw [hI1, q_upI_self]
    · rw [hI1, q_upI_nk (by omega), q_upI_nk (by omega)]
  have hs' : f'.2.2.2.2 = f.2.2.2.2 := by rw [hf']
  have y1 : m_z m (M.set k f') Z tb I1 := h.set hf hs' hf0 hM1 (fun j j1 j2 => o1 _ (by omega) (by omega)) (by rw [o1 m (by omega) (by omega)]) (by rw [o1 m (by omega) (by omega)])
  have g1 : m_zf m I I1 := m_zf.arr fun b hb => o1 b (by omega) (by omega)
  have n1 := k_nds_set hn hf hs'
  rw [← hf']
  have hl1 : (M.set k f').length = M.length := List.length_set
  have hf2 : (M.set k f')[k]? = some f' := by rw [List.getElem?_set, if_pos rfl, if_pos hkl]
  have hT := y1.2.2.1
  have ekt := hT.k t0
  have eku := hT.k u0
  have last : ∀ (I3 : q_I) (tb3 : List KT) (l7 : Option Value) (mcc msc : Nat), mcc = 0 → msc = 0 → m_fk m I1 I3 → m_tb m tb3 I3 → z_ex tb tb3 → tb3.length ≤ tb.length + 1 → z_jn p t u ∈ tb3 → q_V g M_Model_join 0 0 mcc msc (sz, T, I3, R, J) (fun o h' => o = .inl none ∧ m_zo m (k_goL (M.set k f') r) (k_ud Z p.sl (z_jn p t u)) tb 1 sz T I R J h') 294 [some (.ref m), some (.int (nI k)), some (.int (nI r)), some (.int p.a), some (.int (nI q)), some (.int (nI (tb.idxOf t))), some (.int (nI (tb.idxOf u))), l7, none] [.int (nI (tb3.idxOf (z_jn p t u))), .int (nI k), .ref (m + 19)] := by
    intro I3 tb3 l7 mcc msc m1 m2 a1 a2 a3 a4 a5
    subst m1 m2
    obtain ⟨q1, q2⟩ := y1.st n1 hf2 a1 a2 a3 a5
    rw [hs', hfs] at q2
    refine q_iast d_Model_join_294 (hL.2 24 _ _ _ rfl).2 (by first | assumption | exact vp_in_nI (by omega) (by omega)) ?_
    obtain ⟨I4, hI4⟩ : ∃ I4, I4 = q_upI I3 (m + 19) (nI k) (nI (tb3.idxOf (z_jn p t u))) := ⟨_, rfl⟩
    rw [← hI4] at q1 q2 ⊢
    refine q_aload_n d_Model_join_295 rfl rfl ?_
    refine q_iload_n d_Model_join_296 rfl rfl ?_
    refine q_callVv (M2 := M_Model_go) d_Model_join_297 ⟨(Nat.le_of_ble_eq_true rfl), (Nat.le_of_ble_eq_true rfl), w_1333, w_10, ⟨by decide, by decide⟩, show _ = some 1 by decide +kernel⟩ w_1330 w_1332 (ci := 11) rfl s_64 hL.1 rfl (Nat.le_of_ble_eq_true rfl) (by omega) (by omega) (c_Model_go hL q2.1 (by rw [hl1]; exact hrl)) ?_
    rintro _ ⟨I5, rfl, k1, k2⟩
    refine q_vret d_Model_join_300 rfl (by omega) (by omega) ?_
    exact ⟨rfl, I5, tb3, rfl, (g1.trans q1).trans k1.zf, q2.go (by rw [hl1]; exact hrl) k1 k2, a3, a4⟩
  obtain ⟨B, hB⟩ : ∃ B : Prop, B = (z_k t = 5 ∧ z_k u = 6 ∧ (z_c1 t == z_c1 u) = true ∧ z_a t = p.a ∧ z_a u = p.a) := ⟨_, rfl⟩
  have ej : z_jn p t u = if z_k t = 1 ∧ z_k u = 1 then z_lf 1 (z_x t * p.a + z_x u) else if z_k t = 5 ∧ z_k u = 6 ∧ (z_c1 t == z_c1 u) = true ∧ z_a t = p.a ∧ z_a u = p.a then z_c1 t else z_u2 t u p.a := rfl
  have after : ∀ (b : Bool) (mcc msc : Nat), mcc = 0 → msc = 0 → (b = true ↔ B) → q_V g M_Model_join 0 0 mcc msc (sz, T, I1, R, J) (fun o h' => o = .inl none ∧ m_zo m (k_goL (M.set k f') r) (k_ud Z p.sl (z_jn p t u)) tb 1 sz T I R J h') 217 [some (.ref m), some (.int (nI k)), some (.int (nI r)), some (.int p.a), some (.int (nI q)), some (.int (nI (tb.idxOf t))), some (.int (nI (tb.idxOf u))), none, none] [.int (p_b b)] := by
    intro b mcc msc m1 m2 hb
    subst m1 m2
    have rest : ¬ (z_k t = 1 ∧ z_k u = 1) → ∀ (mcc msc : Nat), mcc = 0 → msc = 0 → q_V g M_Model_join 0 0 mcc msc (sz, T, I1, R, J) (fun o h' => o = .inl none ∧ m_zo m (k_goL (M.set k f') r) (k_ud Z p.sl (z_jn p t u)) tb 1 sz T I R J h') 266 [some (.ref m), some (.int (nI k)), some (.int (nI r)), some (.int p.a), some (.int (nI q)), some (.int (nI (tb.idxOf t))), some (.int (nI (tb.idxOf u))), some (.int (p_b b)), none] [.int (nI k), .ref (m + 19)] := by
      intro h11 mcc msc m1 m2
      subst m1 m2
      rw [if_neg h11] at ej
      cases b with
      | true =>
        have hBt := hb.mp rfl
        rw [hB] at hBt
        rw [if_pos hBt] at ej
        rw [ej] at last ⊢
        obtain ⟨c1, c2⟩ := hT.c1 t0 (by omega)
        refine q_iload d_Model_join_266 rfl ?_
        refine q_if_eq (tgt := 281) d_Model_join_268 rfl (fun hc => ?_) (fun hc => ?_)
        · exact absurd hc (by decide)
        refine q_aload_n d_Model_join_271 rfl rfl ?_
        refine q_iload d_Model_join_272 rfl ?_
        refine q_iconst (v := nI 0) d_Model_join_274 (by decide) ?_
        refine q_callVi (M2 := M_Model_argument) d_Model_join_275 ⟨(Nat.le_of_ble_eq_true rfl), (Nat.le_of_ble_eq_true rfl), w_1355, w_10, ⟨by decide, by decide⟩, show _ = some 2 by decide +kernel⟩ w_1352 w_1354 (ci := 11) rfl s_68 hL.1 rfl (Nat.le_of_ble_eq_true rfl) (by omega) (by omega) (c_Model_argument hL (by omega)) ?_
        rintro _ _ ⟨rfl, rfl⟩
        rw [c2]
        refine q_goto (tgt := 294) d_Model_join_278 rfl ?_
        exact last I1 tb _ _ _ rfl rfl m_fk.refl hT (z_ex.refl tb) (by omega) c1
      | false =>
        have hBt : ¬ B := fun z => absurd (hb.mpr z) (by decide)
        rw [hB] at hBt
        rw [if_neg hBt] at ej
        rw [ej] at last ⊢
        refine q_iload d_Model_join_266 rfl ?_
        refine q_if_eq (tgt := 281) d_Model_join_268 rfl (fun hc => ?_) (fun hc => ?_)
        rotate_left
        · exact absurd rfl hc
        refine q_aload_n d_Model_join_281 rfl rfl ?_
        refine q_bipush (v := nI 7) d_Model_join_282 (by decide) ?_
        refine q_iload d_Model_join_284 rfl ?_
        refine q_iload d_Model_join_286 rfl ?_
        refine q_iload_n d_Model_join_288 rfl rfl ?_
        refine q_iconst (v := nI 0) d_Model_join_289 (by decide) ?_
        refine q_iconst (v := nI 0) d_Model_join_290 (by decide) ?_
        refine q_callVi (M2 := M_Model_known) d_Model_join_291 ⟨(Nat.le_of_ble_eq_true rfl), (Nat.le_of_ble_eq_true rfl), w_1248, w_10, ⟨by decide, by decide⟩, show _ = some 6 by decide +kernel⟩ w_1245 w_1247 (ci := 11) rfl s_50 hL.1 rfl (Nat.le_of_ble_eq_true rfl) (by omega) (by omega) (c_known_u2 hL hT hlen t0 u0 p.a) ?_
        rintro _ _ ⟨I3, tb3, rfl, a1, a2, a3, a4, a5, rfl⟩
        exact last I3 tb3 _ _ _ rfl rfl a1 a2 a3 a4 a5
    refine q_istore d_Model_join_217 (Nat.le_of_ble_eq_true rfl) (by first | exact q_ok0 | exact q_okI rfl | exact q_okR rfl | exact q_okN rfl) rfl ?_
    refine q_aload_n d_Model_join_219 rfl rfl ?_
    refine q_getR (ci := 11) (fk := 24) d_Model_join_220 rfl (Nat.le_of_ble_eq_true rfl) w_1128 (fun _ _ => rfl) hL.1 (hL.2 24 _ _ _ rfl).1 ?_
    refine q_iload_n d_Model_join_223 rfl rfl ?_
    refine q_aload_n d_Model_join_224 rfl rfl ?_
    refine q_iload d_Model_join_225 rfl ?_
    refine q_callVi (M2 := M_Model_isNumber) d_Model_join_227 ⟨(Nat.le_of_ble_eq_true rfl), (Nat.le_of_ble_eq_true rfl), w_1351, w_10, ⟨by decide, by decide⟩, show _ = some 1 by decide +kernel⟩ w_1348 w_1350 (ci := 11) rfl s_67 hL.1 rfl (Nat.le_of_ble_eq_true rfl) (by omega) (by omega) (c_isNumber2 hL hT (by omega) t0) ?_
    rintro _ _ ⟨rfl, rfl⟩
    by_cases k1 : z_k t = 1
    · rw [decide_eq_true k1]
      refine q_if_eq (tgt := 266) d_Model_join_230 rfl (fun hc => ?_) (fun hc => ?_)
      · exact absurd hc (by decide)
      refine q_aload_n d_Model_join_233 rfl rfl ?_
      refine q_iload d_Model_join_234 rfl ?_
      refine q_callVi (M2 := M_Model_isNumber) d_Model_join_236 ⟨(Nat.le_of_ble_eq_true rfl), (Nat.le_of_ble_eq_true rfl), w_1351, w_10, ⟨by decide, by decide⟩, show _ = some 1 by decide +kernel⟩ w_1348 w_1350 (ci := 11) rfl s_67 hL.1 rfl (Nat.le_of_ble_eq_true rfl) (by omega) (by omega) (c_isNumber2 hL hT (by omega) u0) ?_
      rintro _ _ ⟨rfl, rfl⟩
      by_cases k2 : z_k u = 1
      · rw [decide_eq_true k2]
        rw [if_pos ⟨k1, k2⟩] at ej
        rw [ej] at last ⊢
        refine q_if_eq (tgt := 266) d_Model_join_239 rfl (fun hc => ?_) (fun hc => ?_)
        · exact absurd hc (by decide)
        refine q_aload_n d_Model_join_242 rfl rfl ?_
        refine q_aload_n d_Model_join_243 rfl rfl ?_
        refine q_iload d_Model_join_244 rfl ?_
        refine q_iconst (v := nI 0) d_Model_join_246 (by decide) ?_
        refine q_callVi (M2 := M_Model_argument) d_Model_join_247 ⟨(Nat.le_of_ble_eq_true rfl), (Nat.le_of_ble_eq_true rfl), w_1355, w_10, ⟨by decide, by decide⟩, show _ = some 2 by decide +kernel⟩ w_1352 w_1354 (ci := 11) rfl s_68 hL.1 rfl (Nat.le_of_ble_eq_true rfl) (by omega) (by omega) (c_Model_argument hL (by omega)) ?_
        rintro _ _ ⟨rfl, rfl⟩
        rw [hT.x t0 (by omega)]
        refine q_iload_n d_Model_join_250 rfl rfl ?_
        refine q_imul d_Model_join_251 ?_
        refine q_aload_n d_Model_join_252 rfl rfl ?_
        refine q_iload d_Model_join_253 rfl ?_
        refine q_iconst (v := nI 0) d_Model_join_255 (by decide) ?_
        refine q_callVi (M2 := M_Model_argument) d_Model_join_256 ⟨(Nat.le_of_ble_eq_true rfl), (Nat.le_of_ble_eq_true rfl), w_1355, w_10, ⟨by decide, by decide⟩, show _ = some 2 by decide +kernel⟩ w_1352 w_1354 (ci := 11) rfl s_68 hL.1 rfl (Nat.le_of_ble_eq_true rfl) (by omega) (by omega) (c_Model_argument hL (by omega)) ?_
        rintro _ _ ⟨rfl, rfl⟩
        rw [hT.x u0 (by omega)]
        refine q_iadd d_Model_join_259 ?_
        refine q_callVi (M2 := M_Model_number) d_Model_join_260 ⟨(Nat.le_of_ble_eq_true rfl), (Nat.le_of_ble_eq_true rfl), w_1244, w_10, ⟨by decide, by decide⟩, show _ = some 1 by decide +kernel⟩ w_1241 w_1243 (ci := 11) rfl s_49 hL.1 rfl (Nat.le_of_ble_eq_true rfl) (by omega) (by omega) (c_Model_number hL hT hlen _) ?_
        rintro _ _ ⟨I3, tb3, rfl, a1, a2, a3, a4, a5, rfl⟩
        refine q_goto (tgt := 294) d_Model_join_263 rfl ?_
        exact last I3 tb3 _ _ _ rfl rfl a1 a2 a3 a4 a5
      · rw [decide_eq_false k2]
        refine q_if_eq (tgt := 266) d_Model_join_239 rfl (fun hc => ?_) (fun hc => ?_)
        rotate_left
        · exact absurd rfl hc
        exact rest (fun z => k2 z.2) _ _ rfl rfl
    · rw [decide_eq_false k1]
      refine q_if_eq (tgt := 266) d_Model_join_230 rfl (fun hc => ?_) (fun hc => ?_)
      rotate_left
      · exact absurd rfl hc
      exact rest (fun z => k1 z.1) _ _ rfl rfl
  have no : ¬ B → ∀ (mcc msc : Nat), mcc = 0 → msc = 0 → q_V g M_Model_join 0 0 mcc msc (sz, T, I1, R, J) (fun o h' => o = .inl none ∧ m_zo m (k_goL (M.set k f') r) (k_ud Z p.sl (z_jn p t u)) tb 1 sz T I R J h') 216 [some (.ref m), some (.int (nI k)), some (.int (nI r)), some (.int p.a), some (.int (nI q)), some (.int (nI (tb.idxOf t))), some (.int (nI (tb.idxOf u))), none, none] [] := by
    intro hBt mcc msc m1 m2
    subst m1 m2
    refine q_iconst (v := nI 0) d_Model_join_216 (by decide) ?_
    exact after false _ _ rfl rfl ⟨fun z => absurd z (by decide), fun z => absurd z hBt⟩
  rw [hB] at no
  refine q_aload_n d_Model_join_48 rfl rfl ?_
  refine q_getI (ci := 11) (fk := 27) d_Model_join_49 rfl (Nat.le_of_ble_eq_true rfl) w_1131 (fun _ _ => rfl) hL.1 ?_
  rw [y1.2.2.2]
  refine q_iconst (v := nI 1) d_Model_join_52 (by decide) ?_
  refine q_icmp_ne (tgt := 142) d_Model_join_53 rfl (fun hc => ?_) (fun hc => ?_)
  rotate_left
  · exact absurd hc (by decide)
  refine q_aload_n d_Model_join_142 rfl rfl ?_
  refine q_getI (ci := 11) (fk := 27) d_Model_join_143 rfl (Nat.le_of_ble_eq_true rfl) w_1131 (fun _ _ => rfl) hL.1 ?_
  rw [y1.2.2.2]
  refine q_iconst (v := nI 2) d_Model_join_146 (by decide) ?_
  refine q_icmp_ne (tgt := 295) d_Model_join_147 rfl (fun hc => ?_) (fun hc => ?_)
  · exact absurd rfl hc
  refine q_aload_n d_Model_join_150 rfl rfl ?_
  refine q_getR (ci := 11) (fk := 30) d_Model_join_151 rfl (Nat.le_of_ble_eq_true rfl) w_1134 (fun _ _ => rfl) hL.1 (hL.2 30 _ _ _ rfl).1 ?_
  refine q_iload d_Model_join_154 rfl ?_
  refine q_iald d_Model_join_156 (hL.2 30 _ _ _ rfl).2 (by first | assumption | exact vp_in_nI (by omega) (by omega)) ?_
  rw [ekt]
  refine q_iconst (v := nI 5) d_Model_join_157 (by decide) ?_
  refine q_icmp_ne (tgt := 216) d_Model_join_158 rfl (fun hc => ?_) (fun hc => ?_)
  · exact no (fun z => hc (by rw [z.1])) _ _ rfl rfl
  have k5 : z_k t = 5 := (hT.ke t0 (by omega)).mp hc
  refine q_aload_n d_Model_join_161 rfl rfl ?_
  refine q_getR (ci := 11) (fk := 30) d_Model_join_162 rfl (Nat.le_of_ble_eq_true rfl) w_1134 (fun _ _ => rfl) hL.1 (hL.2 30 _ _ _ rfl).1 ?_
  refine q_iload d_Model_join_165 rfl ?_
  refine q_iald d_Model_join_167 (hL.2 30 _ _ _ rfl).2 (by first | assumption | exact vp_in_nI (by omega) (by omega)) ?_
  rw [eku]
  refine q_bipush (v := nI 6) d_Model_join_168 (by decide) ?_
  refine q_icmp_ne (tgt := 216) d_Model_join_170 rfl (fun hc => ?_) (fun hc => ?_)
  · exact no (fun z => hc (by rw [z.2.1])) _ _ rfl rfl
  have k6 : z_k u = 6 := (hT.ke u0 (by omega)).mp hc
  obtain ⟨c1, c2⟩ := hT.c1 t0 (by omega)
  obtain ⟨c3, c4⟩ := hT.c1 u0 (by omega)
  have i1 := z_ix_lt c1
  have i2 := z_ix_lt c3
  refine q_aload_n d_Model_join_173 rfl rfl ?_
  refine q_iload d_Model_join_174 rfl ?_
  refine q_iconst (v := nI 0) d_Model_join_176 (by decide) ?_
  refine q_callVi (M2 := M_Model_argument) d_Model_join_177 ⟨(Nat.le_of_ble_eq_true rfl), (Nat.le_of_ble_eq_true rfl), w_1355, w_10, ⟨by decide, by decide⟩, show _ = some 2 by decide +kernel⟩ w_1352 w_1354 (ci := 11) rfl s_68 hL.1 rfl (Nat.le_of_ble_eq_true rfl) (by omega) (by omega) (c_Model_argument hL (by omega)) ?_
  rintro _ _ ⟨rfl, rfl⟩
  rw [c2]
  refine q_aload_n d_Model_join_180 rfl rfl ?_
  refine q_iload d_Model_join_181 rfl ?_
  refine q_iconst (v := nI 0) d_Model_join_183 (by decide) ?_
  refine q_callVi (M2 := M_Model_argument) d_Model_join_184 ⟨(Nat.le_of_ble_eq_true rfl), (Nat.le_of_ble_eq_true rfl), w_1355, w_10, ⟨by decide, by decide⟩, show _ = some 2 by decide +kernel⟩ w_1352 w_1354 (ci := 11) rfl s_68 hL.1 rfl (Nat.le_of_ble_eq_true rfl) (by omega) (by omega) (c_Model_argument hL (by omega)) ?_
  rintro _ _ ⟨rfl, rfl⟩
  rw [c4]
  refine q_icmp_ne (tgt := 216) d_Model_join_187 rfl (fun hc => ?_) (fun hc => ?_)
  · exact no (fun z => hc (by rw [eq_of_beq z.2.2.1])) _ _ rfl rfl
  have kc : z_c1 t = z_c1 u := z_ix_inj c1 c3 ((nI_eq (by omega) (by omega)).mp hc)
  refine q_aload_n d_Model_join_190 rfl rfl ?_
  refine q_iload d_Model_join_191 rfl ?_
  refine q_iconst (v := nI 1) d_Model_join_193 (by decide) ?_
  refine q_callVi (M2 := M_Model_argument) d_Model_join_194 ⟨(Nat.le_of_ble_eq_true rfl), (Nat.le_of_ble_eq_true rfl), w_1355, w_10, ⟨by decide, by decide⟩, show _ = some 2 by decide +kernel⟩ w_1352 w_1354 (ci := 11) rfl s_68 hL.1 rfl (Nat.le_of_ble_eq_true rfl) (by omega) (by omega) (c_Model_argument hL (by omega)) ?_
  rintro _ _ ⟨rfl, rfl⟩
  rw [hT.a1 t0 (by omega)]
  refine q_iload_n d_Model_join_197 rfl rfl ?_
  refine q_icmp_ne (tgt := 216) d_Model_join_198 rfl (fun hc => ?_) (fun hc => ?_)
  · have hcx : ¬ z_a t = p.a := hc
    exact no (fun z => hcx z.2.2.2.1) _ _ rfl rfl
  have ka : z_a t = p.a := hc
  refine q_aload_n d_Model_join_201 rfl rfl ?_
  refine q_iload d_Model_join_202 rfl ?_
  refine q_iconst (v := nI 1) d_Model_join_204 (by decide) ?_
  refine q_callVi (M2 := M_Model_argument) d_Model_join_205 ⟨(Nat.le_of_ble_eq_true rfl), (Nat.le_of_ble_eq_true rfl), w_1355, w_10, ⟨by decide, by decide⟩, show _ = some 2 by decide +kernel⟩ w_1352 w_1354 (ci := 11) rfl s_68 hL.1 rfl (Nat.le_of_ble_eq_true rfl) (by omega) (by omega) (c_Model_argument hL (by omega)) ?_
  rintro _ _ ⟨rfl, rfl⟩
  rw [hT.a1 u0 (by omega)]
  refine q_iload_n d_Model_join_208 rfl rfl ?_
  refine q_icmp_ne (tgt := 216) d_Model_join_209 rfl (fun hc => ?_) (fun hc => ?_)
  · have hcx : ¬ z_a u = p.a := hc
    exact no (fun z => hcx z.2.2.2.2) _ _ rfl rfl
  have kb : z_a u = p.a := hc
  refine q_iconst (v := nI 1) d_Model_join_212 (by decide) ?_
  refine q_goto (tgt := 217) d_Model_join_213 rfl ?_
  exact after true _ _ rfl rfl ⟨fun _ => by rw [hB]; exact ⟨k5, k6, by rw [kc]; exact beq_self_eq_true _, ka, kb⟩, fun _ => rfl⟩
end MSpl2
