/-! forth (mode 0), and the step under way taken anew -/
abbrev M_Model_takeUnderWay : q_M := (⟨"LensPathsModel", "takeUnderWay", "()V"⟩, prog_14_method_46_code, 2, none, "LensPathsModel", [], false, 5, 136)
theorem d_Model_takeUnderWay_0 : decode prog_14_method_46_code 0 = .ok (.aload_n 0, 1) := by decide +kernel
theorem d_Model_takeUnderWay_1 : decode prog_14_method_46_code 1 = .ok (.iconst 0, 1) := by decide +kernel
theorem d_Model_takeUnderWay_2 : decode prog_14_method_46_code 2 = .ok (.putfield 118, 3) := by decide +kernel
theorem d_Model_takeUnderWay_5 : decode prog_14_method_46_code 5 = .ok (.aload_n 0, 1) := by decide +kernel
theorem d_Model_takeUnderWay_6 : decode prog_14_method_46_code 6 = .ok (.aload_n 0, 1) := by decide +kernel
theorem d_Model_takeUnderWay_7 : decode prog_14_method_46_code 7 = .ok (.getfield 29, 3) := by decide +kernel
theorem d_Model_takeUnderWay_10 : decode prog_14_method_46_code 10 = .ok (.aload_n 0, 1) := by decide +kernel
theorem d_Model_takeUnderWay_11 : decode prog_14_method_46_code 11 = .ok (.getfield 260, 3) := by decide +kernel
theorem d_Model_takeUnderWay_14 : decode prog_14_method_46_code 14 = .ok (.iaload, 1) := by decide +kernel
theorem d_Model_takeUnderWay_15 : decode prog_14_method_46_code 15 = .ok (.invokevirtual 237, 3) := by decide +kernel
theorem d_Model_takeUnderWay_18 : decode prog_14_method_46_code 18 = .ok (.iconst 0, 1) := by decide +kernel
theorem d_Model_takeUnderWay_19 : decode prog_14_method_46_code 19 = .ok (.istore_n 1, 1) := by decide +kernel
theorem d_Model_takeUnderWay_20 : decode prog_14_method_46_code 20 = .ok (.iload_n 1, 1) := by decide +kernel
theorem d_Model_takeUnderWay_21 : decode prog_14_method_46_code 21 = .ok (.aload_n 0, 1) := by decide +kernel
theorem d_Model_takeUnderWay_22 : decode prog_14_method_46_code 22 = .ok (.getfield 35, 3) := by decide +kernel
theorem d_Model_takeUnderWay_25 : decode prog_14_method_46_code 25 = .ok (.aload_n 0, 1) := by decide +kernel
theorem d_Model_takeUnderWay_26 : decode prog_14_method_46_code 26 = .ok (.getfield 260, 3) := by decide +kernel
theorem d_Model_takeUnderWay_29 : decode prog_14_method_46_code 29 = .ok (.iaload, 1) := by decide +kernel
theorem d_Model_takeUnderWay_30 : decode prog_14_method_46_code 30 = .ok (.if_icmp .ge 18, 3) := by decide +kernel
theorem d_Model_takeUnderWay_33 : decode prog_14_method_46_code 33 = .ok (.aload_n 0, 1) := by decide +kernel
theorem d_Model_takeUnderWay_34 : decode prog_14_method_46_code 34 = .ok (.aload_n 0, 1) := by decide +kernel
theorem d_Model_takeUnderWay_35 : decode prog_14_method_46_code 35 = .ok (.getfield 260, 3) := by decide +kernel
theorem d_Model_takeUnderWay_38 : decode prog_14_method_46_code 38 = .ok (.iload_n 1, 1) := by decide +kernel
theorem d_Model_takeUnderWay_39 : decode prog_14_method_46_code 39 = .ok (.invokevirtual 263, 3) := by decide +kernel
theorem d_Model_takeUnderWay_42 : decode prog_14_method_46_code 42 = .ok (.iinc 1 1, 3) := by decide +kernel
theorem d_Model_takeUnderWay_45 : decode prog_14_method_46_code 45 = .ok (.goto (-25), 3) := by decide +kernel
theorem d_Model_takeUnderWay_48 : decode prog_14_method_46_code 48 = .ok (.return_, 1) := by decide +kernel
section Under
variable {g : q_G} {sz m : Nat} {T : q_T} {I : q_I} {R : q_R} {J : q_J} {S : KA}
set_option maxHeartbeats 2000000 in
theorem c_Model_forth0 {s i : Nat} {M : List KF} {p : KP} (hL : q_L 11 t_Model m T R) (hM : k_mw m M I) (hw : k_wfL M) (hc0 : k_can p M) (hmd : I m (nI 27) = nI 0) (hp : k_mp m (8 * (8 * s + i)) p I) (hs : s ≤ 16) (hi : i < 8) : q_Cv g M_Model_forth [.ref m, .int (nI s), .int (nI i)] (sz, T, I, R, J) 0 0 (fun h' => ∃ (I' : q_I) (M' : List KF), h' = (sz, T, I', R, J) ∧ m_wk m I I' ∧ k_mw m M' I' ∧ M'.Perm (k_fw p M)) := by
  obtain ⟨q, hq⟩ : ∃ q, q = 8 * (8 * s + i) := ⟨_, rfl⟩
  rw [← hq] at hp
  have hpp := hp
  obtain ⟨p0, p1, p2, p3, p5, p6, p7⟩ := hp
  have hcc := hc0
  obtain ⟨⟨a1, a0⟩, a2, a3, a4, a5, a6, a7, a8, a9, a10, a11, a12⟩ := hc0
  have hok := hw.2.1
  have hdi := hw.2.2.1
  have h24 := hw.1
  refine q_C.of (ls0 := [some (.ref m), some (.int (nI s)), some (.int (nI i)), none, none, none, none, none, none, none]) (by decide) rfl (by decide) (Nat.le_of_ble_eq_true rfl) rfl ?_
  refine q_aload_n d_Model_forth_0 rfl rfl ?_
  refine q_iload_n d_Model_forth_1 rfl rfl ?_
  refine q_iload_n d_Model_forth_2 rfl rfl ?_
  refine q_callVi (M2 := M_Model_at) d_Model_forth_3 ⟨(Nat.le_of_ble_eq_true rfl), (Nat.le_of_ble_eq_true rfl), w_1297, w_10, ⟨by decide, by decide⟩, show _ = some 2 by decide +kernel⟩ w_1294 w_1296 (ci := 11) rfl s_58 hL.1 rfl (Nat.le_of_ble_eq_true rfl) (by omega) (by omega) (c_Model_at) ?_
  rintro _ _ ⟨rfl, rfl⟩
  rw [← hq]
  refine q_istore_n d_Model_forth_6 rfl (Nat.le_of_ble_eq_true rfl) (by first | exact q_ok0 | exact q_okI rfl | exact q_okR rfl | exact q_okN rfl) rfl ?_
  refine q_aload_n d_Model_forth_7 rfl rfl ?_
  refine q_getR (ci := 11) (fk := 12) d_Model_forth_8 rfl (Nat.le_of_ble_eq_true rfl) w_1116 (fun _ _ => rfl) hL.1 (hL.2 12 _ _ _ rfl).1 ?_
  refine q_iload_n d_Model_forth_11 rfl rfl ?_
  refine q_iald d_Model_forth_12 (hL.2 12 _ _ _ rfl).2 (by first | assumption | exact vp_in_nI (by omega) (by omega)) ?_
  rw [p0]
  refine q_istore d_Model_forth_13 (Nat.le_of_ble_eq_true rfl) (by first | exact q_ok0 | exact q_okI rfl | exact q_okR rfl | exact q_okN rfl) rfl ?_
  refine q_aload_n d_Model_forth_15 rfl rfl ?_
  refine q_getR (ci := 11) (fk := 12) d_Model_forth_16 rfl (Nat.le_of_ble_eq_true rfl) w_1116 (fun _ _ => rfl) hL.1 (hL.2 12 _ _ _ rfl).1 ?_
  refine q_iload_n d_Model_forth_19 rfl rfl ?_
  refine q_iconst (v := nI 1) d_Model_forth_20 (by decide) ?_
  first | refine q_iaddN d_Model_forth_21 ?_ | refine q_iadd d_Model_forth_21 ?_
  refine q_iald d_Model_forth_22 (hL.2 12 _ _ _ rfl).2 (by first | assumption | exact vp_in_nI (by omega) (by omega)) ?_
  rw [p1]
  refine q_istore d_Model_forth_23 (Nat.le_of_ble_eq_true rfl) (by first | exact q_ok0 | exact q_okI rfl | exact q_okR rfl | exact q_okN rfl) rfl ?_
  refine q_aload_n d_Model_forth_25 rfl rfl ?_
  refine q_getR (ci := 11) (fk := 12) d_Model_forth_26 rfl (Nat.le_of_ble_eq_true rfl) w_1116 (fun _ _ => rfl) hL.1 (hL.2 12 _ _ _ rfl).1 ?_
  refine q_iload_n d_Model_forth_29 rfl rfl ?_
  refine q_iconst (v := nI 2) d_Model_forth_30 (by decide) ?_
  first | refine q_iaddN d_Model_forth_31 ?_ | refine q_iadd d_Model_forth_31 ?_
  refine q_iald d_Model_forth_32 (hL.2 12 _ _ _ rfl).2 (by first | assumption | exact vp_in_nI (by omega) (by omega)) ?_
  rw [p2]
  refine q_istore d_Model_forth_33 (Nat.le_of_ble_eq_true rfl) (by first | exact q_ok0 | exact q_okI rfl | exact q_okR rfl | exact q_okN rfl) rfl ?_
  refine q_aload_n d_Model_forth_35 rfl rfl ?_
  refine q_getR (ci := 11) (fk := 12) d_Model_forth_36 rfl (Nat.le_of_ble_eq_true rfl) w_1116 (fun _ _ => rfl) hL.1 (hL.2 12 _ _ _ rfl).1 ?_
  refine q_iload_n d_Model_forth_39 rfl rfl ?_
  refine q_iconst (v := nI 3) d_Model_forth_40 (by decide) ?_
  first | refine q_iaddN d_Model_forth_41 ?_ | refine q_iadd d_Model_forth_41 ?_
  refine q_iald d_Model_forth_42 (hL.2 12 _ _ _ rfl).2 (by first | assumption | exact vp_in_nI (by omega) (by omega)) ?_
  rw [p3]
  refine q_istore d_Model_forth_43 (Nat.le_of_ble_eq_true rfl) (by first | exact q_ok0 | exact q_okI rfl | exact q_okR rfl | exact q_okN rfl) rfl ?_
  refine q_bipush (v := nI 8) d_Model_forth_45 (by decide) ?_
  refine q_iload_n d_Model_forth_47 rfl rfl ?_
  first | refine q_imulN d_Model_forth_48 ?_ | refine q_imul d_Model_forth_48 ?_
  refine q_iload_n d_Model_forth_49 rfl rfl ?_
  first | refine q_iaddN d_Model_forth_50 ?_ | refine q_iadd d_Model_forth_50 ?_
  refine q_istore d_Model_forth_51 (Nat.le_of_ble_eq_true rfl) (by first | exact q_ok0 | exact q_okI rfl | exact q_okR rfl | exact q_okN rfl) rfl ?_
  refine q_aload_n d_Model_forth_53 rfl rfl ?_
  refine q_iload d_Model_forth_54 rfl ?_
  refine q_callVi (M2 := M_Model_find) d_Model_forth_56 ⟨(Nat.le_of_ble_eq_true rfl), (Nat.le_of_ble_eq_true rfl), w_1266, w_10, ⟨by decide, by decide⟩, show _ = some 1 by decide +kernel⟩ w_1263 w_1265 (ci := 11) rfl s_53 hL.1 rfl (Nat.le_of_ble_eq_true rfl) (by omega) (by omega) (c_Model_findF hL hM hok _) ?_
  rintro _ _ ⟨rfl, rfl⟩
  rw [k_of_path a1, show k_fo M (some p.nm) = k_fi M p.nm from rfl]
  have kt : (nI p.kind).toInt = p.kind := nI_toInt (by omega)
  have idx : p.kind ≠ 1 → ∃ k, M[k]? = some p.f ∧ k_fi M p.nm = some k ∧ k < M.length := fun hk => by
    obtain ⟨k, hk2⟩ := List.mem_iff_getElem?.mp (a4 hk)
    exact ⟨k, hk2, k_fi_at hdi hk2, (List.getElem?_eq_some_iff.mp hk2).1⟩
  refine q_istore d_Model_forth_59 (Nat.le_of_ble_eq_true rfl) (by first | exact q_ok0 | exact q_okI rfl | exact q_okR rfl | exact q_okN rfl) rfl ?_
  refine q_iload d_Model_forth_61 rfl ?_
  rcases (by omega : p.kind = 0 ∨ p.kind = 1 ∨ p.kind = 2 ∨ p.kind = 3 ∨ p.kind = 4 ∨ p.kind = 5 ∨ p.kind = 6 ∨ p.kind = 7 ∨ p.kind = 8) with hk | hk | hk | hk | hk | hk | hk | hk | hk
  · -- rename
    obtain ⟨b1, b2, b3, b4, b5⟩ := k_tg_ok hcc (Or.inl hk)
    have htg := k_tg_bsd hk
    have hna := (a5 hk).1
    obtain ⟨n, n1, hn⟩ := nI_of (Int32.not_lt.mpr hna.1)
    rw [hk] at kt ⊢
    refine q_tableIn (tgt := 104) (off := 41) d_Model_forth_63 (by omega) (by omega) (by rw [kt]; rfl) (by omega) ?_
    refine q_aload_n d_Model_forth_104 rfl rfl ?_
    refine q_iload d_Model_forth_105 rfl ?_
    refine q_aload_n d_Model_forth_107 rfl rfl ?_
    refine q_iload d_Model_forth_108 rfl ?_
    refine q_iload d_Model_forth_110 rfl ?_
    refine q_iload d_Model_forth_112 rfl ?_
    rw [hn]
    refine q_callVi (M2 := M_Model_pathBehind) d_Model_forth_114 ⟨(Nat.le_of_ble_eq_true rfl), (Nat.le_of_ble_eq_true rfl), w_1301, w_10, ⟨by decide, by decide⟩, show _ = some 3 by decide +kernel⟩ w_1298 w_1300 (ci := 11) rfl s_59 hL.1 rfl (Nat.le_of_ble_eq_true rfl) (by omega) (by omega) (c_Model_pathBehind0 a1 a0) ?_
    rintro _ _ ⟨rfl, rfl⟩
    have e9 : p.nm.dropLast ++ [n + 1] = k_tg p := by rw [htg, hn, nI_clamp n1]
    rw [e9]
    refine q_callVv (M2 := M_Model_move) d_Model_forth_117 ⟨(Nat.le_of_ble_eq_true rfl), (Nat.le_of_ble_eq_true rfl), w_1311, w_10, ⟨by decide, by decide⟩, show _ = some 2 by decide +kernel⟩ w_1308 w_1310 (ci := 11) rfl s_60 hL.1 rfl (Nat.le_of_ble_eq_true rfl) (by omega) (by omega) (c_Model_move hL hM hok a1 b1 (fun f hf => k_mn_ok b1 (hok f hf).1 b3)) ?_
    rintro _ ⟨I1, rfl, i1, i2⟩
    refine q_goto (tgt := 308) d_Model_forth_120 rfl ?_
    refine q_vret d_Model_forth_308 rfl (by omega) (by omega) ?_
    refine ⟨rfl, I1, _, rfl, ⟨fun b c1 c2 => i1 b (by omega), fun j hj => by rw [i1 m (by omega)]⟩, i2, ?_⟩
    unfold k_fw
    rw [hk]
    exact List.Perm.refl _
  · -- add
    rw [hk] at kt ⊢
    refine q_tableIn (tgt := 123) (off := 60) d_Model_forth_63 (by omega) (by omega) (by rw [kt]; rfl) (by omega) ?_
    refine q_aload_n d_Model_forth_123 rfl rfl ?_
    refine q_iload_n d_Model_forth_124 rfl rfl ?_
    refine q_iload d_Model_forth_125 rfl ?_
    refine q_callVv (M2 := M_Model_arrive) d_Model_forth_127 ⟨(Nat.le_of_ble_eq_true rfl), (Nat.le_of_ble_eq_true rfl), w_1318, w_10, ⟨by decide, by decide⟩, show _ = some 2 by decide +kernel⟩ w_1315 w_1317 (ci := 11) rfl s_61 hL.1 rfl (Nat.le_of_ble_eq_true rfl) (by omega) (by omega) (c_Model_arrive0 hL hM (by omega) hmd hpp (by omega)) ?_
    rintro _ ⟨I1, rfl, i1, i2⟩
    refine q_goto (tgt := 308) d_Model_forth_130 rfl ?_
    refine q_vret d_Model_forth_308 rfl (by omega) (by omega) ?_
    refine ⟨rfl, I1, _, rfl, i1, i2, ?_⟩
    unfold k_fw
    rw [hk]
    exact List.Perm.refl _
  · -- remove
    rw [hk] at kt ⊢
    refine q_tableIn (tgt := 133) (off := 70) d_Model_forth_63 (by omega) (by omega) (by rw [kt]; rfl) (by omega) ?_
    refine q_aload_n d_Model_forth_133 rfl rfl ?_
    refine q_iload d_Model_forth_134 rfl ?_
    refine q_iload d_Model_forth_136 rfl ?_
    refine q_callVv (M2 := M_Model_depart) d_Model_forth_138 ⟨(Nat.le_of_ble_eq_true rfl), (Nat.le_of_ble_eq_true rfl), w_1325, w_10, ⟨by decide, by decide⟩, show _ = some 2 by decide +kernel⟩ w_1322 w_1324 (ci := 11) rfl s_62 hL.1 rfl (Nat.le_of_ble_eq_true rfl) (by omega) (by omega) (c_Model_depart0 (f := p.f) hL hM hok hdi hmd (a4 (by omega))) ?_
    rintro _ ⟨I1, M1, rfl, i1, i2, i3⟩
    refine q_goto (tgt := 308) d_Model_forth_141 rfl ?_
    refine q_vret d_Model_forth_308 rfl (by omega) (by omega) ?_
    refine ⟨rfl, I1, M1, rfl, i1, i2, ?_⟩
    unfold k_fw
    rw [hk]
    exact i3
  · -- wrap
    obtain ⟨k, k1, k2, k3⟩ := idx (by omega)
    obtain ⟨w1, w2, w3, w4⟩ := hM.2.2 k p.f k1
    rw [k2, show p_idx (some k) = nI k from rfl]
    rw [hk] at kt ⊢
    refine q_tableIn (tgt := 144) (off := 81) d_Model_forth_63 (by omega) (by omega) (by rw [kt]; rfl) (by omega) ?_
    refine q_aload_n d_Model_forth_144 rfl rfl ?_
    refine q_getR (ci := 11) (fk := 20) d_Model_forth_145 rfl (Nat.le_of_ble_eq_true rfl) w_1124 (fun _ _ => rfl) hL.1 (hL.2 20 _ _ _ rfl).1 ?_
    refine q_iload d_Model_forth_148 rfl ?_
    refine q_iconst (v := nI 1) d_Model_forth_150 (by decide) ?_
    refine q_iast d_Model_forth_151 (hL.2 20 _ _ _ rfl).2 (by first | assumption | exact vp_in_nI (by omega) (by omega)) ?_
    refine q_aload_n d_Model_forth_152 rfl rfl ?_
    refine q_getI (ci := 11) (fk := 27) d_Model_forth_153 rfl (Nat.le_of_ble_eq_true rfl) w_1131 (fun _ _ => rfl) hL.1 ?_
    rw [q_upI_nea (by omega), hmd]
    refine q_iconst (v := nI 1) d_Model_forth_156 (by decide) ?_
    refine q_icmp_ne (tgt := 168) d_Model_forth_157 rfl (fun hc => ?_) (fun hc => ?_)
    rotate_left
    · exact absurd hc (by decide)
    refine q_aload_n d_Model_forth_168 rfl rfl ?_
    refine q_getR (ci := 11) (fk := 24) d_Model_forth_169 rfl (Nat.le_of_ble_eq_true rfl) w_1128 (fun _ _ => rfl) hL.1 (hL.2 24 _ _ _ rfl).1 ?_
    refine q_iload d_Model_forth_172 rfl ?_
    refine q_aload_n d_Model_forth_174 rfl rfl ?_
    refine q_getI (ci := 11) (fk := 27) d_Model_forth_175 rfl (Nat.le_of_ble_eq_true rfl) w_1131 (fun _ _ => rfl) hL.1 ?_
    rw [q_upI_nea (by omega), hmd]
    refine q_iconst (v := nI 2) d_Model_forth_178 (by decide) ?_
    refine q_icmp_ne (tgt := 201) d_Model_forth_179 rfl (fun hc => ?_) (fun hc => ?_)
    rotate_left
    · exact absurd hc (by decide)
    refine q_iconst (v := nI 0) d_Model_forth_201 (by decide) ?_
    refine q_iast d_Model_forth_202 (hL.2 24 _ _ _ rfl).2 (by first | assumption | exact vp_in_nI (by omega) (by omega)) ?_
    refine q_goto (tgt := 308) d_Model_forth_203 rfl ?_
    refine q_vret d_Model_forth_308 rfl (by omega) (by omega) ?_
    have o1 : ∀ b, b ≠ m + 15 → b ≠ m + 19 → q_upI (q_upI I (m + 15) (nI k) (nI 1)) (m + 19) (nI k) (nI 0) b = I b := fun b b1 b2 => by funext j; rw [q_upI_nea b2, q_upI_nea b1]
    refine ⟨rfl, _, M.set k (p.nm, 1, p.f.2.2), rfl, ⟨fun b c1 c2 => o1 b (by omega) (by omega), fun j hj => by rw [o1 m (by omega) (by omega)]⟩, hM.set k1 (by rw [o1 m (by omega) (by omega)]) ⟨by rw [o1 (m + 14) (by omega) (by omega)]; exact w1, by rw [q_upI_nea (by omega), q_upI_self]; rfl, by rw [o1 (m + 16) (by omega) (by omega)]; exact w3, by rw [o1 (m + 17) (by omega) (by omega)]; exact w4⟩ (fun j i j1 j2 hi hik => by rw [q_upI_nk (by omega), q_upI_nk (by omega)]), ?_⟩
    unfold k_fw
    rw [hk]
    have := k_at_set hdi k1 (fun f => (f.1, 1, f.2.2))
    show (M.set k (p.nm, 1, p.f.2.2)).Perm (M.map (k_at p.nm (fun f => (f.1, 1, f.2.2))))
    rw [show p.nm = p.f.1 from rfl, this]
  · -- lift
    obtain ⟨b1, b2, b3, b4, b5⟩ := k_tg_ok hcc (Or.inr hk)
    have htg := k_tg_lif hk a0
    rw [hk] at kt ⊢
    refine q_tableIn (tgt := 104) (off := 41) d_Model_forth_63 (by omega) (by omega) (by rw [kt]; rfl) (by omega) ?_
    refine q_aload_n d_Model_forth_104 rfl rfl ?_
    refine q_iload d_Model_forth_105 rfl ?_
    refine q_aload_n d_Model_forth_107 rfl rfl ?_
    refine q_iload d_Model_forth_108 rfl ?_
    refine q_iload d_Model_forth_110 rfl ?_
    refine q_iload d_Model_forth_112 rfl ?_
    refine q_callVi (M2 := M_Model_pathBehind) d_Model_forth_114 ⟨(Nat.le_of_ble_eq_true rfl), (Nat.le_of_ble_eq_true rfl), w_1301, w_10, ⟨by decide, by decide⟩, show _ = some 3 by decide +kernel⟩ w_1298 w_1300 (ci := 11) rfl s_59 hL.1 rfl (Nat.le_of_ble_eq_true rfl) (by omega) (by omega) (c_Model_pathBehind4 a1 (a8 hk).1) ?_
    rintro _ _ ⟨rfl, rfl⟩
    have e9 : k_lif p.nm = k_tg p := by rw [htg, k_lif_eq a0]
    rw [e9]
    refine q_callVv (M2 := M_Model_move) d_Model_forth_117 ⟨(Nat.le_of_ble_eq_true rfl), (Nat.le_of_ble_eq_true rfl), w_1311, w_10, ⟨by decide, by decide⟩, show _ = some 2 by decide +kernel⟩ w_1308 w_1310 (ci := 11) rfl s_60 hL.1 rfl (Nat.le_of_ble_eq_true rfl) (by omega) (by omega) (c_Model_move hL hM hok a1 b1 (fun f hf => k_mn_ok b1 (hok f hf).1 b3)) ?_
    rintro _ ⟨I1, rfl, i1, i2⟩
    refine q_goto (tgt := 308) d_Model_forth_120 rfl ?_
    refine q_vret d_Model_forth_308 rfl (by omega) (by omega) ?_
    refine ⟨rfl, I1, _, rfl, ⟨fun b c1 c2 => i1 b (by omega), fun j hj => by rw [i1 m (by omega)]⟩, i2, ?_⟩
    unfold k_fw
    rw [hk]
    exact List.Perm.refl _
  · -- split
    obtain ⟨k, k1, k2, k3⟩ := idx (by omega)
    obtain ⟨q1, ⟨q2, q3⟩, q4, q5, q6, q7⟩ := a9 hk
    obtain ⟨n, n1, hn⟩ := nI_of (Int32.not_lt.mpr q4.1)
    rw [k2, show p_idx (some k) = nI k from rfl]
    rw [hk] at kt ⊢
    refine q_tableIn (tgt := 206) (off := 143) d_Model_forth_63 (by omega) (by omega) (by rw [kt]; rfl) (by omega) ?_
    refine q_aload_n d_Model_forth_206 rfl rfl ?_
    refine q_iload d_Model_forth_207 rfl ?_
    refine q_iload d_Model_forth_209 rfl ?_
    refine q_iload d_Model_forth_211 rfl ?_
    refine q_iload d_Model_forth_213 rfl ?_
    rw [hn]
    refine q_callVv (M2 := M_Model_split) d_Model_forth_215 ⟨(Nat.le_of_ble_eq_true rfl), (Nat.le_of_ble_eq_true rfl), w_1341, w_10, ⟨by decide, by decide⟩, show _ = some 4 by decide +kernel⟩ w_1338 w_1340 (ci := 11) rfl s_66 hL.1 rfl (Nat.le_of_ble_eq_true rfl) (by omega) (by omega) (c_Model_split0 (sl := p.rs) (f := p.f) hL hM ⟨a1, a0⟩ (by omega) hmd k1 q2) ?_
    rintro _ ⟨I1, rfl, i1, i2⟩
    refine q_goto (tgt := 308) d_Model_forth_218 rfl ?_
    refine q_vret d_Model_forth_308 rfl (by omega) (by omega) ?_
    refine ⟨rfl, I1, _, rfl, i1, i2, ?_⟩
    unfold k_fw
    rw [hk]
    have := k_at_set hdi k1 (fun f => (f.1, f.2.1, z_div f.2.2.1 p.a, z_div f.2.2.2.1 p.a, f.2.2.2.2))
    show (M.set k _ ++ [_]).Perm (M.map (k_at p.nm (fun f => (f.1, f.2.1, z_div f.2.2.1 p.a, z_div f.2.2.2.1 p.a, f.2.2.2.2))) ++ [(k_bsd p.nm p.b, 0, 0, p.a - 1, p.rs)])
    rw [show p.nm = p.f.1 from rfl, this, show k_bsd p.f.1 p.b = p.f.1.dropLast ++ [n + 1] by unfold k_bsd; rw [hn, nI_clamp n1]]
  · -- scale
    obtain ⟨k, k1, k2, k3⟩ := idx (by omega)
    obtain ⟨w1, w2, w3, w4⟩ := hM.2.2 k p.f k1
    obtain ⟨q1, q2, ⟨q3, q4⟩, q5, q6⟩ := a10 hk
    obtain ⟨-, x1, hnz⟩ := z_flrs (x := p.lo) q2 q3
    obtain ⟨-, x2, -⟩ := z_flrs (x := p.hi) q2 q3
    rw [k2, show p_idx (some k) = nI k from rfl]
    rw [hk] at kt ⊢
    refine q_tableIn (tgt := 221) (off := 158) d_Model_forth_63 (by omega) (by omega) (by rw [kt]; rfl) (by omega) ?_
    refine q_aload_n d_Model_forth_221 rfl rfl ?_
    refine q_iload d_Model_forth_222 rfl ?_
    refine q_iload d_Model_forth_224 rfl ?_
    refine q_iload d_Model_forth_226 rfl ?_
    refine q_iload d_Model_forth_228 rfl ?_
    refine q_iconst (v := nI 1) d_Model_forth_230 (by decide) ?_
    refine q_iload d_Model_forth_231 rfl ?_
    refine q_iload_n d_Model_forth_233 rfl rfl ?_
    refine q_callVv (M2 := M_Model_change) d_Model_forth_234 ⟨(Nat.le_of_ble_eq_true rfl), (Nat.le_of_ble_eq_true rfl), w_1359, w_10, ⟨by decide, by decide⟩, show _ = some 7 by decide +kernel⟩ w_1356 w_1358 (ci := 11) rfl s_69 hL.1 rfl (Nat.le_of_ble_eq_true rfl) (by omega) (by omega) (c_Model_change0 hL hmd) ?_
    rintro _ rfl
    refine q_aload_n d_Model_forth_237 rfl rfl ?_
    refine q_getR (ci := 11) (fk := 21) d_Model_forth_238 rfl (Nat.le_of_ble_eq_true rfl) w_1125 (fun _ _ => rfl) hL.1 (hL.2 21 _ _ _ rfl).1 ?_
    refine q_iload d_Model_forth_241 rfl ?_
    refine q_iload d_Model_forth_243 rfl ?_
    refine q_i2l d_Model_forth_245 rfl ?_
    refine q_aload_n d_Model_forth_246 rfl rfl ?_
    refine q_getR (ci := 11) (fk := 21) d_Model_forth_247 rfl (Nat.le_of_ble_eq_true rfl) w_1125 (fun _ _ => rfl) hL.1 (hL.2 21 _ _ _ rfl).1 ?_
    refine q_iload d_Model_forth_250 rfl ?_
    refine q_iald d_Model_forth_252 (hL.2 21 _ _ _ rfl).2 (by first | assumption | exact vp_in_nI (by omega) (by omega)) ?_
    rw [w3]
    refine q_i2l d_Model_forth_253 rfl ?_
    refine q_lmul d_Model_forth_254 ?_
    refine q_iload d_Model_forth_255 rfl ?_
    refine q_i2l d_Model_forth_257 rfl ?_
    refine q_callSl (M2 := M_Model_floor) d_Model_forth_258 ⟨(Nat.le_of_ble_eq_true rfl), (Nat.le_of_ble_eq_true rfl), w_1344, w_10, ⟨by decide, by decide⟩, show _ = some 2 by decide +kernel⟩ w_1342 w_1343 rfl (Nat.le_of_ble_eq_true rfl) (by omega) (by omega) (c_Model_floor hnz) ?_
    rintro _ _ ⟨rfl, rfl⟩
    refine q_l2i d_Model_forth_261 rfl ?_
    rw [show (k_flr (p.a.toInt64 * p.f.2.2.1.toInt64) p.b.toInt64).toInt32 = z_scf p.a p.b p.lo from x1]
    refine q_iast d_Model_forth_262 (hL.2 21 _ _ _ rfl).2 (by first | assumption | exact vp_in_nI (by omega) (by omega)) ?_
    refine q_aload_n d_Model_forth_263 rfl rfl ?_
    refine q_getR (ci := 11) (fk := 22) d_Model_forth_264 rfl (Nat.le_of_ble_eq_true rfl) w_1126 (fun _ _ => rfl) hL.1 (hL.2 22 _ _ _ rfl).1 ?_
    refine q_iload d_Model_forth_267 rfl ?_
    refine q_iload d_Model_forth_269 rfl ?_
    refine q_i2l d_Model_forth_271 rfl ?_
    refine q_aload_n d_Model_forth_272 rfl rfl ?_
    refine q_getR (ci := 11) (fk := 22) d_Model_forth_273 rfl (Nat.le_of_ble_eq_true rfl) w_1126 (fun _ _ => rfl) hL.1 (hL.2 22 _ _ _ rfl).1 ?_
    refine q_iload d_Model_forth_276 rfl ?_
    refine q_iald d_Model_forth_278 (hL.2 22 _ _ _ rfl).2 (by first | assumption | exact vp_in_nI (by omega) (by omega)) ?_
    rw [q_upI_nea (by omega), w4]
    refine q_i2l d_Model_forth_279 rfl ?_
    refine q_lmul d_Model_forth_280 ?_
    refine q_iload d_Model_forth_281 rfl ?_
    refine q_i2l d_Model_forth_283 rfl ?_
    refine q_callSl (M2 := M_Model_floor) d_Model_forth_284 ⟨(Nat.le_of_ble_eq_true rfl), (Nat.le_of_ble_eq_true rfl), w_1344, w_10, ⟨by decide, by decide⟩, show _ = some 2 by decide +kernel⟩ w_1342 w_1343 rfl (Nat.le_of_ble_eq_true rfl) (by omega) (by omega) (c_Model_floor hnz) ?_
    rintro _ _ ⟨rfl, rfl⟩
    refine q_l2i d_Model_forth_287 rfl ?_
    rw [show (k_flr (p.a.toInt64 * p.f.2.2.2.1.toInt64) p.b.toInt64).toInt32 = z_scf p.a p.b p.hi from x2]
    refine q_iast d_Model_forth_288 (hL.2 22 _ _ _ rfl).2 (by first | assumption | exact vp_in_nI (by omega) (by omega)) ?_
    refine q_goto (tgt := 308) d_Model_forth_289 rfl ?_
    refine q_vret d_Model_forth_308 rfl (by omega) (by omega) ?_
    have o1 : ∀ b, b ≠ m + 16 → b ≠ m + 17 → q_upI (q_upI I (m + 16) (nI k) (z_scf p.a p.b p.lo)) (m + 17) (nI k) (z_scf p.a p.b p.hi) b = I b := fun b b1 b2 => by funext j; rw [q_upI_nea b2, q_upI_nea b1]
    refine ⟨rfl, _, M.set k (p.nm, p.so, z_scf p.a p.b p.lo, z_scf p.a p.b p.hi, p.sl), rfl, ⟨fun b c1 c2 => o1 b (by omega) (by omega), fun j hj => by rw [o1 m (by omega) (by omega)]⟩, hM.set k1 (by rw [o1 m (by omega) (by omega)]) ⟨by rw [o1 (m + 14) (by omega) (by omega)]; exact w1, by rw [o1 (m + 15) (by omega) (by omega)]; exact w2, by rw [q_upI_nea (by omega), q_upI_self], by rw [q_upI_self]⟩ (fun j i j1 j2 hi hik => by rw [q_upI_nk (by omega), q_upI_nk (by omega)]), ?_⟩
    unfold k_fw
    rw [hk]
    have := k_at_set hdi k1 (fun f => (f.1, f.2.1, z_scf p.a p.b f.2.2.1, z_scf p.a p.b f.2.2.2.1, f.2.2.2.2))
    show (M.set k _).Perm (M.map (k_at p.nm (fun f => (f.1, f.2.1, z_scf p.a p.b f.2.2.1, z_scf p.a p.b f.2.2.2.1, f.2.2.2.2))))
    rw [show p.nm = p.f.1 from rfl, this]
  · -- map
    obtain ⟨k, k1, k2, k3⟩ := idx (by omega)
    rw [k2, show p_idx (some k) = nI k from rfl]
    rw [hk] at kt ⊢
    refine q_tableOut (tgt := 292) d_Model_forth_63 (Or.inr (by omega)) (by omega) ?_
    refine q_aload_n d_Model_forth_292 rfl rfl ?_
    refine q_iload d_Model_forth_293 rfl ?_
    refine q_iload d_Model_forth_295 rfl ?_
    refine q_iload d_Model_forth_297 rfl ?_
    refine q_iload d_Model_forth_299 rfl ?_
    refine q_iconst (v := nI 1) d_Model_forth_301 (by decide) ?_
    refine q_iload d_Model_forth_302 rfl ?_
    refine q_iload_n d_Model_forth_304 rfl rfl ?_
    refine q_callVv (M2 := M_Model_change) d_Model_forth_305 ⟨(Nat.le_of_ble_eq_true rfl), (Nat.le_of_ble_eq_true rfl), w_1359, w_10, ⟨by decide, by decide⟩, show _ = some 7 by decide +kernel⟩ w_1356 w_1358 (ci := 11) rfl s_69 hL.1 rfl (Nat.le_of_ble_eq_true rfl) (by omega) (by omega) (c_Model_change0 hL hmd) ?_
    rintro _ rfl
    refine q_vret d_Model_forth_308 rfl (by omega) (by omega) ?_
    refine ⟨rfl, I, M, rfl, m_wk.refl m I, hM, ?_⟩
    unfold k_fw
    rw [hk]
    exact List.Perm.refl _
  · -- sort
    obtain ⟨k, k1, k2, k3⟩ := idx (by omega)
    rw [k2, show p_idx (some k) = nI k from rfl]
    rw [hk] at kt ⊢
    refine q_tableOut (tgt := 292) d_Model_forth_63 (Or.inr (by omega)) (by omega) ?_
    refine q_aload_n d_Model_forth_292 rfl rfl ?_
    refine q_iload d_Model_forth_293 rfl ?_
    refine q_iload d_Model_forth_295 rfl ?_
    refine q_iload d_Model_forth_297 rfl ?_
    refine q_iload d_Model_forth_299 rfl ?_
    refine q_iconst (v := nI 1) d_Model_forth_301 (by decide) ?_
    refine q_iload d_Model_forth_302 rfl ?_
    refine q_iload_n d_Model_forth_304 rfl rfl ?_
    refine q_callVv (M2 := M_Model_change) d_Model_forth_305 ⟨(Nat.le_of_ble_eq_true rfl), (Nat.le_of_ble_eq_true rfl), w_1359, w_10, ⟨by decide, by decide⟩, show _ = some 7 by decide +kernel⟩ w_1356 w_1358 (ci := 11) rfl s_69 hL.1 rfl (Nat.le_of_ble_eq_true rfl) (by omega) (by omega) (c_Model_change0 hL hmd) ?_
    rintro _ rfl
    refine q_vret d_Model_forth_308 rfl (by omega) (by omega) ?_
    refine ⟨rfl, I, M, rfl, m_wk.refl m I, hM, ?_⟩
    unfold k_fw
    rw [hk]
    exact List.Perm.refl _
theorem k_mw.rs {L : List KF} (h : k_mw m L I) : k_mw m (k_rs 0 L) I := by
  refine ⟨by rw [k_rs_len]; exact h.1, by rw [k_rs_len]; exact h.2.1, fun i f hf => ?_⟩
  rw [k_rs_at] at hf
  cases hL : L[i]? with
  | none => rw [hL] at hf; cases hf
  | some e =>
    rw [hL] at hf
    cases hf
    exact h.2.2 i e hL
theorem k_chn_at : ∀ {ps : List KP} {D : List KF} {i : Nat} {p : KP}, k_chn D ps → ps[i]? = some p → k_can p (k_fws D (ps.take i)) ∧ k_fws D (ps.take (i + 1)) = k_fw p (k_fws D (ps.take i))
  | [], _, _, _, _, hp => by cases hp
  | q :: t, D, 0, p, h, hp => by
    have : q = p := by simpa using hp
    subst this
    exact ⟨h.1, rfl⟩
  | q :: t, D, i + 1, p, h, hp => k_chn_at (ps := t) (D := k_fw q D) (i := i) h.2 (by simpa using hp)
theorem k_chn_take : ∀ {ps : List KP} {D : List KF} (i : Nat), k_chn D ps → k_chn D (ps.take i)
  | [], _, i, _ => by rw [List.take_nil]; trivial
  | _ :: _, _, 0, _ => trivial
  | q :: t, D, i + 1, h => ⟨h.1, k_chn_take (ps := t) (D := k_fw q D) i h.2⟩
/-- what stays when only fields and mode are worked on -/
def m_w0 (m : Nat) (I I' : q_I) : Prop := m_ps m I I' ∧ I' m (nI 0) = I m (nI 0) ∧ I' m (nI 27) = nI 0
theorem c_Model_takeUnderWay (hw : wf S) (hM : relM S m T I R) (hop : S.op = true) : q_Cv g M_Model_takeUnderWay [.ref m] (sz, T, I, R, J) 0 0 (fun h' => ∃ (I' : q_I) (M' : List KF), h' = (sz, T, I', R, J) ∧ m_w0 m I I' ∧ k_mw m M' I' ∧ M'.Perm S.dD ∧ k_wfL M') := by
  have hL := hM.1
  obtain ⟨w1, w2, w3⟩ := hw.2.2.1 hop
  have hv8 := hw.1.2.1
  have hs16 := hw.2.1.1
  obtain ⟨L, hV⟩ : ∃ L, S.vs[S.df]? = some L := ⟨_, List.getElem?_eq_getElem w1⟩
  obtain ⟨c1, c2, c3, c4, c5⟩ := w3 L hV
  have hwf := hw.1.2.2 L (List.mem_of_getElem? hV)
  have hw0 := k_rs_wf hwf.1
  obtain ⟨d1, d2, d3⟩ := hM.2.2.1.2.2.2 hop
  have h8 := hM.2.2.1.1
  obtain ⟨I1, hI1⟩ : ∃ I1, I1 = q_upI I m (nI 27) (nI 0) := ⟨_, rfl⟩
  have hps : m_ps m I I1 := by rw [hI1]; exact m_ps.int (by decide) (by decide) (by decide) (by decide) (by decide)
  have hM1 := hM.ps hps
  have z1 : I1 m (nI 0) = I m (nI 0) := by rw [hI1, q_upI_nk (by omega)]
  have m1 : I1 m (nI 27) = nI 0 := by rw [hI1, q_upI_self]
  have loop : ∀ (j i : Nat) (I2 : q_I) (M : List KF) (mcc msc : Nat), mcc = 0 → msc = 0 → i + j = S.dp.length → m_wk m I1 I2 → k_mw m M I2 → M.Perm (k_fws (k_rs 0 L) (S.dp.take i)) → q_V g M_Model_takeUnderWay 0 0 mcc msc (sz, T, I2, R, J) (fun o h' => o = .inl none ∧ ∃ (I' : q_I) (M' : List KF), h' = (sz, T, I', R, J) ∧ m_w0 m I I' ∧ k_mw m M' I' ∧ M'.Perm S.dD ∧ k_wfL M') 20 [some (.ref m), some (.int (nI i))] [] := by
    intro j
    induction j with
    | zero =>
      intro i I2 M mcc msc e1 e2 hi p1 p2 p3
      subst e1 e2
      rw [List.take_of_length_le (by omega)] at p3
      have n8 : I2 m (nI 8) = nI S.ss.length := by rw [p1.2 _ (fun z => absurd (q_nI_inj z) (by decide)), hps.1.2.2.2.2.1]; exact h8
      have n88 : I2 (m + 8) = I (m + 8) := by rw [p1.1 (m + 8) (by omega) (by omega), hps.1.2.1 8 (by omega) (by omega)]
      refine q_iload_n d_Model_takeUnderWay_20 rfl rfl ?_
      refine q_aload_n d_Model_takeUnderWay_21 rfl rfl ?_
      refine q_getR (ci := 11) (fk := 11) d_Model_takeUnderWay_22 rfl (Nat.le_of_ble_eq_true rfl) w_1115 (fun _ _ => rfl) hL.1 (hL.2 11 _ _ _ rfl).1 ?_
      refine q_aload_n d_Model_takeUnderWay_25 rfl rfl ?_
      refine q_getI (ci := 11) (fk := 8) d_Model_takeUnderWay_26 rfl (Nat.le_of_ble_eq_true rfl) w_1112 (fun _ _ => rfl) hL.1 ?_
      rw [n8]
      refine q_iald d_Model_takeUnderWay_29 (hL.2 11 _ _ _ rfl).2 (by first | assumption | exact vp_in_nI (by omega) (by omega)) ?_
      rw [n88, d2]
      refine q_icmp_ge (tgt := 48) d_Model_takeUnderWay_30 rfl (fun hc => ?_) (fun hc => ?_)
      rotate_left
      · exact absurd (by rw [nI_leI (by omega) (by omega)]; omega) hc
      refine q_vret d_Model_takeUnderWay_48 rfl (by omega) (by omega) ?_
      refine ⟨rfl, I2, M, rfl, ⟨hps.trans p1.ps, ?_, ?_⟩, p2, p3.trans c4.symm, (k_chn_wf hw0 c1).perm p3⟩
      · rw [p1.2 _ (fun z => absurd (q_nI_inj z) (by decide))]; exact z1
      · rw [p1.2 _ (fun z => absurd (q_nI_inj z) (by decide))]; exact m1
    | succ j ih =>
      intro i I2 M mcc msc e1 e2 hi p1 p2 p3
      subst e1 e2
      obtain ⟨p, hp⟩ : ∃ p, S.dp[i]? = some p := ⟨_, List.getElem?_eq_getElem (by omega)⟩
      obtain ⟨k1, k2⟩ := k_chn_at c1 hp
      have hwM : k_wfL M := (k_chn_wf hw0 (k_chn_take i c1)).perm p3
      have n8 : I2 m (nI 8) = nI S.ss.length := by rw [p1.2 _ (fun z => absurd (q_nI_inj z) (by decide)), hps.1.2.2.2.2.1]; exact h8
      have n88 : I2 (m + 8) = I (m + 8) := by rw [p1.1 (m + 8) (by omega) (by omega), hps.1.2.1 8 (by omega) (by omega)]
      have n9 : I2 (m + 9) = I (m + 9) := by rw [p1.1 (m + 9) (by omega) (by omega), hps.1.2.1 9 (by omega) (by omega)]
      refine q_iload_n d_Model_takeUnderWay_20 rfl rfl ?_
      refine q_aload_n d_Model_takeUnderWay_21 rfl rfl ?_
      refine q_getR (ci := 11) (fk := 11) d_Model_takeUnderWay_22 rfl (Nat.le_of_ble_eq_true rfl) w_1115 (fun _ _ => rfl) hL.1 (hL.2 11 _ _ _ rfl).1 ?_
      refine q_aload_n d_Model_takeUnderWay_25 rfl rfl ?_
      refine q_getI (ci := 11) (fk := 8) d_Model_takeUnderWay_26 rfl (Nat.le_of_ble_eq_true rfl) w_1112 (fun _ _ => rfl) hL.1 ?_
      rw [n8]
      refine q_iald d_Model_takeUnderWay_29 (hL.2 11 _ _ _ rfl).2 (by first | assumption | exact vp_in_nI (by omega) (by omega)) ?_
      rw [n88, d2]
      refine q_icmp_ge (tgt := 48) d_Model_takeUnderWay_30 rfl (fun hc => ?_) (fun hc => ?_)
      · rw [nI_leI (by omega) (by omega)] at hc
        omega
      refine q_aload_n d_Model_takeUnderWay_33 rfl rfl ?_
      refine q_aload_n d_Model_takeUnderWay_34 rfl rfl ?_
      refine q_getI (ci := 11) (fk := 8) d_Model_takeUnderWay_35 rfl (Nat.le_of_ble_eq_true rfl) w_1112 (fun _ _ => rfl) hL.1 ?_
      rw [n8]
      refine q_iload_n d_Model_takeUnderWay_38 rfl rfl ?_
      refine q_callVv (M2 := M_Model_forth) d_Model_takeUnderWay_39 ⟨(Nat.le_of_ble_eq_true rfl), (Nat.le_of_ble_eq_true rfl), w_1293, w_10, ⟨by decide, by decide⟩, show _ = some 2 by decide +kernel⟩ w_1290 w_1292 (ci := 11) rfl s_57 hL.1 rfl (Nat.le_of_ble_eq_true rfl) (by omega) (by omega) (c_Model_forth0 hL p2 hwM (k1.perm p3) (by rw [p1.2 _ (fun z => absurd (q_nI_inj z) (by decide))]; exact m1) ((d3 i p hp).cong n9) hs16 (by omega)) ?_
      rintro _ ⟨I3, M3, rfl, q1, q2, q3⟩
      first | refine q_iincN d_Model_takeUnderWay_42 rfl (Nat.le_of_ble_eq_true rfl) (by first | exact q_ok0 | exact q_okI rfl | exact q_okR rfl | exact q_okN rfl) rfl ?_ | refine q_iinc d_Model_takeUnderWay_42 rfl rfl (Nat.le_of_ble_eq_true rfl) (by first | exact q_ok0 | exact q_okI rfl | exact q_okR rfl | exact q_okN rfl) rfl ?_
      refine q_goto (tgt := 20) d_Model_takeUnderWay_45 rfl ?_
      refine ih (i + 1) I3 M3 _ _ rfl rfl (by omega) (p1.trans q1) q2 ?_
      rw [k2]
      exact q3.trans (k_fw.perm p3)
  refine q_C.of (ls0 := [some (.ref m), none]) (by decide) rfl (by decide) (Nat.le_of_ble_eq_true rfl) rfl ?_
  refine q_aload_n d_Model_takeUnderWay_0 rfl rfl ?_
  refine q_iconst (v := nI 0) d_Model_takeUnderWay_1 (by decide) ?_
  refine q_putI (ci := 11) (fk := 27) d_Model_takeUnderWay_2 rfl (Nat.le_of_ble_eq_true rfl) w_1131 (Or.inl rfl) (fun _ _ => rfl) rfl rfl hL.1 ?_
  refine q_aload_n d_Model_takeUnderWay_5 rfl rfl ?_
  refine q_aload_n d_Model_takeUnderWay_6 rfl rfl ?_
  refine q_getR (ci := 11) (fk := 9) d_Model_takeUnderWay_7 rfl (Nat.le_of_ble_eq_true rfl) w_1113 (fun _ _ => rfl) hL.1 (hL.2 9 _ _ _ rfl).1 ?_
  refine q_aload_n d_Model_takeUnderWay_10 rfl rfl ?_
  refine q_getI (ci := 11) (fk := 8) d_Model_takeUnderWay_11 rfl (Nat.le_of_ble_eq_true rfl) w_1112 (fun _ _ => rfl) hL.1 ?_
  rw [q_upI_nk (by omega), h8]
  refine q_iald d_Model_takeUnderWay_14 (hL.2 9 _ _ _ rfl).2 (by first | assumption | exact vp_in_nI (by omega) (by omega)) ?_
  rw [q_upI_nea (by omega), d1, ← hI1]
  refine q_callVv (M2 := M_Model_take) d_Model_takeUnderWay_15 ⟨(Nat.le_of_ble_eq_true rfl), (Nat.le_of_ble_eq_true rfl), w_1233, w_10, ⟨by decide, by decide⟩, show _ = some 1 by decide +kernel⟩ w_1230 w_1232 (ci := 11) rfl s_47 hL.1 rfl (Nat.le_of_ble_eq_true rfl) (by omega) (by omega) (c_Model_take0 hL (hM1.vl hV) (by omega) hwf.1.1 (by rw [m1]; decide)) ?_
  rintro _ ⟨I2, rfl, k1, k2, -⟩
  refine q_iconst (v := nI 0) d_Model_takeUnderWay_18 (by decide) ?_
  refine q_istore_n d_Model_takeUnderWay_19 rfl (Nat.le_of_ble_eq_true rfl) (by first | exact q_ok0 | exact q_okI rfl | exact q_okR rfl | exact q_okN rfl) rfl ?_
  exact loop S.dp.length 0 I2 (k_rs 0 L) _ _ rfl rfl (by omega) k1 k2.rs (by rw [List.take_zero]; exact List.Perm.refl _)
end Under
