/-! clash, by the reference: one primitive forth and back, in mode 2 -/
section MForth2
variable {g : q_G} {sz m : Nat} {T : q_T} {I : q_I} {R : q_R} {J : q_J} {M D : List KF} {Z : KZ} {p : KP} {tb : List KT}
theorem m_zo.mono {n n' : Nat} {h' : q_H} (h : m_zo m M Z tb n sz T I R J h') (hn : n ≤ n') : m_zo m M Z tb n' sz T I R J h' := by
  obtain ⟨I', tb', a1, a2, a3, a4, a5⟩ := h
  exact ⟨I', tb', a1, a2, a3, a4, by omega⟩
theorem m_z.map {v : KF → KF} {I' : q_I} (h : m_z m M Z tb I) (hv : ∀ f, (v f).2 = f.2) (hM : k_mw m (M.map v) I') (ho : ∀ b, b ≠ m + 14 → I' b = I b) : m_z m (M.map v) Z tb I' := by
  obtain ⟨x1, x2, x3, x4⟩ := h
  refine ⟨hM, ?_, x3.cong (by rw [ho m (by omega)]) (ho _ (by omega)) (ho _ (by omega)), by rw [ho m (by omega)]; exact x4⟩
  have := x2.rho (v := v) (Z' := Z) (fun f _ => by rw [hv f]; exact ⟨rfl, rfl⟩)
  exact this.keep (z_ex.refl tb) (fun i _ => by rw [ho _ (by omega)])
theorem z_go_c {fw : Bool} (h6 : 6 ≤ p.kind) (h8 : p.kind ≤ 8) : z_go fw p Z = k_ud Z p.sl (z_ch fw p (Z p.sl)) := by
  rcases (by omega : p.kind = 6 ∨ p.kind = 7 ∨ p.kind = 8) with hk | hk | hk
  · rw [z_go_6 hk]
    unfold z_ch
    rw [if_pos hk]
    cases fw <;> rfl
  · have n6 : ¬ p.kind = 6 := by omega
    rw [z_go_7 hk]
    cases fw with
    | true =>
      have e : z_ch true p (Z p.sl) = z_mp p (Z p.sl) := by unfold z_ch; rw [if_neg n6, if_pos rfl, if_pos hk]
      rw [e]; rfl
    | false =>
      have e : z_ch false p (Z p.sl) = Z p.sl := by unfold z_ch; rw [if_neg n6, if_neg (show ¬ false = true by decide)]
      rw [e, k_ud_id]; rfl
  · have n6 : ¬ p.kind = 6 := by omega
    have n7 : ¬ p.kind = 7 := by omega
    rw [z_go_8 hk]
    cases fw with
    | true =>
      have e : z_ch true p (Z p.sl) = z_so (Z p.sl) := by unfold z_ch; rw [if_neg n6, if_pos rfl, if_neg n7]
      rw [e]; rfl
    | false =>
      have e : z_ch false p (Z p.sl) = Z p.sl := by unfold z_ch; rw [if_neg n6, if_neg (show ¬ false = true by decide)]
      rw [e, k_ud_id]; rfl
set_option maxHeartbeats 1000000 in
theorem c_Model_forth2 {s i : Nat} (hL : q_L 11 t_Model m T R) (h : m_z m M Z tb I) (hlen : tb.length + 3 ≤ 1024) (hw : k_wfL M) (hnd : k_nds M) (hc0 : k_can p M) (hp : k_mp m (8 * (8 * s + i)) p I) (hs : s < 16) (hi : i < 8) : q_Cv g M_Model_forth [.ref m, .int (nI s), .int (nI i)] (sz, T, I, R, J) 0 0 (fun h' => ∃ M' : List KF, M'.Perm (k_fw p M) ∧ m_zo m M' (z_go true p Z) tb 3 sz T I R J h') := by
  obtain ⟨q, hq⟩ : ∃ q, q = 8 * (8 * s + i) := ⟨_, rfl⟩
  rw [← hq] at hp
  obtain ⟨pl, hpl⟩ : ∃ pl, pl = 8 * s + i := ⟨_, rfl⟩
  rw [← hpl] at hq
  have hpl8 : pl < 128 := by omega
  have hpp := hp
  have hM := h.1
  obtain ⟨p0, p1, p2, p3, p5, p6, p7⟩ := hp
  have hcc := hc0
  obtain ⟨⟨a1, a0⟩, a2, a3, a4, a5, a6, a7, a8, a9, a10, a11, a12⟩ := hc0
  have hok := hw.2.1
  have hdi := hw.2.2.1
  have h24 := hw.1
  refine q_C.of (ls0 := [some (.ref m), some (.int (nI s)), some (.int (nI i)), none, none, none, none, none, none, none]) (by decide) rfl (by decide) (Nat.le_of_ble_eq_true rfl) rfl ?_
  refine q_aload_n d_Model_forth_0 rfl rfl ?_
  refine q_iload_n d_Model_forth_1 rfl rfl ?_
  refine q_iload_n d_Model_forth_2 rfl rfl ?_
  refine q_callVi (M2 := M_Model_at) d_Model_forth_3 ⟨(Nat.le_of_ble_eq_true rfl), (Nat.le_of_ble_eq_true rfl), w_1297, w_10, ⟨by decide, by decide⟩, show _ = some 2 by decide +kernel⟩ w_1294 w_1296 (ci := 11) rfl s_58 hL.1 rfl (Nat.le_of_ble_eq_true rfl) (by omega) (by omega) (c_Model_at) ?_
  rintro _ _ ⟨rfl, rfl⟩
  rw [← hpl, ← hq]
  refine q_istore_n d_Model_forth_6 rfl (Nat.le_of_ble_eq_true rfl) (by first | exact q_ok0 | exact q_okI rfl | exact q_okR rfl | exact q_okN rfl) rfl ?_
  refine q_aload_n d_Model_forth_7 rfl rfl ?_
  refine q_getR (ci := 11) (fk := 12) d_Model_forth_8 rfl (Nat.le_of_ble_eq_true rfl) w_1116 (fun _ _ => rfl) hL.1 (hL.2 12 _ _ _ rfl).1 ?_
  refine q_iload_n d_Model_forth_11 rfl rfl ?_
  refine q_iald d_Model_forth_12 (hL.2 12 _ _ _ rfl).2 (by first | assumption | exact vp_in_nI (by omega) (by omega)) ?_
  rw [p0]
  refine q_istore d_Model_forth_13 (Nat.le_of_ble_eq_true rfl) (by first | exact q_ok0 | exact q_okI rfl | exact q_okR rfl | exact q_okN rfl) rfl ?_
  refine q_aload_n d_Model_forth_15 rfl rfl ?_
  refine q_getR (ci := 11) (fk := 12) d_Model_forth_16 rfl (Nat.le_of_ble_eq_true rfl) w_1116 (fun _ _ => rfl) hL.1 (hL.2 12 _ _ _ rfl).1 ?_
  refine q_iload_n d_Model_forth_19 rfl rfl ?_
  refine q_iconst (v := nI 1) d_Model_forth_20 (by decide) ?_
  first | refine q_iaddN d_Model_forth_21 ?_ | refine q_iadd d_Model_forth_21 ?_
  refine q_iald d_Model_forth_22 (hL.2 12 _ _ _ rfl).2 (by first | assumption | exact vp_in_nI (by omega) (by omega)) ?_
  rw [p1]
  refine q_istore d_Model_forth_23 (Nat.le_of_ble_eq_true rfl) (by first | exact q_ok0 | exact q_okI rfl | exact q_okR rfl | exact q_okN rfl) rfl ?_
  refine q_aload_n d_Model_forth_25 rfl rfl ?_
  refine q_getR (ci := 11) (fk := 12) d_Model_forth_26 rfl (Nat.le_of_ble_eq_true rfl) w_1116 (fun _ _ => rfl) hL.1 (hL.2 12 _ _ _ rfl).1 ?_
  refine q_iload_n d_Model_forth_29 rfl rfl ?_
  refine q_iconst (v := nI 2) d_Model_forth_30 (by decide) ?_
  first | refine q_iaddN d_Model_forth_31 ?_ | refine q_iadd d_Model_forth_31 ?_
  refine q_iald d_Model_forth_32 (hL.2 12 _ _ _ rfl).2 (by first | assumption | exact vp_in_nI (by omega) (by omega)) ?_
  rw [p2]
  refine q_istore d_Model_forth_33 (Nat.le_of_ble_eq_true rfl) (by first | exact q_ok0 | exact q_okI rfl | exact q_okR rfl | exact q_okN rfl) rfl ?_
  refine q_aload_n d_Model_forth_35 rfl rfl ?_
  refine q_getR (ci := 11) (fk := 12) d_Model_forth_36 rfl (Nat.le_of_ble_eq_true rfl) w_1116 (fun _ _ => rfl) hL.1 (hL.2 12 _ _ _ rfl).1 ?_
  refine q_iload_n d_Model_forth_39 rfl rfl ?_
  refine q_iconst (v := nI 3) d_Model_forth_40 (by decide) ?_
  first | refine q_iaddN d_Model_forth_41 ?_ | refine q_iadd d_Model_forth_41 ?_
  refine q_iald d_Model_forth_42 (hL.2 12 _ _ _ rfl).2 (by first | assumption | exact vp_in_nI (by omega) (by omega)) ?_
  rw [p3]
  refine q_istore d_Model_forth_43 (Nat.le_of_ble_eq_true rfl) (by first | exact q_ok0 | exact q_okI rfl | exact q_okR rfl | exact q_okN rfl) rfl ?_
  refine q_bipush (v := nI 8) d_Model_forth_45 (by decide) ?_
  refine q_iload_n d_Model_forth_47 rfl rfl ?_
  first | refine q_imulN d_Model_forth_48 ?_ | refine q_imul d_Model_forth_48 ?_
  refine q_iload_n d_Model_forth_49 rfl rfl ?_
  first | refine q_iaddN d_Model_forth_50 ?_ | refine q_iadd d_Model_forth_50 ?_
  refine q_istore d_Model_forth_51 (Nat.le_of_ble_eq_true rfl) (by first | exact q_ok0 | exact q_okI rfl | exact q_okR rfl | exact q_okN rfl) rfl ?_
  refine q_aload_n d_Model_forth_53 rfl rfl ?_
  refine q_iload d_Model_forth_54 rfl ?_
  rw [← hpl]
  refine q_callVi (M2 := M_Model_find) d_Model_forth_56 ⟨(Nat.le_of_ble_eq_true rfl), (Nat.le_of_ble_eq_true rfl), w_1266, w_10, ⟨by decide, by decide⟩, show _ = some 1 by decide +kernel⟩ w_1263 w_1265 (ci := 11) rfl s_53 hL.1 rfl (Nat.le_of_ble_eq_true rfl) (by omega) (by omega) (c_Model_findF hL hM hok _) ?_
  rintro _ _ ⟨rfl, rfl⟩
  rw [k_of_path a1, show k_fo M (some p.nm) = k_fi M p.nm from rfl]
  have kt : (nI p.kind).toInt = p.kind := nI_toInt (by omega)
  have idx : p.kind ≠ 1 → ∃ k, M[k]? = some p.f ∧ k_fi M p.nm = some k ∧ k < M.length := fun hk => by
    obtain ⟨k, hk2⟩ := List.mem_iff_getElem?.mp (a4 hk)
    exact ⟨k, hk2, k_fi_at hdi hk2, (List.getElem?_eq_some_iff.mp hk2).1⟩
  refine q_istore d_Model_forth_59 (Nat.le_of_ble_eq_true rfl) (by first | exact q_ok0 | exact q_okI rfl | exact q_okR rfl | exact q_okN rfl) rfl ?_
  refine q_iload d_Model_forth_61 rfl ?_
  rcases (by omega : p.kind = 0 ∨ p.kind = 1 ∨ p.kind = 2 ∨ p.kind = 3 ∨ p.kind = 4 ∨ p.kind = 5 ∨ p.kind = 6 ∨ p.kind = 7 ∨ p.kind = 8) with hk | hk | hk | hk | hk | hk | hk | hk | hk
  · -- rename
    obtain ⟨b1, b2, b3, b4, b5⟩ := k_tg_ok hcc (Or.inl hk)
    have htg := k_tg_bsd hk
    have hna := (a5 hk).1
    obtain ⟨n, n1, hn⟩ := nI_of (Int32.not_lt.mpr hna.1)
    rw [z_go_0 (Or.inl hk), k_fw_0 (Or.inl hk)]
    rw [hk] at kt ⊢
    refine q_tableIn (tgt := 104) (off := 41) d_Model_forth_63 (by omega) (by omega) (by rw [kt]; rfl) (by omega) ?_
    refine q_aload_n d_Model_forth_104 rfl rfl ?_
    refine q_iload d_Model_forth_105 rfl ?_
    refine q_aload_n d_Model_forth_107 rfl rfl ?_
    refine q_iload d_Model_forth_108 rfl ?_
    refine q_iload d_Model_forth_110 rfl ?_
    refine q_iload d_Model_forth_112 rfl ?_
    rw [hn]
    refine q_callVi (M2 := M_Model_pathBehind) d_Model_forth_114 ⟨(Nat.le_of_ble_eq_true rfl), (Nat.le_of_ble_eq_true rfl), w_1301, w_10, ⟨by decide, by decide⟩, show _ = some 3 by decide +kernel⟩ w_1298 w_1300 (ci := 11) rfl s_59 hL.1 rfl (Nat.le_of_ble_eq_true rfl) (by omega) (by omega) (c_Model_pathBehind0 a1 a0) ?_
    rintro _ _ ⟨rfl, rfl⟩
    have e9 : p.nm.dropLast ++ [n + 1] = k_tg p := by rw [htg, hn, nI_clamp n1]
    rw [e9]
    refine q_callVv (M2 := M_Model_move) d_Model_forth_117 ⟨(Nat.le_of_ble_eq_true rfl), (Nat.le_of_ble_eq_true rfl), w_1311, w_10, ⟨by decide, by decide⟩, show _ = some 2 by decide +kernel⟩ w_1308 w_1310 (ci := 11) rfl s_60 hL.1 rfl (Nat.le_of_ble_eq_true rfl) (by omega) (by omega) (c_Model_move hL hM hok a1 b1 (fun f hf => k_mn_ok b1 (hok f hf).1 b3)) ?_
    rintro _ ⟨I1, rfl, i1, i2⟩
    refine q_goto (tgt := 308) d_Model_forth_120 rfl ?_
    refine q_vret d_Model_forth_308 rfl (by omega) (by omega) ?_
    exact ⟨rfl, _, List.Perm.refl _, I1, tb, rfl, m_zf.arr fun b hb => i1 b (by omega), h.map (v := k_mf p.nm (k_tg p)) (fun _ => rfl) i2 i1, z_ex.refl tb, by omega⟩
  · -- add
    rw [z_go_1 hk, k_fw_1 hk, if_pos rfl]
    rw [hk] at kt ⊢
    refine q_tableIn (tgt := 123) (off := 60) d_Model_forth_63 (by omega) (by omega) (by rw [kt]; rfl) (by omega) ?_
    refine q_aload_n d_Model_forth_123 rfl rfl ?_
    refine q_iload_n d_Model_forth_124 rfl rfl ?_
    refine q_iload d_Model_forth_125 rfl ?_
    refine q_callVv (M2 := M_Model_arrive) d_Model_forth_127 ⟨(Nat.le_of_ble_eq_true rfl), (Nat.le_of_ble_eq_true rfl), w_1318, w_10, ⟨by decide, by decide⟩, show _ = some 2 by decide +kernel⟩ w_1315 w_1317 (ci := 11) rfl s_61 hL.1 rfl (Nat.le_of_ble_eq_true rfl) (by omega) (by omega) (c_Model_arrive2 hL h (by omega) (by omega) (a3 hk).2.2.2 (hcc.so3 hw) hpp (by omega)) ?_
    rintro _ hz
    refine q_goto (tgt := 308) d_Model_forth_130 rfl ?_
    refine q_vret d_Model_forth_308 rfl (by omega) (by omega) ?_
    exact ⟨rfl, _, List.Perm.refl _, hz.mono (by omega)⟩
  · -- remove
    obtain ⟨k, k1, k2, k3⟩ := idx (by omega)
    rw [z_go_2 hk, k_fw_2 hk, if_pos rfl]
    rw [hk] at kt ⊢
    refine q_tableIn (tgt := 133) (off := 70) d_Model_forth_63 (by omega) (by omega) (by rw [kt]; rfl) (by omega) ?_
    refine q_aload_n d_Model_forth_133 rfl rfl ?_
    refine q_iload d_Model_forth_134 rfl ?_
    refine q_iload d_Model_forth_136 rfl ?_
    refine q_callVv (M2 := M_Model_depart) d_Model_forth_138 ⟨(Nat.le_of_ble_eq_true rfl), (Nat.le_of_ble_eq_true rfl), w_1325, w_10, ⟨by decide, by decide⟩, show _ = some 2 by decide +kernel⟩ w_1322 w_1324 (ci := 11) rfl s_62 hL.1 rfl (Nat.le_of_ble_eq_true rfl) (by omega) (by omega) (c_Model_depart2 hL h hok hdi k1) ?_
    rintro _ hz
    refine q_goto (tgt := 308) d_Model_forth_141 rfl ?_
    refine q_vret d_Model_forth_308 rfl (by omega) (by omega) ?_
    exact ⟨rfl, _, k_goL_fil hdi k1, hz.mono (by omega)⟩
  · -- wrap
    obtain ⟨k, k1, k2, k3⟩ := idx (by omega)
    obtain ⟨w1, w2, w3, w4⟩ := hM.2.2 k p.f k1
    have hso2 : p.so ≠ 2 := of_decide_eq_false (hcc.ng (by omega))
    rw [k2, show p_idx (some k) = nI k from rfl]
    rw [z_go_3 hk, k_fw_3 hk, if_pos rfl]
    rw [hk] at kt ⊢
    refine q_tableIn (tgt := 144) (off := 81) d_Model_forth_63 (by omega) (by omega) (by rw [kt]; rfl) (by omega) ?_
    refine q_aload_n d_Model_forth_144 rfl rfl ?_
    refine q_getR (ci := 11) (fk := 20) d_Model_forth_145 rfl (Nat.le_of_ble_eq_true rfl) w_1124 (fun _ _ => rfl) hL.1 (hL.2 20 _ _ _ rfl).1 ?_
    refine q_iload d_Model_forth_148 rfl ?_
    refine q_iconst (v := nI 1) d_Model_forth_150 (by decide) ?_
    refine q_iast d_Model_forth_151 (hL.2 20 _ _ _ rfl).2 (by first | assumption | exact vp_in_nI (by omega) (by omega)) ?_
    obtain ⟨I1, hI1⟩ : ∃ I1, I1 = q_upI I (m + 15) (nI k) (nI 1) := ⟨_, rfl⟩
    rw [← hI1]
    have o1 : ∀ b, b ≠ m + 15 → I1 b = I b := fun b b1 => by rw [hI1]; funext j; rw [q_upI_nea b1]
    have hM1 : k_mw m (M.set k (p.nm, 1, p.lo, p.hi, p.sl)) I1 := hM.set k1 (by rw [o1 m (by omega)]) ⟨by rw [o1 (m + 14) (by omega)]; exact w1, by rw [hI1, q_upI_self]; rfl, by rw [o1 (m + 16) (by omega)]; exact w3, by rw [o1 (m + 17) (by omega)]; exact w4⟩ (fun j i j1 j2 hi hik => by rw [hI1, q_upI_nk (by omega)])
    have y1 : m_z m (M.set k (p.nm, 1, p.lo, p.hi, p.sl)) Z tb I1 := h.set (f' := (p.nm, 1, p.lo, p.hi, p.sl)) k1 rfl hso2 hM1 (fun j j1 j2 => o1 _ (by omega)) (by rw [o1 m (by omega)]) (by rw [o1 m (by omega)])
    have g1 : m_zf m I I1 := m_zf.arr fun b hb => o1 b (by omega)
    have hf2 : (M.set k (p.nm, 1, p.lo, p.hi, p.sl))[k]? = some (p.nm, 1, p.lo, p.hi, p.sl) := by rw [List.getElem?_set, if_pos rfl, if_pos k3]
    obtain ⟨t0, t1⟩ := y1.2.1 k _ hf2 (show (1 : Int32) ≠ 2 by decide)
    have t0 : Z p.sl ∈ tb := t0
    have t1 : I1 (m + 19) (nI k) = nI (tb.idxOf (Z p.sl)) := t1
    refine q_aload_n d_Model_forth_152 rfl rfl ?_
    refine q_getI (ci := 11) (fk := 27) d_Model_forth_153 rfl (Nat.le_of_ble_eq_true rfl) w_1131 (fun _ _ => rfl) hL.1 ?_
    rw [y1.2.2.2]
    refine q_iconst (v := nI 1) d_Model_forth_156 (by decide) ?_
    refine q_icmp_ne (tgt := 168) d_Model_forth_157 rfl (fun hc => ?_) (fun hc => ?_)
    rotate_left
    · exact absurd hc (by decide)
    refine q_aload_n d_Model_forth_168 rfl rfl ?_
    refine q_getR (ci := 11) (fk := 24) d_Model_forth_169 rfl (Nat.le_of_ble_eq_true rfl) w_1128 (fun _ _ => rfl) hL.1 (hL.2 24 _ _ _ rfl).1 ?_
    refine q_iload d_Model_forth_172 rfl ?_
    refine q_aload_n d_Model_forth_174 rfl rfl ?_
    refine q_getI (ci := 11) (fk := 27) d_Model_forth_175 rfl (Nat.le_of_ble_eq_true rfl) w_1131 (fun _ _ => rfl) hL.1 ?_
    rw [y1.2.2.2]
    refine q_iconst (v := nI 2) d_Model_forth_178 (by decide) ?_
    refine q_icmp_ne (tgt := 201) d_Model_forth_179 rfl (fun hc => ?_) (fun hc => ?_)
    · exact absurd rfl hc
    refine q_aload_n d_Model_forth_182 rfl rfl ?_
    refine q_iconst (v := nI 3) d_Model_forth_183 (by decide) ?_
    refine q_aload_n d_Model_forth_184 rfl rfl ?_
    refine q_getR (ci := 11) (fk := 24) d_Model_forth_185 rfl (Nat.le_of_ble_eq_true rfl) w_1128 (fun _ _ => rfl) hL.1 (hL.2 24 _ _ _ rfl).1 ?_
    refine q_iload d_Model_forth_188 rfl ?_
    refine q_iald d_Model_forth_190 (hL.2 24 _ _ _ rfl).2 (by first | assumption | exact vp_in_nI (by omega) (by omega)) ?_
    rw [t1]
    refine q_iconst (v := nI 0) d_Model_forth_191 (by decide) ?_
    refine q_iconst (v := nI 0) d_Model_forth_192 (by decide) ?_
    refine q_iconst (v := nI 0) d_Model_forth_193 (by decide) ?_
    refine q_iconst (v := nI 0) d_Model_forth_194 (by decide) ?_
    refine q_callVi (M2 := M_Model_known) d_Model_forth_195 ⟨(Nat.le_of_ble_eq_true rfl), (Nat.le_of_ble_eq_true rfl), w_1248, w_10, ⟨by decide, by decide⟩, show _ = some 6 by decide +kernel⟩ w_1245 w_1247 (ci := 11) rfl s_50 hL.1 rfl (Nat.le_of_ble_eq_true rfl) (by omega) (by omega) (c_known_u1 hL y1.2.2.1 (by omega) (by omega) (by omega) (by omega) t0 0 0 0 0) ?_
    rintro _ _ ⟨I2, tb2, rfl, b1, b2, b3, b4, b5, rfl⟩
    obtain ⟨q1, q2⟩ := y1.st (k_nds_set hnd k1 rfl) hf2 b1 b2 b3 b5
    refine q_goto (tgt := 202) d_Model_forth_198 rfl ?_
    refine q_iast d_Model_forth_202 (hL.2 24 _ _ _ rfl).2 (by first | assumption | exact vp_in_nI (by omega) (by omega)) ?_
    refine q_goto (tgt := 308) d_Model_forth_203 rfl ?_
    refine q_vret d_Model_forth_308 rfl (by omega) (by omega) ?_
    refine ⟨rfl, _, ?_, _, tb2, rfl, g1.trans q1, q2, b3, by omega⟩
    have := k_at_set hdi k1 (fun f => (f.1, 1, f.2.2))
    rw [show M.map (k_at p.nm (fun f => (f.1, 1, f.2.2))) = M.set k (p.nm, 1, p.lo, p.hi, p.sl) from this]
  · -- lift
    obtain ⟨b1, b2, b3, b4, b5⟩ := k_tg_ok hcc (Or.inr hk)
    have htg := k_tg_lif hk a0
    rw [z_go_0 (Or.inr hk), k_fw_0 (Or.inr hk)]
    rw [hk] at kt ⊢
    refine q_tableIn (tgt := 104) (off := 41) d_Model_forth_63 (by omega) (by omega) (by rw [kt]; rfl) (by omega) ?_
    refine q_aload_n d_Model_forth_104 rfl rfl ?_
    refine q_iload d_Model_forth_105 rfl ?_
    refine q_aload_n d_Model_forth_107 rfl rfl ?_
    refine q_iload d_Model_forth_108 rfl ?_
    refine q_iload d_Model_forth_110 rfl ?_
    refine q_iload d_Model_forth_112 rfl ?_
    refine q_callVi (M2 := M_Model_pathBehind) d_Model_forth_114 ⟨(Nat.le_of_ble_eq_true rfl), (Nat.le_of_ble_eq_true rfl), w_1301, w_10, ⟨by decide, by decide⟩, show _ = some 3 by decide +kernel⟩ w_1298 w_1300 (ci := 11) rfl s_59 hL.1 rfl (Nat.le_of_ble_eq_true rfl) (by omega) (by omega) (c_Model_pathBehind4 a1 (a8 hk).1) ?_
    rintro _ _ ⟨rfl, rfl⟩
    have e9 : k_lif p.nm = k_tg p := by rw [htg, k_lif_eq a0]
    rw [e9]
    refine q_callVv (M2 := M_Model_move) d_Model_forth_117 ⟨(Nat.le_of_ble_eq_true rfl), (Nat.le_of_ble_eq_true rfl), w_1311, w_10, ⟨by decide, by decide⟩, show _ = some 2 by decide +kernel⟩ w_1308 w_1310 (ci := 11) rfl s_60 hL.1 rfl (Nat.le_of_ble_eq_true rfl) (by omega) (by omega) (c_Model_move hL hM hok a1 b1 (fun f hf => k_mn_ok b1 (hok f hf).1 b3)) ?_
    rintro _ ⟨I1, rfl, i1, i2⟩
    refine q_goto (tgt := 308) d_Model_forth_120 rfl ?_
    refine q_vret d_Model_forth_308 rfl (by omega) (by omega) ?_
    exact ⟨rfl, _, List.Perm.refl _, I1, tb, rfl, m_zf.arr fun b hb => i1 b (by omega), h.map (v := k_mf p.nm (k_tg p)) (fun _ => rfl) i2 i1, z_ex.refl tb, by omega⟩
  · -- split
    obtain ⟨k, k1, k2, k3⟩ := idx (by omega)
    obtain ⟨q1, ⟨q2, q3⟩, q4, q5, q6, q7⟩ := a9 hk
    obtain ⟨n, n1, hn⟩ := nI_of (Int32.not_lt.mpr q4.1)
    have hso2 : p.so ≠ 2 := of_decide_eq_false (hcc.ng (by omega))
    rw [k2, show p_idx (some k) = nI k from rfl]
    have ebs : k_bsd p.nm p.b = p.nm.dropLast ++ [n + 1] := by unfold k_bsd; rw [hn, nI_clamp n1]
    rw [z_go_5 hk, k_fw_5 hk, if_pos rfl, ebs]
    rw [hk] at kt ⊢
    refine q_tableIn (tgt := 206) (off := 143) d_Model_forth_63 (by omega) (by omega) (by rw [kt]; rfl) (by omega) ?_
    refine q_aload_n d_Model_forth_206 rfl rfl ?_
    refine q_iload d_Model_forth_207 rfl ?_
    refine q_iload d_Model_forth_209 rfl ?_
    refine q_iload d_Model_forth_211 rfl ?_
    refine q_iload d_Model_forth_213 rfl ?_
    rw [hn]
    refine q_callVv (M2 := M_Model_split) d_Model_forth_215 ⟨(Nat.le_of_ble_eq_true rfl), (Nat.le_of_ble_eq_true rfl), w_1341, w_10, ⟨by decide, by decide⟩, show _ = some 4 by decide +kernel⟩ w_1338 w_1340 (ci := 11) rfl s_66 hL.1 rfl (Nat.le_of_ble_eq_true rfl) (by omega) (by omega) (c_Model_split2 (n := n) hL h hlen hnd ⟨a1, a0⟩ (by omega) k1 hso2 q2 q7) ?_
    rintro _ hz
    refine q_goto (tgt := 308) d_Model_forth_218 rfl ?_
    refine q_vret d_Model_forth_308 rfl (by omega) (by omega) ?_
    refine ⟨rfl, _, ?_, hz⟩
    have := k_at_set hdi k1 (fun f => (f.1, f.2.1, z_div f.2.2.1 p.a, z_div f.2.2.2.1 p.a, f.2.2.2.2))
    rw [show M.map (k_at p.nm (fun f => (f.1, f.2.1, z_div f.2.2.1 p.a, z_div f.2.2.2.1 p.a, f.2.2.2.2))) = M.set k (p.nm, p.so, z_div p.lo p.a, z_div p.hi p.a, p.sl) from this]
  · -- scale
    obtain ⟨k, k1, k2, k3⟩ := idx (by omega)
    obtain ⟨q1, q2, ⟨q3, q4⟩, q5, q6⟩ := a10 hk
    obtain ⟨-, x1, hnz⟩ := z_flrs (x := p.lo) q2 q3
    obtain ⟨-, x2, -⟩ := z_flrs (x := p.hi) q2 q3
    have hso2 : p.so ≠ 2 := of_decide_eq_false (hcc.ng (by omega))
    rw [k2, show p_idx (some k) = nI k from rfl]
    rw [z_go_c (by omega) (by omega), k_fw_6 hk]
    have hch := c_Model_change2 (g := g) (sz := sz) (J := J) (k := k) (s := pl) (q := q) (fw := true) (p := p) hL h (by omega) hnd k1 rfl hso2 hpp (by omega) hcc.ok (by omega) (by omega) (hcc.lh hw)
    rw [hk] at kt hch ⊢
    refine q_tableIn (tgt := 221) (off := 158) d_Model_forth_63 (by omega) (by omega) (by rw [kt]; rfl) (by omega) ?_
    refine q_aload_n d_Model_forth_221 rfl rfl ?_
    refine q_iload d_Model_forth_222 rfl ?_
    refine q_iload d_Model_forth_224 rfl ?_
    refine q_iload d_Model_forth_226 rfl ?_
    refine q_iload d_Model_forth_228 rfl ?_
    refine q_iconst (v := nI 1) d_Model_forth_230 (by decide) ?_
    refine q_iload d_Model_forth_231 rfl ?_
    refine q_iload_n d_Model_forth_233 rfl rfl ?_
    refine q_callVv (M2 := M_Model_change) d_Model_forth_234 ⟨(Nat.le_of_ble_eq_true rfl), (Nat.le_of_ble_eq_true rfl), w_1359, w_10, ⟨by decide, by decide⟩, show _ = some 7 by decide +kernel⟩ w_1356 w_1358 (ci := 11) rfl s_69 hL.1 rfl (Nat.le_of_ble_eq_true rfl) (by omega) (by omega) (hch) ?_
    rintro _ ⟨I1, tb1, rfl, f1, y1, b1, b2⟩
    obtain ⟨w1, w2, w3, w4⟩ := y1.1.2.2 k p.f k1
    refine q_aload_n d_Model_forth_237 rfl rfl ?_
    refine q_getR (ci := 11) (fk := 21) d_Model_forth_238 rfl (Nat.le_of_ble_eq_true rfl) w_1125 (fun _ _ => rfl) hL.1 (hL.2 21 _ _ _ rfl).1 ?_
    refine q_iload d_Model_forth_241 rfl ?_
    refine q_iload d_Model_forth_243 rfl ?_
    refine q_i2l d_Model_forth_245 rfl ?_
    refine q_aload_n d_Model_forth_246 rfl rfl ?_
    refine q_getR (ci := 11) (fk := 21) d_Model_forth_247 rfl (Nat.le_of_ble_eq_true rfl) w_1125 (fun _ _ => rfl) hL.1 (hL.2 21 _ _ _ rfl).1 ?_
    refine q_iload d_Model_forth_250 rfl ?_
    refine q_iald d_Model_forth_252 (hL.2 21 _ _ _ rfl).2 (by first | assumption | exact vp_in_nI (by omega) (by omega)) ?_
    rw [w3]
    refine q_i2l d_Model_forth_253 rfl ?_
    refine q_lmul d_Model_forth_254 ?_
    refine q_iload d_Model_forth_255 rfl ?_
    refine q_i2l d_Model_forth_257 rfl ?_
    refine q_callSl (M2 := M_Model_floor) d_Model_forth_258 ⟨(Nat.le_of_ble_eq_true rfl), (Nat.le_of_ble_eq_true rfl), w_1344, w_10, ⟨by decide, by decide⟩, show _ = some 2 by decide +kernel⟩ w_1342 w_1343 rfl (Nat.le_of_ble_eq_true rfl) (by omega) (by omega) (c_Model_floor hnz) ?_
    rintro _ _ ⟨rfl, rfl⟩
    refine q_l2i d_Model_forth_261 rfl ?_
    rw [show (k_flr (p.a.toInt64 * p.f.2.2.1.toInt64) p.b.toInt64).toInt32 = z_scf p.a p.b p.lo from x1]
    refine q_iast d_Model_forth_262 (hL.2 21 _ _ _ rfl).2 (by first | assumption | exact vp_in_nI (by omega) (by omega)) ?_
    refine q_aload_n d_Model_forth_263 rfl rfl ?_
    refine q_getR (ci := 11) (fk := 22) d_Model_forth_264 rfl (Nat.le_of_ble_eq_true rfl) w_1126 (fun _ _ => rfl) hL.1 (hL.2 22 _ _ _ rfl).1 ?_
    refine q_iload d_Model_forth_267 rfl ?_
    refine q_iload d_Model_forth_269 rfl ?_
    refine q_i2l d_Model_forth_271 rfl ?_
    refine q_aload_n d_Model_forth_272 rfl rfl ?_
    refine q_getR (ci := 11) (fk := 22) d_Model_forth_273 rfl (Nat.le_of_ble_eq_true rfl) w_1126 (fun _ _ => rfl) hL.1 (hL.2 22 _ _ _ rfl).1 ?_
    refine q_iload d_Model_forth_276 rfl ?_
    refine q_iald d_Model_forth_278 (hL.2 22 _ _ _ rfl).2 (by first | assumption | exact vp_in_nI (by omega) (by omega)) ?_
    rw [q_upI_nea (by omega), w4]
    refine q_i2l d_Model_forth_279 rfl ?_
    refine q_lmul d_Model_forth_280 ?_
    refine q_iload d_Model_forth_281 rfl ?_
    refine q_i2l d_Model_forth_283 rfl ?_
    refine q_callSl (M2 := M_Model_floor) d_Model_forth_284 ⟨(Nat.le_of_ble_eq_true rfl), (Nat.le_of_ble_eq_true rfl), w_1344, w_10, ⟨by decide, by decide⟩, show _ = some 2 by decide +kernel⟩ w_1342 w_1343 rfl (Nat.le_of_ble_eq_true rfl) (by omega) (by omega) (c_Model_floor hnz) ?_
    rintro _ _ ⟨rfl, rfl⟩
    refine q_l2i d_Model_forth_287 rfl ?_
    rw [show (k_flr (p.a.toInt64 * p.f.2.2.2.1.toInt64) p.b.toInt64).toInt32 = z_scf p.a p.b p.hi from x2]
    refine q_iast d_Model_forth_288 (hL.2 22 _ _ _ rfl).2 (by first | assumption | exact vp_in_nI (by omega) (by omega)) ?_
    refine q_goto (tgt := 308) d_Model_forth_289 rfl ?_
    refine q_vret d_Model_forth_308 rfl (by omega) (by omega) ?_
    obtain ⟨I2, hI2⟩ : ∃ I2, I2 = q_upI (q_upI I1 (m + 16) (nI k) (z_scf p.a p.b p.lo)) (m + 17) (nI k) (z_scf p.a p.b p.hi) := ⟨_, rfl⟩
    rw [← hI2]
    have o2 : ∀ b, b ≠ m + 16 → b ≠ m + 17 → I2 b = I1 b := fun b b1 b2 => by rw [hI2]; funext j; rw [q_upI_nea b2, q_upI_nea b1]
    have hM2 : k_mw m (M.set k (p.nm, p.so, z_scf p.a p.b p.lo, z_scf p.a p.b p.hi, p.sl)) I2 := y1.1.set k1 (by rw [o2 m (by omega) (by omega)]) ⟨by rw [o2 (m + 14) (by omega) (by omega)]; exact w1, by rw [o2 (m + 15) (by omega) (by omega)]; exact w2, by rw [hI2, q_upI_nea (by omega), q_upI_self], by rw [hI2, q_upI_self]⟩ (fun j i j1 j2 hi hik => by rw [hI2, q_upI_nk (by omega), q_upI_nk (by omega)])
    refine ⟨rfl, _, ?_, I2, tb1, rfl, f1.trans (m_zf.arr fun b hb => o2 b (by omega) (by omega)), y1.set (f' := (p.nm, p.so, z_scf p.a p.b p.lo, z_scf p.a p.b p.hi, p.sl)) k1 rfl hso2 hM2 (fun j j1 j2 => o2 _ (by omega) (by omega)) (by rw [o2 m (by omega) (by omega)]) (by rw [o2 m (by omega) (by omega)]), b1, by omega⟩
    have := k_at_set hdi k1 (fun f => (f.1, f.2.1, z_scf p.a p.b f.2.2.1, z_scf p.a p.b f.2.2.2.1, f.2.2.2.2))
    rw [show M.map (k_at p.nm (fun f => (f.1, f.2.1, z_scf p.a p.b f.2.2.1, z_scf p.a p.b f.2.2.2.1, f.2.2.2.2))) = M.set k (p.nm, p.so, z_scf p.a p.b p.lo, z_scf p.a p.b p.hi, p.sl) from this]
  · -- map
    obtain ⟨k, k1, k2, k3⟩ := idx (by omega)
    have hso2 : p.so ≠ 2 := of_decide_eq_false (hcc.ng (by omega))
    rw [k2, show p_idx (some k) = nI k from rfl]
    rw [z_go_c (by omega) (by omega), k_fw_7 (Or.inl hk)]
    have hch := c_Model_change2 (g := g) (sz := sz) (J := J) (k := k) (s := pl) (q := q) (fw := true) (p := p) hL h (by omega) hnd k1 rfl hso2 hpp (by omega) hcc.ok (by omega) (by omega) (hcc.lh hw)
    rw [hk] at kt hch ⊢
    refine q_tableOut (tgt := 292) d_Model_forth_63 (Or.inr (by omega)) (by omega) ?_
    refine q_aload_n d_Model_forth_292 rfl rfl ?_
    refine q_iload d_Model_forth_293 rfl ?_
    refine q_iload d_Model_forth_295 rfl ?_
    refine q_iload d_Model_forth_297 rfl ?_
    refine q_iload d_Model_forth_299 rfl ?_
    refine q_iconst (v := nI 1) d_Model_forth_301 (by decide) ?_
    refine q_iload d_Model_forth_302 rfl ?_
    refine q_iload_n d_Model_forth_304 rfl rfl ?_
    refine q_callVv (M2 := M_Model_change) d_Model_forth_305 ⟨(Nat.le_of_ble_eq_true rfl), (Nat.le_of_ble_eq_true rfl), w_1359, w_10, ⟨by decide, by decide⟩, show _ = some 7 by decide +kernel⟩ w_1356 w_1358 (ci := 11) rfl s_69 hL.1 rfl (Nat.le_of_ble_eq_true rfl) (by omega) (by omega) (hch) ?_
    rintro _ hz
    refine q_vret d_Model_forth_308 rfl (by omega) (by omega) ?_
    exact ⟨rfl, M, List.Perm.refl _, hz.mono (by omega)⟩
  · -- sort
    obtain ⟨k, k1, k2, k3⟩ := idx (by omega)
    have hso2 : p.so ≠ 2 := of_decide_eq_false (hcc.ng (by omega))
    rw [k2, show p_idx (some k) = nI k from rfl]
    rw [z_go_c (by omega) (by omega), k_fw_7 (Or.inr hk)]
    have hch := c_Model_change2 (g := g) (sz := sz) (J := J) (k := k) (s := pl) (q := q) (fw := true) (p := p) hL h (by omega) hnd k1 rfl hso2 hpp (by omega) hcc.ok (by omega) (by omega) (hcc.lh hw)
    rw [hk] at kt hch ⊢
    refine q_tableOut (tgt := 292) d_Model_forth_63 (Or.inr (by omega)) (by omega) ?_
    refine q_aload_n d_Model_forth_292 rfl rfl ?_
    refine q_iload d_Model_forth_293 rfl ?_
    refine q_iload d_Model_forth_295 rfl ?_
    refine q_iload d_Model_forth_297 rfl ?_
    refine q_iload d_Model_forth_299 rfl ?_
    refine q_iconst (v := nI 1) d_Model_forth_301 (by decide) ?_
    refine q_iload d_Model_forth_302 rfl ?_
    refine q_iload_n d_Model_forth_304 rfl rfl ?_
    refine q_callVv (M2 := M_Model_change) d_Model_forth_305 ⟨(Nat.le_of_ble_eq_true rfl), (Nat.le_of_ble_eq_true rfl), w_1359, w_10, ⟨by decide, by decide⟩, show _ = some 7 by decide +kernel⟩ w_1356 w_1358 (ci := 11) rfl s_69 hL.1 rfl (Nat.le_of_ble_eq_true rfl) (by omega) (by omega) (hch) ?_
    rintro _ hz
    refine q_vret d_Model_forth_308 rfl (by omega) (by omega) ?_
    exact ⟨rfl, M, List.Perm.refl _, hz.mono (by omega)⟩
set_option maxHeartbeats 1000000 in
theorem c_Model_back2 {s i : Nat} (hL : q_L 11 t_Model m T R) (h : m_z m M Z tb I) (hlen : tb.length + 3 ≤ 1024) (hw : k_wfL D) (hnd : k_nds D) (hc0 : k_can p D) (hPm : M.Perm (k_fw p D)) (hp : k_mp m (8 * (8 * s + i)) p I) (hs : s < 16) (hi : i < 8) : q_Cv g M_Model_back [.ref m, .int (nI s), .int (nI i)] (sz, T, I, R, J) 0 0 (fun h' => ∃ M' : List KF, M'.Perm D ∧ m_zo m M' (z_go false p Z) tb 3 sz T I R J h') := by
  obtain ⟨q, hq⟩ : ∃ q, q = 8 * (8 * s + i) := ⟨_, rfl⟩
  rw [← hq] at hp
  obtain ⟨pl, hpl⟩ : ∃ pl, pl = 8 * s + i := ⟨_, rfl⟩
  rw [← hpl] at hq
  have hpl8 : pl < 128 := by omega
  have hpp := hp
  have hM := h.1
  obtain ⟨p0, p1, p2, p3, p5, p6, p7⟩ := hp
  have hcc := hc0
  have hwM : k_wfL M := (k_fw_wf hw hc0).perm hPm
  have hnM : k_nds M := (k_fw_nds hnd hc0).perm hPm
  obtain ⟨⟨a1, a0⟩, a2, a3, a4, a5, a6, a7, a8, a9, a10, a11, a12⟩ := hc0
  have hok := hwM.2.1
  have hdi := hwM.2.2.1
  have h24 := hwM.1
  refine q_C.of (ls0 := [some (.ref m), some (.int (nI s)), some (.int (nI i)), none, none, none, none, none, none, none]) (by decide) rfl (by decide) (Nat.le_of_ble_eq_true rfl) rfl ?_
  refine q_aload_n d_Model_back_0 rfl rfl ?_
  refine q_iload_n d_Model_back_1 rfl rfl ?_
  refine q_iload_n d_Model_back_2 rfl rfl ?_
  refine q_callVi (M2 := M_Model_at) d_Model_back_3 ⟨(Nat.le_of_ble_eq_true rfl), (Nat.le_of_ble_eq_true rfl), w_1297, w_10, ⟨by decide, by decide⟩, show _ = some 2 by decide +kernel⟩ w_1294 w_1296 (ci := 11) rfl s_58 hL.1 rfl (Nat.le_of_ble_eq_true rfl) (by omega) (by omega) (c_Model_at) ?_
  rintro _ _ ⟨rfl, rfl⟩
  rw [← hpl, ← hq]
  refine q_istore_n d_Model_back_6 rfl (Nat.le_of_ble_eq_true rfl) (by first | exact q_ok0 | exact q_okI rfl | exact q_okR rfl | exact q_okN rfl) rfl ?_
  refine q_aload_n d_Model_back_7 rfl rfl ?_
  refine q_getR (ci := 11) (fk := 12) d_Model_back_8 rfl (Nat.le_of_ble_eq_true rfl) w_1116 (fun _ _ => rfl) hL.1 (hL.2 12 _ _ _ rfl).1 ?_
  refine q_iload_n d_Model_back_11 rfl rfl ?_
  refine q_iald d_Model_back_12 (hL.2 12 _ _ _ rfl).2 (by first | assumption | exact vp_in_nI (by omega) (by omega)) ?_
  rw [p0]
  refine q_istore d_Model_back_13 (Nat.le_of_ble_eq_true rfl) (by first | exact q_ok0 | exact q_okI rfl | exact q_okR rfl | exact q_okN rfl) rfl ?_
  refine q_aload_n d_Model_back_15 rfl rfl ?_
  refine q_getR (ci := 11) (fk := 12) d_Model_back_16 rfl (Nat.le_of_ble_eq_true rfl) w_1116 (fun _ _ => rfl) hL.1 (hL.2 12 _ _ _ rfl).1 ?_
  refine q_iload_n d_Model_back_19 rfl rfl ?_
  refine q_iconst (v := nI 1) d_Model_back_20 (by decide) ?_
  first | refine q_iaddN d_Model_back_21 ?_ | refine q_iadd d_Model_back_21 ?_
  refine q_iald d_Model_back_22 (hL.2 12 _ _ _ rfl).2 (by first | assumption | exact vp_in_nI (by omega) (by omega)) ?_
  rw [p1]
  refine q_istore d_Model_back_23 (Nat.le_of_ble_eq_true rfl) (by first | exact q_ok0 | exact q_okI rfl | exact q_okR rfl | exact q_okN rfl) rfl ?_
  refine q_aload_n d_Model_back_25 rfl rfl ?_
  refine q_getR (ci := 11) (fk := 12) d_Model_back_26 rfl (Nat.le_of_ble_eq_true rfl) w_1116 (fun _ _ => rfl) hL.1 (hL.2 12 _ _ _ rfl).1 ?_
  refine q_iload_n d_Model_back_29 rfl rfl ?_
  refine q_iconst (v := nI 2) d_Model_back_30 (by decide) ?_
  first | refine q_iaddN d_Model_back_31 ?_ | refine q_iadd d_Model_back_31 ?_
  refine q_iald d_Model_back_32 (hL.2 12 _ _ _ rfl).2 (by first | assumption | exact vp_in_nI (by omega) (by omega)) ?_
  rw [p2]
  refine q_istore d_Model_back_33 (Nat.le_of_ble_eq_true rfl) (by first | exact q_ok0 | exact q_okI rfl | exact q_okR rfl | exact q_okN rfl) rfl ?_
  refine q_aload_n d_Model_back_35 rfl rfl ?_
  refine q_getR (ci := 11) (fk := 12) d_Model_back_36 rfl (Nat.le_of_ble_eq_true rfl) w_1116 (fun _ _ => rfl) hL.1 (hL.2 12 _ _ _ rfl).1 ?_
  refine q_iload_n d_Model_back_39 rfl rfl ?_
  refine q_iconst (v := nI 3) d_Model_back_40 (by decide) ?_
  first | refine q_iaddN d_Model_back_41 ?_ | refine q_iadd d_Model_back_41 ?_
  refine q_iald d_Model_back_42 (hL.2 12 _ _ _ rfl).2 (by first | assumption | exact vp_in_nI (by omega) (by omega)) ?_
  rw [p3]
  refine q_istore d_Model_back_43 (Nat.le_of_ble_eq_true rfl) (by first | exact q_ok0 | exact q_okI rfl | exact q_okR rfl | exact q_okN rfl) rfl ?_
  refine q_bipush (v := nI 8) d_Model_back_45 (by decide) ?_
  refine q_iload_n d_Model_back_47 rfl rfl ?_
  first | refine q_imulN d_Model_back_48 ?_ | refine q_imul d_Model_back_48 ?_
  refine q_iload_n d_Model_back_49 rfl rfl ?_
  first | refine q_iaddN d_Model_back_50 ?_ | refine q_iadd d_Model_back_50 ?_
  refine q_istore d_Model_back_51 (Nat.le_of_ble_eq_true rfl) (by first | exact q_ok0 | exact q_okI rfl | exact q_okR rfl | exact q_okN rfl) rfl ?_
  refine q_aload_n d_Model_back_53 rfl rfl ?_
  refine q_iload d_Model_back_54 rfl ?_
  rw [← hpl]
  refine q_callVi (M2 := M_Model_find) d_Model_back_56 ⟨(Nat.le_of_ble_eq_true rfl), (Nat.le_of_ble_eq_true rfl), w_1266, w_10, ⟨by decide, by decide⟩, show _ = some 1 by decide +kernel⟩ w_1263 w_1265 (ci := 11) rfl s_53 hL.1 rfl (Nat.le_of_ble_eq_true rfl) (by omega) (by omega) (c_Model_findF hL hM hok _) ?_
  rintro _ _ ⟨rfl, rfl⟩
  rw [k_of_path a1, show k_fo M (some p.nm) = k_fi M p.nm from rfl]
  have kt : (nI p.kind).toInt = p.kind := nI_toInt (by omega)
  have idx : ∀ f : KF, f ∈ k_fw p D → f.1 = p.nm → ∃ k, M[k]? = some f ∧ k_fi M p.nm = some k ∧ k < M.length := fun f hf e => by
    obtain ⟨k, hk2⟩ := List.mem_iff_getElem?.mp (hPm.mem_iff.mpr hf)
    exact ⟨k, hk2, by rw [← e]; exact k_fi_at hdi hk2, (List.getElem?_eq_some_iff.mp hk2).1⟩
  refine q_istore d_Model_back_59 (Nat.le_of_ble_eq_true rfl) (by first | exact q_ok0 | exact q_okI rfl | exact q_okR rfl | exact q_okN rfl) rfl ?_
  refine q_iload d_Model_back_61 rfl ?_
  rcases (by omega : p.kind = 0 ∨ p.kind = 1 ∨ p.kind = 2 ∨ p.kind = 3 ∨ p.kind = 4 ∨ p.kind = 5 ∨ p.kind = 6 ∨ p.kind = 7 ∨ p.kind = 8) with hk | hk | hk | hk | hk | hk | hk | hk | hk
  · -- rename
    obtain ⟨b1, b2, b3, b4, b5⟩ := k_tg_ok hcc (Or.inl hk)
    have htg := k_tg_bsd hk
    have hna := (a5 hk).1
    obtain ⟨n, n1, hn⟩ := nI_of (Int32.not_lt.mpr hna.1)
    rw [z_go_0 (Or.inl hk)]
    rw [k_fw_0 (Or.inl hk)] at hPm
    have inv := fun e he => k_mn_inv (e := e) hw hcc (Or.inl hk) he
    rw [hk] at kt ⊢
    refine q_tableIn (tgt := 104) (off := 41) d_Model_back_63 (by omega) (by omega) (by rw [kt]; rfl) (by omega) ?_
    refine q_aload_n d_Model_back_104 rfl rfl ?_
    refine q_aload_n d_Model_back_105 rfl rfl ?_
    refine q_iload d_Model_back_106 rfl ?_
    refine q_iload d_Model_back_108 rfl ?_
    refine q_iload d_Model_back_110 rfl ?_
    rw [hn]
    refine q_callVi (M2 := M_Model_pathBehind) d_Model_back_112 ⟨(Nat.le_of_ble_eq_true rfl), (Nat.le_of_ble_eq_true rfl), w_1301, w_10, ⟨by decide, by decide⟩, show _ = some 3 by decide +kernel⟩ w_1298 w_1300 (ci := 11) rfl s_59 hL.1 rfl (Nat.le_of_ble_eq_true rfl) (by omega) (by omega) (c_Model_pathBehind0 a1 a0) ?_
    rintro _ _ ⟨rfl, rfl⟩
    have e9 : p.nm.dropLast ++ [n + 1] = k_tg p := by rw [htg, hn, nI_clamp n1]
    rw [e9]
    refine q_iload d_Model_back_115 rfl ?_
    have hmv : ∀ f ∈ M, k_ok 4 (k_mn (k_tg p) p.nm f.1) := fun f hf => by
      obtain ⟨e, e1, rfl⟩ := List.mem_map.mp (hPm.mem_iff.mp hf)
      show k_ok 4 (k_mn (k_tg p) p.nm (k_mn p.nm (k_tg p) e.1))
      rw [inv e e1]; exact (hw.2.1 e e1).1
    refine q_callVv (M2 := M_Model_move) d_Model_back_117 ⟨(Nat.le_of_ble_eq_true rfl), (Nat.le_of_ble_eq_true rfl), w_1311, w_10, ⟨by decide, by decide⟩, show _ = some 2 by decide +kernel⟩ w_1308 w_1310 (ci := 11) rfl s_60 hL.1 rfl (Nat.le_of_ble_eq_true rfl) (by omega) (by omega) (c_Model_move hL hM hok b1 a1 hmv) ?_
    rintro _ ⟨I1, rfl, i1, i2⟩
    refine q_goto (tgt := 286) d_Model_back_120 rfl ?_
    refine q_vret d_Model_back_286 rfl (by omega) (by omega) ?_
    refine ⟨rfl, _, ?_, I1, tb, rfl, m_zf.arr fun b hb => i1 b (by omega), h.map (v := k_mf (k_tg p) p.nm) (fun _ => rfl) i2 i1, z_ex.refl tb, by omega⟩
    refine (hPm.map _).trans (List.Perm.of_eq ?_)
    rw [List.map_map]
    conv => rhs; rw [← List.map_id D]
    exact List.map_congr_left fun f hf => by
      show (k_mn (k_tg p) p.nm (k_mn p.nm (k_tg p) f.1), f.2) = f
      rw [inv f hf]
  · -- add
    obtain ⟨k, k1, k2, k3⟩ := idx p.f (by rw [k_fw_1 hk]; exact List.mem_append_right _ (List.mem_singleton.mpr rfl)) rfl
    rw [k2, show p_idx (some k) = nI k from rfl]
    rw [z_go_1 hk, if_neg (by decide)]
    rw [k_fw_1 hk] at hPm
    rw [hk] at kt ⊢
    refine q_tableIn (tgt := 123) (off := 60) d_Model_back_63 (by omega) (by omega) (by rw [kt]; rfl) (by omega) ?_
    refine q_aload_n d_Model_back_123 rfl rfl ?_
    refine q_iload d_Model_back_124 rfl ?_
    refine q_iload d_Model_back_126 rfl ?_
    refine q_callVv (M2 := M_Model_depart) d_Model_back_128 ⟨(Nat.le_of_ble_eq_true rfl), (Nat.le_of_ble_eq_true rfl), w_1325, w_10, ⟨by decide, by decide⟩, show _ = some 2 by decide +kernel⟩ w_1322 w_1324 (ci := 11) rfl s_62 hL.1 rfl (Nat.le_of_ble_eq_true rfl) (by omega) (by omega) (c_Model_depart2 hL h hok hdi k1) ?_
    rintro _ hz
    refine q_goto (tgt := 286) d_Model_back_131 rfl ?_
    refine q_vret d_Model_back_286 rfl (by omega) (by omega) ?_
    refine ⟨rfl, _, ?_, hz.mono (by omega)⟩
    have := (k_goL_perm k1).trans (hPm.trans List.perm_append_comm)
    exact List.Perm.cons_inv this
  · -- remove
    rw [z_go_2 hk, if_neg (by decide)]
    rw [k_fw_2 hk] at hPm
    have hsl : ∀ f ∈ M, f.2.2.2.2 ≠ p.sl := fun f hf => by
      obtain ⟨f1, f2⟩ := List.mem_filter.mp (hPm.mem_iff.mp hf)
      exact hcc.slo hnd (by omega) f1 (of_decide_eq_true f2)
    obtain ⟨kd, hkd⟩ := List.mem_iff_getElem?.mp (a4 (by omega))
    obtain ⟨kq, hkq⟩ : ∃ kq, kq = p_idx (k_fi M p.nm) := ⟨_, rfl⟩
    rw [← hkq]
    rw [hk] at kt ⊢
    refine q_tableIn (tgt := 134) (off := 71) d_Model_back_63 (by omega) (by omega) (by rw [kt]; rfl) (by omega) ?_
    refine q_aload_n d_Model_back_134 rfl rfl ?_
    refine q_iload_n d_Model_back_135 rfl rfl ?_
    refine q_iload d_Model_back_136 rfl ?_
    refine q_callVv (M2 := M_Model_arrive) d_Model_back_138 ⟨(Nat.le_of_ble_eq_true rfl), (Nat.le_of_ble_eq_true rfl), w_1318, w_10, ⟨by decide, by decide⟩, show _ = some 2 by decide +kernel⟩ w_1315 w_1317 (ci := 11) rfl s_61 hL.1 rfl (Nat.le_of_ble_eq_true rfl) (by omega) (by omega) (c_Model_arrive2 hL h (by omega) (by omega) hsl (hcc.so3 hw) hpp (by omega)) ?_
    rintro _ hz
    refine q_goto (tgt := 286) d_Model_back_141 rfl ?_
    refine q_vret d_Model_back_286 rfl (by omega) (by omega) ?_
    refine ⟨rfl, _, ?_, hz.mono (by omega)⟩
    have e1 := k_goL_perm hkd
    have e2 := k_goL_fil hw.2.2.1 hkd
    exact (List.perm_append_comm.trans ((List.Perm.cons p.f (hPm.trans e2.symm)))).trans e1
  · -- wrap
    obtain ⟨k, k1, k2, k3⟩ := idx (p.nm, 1, p.lo, p.hi, p.sl) (by
      rw [k_fw_3 hk]
      have := List.mem_map_of_mem (f := k_at p.nm (fun f => (f.1, 1, f.2.2))) (a4 (by omega))
      rw [k_at_eq (n := p.nm) (f := p.f) rfl] at this
      exact this) rfl
    obtain ⟨w1, w2, w3, w4⟩ := hM.2.2 k _ k1
    rw [k2, show p_idx (some k) = nI k from rfl]
    rw [z_go_3 hk, if_neg (by decide)]
    rw [k_fw_3 hk] at hPm
    have hso := hcc.so0 (Or.inl hk)
    rw [hk] at kt ⊢
    refine q_tableIn (tgt := 144) (off := 81) d_Model_back_63 (by omega) (by omega) (by rw [kt]; rfl) (by omega) ?_
    refine q_aload_n d_Model_back_144 rfl rfl ?_
    refine q_getR (ci := 11) (fk := 20) d_Model_back_145 rfl (Nat.le_of_ble_eq_true rfl) w_1124 (fun _ _ => rfl) hL.1 (hL.2 20 _ _ _ rfl).1 ?_
    refine q_iload d_Model_back_148 rfl ?_
    refine q_iconst (v := nI 0) d_Model_back_150 (by decide) ?_
    refine q_iast d_Model_back_151 (hL.2 20 _ _ _ rfl).2 (by first | assumption | exact vp_in_nI (by omega) (by omega)) ?_
    obtain ⟨I1, hI1⟩ : ∃ I1, I1 = q_upI I (m + 15) (nI k) (nI 0) := ⟨_, rfl⟩
    rw [← hI1]
    have o1 : ∀ b, b ≠ m + 15 → I1 b = I b := fun b b1 => by rw [hI1]; funext j; rw [q_upI_nea b1]
    have hM1 : k_mw m (M.set k (p.nm, 0, p.lo, p.hi, p.sl)) I1 := hM.set k1 (by rw [o1 m (by omega)]) ⟨by rw [o1 (m + 14) (by omega)]; exact w1, by rw [hI1, q_upI_self]; rfl, by rw [o1 (m + 16) (by omega)]; exact w3, by rw [o1 (m + 17) (by omega)]; exact w4⟩ (fun j i j1 j2 hi hik => by rw [hI1, q_upI_nk (by omega)])
    have y1 : m_z m (M.set k (p.nm, 0, p.lo, p.hi, p.sl)) Z tb I1 := h.set (f' := (p.nm, 0, p.lo, p.hi, p.sl)) k1 rfl (show (1 : Int32) ≠ 2 by decide) hM1 (fun j j1 j2 => o1 _ (by omega)) (by rw [o1 m (by omega)]) (by rw [o1 m (by omega)])
    have g1 : m_zf m I I1 := m_zf.arr fun b hb => o1 b (by omega)
    have hf2 : (M.set k (p.nm, 0, p.lo, p.hi, p.sl))[k]? = some (p.nm, 0, p.lo, p.hi, p.sl) := by rw [List.getElem?_set, if_pos rfl, if_pos k3]
    obtain ⟨t0, t1⟩ := y1.2.1 k _ hf2 (show (0 : Int32) ≠ 2 by decide)
    have t0 : Z p.sl ∈ tb := t0
    have t1 : I1 (m + 19) (nI k) = nI (tb.idxOf (Z p.sl)) := t1
    refine q_aload_n d_Model_back_152 rfl rfl ?_
    refine q_getI (ci := 11) (fk := 27) d_Model_back_153 rfl (Nat.le_of_ble_eq_true rfl) w_1131 (fun _ _ => rfl) hL.1 ?_
    rw [y1.2.2.2]
    refine q_iconst (v := nI 1) d_Model_back_156 (by decide) ?_
    refine q_icmp_ne (tgt := 168) d_Model_back_157 rfl (fun hc => ?_) (fun hc => ?_)
    rotate_left
    · exact absurd hc (by decide)
    refine q_aload_n d_Model_back_168 rfl rfl ?_
    refine q_getR (ci := 11) (fk := 24) d_Model_back_169 rfl (Nat.le_of_ble_eq_true rfl) w_1128 (fun _ _ => rfl) hL.1 (hL.2 24 _ _ _ rfl).1 ?_
    refine q_iload d_Model_back_172 rfl ?_
    refine q_aload_n d_Model_back_174 rfl rfl ?_
    refine q_getI (ci := 11) (fk := 27) d_Model_back_175 rfl (Nat.le_of_ble_eq_true rfl) w_1131 (fun _ _ => rfl) hL.1 ?_
    rw [y1.2.2.2]
    refine q_iconst (v := nI 2) d_Model_back_178 (by decide) ?_
    refine q_icmp_ne (tgt := 191) d_Model_back_179 rfl (fun hc => ?_) (fun hc => ?_)
    · exact absurd rfl hc
    refine q_aload_n d_Model_back_182 rfl rfl ?_
    refine q_iload d_Model_back_183 rfl ?_
    refine q_callVi (M2 := M_Model_opened) d_Model_back_185 ⟨(Nat.le_of_ble_eq_true rfl), (Nat.le_of_ble_eq_true rfl), w_1501, w_10, ⟨by decide, by decide⟩, show _ = some 1 by decide +kernel⟩ w_1498 w_1500 (ci := 11) rfl s_84 hL.1 rfl (Nat.le_of_ble_eq_true rfl) (by omega) (by omega) (c_Model_opened (p := p) hL y1.2.2.1 (by omega) y1.1 hf2 rfl rfl t0 t1) ?_
    rintro _ _ ⟨I2, tb2, rfl, b1, b2, b3, b4, b5, rfl⟩
    obtain ⟨q1, q2⟩ := y1.st (k_nds_set hnM k1 rfl) hf2 b1 b2 b3 b5
    refine q_goto (tgt := 192) d_Model_back_188 rfl ?_
    refine q_iast d_Model_back_192 (hL.2 24 _ _ _ rfl).2 (by first | assumption | exact vp_in_nI (by omega) (by omega)) ?_
    refine q_goto (tgt := 286) d_Model_back_193 rfl ?_
    refine q_vret d_Model_back_286 rfl (by omega) (by omega) ?_
    refine ⟨rfl, _, ?_, _, tb2, rfl, g1.trans q1, q2, b3, by omega⟩
    have := k_at_set hdi k1 (fun f => (f.1, 0, f.2.2))
    rw [← show M.map (k_at p.nm (fun f => (f.1, 0, f.2.2))) = M.set k (p.nm, 0, p.lo, p.hi, p.sl) from this]
    refine (hPm.map _).trans (List.Perm.of_eq ?_)
    exact k_at_inv (u := fun f => (f.1, 1, f.2.2)) (w := fun f => (f.1, 0, f.2.2)) hw hcc (by omega) (fun _ => rfl) (by show (p.nm, (0 : Int32), p.lo, p.hi, p.sl) = p.f; rw [← hso])
  · -- lift
    obtain ⟨b1, b2, b3, b4, b5⟩ := k_tg_ok hcc (Or.inr hk)
    have htg := k_tg_lif hk a0
    rw [z_go_0 (Or.inr hk)]
    rw [k_fw_0 (Or.inr hk)] at hPm
    have inv := fun e he => k_mn_inv (e := e) hw hcc (Or.inr hk) he
    rw [hk] at kt ⊢
    refine q_tableIn (tgt := 104) (off := 41) d_Model_back_63 (by omega) (by omega) (by rw [kt]; rfl) (by omega) ?_
    refine q_aload_n d_Model_back_104 rfl rfl ?_
    refine q_aload_n d_Model_back_105 rfl rfl ?_
    refine q_iload d_Model_back_106 rfl ?_
    refine q_iload d_Model_back_108 rfl ?_
    refine q_iload d_Model_back_110 rfl ?_
    refine q_callVi (M2 := M_Model_pathBehind) d_Model_back_112 ⟨(Nat.le_of_ble_eq_true rfl), (Nat.le_of_ble_eq_true rfl), w_1301, w_10, ⟨by decide, by decide⟩, show _ = some 3 by decide +kernel⟩ w_1298 w_1300 (ci := 11) rfl s_59 hL.1 rfl (Nat.le_of_ble_eq_true rfl) (by omega) (by omega) (c_Model_pathBehind4 a1 (a8 hk).1) ?_
    rintro _ _ ⟨rfl, rfl⟩
    have e9 : k_lif p.nm = k_tg p := by rw [htg, k_lif_eq a0]
    rw [e9]
    refine q_iload d_Model_back_115 rfl ?_
    have hmv : ∀ f ∈ M, k_ok 4 (k_mn (k_tg p) p.nm f.1) := fun f hf => by
      obtain ⟨e, e1, rfl⟩ := List.mem_map.mp (hPm.mem_iff.mp hf)
      show k_ok 4 (k_mn (k_tg p) p.nm (k_mn p.nm (k_tg p) e.1))
      rw [inv e e1]; exact (hw.2.1 e e1).1
    refine q_callVv (M2 := M_Model_move) d_Model_back_117 ⟨(Nat.le_of_ble_eq_true rfl), (Nat.le_of_ble_eq_true rfl), w_1311, w_10, ⟨by decide, by decide⟩, show _ = some 2 by decide +kernel⟩ w_1308 w_1310 (ci := 11) rfl s_60 hL.1 rfl (Nat.le_of_ble_eq_true rfl) (by omega) (by omega) (c_Model_move hL hM hok b1 a1 hmv) ?_
    rintro _ ⟨I1, rfl, i1, i2⟩
    refine q_goto (tgt := 286) d_Model_back_120 rfl ?_
    refine q_vret d_Model_back_286 rfl (by omega) (by omega) ?_
    refine ⟨rfl, _, ?_, I1, tb, rfl, m_zf.arr fun b hb => i1 b (by omega), h.map (v := k_mf (k_tg p) p.nm) (fun _ => rfl) i2 i1, z_ex.refl tb, by omega⟩
    refine (hPm.map _).trans (List.Perm.of_eq ?_)
    rw [List.map_map]
    conv => rhs; rw [← List.map_id D]
    exact List.map_congr_left fun f hf => by
      show (k_mn (k_tg p) p.nm (k_mn p.nm (k_tg p) f.1), f.2) = f
      rw [inv f hf]
  · -- split
    obtain ⟨q1, ⟨q2, q3⟩, q4, q5, q6, q7⟩ := a9 hk
    obtain ⟨n, n1, hn⟩ := nI_of (Int32.not_lt.mpr q4.1)
    have hso2 : p.so ≠ 2 := of_decide_eq_false (hcc.ng (by omega))
    obtain ⟨k, k1, k2, k3⟩ := idx (p.nm, p.so, z_div p.lo p.a, z_div p.hi p.a, p.sl) (by
      rw [k_fw_5 hk]
      refine List.mem_append_left _ ?_
      have := List.mem_map_of_mem (f := k_at p.nm (fun f => (f.1, f.2.1, z_div f.2.2.1 p.a, z_div f.2.2.2.1 p.a, f.2.2.2.2))) (a4 (by omega))
      rw [k_at_eq (n := p.nm) (f := p.f) rfl] at this
      exact this) rfl
    have ebs : k_bsd p.nm p.b = p.nm.dropLast ++ [n + 1] := by unfold k_bsd; rw [hn, nI_clamp n1]
    obtain ⟨e, hee⟩ : ∃ e : KF, e = (k_bsd p.nm p.b, 0, 0, p.a - 1, p.rs) := ⟨_, rfl⟩
    have heM : e ∈ M := hPm.mem_iff.mpr (by rw [k_fw_5 hk, hee]; exact List.mem_append_right _ (List.mem_singleton.mpr rfl))
    obtain ⟨r, hr⟩ := List.mem_iff_getElem?.mp heM
    have hrl := (List.getElem?_eq_some_iff.mp hr).1
    have hne : p.nm ≠ k_bsd p.nm p.b := q5 p.f (a4 (by omega))
    have hkr : k ≠ r := fun z => by
      rw [z, hr] at k1
      have := congrArg (fun f : KF => f.1) (Option.some.inj k1)
      rw [hee] at this
      exact hne this.symm
    have bok : k_ok 4 (p.nm.dropLast ++ [n + 1]) := by
      rw [← ebs]
      have := (hok e heM).1
      rw [hee] at this; exact this
    rw [k2, show p_idx (some k) = nI k from rfl]
    rw [z_go_5 hk, if_neg (by decide)]
    rw [k_fw_5 hk, ← hee] at hPm
    rw [hk] at kt ⊢
    refine q_tableIn (tgt := 196) (off := 133) d_Model_back_63 (by omega) (by omega) (by rw [kt]; rfl) (by omega) ?_
    refine q_aload_n d_Model_back_196 rfl rfl ?_
    refine q_iload d_Model_back_197 rfl ?_
    refine q_aload_n d_Model_back_199 rfl rfl ?_
    refine q_iload d_Model_back_200 rfl ?_
    refine q_iload d_Model_back_202 rfl ?_
    rw [hn]
    refine q_callSi (M2 := M_Model_besides) d_Model_back_204 ⟨(Nat.le_of_ble_eq_true rfl), (Nat.le_of_ble_eq_true rfl), w_1347, w_10, ⟨by decide, by decide⟩, show _ = some 2 by decide +kernel⟩ w_1345 w_1346 rfl (Nat.le_of_ble_eq_true rfl) (by omega) (by omega) (c_Model_besides a1 a0) ?_
    rintro _ _ ⟨rfl, rfl⟩
    refine q_callVi (M2 := M_Model_find) d_Model_back_207 ⟨(Nat.le_of_ble_eq_true rfl), (Nat.le_of_ble_eq_true rfl), w_1266, w_10, ⟨by decide, by decide⟩, show _ = some 1 by decide +kernel⟩ w_1263 w_1265 (ci := 11) rfl s_53 hL.1 rfl (Nat.le_of_ble_eq_true rfl) (by omega) (by omega) (c_Model_findF hL hM hok _) ?_
    rintro _ _ ⟨rfl, rfl⟩
    have efi : k_fo M (k_of (nI (k_path (p.nm.dropLast ++ [n + 1])))) = some r := by
      rw [k_of_path bok]
      show k_fi M (p.nm.dropLast ++ [n + 1]) = some r
      have := k_fi_at hdi hr
      rw [hee] at this
      rw [← ebs]; exact this
    rw [efi, show p_idx (some r) = nI r from rfl]
    refine q_iload d_Model_back_210 rfl ?_
    refine q_iload_n d_Model_back_212 rfl rfl ?_
    refine q_callVv (M2 := M_Model_join) d_Model_back_213 ⟨(Nat.le_of_ble_eq_true rfl), (Nat.le_of_ble_eq_true rfl), w_1505, w_10, ⟨by decide, by decide⟩, show _ = some 4 by decide +kernel⟩ w_1502 w_1504 (ci := 11) rfl s_85 hL.1 rfl (Nat.le_of_ble_eq_true rfl) (by omega) (by omega) (c_Model_join2 (p := p) hL h (by omega) hnM k1 hr rfl (by rw [hee]) hso2 (by rw [hee]; show (0 : Int32) ≠ 2; decide) hkr hpp (by omega)) ?_
    rintro _ hz
    refine q_goto (tgt := 286) d_Model_back_216 rfl ?_
    refine q_vret d_Model_back_286 rfl (by omega) (by omega) ?_
    refine ⟨rfl, _, ?_, hz.mono (by omega)⟩
    have hs1 := k_at_set hdi k1 (fun f => (f.1, f.2.1, p.lo, p.hi, f.2.2.2.2))
    have hr2 : (M.set k (p.nm, p.so, p.lo, p.hi, p.sl))[r]? = some e := by rw [List.getElem?_set, if_neg hkr]; exact hr
    have e1 := k_goL_perm hr2
    have e2 : (M.set k (p.nm, p.so, p.lo, p.hi, p.sl)).Perm (D ++ [e]) := by
      rw [← show M.map (k_at p.nm (fun f => (f.1, f.2.1, p.lo, p.hi, f.2.2.2.2))) = M.set k (p.nm, p.so, p.lo, p.hi, p.sl) from hs1]
      refine (hPm.map _).trans (List.Perm.of_eq ?_)
      rw [List.map_append, k_at_inv (u := fun f => (f.1, f.2.1, z_div f.2.2.1 p.a, z_div f.2.2.2.1 p.a, f.2.2.2.2)) (w := fun f => (f.1, f.2.1, p.lo, p.hi, f.2.2.2.2)) hw hcc (by omega) (fun _ => rfl) rfl]
      rw [List.map_cons, List.map_nil, k_at_ne (by rw [hee]; exact fun z => hne z.symm)]
    exact List.Perm.cons_inv (e1.trans (e2.trans List.perm_append_comm))
  · -- scale
    obtain ⟨q1, q2, ⟨q3, q4⟩, q5, q6⟩ := a10 hk
    have hso2 : p.so ≠ 2 := of_decide_eq_false (hcc.ng (by omega))
    obtain ⟨k, k1, k2, k3⟩ := idx (p.nm, p.so, z_scf p.a p.b p.lo, z_scf p.a p.b p.hi, p.sl) (by
      rw [k_fw_6 hk]
      have := List.mem_map_of_mem (f := k_at p.nm (fun f => (f.1, f.2.1, z_scf p.a p.b f.2.2.1, z_scf p.a p.b f.2.2.2.1, f.2.2.2.2))) (a4 (by omega))
      rw [k_at_eq (n := p.nm) (f := p.f) rfl] at this
      exact this) rfl
    obtain ⟨w1, w2, w3, w4⟩ := hM.2.2 k _ k1
    rw [k2, show p_idx (some k) = nI k from rfl]
    rw [z_go_c (by omega) (by omega)]
    rw [k_fw_6 hk] at hPm
    obtain ⟨I1, hI1⟩ : ∃ I1, I1 = q_upI (q_upI I (m + 16) (nI k) p.lo) (m + 17) (nI k) p.hi := ⟨_, rfl⟩
    have o1 : ∀ b, b ≠ m + 16 → b ≠ m + 17 → I1 b = I b := fun b b1 b2 => by rw [hI1]; funext j; rw [q_upI_nea b2, q_upI_nea b1]
    have hM1 : k_mw m (M.set k (p.nm, p.so, p.lo, p.hi, p.sl)) I1 := hM.set k1 (by rw [o1 m (by omega) (by omega)]) ⟨by rw [o1 (m + 14) (by omega) (by omega)]; exact w1, by rw [o1 (m + 15) (by omega) (by omega)]; exact w2, by rw [hI1, q_upI_nea (by omega), q_upI_self], by rw [hI1, q_upI_self]⟩ (fun j i j1 j2 hi hik => by rw [hI1, q_upI_nk (by omega), q_upI_nk (by omega)])
    have y1 : m_z m (M.set k (p.nm, p.so, p.lo, p.hi, p.sl)) Z tb I1 := h.set (f' := (p.nm, p.so, p.lo, p.hi, p.sl)) k1 rfl hso2 hM1 (fun j j1 j2 => o1 _ (by omega) (by omega)) (by rw [o1 m (by omega) (by omega)]) (by rw [o1 m (by omega) (by omega)])
    have g1 : m_zf m I I1 := m_zf.arr fun b hb => o1 b (by omega) (by omega)
    have hf2 : (M.set k (p.nm, p.so, p.lo, p.hi, p.sl))[k]? = some (p.nm, p.so, p.lo, p.hi, p.sl) := by rw [List.getElem?_set, if_pos rfl, if_pos k3]
    have hch := c_Model_change2 (g := g) (sz := sz) (J := J) (k := k) (s := pl) (q := q) (fw := false) (p := p) hL y1 (by omega) (k_nds_set hnM k1 rfl) hf2 rfl hso2 (hpp.cong (o1 _ (by omega) (by omega))) (by omega) hcc.ok (by omega) (by omega) (hcc.lh hw)
    rw [hk] at kt hch ⊢
    refine q_tableIn (tgt := 219) (off := 156) d_Model_back_63 (by omega) (by omega) (by rw [kt]; rfl) (by omega) ?_
    refine q_aload_n d_Model_back_219 rfl rfl ?_
    refine q_getR (ci := 11) (fk := 21) d_Model_back_220 rfl (Nat.le_of_ble_eq_true rfl) w_1125 (fun _ _ => rfl) hL.1 (hL.2 21 _ _ _ rfl).1 ?_
    refine q_iload d_Model_back_223 rfl ?_
    refine q_aload_n d_Model_back_225 rfl rfl ?_
    refine q_getR (ci := 11) (fk := 12) d_Model_back_226 rfl (Nat.le_of_ble_eq_true rfl) w_1116 (fun _ _ => rfl) hL.1 (hL.2 12 _ _ _ rfl).1 ?_
    refine q_iload_n d_Model_back_229 rfl rfl ?_
    refine q_bipush (v := nI 6) d_Model_back_230 (by decide) ?_
    first | refine q_iaddN d_Model_back_232 ?_ | refine q_iadd d_Model_back_232 ?_
    refine q_iald d_Model_back_233 (hL.2 12 _ _ _ rfl).2 (by first | assumption | exact vp_in_nI (by omega) (by omega)) ?_
    rw [p6]
    refine q_iast d_Model_back_234 (hL.2 21 _ _ _ rfl).2 (by first | assumption | exact vp_in_nI (by omega) (by omega)) ?_
    refine q_aload_n d_Model_back_235 rfl rfl ?_
    refine q_getR (ci := 11) (fk := 22) d_Model_back_236 rfl (Nat.le_of_ble_eq_true rfl) w_1126 (fun _ _ => rfl) hL.1 (hL.2 22 _ _ _ rfl).1 ?_
    refine q_iload d_Model_back_239 rfl ?_
    refine q_aload_n d_Model_back_241 rfl rfl ?_
    refine q_getR (ci := 11) (fk := 12) d_Model_back_242 rfl (Nat.le_of_ble_eq_true rfl) w_1116 (fun _ _ => rfl) hL.1 (hL.2 12 _ _ _ rfl).1 ?_
    refine q_iload_n d_Model_back_245 rfl rfl ?_
    refine q_bipush (v := nI 7) d_Model_back_246 (by decide) ?_
    first | refine q_iaddN d_Model_back_248 ?_ | refine q_iadd d_Model_back_248 ?_
    refine q_iald d_Model_back_249 (hL.2 12 _ _ _ rfl).2 (by first | assumption | exact vp_in_nI (by omega) (by omega)) ?_
    rw [q_upI_nea (by omega), p7]
    refine q_iast d_Model_back_250 (hL.2 22 _ _ _ rfl).2 (by first | assumption | exact vp_in_nI (by omega) (by omega)) ?_
    rw [← hI1]
    refine q_aload_n d_Model_back_251 rfl rfl ?_
    refine q_iload d_Model_back_252 rfl ?_
    refine q_iload d_Model_back_254 rfl ?_
    refine q_iload d_Model_back_256 rfl ?_
    refine q_iload d_Model_back_258 rfl ?_
    refine q_iconst (v := nI 0) d_Model_back_260 (by decide) ?_
    refine q_iload d_Model_back_261 rfl ?_
    refine q_iload_n d_Model_back_263 rfl rfl ?_
    refine q_callVv (M2 := M_Model_change) d_Model_back_264 ⟨(Nat.le_of_ble_eq_true rfl), (Nat.le_of_ble_eq_true rfl), w_1359, w_10, ⟨by decide, by decide⟩, show _ = some 7 by decide +kernel⟩ w_1356 w_1358 (ci := 11) rfl s_69 hL.1 rfl (Nat.le_of_ble_eq_true rfl) (by omega) (by omega) (hch) ?_
    rintro _ ⟨I2, tb2, rfl, f2, y2, b1, b2⟩
    refine q_goto (tgt := 286) d_Model_back_267 rfl ?_
    refine q_vret d_Model_back_286 rfl (by omega) (by omega) ?_
    refine ⟨rfl, _, ?_, I2, tb2, rfl, g1.trans f2, y2, b1, by omega⟩
    have := k_at_set hdi k1 (fun f => (f.1, f.2.1, p.lo, p.hi, f.2.2.2.2))
    rw [← show M.map (k_at p.nm (fun f => (f.1, f.2.1, p.lo, p.hi, f.2.2.2.2))) = M.set k (p.nm, p.so, p.lo, p.hi, p.sl) from this]
    refine (hPm.map _).trans (List.Perm.of_eq ?_)
    exact k_at_inv (u := fun f => (f.1, f.2.1, z_scf p.a p.b f.2.2.1, z_scf p.a p.b f.2.2.2.1, f.2.2.2.2)) (w := fun f => (f.1, f.2.1, p.lo, p.hi, f.2.2.2.2)) hw hcc (by omega) (fun _ => rfl) rfl
  · -- map
    have hso2 : p.so ≠ 2 := of_decide_eq_false (hcc.ng (by omega))
    rw [k_fw_7 (Or.inl hk)] at hPm idx
    obtain ⟨k, k1, k2, k3⟩ := idx p.f (a4 (by omega)) rfl
    rw [k2, show p_idx (some k) = nI k from rfl]
    rw [z_go_c (by omega) (by omega)]
    have hch := c_Model_change2 (g := g) (sz := sz) (J := J) (k := k) (s := pl) (q := q) (fw := false) (p := p) hL h (by omega) hnM k1 rfl hso2 hpp (by omega) hcc.ok (by omega) (by omega) (hcc.lh hw)
    rw [hk] at kt hch ⊢
    refine q_tableOut (tgt := 270) d_Model_back_63 (Or.inr (by omega)) (by omega) ?_
    refine q_aload_n d_Model_back_270 rfl rfl ?_
    refine q_iload d_Model_back_271 rfl ?_
    refine q_iload d_Model_back_273 rfl ?_
    refine q_iload d_Model_back_275 rfl ?_
    refine q_iload d_Model_back_277 rfl ?_
    refine q_iconst (v := nI 0) d_Model_back_279 (by decide) ?_
    refine q_iload d_Model_back_280 rfl ?_
    refine q_iload_n d_Model_back_282 rfl rfl ?_
    refine q_callVv (M2 := M_Model_change) d_Model_back_283 ⟨(Nat.le_of_ble_eq_true rfl), (Nat.le_of_ble_eq_true rfl), w_1359, w_10, ⟨by decide, by decide⟩, show _ = some 7 by decide +kernel⟩ w_1356 w_1358 (ci := 11) rfl s_69 hL.1 rfl (Nat.le_of_ble_eq_true rfl) (by omega) (by omega) (hch) ?_
    rintro _ hz
    refine q_vret d_Model_back_286 rfl (by omega) (by omega) ?_
    exact ⟨rfl, M, hPm, hz.mono (by omega)⟩
  · -- sort
    have hso2 : p.so ≠ 2 := of_decide_eq_false (hcc.ng (by omega))
    rw [k_fw_7 (Or.inr hk)] at hPm idx
    obtain ⟨k, k1, k2, k3⟩ := idx p.f (a4 (by omega)) rfl
    rw [k2, show p_idx (some k) = nI k from rfl]
    rw [z_go_c (by omega) (by omega)]
    have hch := c_Model_change2 (g := g) (sz := sz) (J := J) (k := k) (s := pl) (q := q) (fw := false) (p := p) hL h (by omega) hnM k1 rfl hso2 hpp (by omega) hcc.ok (by omega) (by omega) (hcc.lh hw)
    rw [hk] at kt hch ⊢
    refine q_tableOut (tgt := 270) d_Model_back_63 (Or.inr (by omega)) (by omega) ?_
    refine q_aload_n d_Model_back_270 rfl rfl ?_
    refine q_iload d_Model_back_271 rfl ?_
    refine q_iload d_Model_back_273 rfl ?_
    refine q_iload d_Model_back_275 rfl ?_
    refine q_iload d_Model_back_277 rfl ?_
    refine q_iconst (v := nI 0) d_Model_back_279 (by decide) ?_
    refine q_iload d_Model_back_280 rfl ?_
    refine q_iload_n d_Model_back_282 rfl rfl ?_
    refine q_callVv (M2 := M_Model_change) d_Model_back_283 ⟨(Nat.le_of_ble_eq_true rfl), (Nat.le_of_ble_eq_true rfl), w_1359, w_10, ⟨by decide, by decide⟩, show _ = some 7 by decide +kernel⟩ w_1356 w_1358 (ci := 11) rfl s_69 hL.1 rfl (Nat.le_of_ble_eq_true rfl) (by omega) (by omega) (hch) ?_
    rintro _ hz
    refine q_vret d_Model_back_286 rfl (by omega) (by omega) ?_
    exact ⟨rfl, M, hPm, hz.mono (by omega)⟩
end MForth2
