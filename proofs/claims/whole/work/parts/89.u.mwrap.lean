/-! translate, by the reference: wrap, unwrap, split, join -/
section MWrap
variable {g : q_G} {sz m : Nat} {T : q_T} {I : q_I} {R : q_R} {J : q_J} {M : List KF} {X : KV}
theorem m_x.rs {k : Nat} {f : KF} {v : List Int32} {I' : q_I} (h : m_x m M X I) (hn : k_nds M) (hf : M[k]? = some f) (ho : ∀ b, b ≠ m + 18 → I' b = I b) (hr : ∀ j, j < 2 ^ 31 → j < 7 * k ∨ 7 * k + 7 ≤ j → I' (m + 18) (nI j) = I (m + 18) (nI j)) (hv : k_rw (I' (m + 18)) (7 * k) v) : m_x m M (k_ud X.1 f.2.2.2.2 v, X.2.1, X.2.2) I' := by
  obtain ⟨x1, x2, x3, x4, x5⟩ := h
  exact ⟨x1.cong (by rw [ho m (by omega)]) (fun j j1 j2 => ho _ (by omega)), x2.put hn x1.2.1 hf hr hv, x3.cong (ho _ (by omega)) (ho _ (by omega)), by rw [ho m (by omega)]; exact x4, by rw [ho m (by omega)]; exact x5⟩
theorem k_ud_id {α : Type} {f : Nat → α} {s : Nat} : k_ud f s (f s) = f := by
  funext j
  unfold k_ud
  split
  · rename_i h; rw [h]
  · rfl
theorem m_x.set {k : Nat} {f f' : KF} {I' : q_I} (h : m_x m M X I) (hf : M[k]? = some f) (hs : f'.2.2.2.2 = f.2.2.2.2) (hM : k_mw m (M.set k f') I') (ho : ∀ j, 18 ≤ j → j ≤ 21 → j ≠ 19 → I' (m + j) = I (m + j)) (h27 : I' m (nI 27) = I m (nI 27)) (h28 : I' m (nI 28) = I m (nI 28)) : m_x m (M.set k f') X I' := by
  obtain ⟨x1, x2, x3, x4, x5⟩ := h
  refine ⟨hM, fun i e he => ?_, x3.cong (ho 20 (by omega) (by omega) (by omega)) (ho 21 (by omega) (by omega) (by omega)), h27.trans x4, h28.trans x5⟩
  rw [ho 18 (by omega) (by omega) (by omega)]
  rw [List.getElem?_set] at he
  by_cases hik : k = i
  · subst hik
    rw [if_pos rfl, if_pos (List.getElem?_eq_some_iff.mp hf).1] at he
    rw [← Option.some.inj he, hs]
    exact x2 k f hf
  · rw [if_neg hik] at he
    exact x2 i e he
theorem m_x.come {f : KF} {I' : q_I} (h : m_x m M X I) (hn : ∀ e ∈ M, e.2.2.2.2 ≠ f.2.2.2.2) (h1 : m_wk m I I') (h2 : m_come m M f I I') : m_x m (M ++ [f]) (k_ud X.1 f.2.2.2.2 (k_dfl f.2.1 f.2.2.1 f.2.2.2.1), X.2.1, X.2.2) I' := by
  obtain ⟨x1, x2, x3, x4, x5⟩ := h
  refine ⟨h2.1, fun i e he => ?_, x3.cong (h1.1 _ (by omega) (by omega)) (h1.1 _ (by omega) (by omega)), by rw [h1.2 _ (fun z => absurd (q_nI_inj z) (by decide))]; exact x4, by rw [h1.2 _ (fun z => absurd (q_nI_inj z) (by decide))]; exact x5⟩
  have h26 := x1.2.1
  rw [List.getElem?_append] at he
  by_cases hi : i < M.length
  · rw [if_pos hi] at he
    show k_rw _ _ (k_ud X.1 f.2.2.2.2 _ e.2.2.2.2)
    rw [k_ud_ne (hn e (List.mem_of_getElem? he))]
    exact (x2 i e he).cong fun j j1 j2 => h2.2.2.1 j (by omega)
  · rw [if_neg hi] at he
    have hz : i - M.length = 0 := by
      have := (List.getElem?_eq_some_iff.mp he).1
      simp only [List.length_singleton] at this
      omega
    rw [hz] at he
    rw [← Option.some.inj he, show i = M.length by omega]
    show k_rw _ _ (k_ud X.1 f.2.2.2.2 _ f.2.2.2.2)
    rw [k_ud_self]; exact h2.2.1
theorem c_Model_wrap1 {k s : Nat} {f : KF} {p : KP} (hL : q_L 11 t_Model m T R) (h : m_x m M X I) (hn : k_nds M) (hf : M[k]? = some f) (hfs : f.2.2.2.2 = p.sl) (hlo : f.2.2.1 = p.lo) (hhi : f.2.2.2.1 = p.hi) (hs : s < 128) (h1l : (X.1 p.sl).length = 1) (hK : (X.2.1 s).1 = 0 ∨ (X.2.1 s).1 = 1) : q_Cv g M_Model_wrap [.ref m, .int (nI k), .int (nI s)] (sz, T, I, R, J) 0 0 (fun h' => ∃ I' : q_I, h' = (sz, T, I', R, J) ∧ (∀ b, b ≠ m + 18 → b ≠ m + 20 → I' b = I b) ∧ m_x m M (t_wrp p s X) I') := by
  have hkl := (List.getElem?_eq_some_iff.mp hf).1
  have h26 := h.1.2.1
  obtain ⟨g1, g2, g3, g4⟩ := h.1.2.2 k f hf
  rw [hlo] at g3
  rw [hhi] at g4
  have t18 : T (m + 18) = some (0, 182) := (hL.2 23 _ _ _ rfl).2
  have t21 : T (m + 21) = some (0, 1792) := (hL.2 26 _ _ _ rfl).2
  have hr := h.2.1 k f hf
  rw [hfs] at hr
  obtain ⟨x, hx⟩ : ∃ x, X.1 p.sl = [x] := by
    match hv : X.1 p.sl, h1l with
    | [x], _ => exact ⟨x, rfl⟩
  have hx1 : I (m + 18) (nI (7 * k + 1)) = x := hr.2.2 0 x (by rw [hx]; rfl)
  refine q_C.of (ls0 := [some (.ref m), some (.int (nI k)), some (.int (nI s)), none]) (by decide) rfl (by decide) (Nat.le_of_ble_eq_true rfl) rfl ?_
  have fin : ∀ (I2 : q_I) (v : List Int32) (mcc msc : Nat), mcc = 0 → msc = 0 → (∀ b, b ≠ m + 18 → I2 b = I b) → (∀ j, j < 2 ^ 31 → j < 7 * k ∨ 7 * k + 7 ≤ j → I2 (m + 18) (nI j) = I (m + 18) (nI j)) → k_rw (I2 (m + 18)) (7 * k) v → v = (if (X.2.1 s).1 = 0 then X.1 p.sl else a_wrp p ((X.1 p.sl).headD 0) (X.2.1 s).2.1) → q_V g M_Model_wrap 0 0 mcc msc (sz, T, I2, R, J) (fun o h' => o = .inl none ∧ ∃ I' : q_I, h' = (sz, T, I', R, J) ∧ (∀ b, b ≠ m + 18 → b ≠ m + 20 → I' b = I b) ∧ m_x m M (t_wrp p s X) I') 118 [some (.ref m), some (.int (nI k)), some (.int (nI s)), some (.int x)] [] := by
    intro I2 v mcc msc m1 m2 e1 e2 e3 e4
    subst m1 m2
    refine q_aload_n d_Model_wrap_118 rfl rfl ?_
    refine q_getR (ci := 11) (fk := 25) d_Model_wrap_119 rfl (Nat.le_of_ble_eq_true rfl) w_1129 (fun _ _ => rfl) hL.1 (hL.2 25 _ _ _ rfl).1 ?_
    refine q_iload_n d_Model_wrap_122 rfl rfl ?_
    refine q_iconst (v := nI 0) d_Model_wrap_123 (by decide) ?_
    refine q_iast d_Model_wrap_124 (hL.2 25 _ _ _ rfl).2 (by first | assumption | exact vp_in_nI (by omega) (by omega)) ?_
    refine q_vret d_Model_wrap_125 rfl (by omega) (by omega) ?_
    have y := (h.rs hn hf e1 e2 e3).kz hs
    rw [hfs, e4] at y
    exact ⟨rfl, _, rfl, fun b b1 b2 => by funext i; rw [q_upI_nea b2, e1 b b1], y⟩
  refine q_aload_n d_Model_wrap_0 rfl rfl ?_
  refine q_getR (ci := 11) (fk := 23) d_Model_wrap_1 rfl (Nat.le_of_ble_eq_true rfl) w_1127 (fun _ _ => rfl) hL.1 (hL.2 23 _ _ _ rfl).1 ?_
  refine q_bipush (v := nI 7) d_Model_wrap_4 (by decide) ?_
  refine q_iload_n d_Model_wrap_6 rfl rfl ?_
  first | refine q_imulN d_Model_wrap_7 ?_ | refine q_imul d_Model_wrap_7 ?_
  refine q_iconst (v := nI 1) d_Model_wrap_8 (by decide) ?_
  first | refine q_iaddN d_Model_wrap_9 ?_ | refine q_iadd d_Model_wrap_9 ?_
  refine q_iald d_Model_wrap_10 (hL.2 23 _ _ _ rfl).2 (by first | assumption | exact vp_in_nI (by omega) (by omega)) ?_
  rw [hx1]
  refine q_istore_n d_Model_wrap_11 rfl (Nat.le_of_ble_eq_true rfl) (by first | exact q_ok0 | exact q_okI rfl | exact q_okR rfl | exact q_okN rfl) rfl ?_
  refine q_aload_n d_Model_wrap_12 rfl rfl ?_
  refine q_getR (ci := 11) (fk := 25) d_Model_wrap_13 rfl (Nat.le_of_ble_eq_true rfl) w_1129 (fun _ _ => rfl) hL.1 (hL.2 25 _ _ _ rfl).1 ?_
  refine q_iload_n d_Model_wrap_16 rfl rfl ?_
  refine q_iald d_Model_wrap_17 (hL.2 25 _ _ _ rfl).2 (by first | assumption | exact vp_in_nI (by omega) (by omega)) ?_
  rw [(h.2.2.1 s hs).1]
  rcases hK with h0 | h0
  · rw [h0]
    refine q_iconst (v := nI 1) d_Model_wrap_18 (by decide) ?_
    refine q_icmp_ne (tgt := 118) d_Model_wrap_19 rfl (fun hc => ?_) (fun hc => ?_)
    · exact fin I _ _ _ rfl rfl (fun _ _ => rfl) (fun _ _ _ => rfl) hr (by rw [if_pos h0])
    · exact absurd hc (by decide)
  · rw [h0]
    refine q_iconst (v := nI 1) d_Model_wrap_18 (by decide) ?_
    refine q_icmp_ne (tgt := 118) d_Model_wrap_19 rfl (fun hc => ?_) (fun hc => ?_)
    · exact absurd rfl hc
    refine q_aload_n d_Model_wrap_22 rfl rfl ?_
    refine q_getR (ci := 11) (fk := 26) d_Model_wrap_23 rfl (Nat.le_of_ble_eq_true rfl) w_1130 (fun _ _ => rfl) hL.1 (hL.2 26 _ _ _ rfl).1 ?_
    refine q_bipush (v := nI 14) d_Model_wrap_26 (by decide) ?_
    refine q_iload_n d_Model_wrap_28 rfl rfl ?_
    first | refine q_imulN d_Model_wrap_29 ?_ | refine q_imul d_Model_wrap_29 ?_
    refine q_aload_n d_Model_wrap_30 rfl rfl ?_
    refine q_getR (ci := 11) (fk := 23) d_Model_wrap_31 rfl (Nat.le_of_ble_eq_true rfl) w_1127 (fun _ _ => rfl) hL.1 (hL.2 23 _ _ _ rfl).1 ?_
    refine q_bipush (v := nI 7) d_Model_wrap_34 (by decide) ?_
    refine q_iload_n d_Model_wrap_36 rfl rfl ?_
    first | refine q_imulN d_Model_wrap_37 ?_ | refine q_imul d_Model_wrap_37 ?_
    refine q_callSv (M2 := M_Model_copyRow) d_Model_wrap_38 ⟨(Nat.le_of_ble_eq_true rfl), (Nat.le_of_ble_eq_true rfl), w_1321, w_10, ⟨by decide, by decide⟩, show _ = some 4 by decide +kernel⟩ w_1319 w_1320 rfl (Nat.le_of_ble_eq_true rfl) (by omega) (by omega) (c_Model_copyRow (a := m + 21) (a2 := m + 18) t21 t18 (by omega) (by omega) (by omega) (by omega) (Or.inl (by omega))) ?_
    rintro _ ⟨I2, rfl, cp⟩
    obtain ⟨w, hw⟩ : ∃ w, w = (X.2.1 s).2.1 := ⟨_, rfl⟩
    have hr2 : k_rw (I2 (m + 18)) (7 * k) w := by rw [hw]; exact cp.rw ((h.2.2.1 s hs).2.1 (by omega))
    have e2 : ∀ j, j < 2 ^ 31 → j < 7 * k ∨ 7 * k + 7 ≤ j → I2 (m + 18) (nI j) = I (m + 18) (nI j) := fun j j1 j2 => cp.2.2 j j1 j2
    have hw6 := hr2.1
    have ev : (if (X.2.1 s).1 = 0 then X.1 p.sl else a_wrp p ((X.1 p.sl).headD 0) (X.2.1 s).2.1) = a_wrp p x w := by rw [if_neg (by omega), hx, hw]; rfl
    rw [ev] at fin
    have set1 : ∀ (n : Nat) (v : List Int32) (mcc msc : Nat), mcc = 0 → msc = 0 → v.length = n → v.length ≤ 6 → (∀ (i : Nat) (y : Int32), v[i]? = some y → (i = 0 ∧ y = x) ∨ (i ≠ 0 ∧ w[i]? = some y)) → v = a_wrp p x w → q_V g M_Model_wrap 0 0 mcc msc (sz, T, I2, R, J) (fun o h' => o = .inl none ∧ ∃ I' : q_I, h' = (sz, T, I', R, J) ∧ (∀ b, b ≠ m + 18 → b ≠ m + 20 → I' b = I b) ∧ m_x m M (t_wrp p s X) I') 105 [some (.ref m), some (.int (nI k)), some (.int (nI s)), some (.int x)] [.int (nI n), .int (nI (7 * k)), .ref (m + 18)] := by
      intro n v mcc msc m1 m2 v1 v2 v3 v4
      subst m1 m2
      refine q_iast d_Model_wrap_105 (hL.2 23 _ _ _ rfl).2 (by first | assumption | exact vp_in_nI (by omega) (by omega)) ?_
      refine q_aload_n d_Model_wrap_106 rfl rfl ?_
      refine q_getR (ci := 11) (fk := 23) d_Model_wrap_107 rfl (Nat.le_of_ble_eq_true rfl) w_1127 (fun _ _ => rfl) hL.1 (hL.2 23 _ _ _ rfl).1 ?_
      refine q_bipush (v := nI 7) d_Model_wrap_110 (by decide) ?_
      refine q_iload_n d_Model_wrap_112 rfl rfl ?_
      first | refine q_imulN d_Model_wrap_113 ?_ | refine q_imul d_Model_wrap_113 ?_
      refine q_iconst (v := nI 1) d_Model_wrap_114 (by decide) ?_
      first | refine q_iaddN d_Model_wrap_115 ?_ | refine q_iadd d_Model_wrap_115 ?_
      refine q_iload_n d_Model_wrap_116 rfl rfl ?_
      refine q_iast d_Model_wrap_117 (hL.2 23 _ _ _ rfl).2 (by first | assumption | exact vp_in_nI (by omega) (by omega)) ?_
      refine fin _ v _ _ rfl rfl (fun b hb => ?_) (fun j j1 j2 => ?_) ⟨v2, ?_, fun i y hy => ?_⟩ v4
      · funext z; rw [q_upI_nea hb, q_upI_nea hb, cp.1 b hb]
      · rw [q_upI_nk (by omega), q_upI_nk (by omega)]; exact e2 j j1 j2
      · rw [q_upI_nk (by omega), q_upI_self, v1]
      · have hi := (List.getElem?_eq_some_iff.mp hy).1
        rcases v3 i y hy with ⟨z1, z2⟩ | ⟨z1, z2⟩
        · subst z1
          rw [show 7 * k + 1 + 0 = 7 * k + 1 by omega, q_upI_self, z2]
        · rw [q_upI_nk (by omega), q_upI_nk (by omega)]
          exact hr2.2.2 i y z2
    refine q_aload_n d_Model_wrap_41 rfl rfl ?_
    refine q_getR (ci := 11) (fk := 23) d_Model_wrap_42 rfl (Nat.le_of_ble_eq_true rfl) w_1127 (fun _ _ => rfl) hL.1 (hL.2 23 _ _ _ rfl).1 ?_
    refine q_bipush (v := nI 7) d_Model_wrap_45 (by decide) ?_
    refine q_iload_n d_Model_wrap_47 rfl rfl ?_
    first | refine q_imulN d_Model_wrap_48 ?_ | refine q_imul d_Model_wrap_48 ?_
    refine q_iald d_Model_wrap_49 (hL.2 23 _ _ _ rfl).2 (by first | assumption | exact vp_in_nI (by omega) (by omega)) ?_
    rw [hr2.2.1]
    by_cases h0w : 0 < w.length
    · have hpos : (0 : Int32) < nI w.length := by
        rw [Int32.lt_iff_toInt_lt, nI_toInt (by omega)]
        have h0 : (0 : Int32).toInt = 0 := by decide
        omega
      refine q_if_gt (tgt := 72) d_Model_wrap_50 rfl (fun hc => ?_) (fun hc => ?_)
      rotate_left
      · exact absurd hpos hc
      refine q_aload_n d_Model_wrap_72 rfl rfl ?_
      refine q_getR (ci := 11) (fk := 23) d_Model_wrap_73 rfl (Nat.le_of_ble_eq_true rfl) w_1127 (fun _ _ => rfl) hL.1 (hL.2 23 _ _ _ rfl).1 ?_
      refine q_bipush (v := nI 7) d_Model_wrap_76 (by decide) ?_
      refine q_iload_n d_Model_wrap_78 rfl rfl ?_
      first | refine q_imulN d_Model_wrap_79 ?_ | refine q_imul d_Model_wrap_79 ?_
      refine q_aload_n d_Model_wrap_80 rfl rfl ?_
      refine q_getR (ci := 11) (fk := 23) d_Model_wrap_81 rfl (Nat.le_of_ble_eq_true rfl) w_1127 (fun _ _ => rfl) hL.1 (hL.2 23 _ _ _ rfl).1 ?_
      refine q_bipush (v := nI 7) d_Model_wrap_84 (by decide) ?_
      refine q_iload_n d_Model_wrap_86 rfl rfl ?_
      first | refine q_imulN d_Model_wrap_87 ?_ | refine q_imul d_Model_wrap_87 ?_
      refine q_iald d_Model_wrap_88 (hL.2 23 _ _ _ rfl).2 (by first | assumption | exact vp_in_nI (by omega) (by omega)) ?_
      rw [hr2.2.1]
      refine q_if_le (tgt := 104) d_Model_wrap_89 rfl (fun hc => ?_) (fun hc => ?_)
      · exact absurd hc (Int32.not_le.mpr hpos)
      refine q_aload_n d_Model_wrap_92 rfl rfl ?_
      refine q_getR (ci := 11) (fk := 23) d_Model_wrap_93 rfl (Nat.le_of_ble_eq_true rfl) w_1127 (fun _ _ => rfl) hL.1 (hL.2 23 _ _ _ rfl).1 ?_
      refine q_bipush (v := nI 7) d_Model_wrap_96 (by decide) ?_
      refine q_iload_n d_Model_wrap_98 rfl rfl ?_
      first | refine q_imulN d_Model_wrap_99 ?_ | refine q_imul d_Model_wrap_99 ?_
      refine q_iald d_Model_wrap_100 (hL.2 23 _ _ _ rfl).2 (by first | assumption | exact vp_in_nI (by omega) (by omega)) ?_
      rw [hr2.2.1]
      refine q_goto (tgt := 105) d_Model_wrap_101 rfl ?_
      refine set1 w.length (w.set 0 x) _ _ rfl rfl (by rw [List.length_set]) (by rw [List.length_set]; exact hw6) (fun i y hy => ?_) (by unfold a_wrp; rw [if_pos h0w])
      rw [List.getElem?_set] at hy
      by_cases hi : 0 = i
      · rw [if_pos hi, if_pos h0w] at hy
        exact Or.inl ⟨hi.symm, (Option.some.inj hy).symm⟩
      · rw [if_neg hi] at hy
        exact Or.inr ⟨fun z => hi z.symm, hy⟩
    · have hz : w.length = 0 := by omega
      rw [hz]
      refine q_if_gt (tgt := 72) d_Model_wrap_50 rfl (fun hc => ?_) (fun hc => ?_)
      · exact absurd hc (by decide)
      refine q_iload_n d_Model_wrap_53 rfl rfl ?_
      refine q_aload_n d_Model_wrap_54 rfl rfl ?_
      refine q_getR (ci := 11) (fk := 21) d_Model_wrap_55 rfl (Nat.le_of_ble_eq_true rfl) w_1125 (fun _ _ => rfl) hL.1 (hL.2 21 _ _ _ rfl).1 ?_
      refine q_iload_n d_Model_wrap_58 rfl rfl ?_
      refine q_iald d_Model_wrap_59 (hL.2 21 _ _ _ rfl).2 (by first | assumption | exact vp_in_nI (by omega) (by omega)) ?_
      rw [cp.1 _ (by omega), g3]
      refine q_aload_n d_Model_wrap_60 rfl rfl ?_
      refine q_getR (ci := 11) (fk := 22) d_Model_wrap_61 rfl (Nat.le_of_ble_eq_true rfl) w_1126 (fun _ _ => rfl) hL.1 (hL.2 22 _ _ _ rfl).1 ?_
      refine q_iload_n d_Model_wrap_64 rfl rfl ?_
      refine q_iald d_Model_wrap_65 (hL.2 22 _ _ _ rfl).2 (by first | assumption | exact vp_in_nI (by omega) (by omega)) ?_
      rw [cp.1 _ (by omega), g4]
      refine q_callSi (M2 := M_Model_nearest) d_Model_wrap_66 ⟨(Nat.le_of_ble_eq_true rfl), (Nat.le_of_ble_eq_true rfl), w_1240, w_10, ⟨by decide, by decide⟩, show _ = some 2 by decide +kernel⟩ w_1238 w_1239 rfl (Nat.le_of_ble_eq_true rfl) (by omega) (by omega) (c_Model_nearest _ _) ?_
      rintro _ _ ⟨rfl, rfl⟩
      refine q_icmp_eq (tgt := 118) d_Model_wrap_69 rfl (fun hc => ?_) (fun hc => ?_)
      · refine fin I2 w _ _ rfl rfl cp.1 e2 hr2 ?_
        unfold a_wrp
        rw [if_neg h0w, if_pos hc]
        exact List.length_eq_zero_iff.mp hz
      · have hcx := hc
        refine q_aload_n d_Model_wrap_72 rfl rfl ?_
        refine q_getR (ci := 11) (fk := 23) d_Model_wrap_73 rfl (Nat.le_of_ble_eq_true rfl) w_1127 (fun _ _ => rfl) hL.1 (hL.2 23 _ _ _ rfl).1 ?_
        refine q_bipush (v := nI 7) d_Model_wrap_76 (by decide) ?_
        refine q_iload_n d_Model_wrap_78 rfl rfl ?_
        first | refine q_imulN d_Model_wrap_79 ?_ | refine q_imul d_Model_wrap_79 ?_
        refine q_aload_n d_Model_wrap_80 rfl rfl ?_
        refine q_getR (ci := 11) (fk := 23) d_Model_wrap_81 rfl (Nat.le_of_ble_eq_true rfl) w_1127 (fun _ _ => rfl) hL.1 (hL.2 23 _ _ _ rfl).1 ?_
        refine q_bipush (v := nI 7) d_Model_wrap_84 (by decide) ?_
        refine q_iload_n d_Model_wrap_86 rfl rfl ?_
        first | refine q_imulN d_Model_wrap_87 ?_ | refine q_imul d_Model_wrap_87 ?_
        refine q_iald d_Model_wrap_88 (hL.2 23 _ _ _ rfl).2 (by first | assumption | exact vp_in_nI (by omega) (by omega)) ?_
        rw [hr2.2.1, hz]
        refine q_if_le (tgt := 104) d_Model_wrap_89 rfl (fun hc => ?_) (fun hc => ?_)
        rotate_left
        · exact absurd (by decide) hc
        refine q_iconst (v := nI 1) d_Model_wrap_104 (by decide) ?_
        refine set1 1 [x] _ _ rfl rfl rfl (by simp) (fun i y hy => ?_) (by unfold a_wrp; rw [if_neg h0w, if_neg hcx])
        cases i with
        | zero => exact Or.inl ⟨rfl, (Option.some.inj hy).symm⟩
        | succ i => cases hy
theorem c_Model_unwrap1 {k s : Nat} {f : KF} {p : KP} (hL : q_L 11 t_Model m T R) (h : m_x m M X I) (hn : k_nds M) (hf : M[k]? = some f) (hfs : f.2.2.2.2 = p.sl) (hlo : f.2.2.1 = p.lo) (hhi : f.2.2.2.1 = p.hi) (hs : s < 128) : q_Cv g M_Model_unwrap [.ref m, .int (nI k), .int (nI s)] (sz, T, I, R, J) 0 0 (fun h' => ∃ I' : q_I, h' = (sz, T, I', R, J) ∧ (∀ b, b ≠ m + 18 → b ≠ m + 20 → b ≠ m + 21 → I' b = I b) ∧ m_x m M (t_unw p s X) I') := by
  have hkl := (List.getElem?_eq_some_iff.mp hf).1
  have h26 := h.1.2.1
  refine q_C.of (ls0 := [some (.ref m), some (.int (nI k)), some (.int (nI s))]) (by decide) rfl (by decide) (Nat.le_of_ble_eq_true rfl) rfl ?_
  refine q_aload_n d_Model_unwrap_0 rfl rfl ?_
  refine q_getR (ci := 11) (fk := 25) d_Model_unwrap_1 rfl (Nat.le_of_ble_eq_true rfl) w_1129 (fun _ _ => rfl) hL.1 (hL.2 25 _ _ _ rfl).1 ?_
  refine q_iload_n d_Model_unwrap_4 rfl rfl ?_
  refine q_iconst (v := nI 0) d_Model_unwrap_5 (by decide) ?_
  refine q_iast d_Model_unwrap_6 (hL.2 25 _ _ _ rfl).2 (by first | assumption | exact vp_in_nI (by omega) (by omega)) ?_
  have y := h.kz hs
  obtain ⟨I1, hI1⟩ : ∃ I1, I1 = q_upI I (m + 20) (nI s) (nI 0) := ⟨_, rfl⟩
  have f1 : ∀ b, b ≠ m + 20 → I1 b = I b := fun b hb => by rw [hI1]; funext i; rw [q_upI_nea hb]
  rw [← hI1] at y ⊢
  have hr1 := y.2.1 k f hf
  rw [hfs] at hr1
  have hr1' : k_rw (I1 (m + 18)) (7 * k) (X.1 p.sl) := hr1
  have h6 := hr1'.1
  have fin : ∀ (I2 : q_I) (mcc msc : Nat), mcc = 0 → msc = 0 → (∀ b, b ≠ m + 20 → b ≠ m + 21 → I2 b = I b) → m_x m M (X.1, (t_unw p s X).2.1, X.2.2) I2 → q_V g M_Model_unwrap 0 0 mcc msc (sz, T, I2, R, J) (fun o h' => o = .inl none ∧ ∃ I' : q_I, h' = (sz, T, I', R, J) ∧ (∀ b, b ≠ m + 18 → b ≠ m + 20 → b ≠ m + 21 → I' b = I b) ∧ m_x m M (t_unw p s X) I') 26 [some (.ref m), some (.int (nI k)), some (.int (nI s))] [] := by
    intro I2 mcc msc m1 m2 e1 y2
    subst m1 m2
    have hr2 : k_rw (I2 (m + 18)) (7 * k) (X.1 p.sl) := by
      have := y2.2.1 k f hf
      rw [hfs] at this; exact this
    obtain ⟨g1, g2, g3, g4⟩ := y2.1.2.2 k f hf
    rw [hlo] at g3
    rw [hhi] at g4
    have last : ∀ (I3 : q_I) (x : Int32) (mcc msc : Nat), mcc = 0 → msc = 0 → (∀ b, b ≠ m + 18 → I3 b = I2 b) → (∀ j, j < 2 ^ 31 → j < 7 * k ∨ 7 * k + 7 ≤ j → I3 (m + 18) (nI j) = I2 (m + 18) (nI j)) → I3 (m + 18) (nI (7 * k + 1)) = x → x = (X.1 p.sl).headD (p_near p.lo p.hi) → q_V g M_Model_unwrap 0 0 mcc msc (sz, T, I3, R, J) (fun o h' => o = .inl none ∧ ∃ I' : q_I, h' = (sz, T, I', R, J) ∧ (∀ b, b ≠ m + 18 → b ≠ m + 20 → b ≠ m + 21 → I' b = I b) ∧ m_x m M (t_unw p s X) I') 64 [some (.ref m), some (.int (nI k)), some (.int (nI s))] [] := by
      intro I3 x mcc msc m1 m2 o1 o2 o3 o4
      subst m1 m2
      refine q_aload_n d_Model_unwrap_64 rfl rfl ?_
      refine q_getR (ci := 11) (fk := 23) d_Model_unwrap_65 rfl (Nat.le_of_ble_eq_true rfl) w_1127 (fun _ _ => rfl) hL.1 (hL.2 23 _ _ _ rfl).1 ?_
      refine q_bipush (v := nI 7) d_Model_unwrap_68 (by decide) ?_
      refine q_iload_n d_Model_unwrap_70 rfl rfl ?_
      first | refine q_imulN d_Model_unwrap_71 ?_ | refine q_imul d_Model_unwrap_71 ?_
      refine q_iconst (v := nI 1) d_Model_unwrap_72 (by decide) ?_
      refine q_iast d_Model_unwrap_73 (hL.2 23 _ _ _ rfl).2 (by first | assumption | exact vp_in_nI (by omega) (by omega)) ?_
      refine q_vret d_Model_unwrap_74 rfl (by omega) (by omega) ?_
      have hv : k_rw (q_upI I3 (m + 18) (nI (7 * k)) (nI 1) (m + 18)) (7 * k) [x] := ⟨by simp, by rw [q_upI_self]; rfl, fun i y hy => by
        cases i with
        | zero => rw [← Option.some.inj hy, q_upI_nk (by omega)]; exact o3
        | succ i => cases hy⟩
      have y3 := y2.rs (I' := q_upI I3 (m + 18) (nI (7 * k)) (nI 1)) hn hf (fun b hb => by funext z; rw [q_upI_nea hb, o1 b hb]) (fun j j1 j2 => by rw [q_upI_nk (by omega)]; exact o2 j j1 j2) hv
      rw [hfs, o4] at y3
      exact ⟨rfl, _, rfl, fun b b1 b2 b3 => by funext z; rw [q_upI_nea b1, o1 b b1, e1 b b2 b3], y3⟩
    have h6 := hr2.1
    refine q_aload_n d_Model_unwrap_26 rfl rfl ?_
    refine q_getR (ci := 11) (fk := 23) d_Model_unwrap_27 rfl (Nat.le_of_ble_eq_true rfl) w_1127 (fun _ _ => rfl) hL.1 (hL.2 23 _ _ _ rfl).1 ?_
    refine q_bipush (v := nI 7) d_Model_unwrap_30 (by decide) ?_
    refine q_iload_n d_Model_unwrap_32 rfl rfl ?_
    first | refine q_imulN d_Model_unwrap_33 ?_ | refine q_imul d_Model_unwrap_33 ?_
    refine q_iald d_Model_unwrap_34 (hL.2 23 _ _ _ rfl).2 (by first | assumption | exact vp_in_nI (by omega) (by omega)) ?_
    rw [hr2.2.1]
    by_cases hz : (X.1 p.sl).length = 0
    · rw [hz]
      refine q_if_ne (tgt := 64) d_Model_unwrap_35 rfl (fun hc => ?_) (fun hc => ?_)
      · exact absurd rfl hc
      refine q_aload_n d_Model_unwrap_38 rfl rfl ?_
      refine q_getR (ci := 11) (fk := 23) d_Model_unwrap_39 rfl (Nat.le_of_ble_eq_true rfl) w_1127 (fun _ _ => rfl) hL.1 (hL.2 23 _ _ _ rfl).1 ?_
      refine q_bipush (v := nI 7) d_Model_unwrap_42 (by decide) ?_
      refine q_iload_n d_Model_unwrap_44 rfl rfl ?_
      first | refine q_imulN d_Model_unwrap_45 ?_ | refine q_imul d_Model_unwrap_45 ?_
      refine q_iconst (v := nI 1) d_Model_unwrap_46 (by decide) ?_
      first | refine q_iaddN d_Model_unwrap_47 ?_ | refine q_iadd d_Model_unwrap_47 ?_
      refine q_aload_n d_Model_unwrap_48 rfl rfl ?_
      refine q_getR (ci := 11) (fk := 21) d_Model_unwrap_49 rfl (Nat.le_of_ble_eq_true rfl) w_1125 (fun _ _ => rfl) hL.1 (hL.2 21 _ _ _ rfl).1 ?_
      refine q_iload_n d_Model_unwrap_52 rfl rfl ?_
      refine q_iald d_Model_unwrap_53 (hL.2 21 _ _ _ rfl).2 (by first | assumption | exact vp_in_nI (by omega) (by omega)) ?_
      rw [g3]
      refine q_aload_n d_Model_unwrap_54 rfl rfl ?_
      refine q_getR (ci := 11) (fk := 22) d_Model_unwrap_55 rfl (Nat.le_of_ble_eq_true rfl) w_1126 (fun _ _ => rfl) hL.1 (hL.2 22 _ _ _ rfl).1 ?_
      refine q_iload_n d_Model_unwrap_58 rfl rfl ?_
      refine q_iald d_Model_unwrap_59 (hL.2 22 _ _ _ rfl).2 (by first | assumption | exact vp_in_nI (by omega) (by omega)) ?_
      rw [g4]
      refine q_callSi (M2 := M_Model_nearest) d_Model_unwrap_60 ⟨(Nat.le_of_ble_eq_true rfl), (Nat.le_of_ble_eq_true rfl), w_1240, w_10, ⟨by decide, by decide⟩, show _ = some 2 by decide +kernel⟩ w_1238 w_1239 rfl (Nat.le_of_ble_eq_true rfl) (by omega) (by omega) (c_Model_nearest _ _) ?_
      rintro _ _ ⟨rfl, rfl⟩
      refine q_iast d_Model_unwrap_63 (hL.2 23 _ _ _ rfl).2 (by first | assumption | exact vp_in_nI (by omega) (by omega)) ?_
      refine last _ _ _ _ rfl rfl (fun b hb => by funext z; rw [q_upI_nea hb]) (fun j j1 j2 => by rw [q_upI_nk (by omega)]) (by rw [q_upI_self]) ?_
      rw [List.length_eq_zero_iff.mp hz]; rfl
    · refine q_if_ne (tgt := 64) d_Model_unwrap_35 rfl (fun hc => ?_) (fun hc => ?_)
      rotate_left
      · exact absurd ((nI_eq (b := 0) (by omega) (by omega)).mp hc) hz
      refine last I2 _ _ _ rfl rfl (fun _ _ => rfl) (fun _ _ _ => rfl) rfl ?_
      exact k_hd hr2 (by omega) _
  refine q_aload_n d_Model_unwrap_7 rfl rfl ?_
  refine q_getR (ci := 11) (fk := 23) d_Model_unwrap_8 rfl (Nat.le_of_ble_eq_true rfl) w_1127 (fun _ _ => rfl) hL.1 (hL.2 23 _ _ _ rfl).1 ?_
  refine q_bipush (v := nI 7) d_Model_unwrap_11 (by decide) ?_
  refine q_iload_n d_Model_unwrap_13 rfl rfl ?_
  first | refine q_imulN d_Model_unwrap_14 ?_ | refine q_imul d_Model_unwrap_14 ?_
  refine q_iald d_Model_unwrap_15 (hL.2 23 _ _ _ rfl).2 (by first | assumption | exact vp_in_nI (by omega) (by omega)) ?_
  rw [hr1'.2.1]
  by_cases h1 : (X.1 p.sl).length = 1
  · rw [h1]
    refine q_iconst (v := nI 1) d_Model_unwrap_16 (by decide) ?_
    refine q_icmp_eq (tgt := 26) d_Model_unwrap_17 rfl (fun hc => ?_) (fun hc => ?_)
    rotate_left
    · exact absurd rfl hc
    refine fin I1 _ _ rfl rfl (fun b b1 _ => f1 b b1) ?_
    show m_x m M (X.1, k_ud X.2.1 s _, X.2.2) I1
    rw [if_pos h1]; exact y
  · refine q_iconst (v := nI 1) d_Model_unwrap_16 (by decide) ?_
    refine q_icmp_eq (tgt := 26) d_Model_unwrap_17 rfl (fun hc => ?_) (fun hc => ?_)
    · exact absurd ((nI_eq (by omega) (by omega)).mp hc) h1
    refine q_aload_n d_Model_unwrap_20 rfl rfl ?_
    refine q_iload_n d_Model_unwrap_21 rfl rfl ?_
    refine q_iload_n d_Model_unwrap_22 rfl rfl ?_
    refine q_callVv (M2 := M_Model_keepOne) d_Model_unwrap_23 ⟨(Nat.le_of_ble_eq_true rfl), (Nat.le_of_ble_eq_true rfl), w_1329, w_10, ⟨by decide, by decide⟩, show _ = some 2 by decide +kernel⟩ w_1326 w_1328 (ci := 11) rfl s_63 hL.1 rfl (Nat.le_of_ble_eq_true rfl) (by omega) (by omega) (c_Model_keepOne hL y hf hs) ?_
    rintro _ ⟨I2, rfl, o2, y2⟩
    refine fin I2 _ _ rfl rfl (fun b b1 b2 => (o2 b b1 b2).trans (f1 b b1)) ?_
    show m_x m M (X.1, k_ud X.2.1 s _, X.2.2) I2
    rw [if_neg h1]
    simp only [k_ud_ud, hfs] at y2
    exact y2
end MWrap
