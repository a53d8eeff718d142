/-! same, count, leave -/
section MPub3
variable {g : q_G} {sz m x : Nat} {T : q_T} {I : q_I} {R : q_R} {J : q_J} {S : KA}
theorem c_Model_same_no (hw : wf S) (hM : relM S m T I R) {v u : Int32} (hb : k_ish S.lv v = false ∨ k_ish S.lv u = false) : q_Ci g M_Model_same [.ref m, .int v, .int u] (sz, T, I, R, J) 0 0 (m_spm m sz T I R J (nI 1, 0, S)) := by
  have hL := hM.1
  have hH := hM.mh hw
  have fin : ∀ (mcc msc : Nat), mcc = 0 → msc = 0 → q_V g M_Model_same 0 0 mcc msc (sz, T, I, R, J) (fun o h' => ∃ r : Int32, o = .inl (some (.int r)) ∧ m_spm m sz T I R J (nI 1, 0, S) r h') 21 [some (.ref m), some (.int v), some (.int u), none, none] [.ref m] := by
    intro mcc msc m1 m2
    subst m1 m2
    refine q_iconst (v := nI 1) d_Model_same_21 (by decide) ?_
    refine q_putI (ci := 11) (fk := 0) d_Model_same_22 rfl (Nat.le_of_ble_eq_true rfl) w_1104 (Or.inl rfl) (fun _ _ => rfl) rfl rfl hL.1 ?_
    refine q_aload_n d_Model_same_25 rfl rfl ?_
    refine q_getI (ci := 11) (fk := 0) d_Model_same_26 rfl (Nat.le_of_ble_eq_true rfl) w_1104 (fun _ _ => rfl) hL.1 ?_
    rw [q_upI_self]
    refine q_if_le (tgt := 34) d_Model_same_29 rfl (fun hc => ?_) (fun hc => ?_)
    · exact absurd hc (by decide)
    · refine q_iconst (v := nI 0) d_Model_same_32 (by decide) ?_
      refine q_zret d_Model_same_33 rfl (by first | exact Or.inl rfl | exact Or.inr rfl | assumption) (by omega) (by omega) ?_
      exact ⟨_, rfl, m_no hM (by decide) _⟩
  refine q_C.of (ls0 := [some (.ref m), some (.int v), some (.int u), none, none]) (by decide) rfl (by decide) (Nat.le_of_ble_eq_true rfl) rfl ?_
  refine q_aload_n d_Model_same_0 rfl rfl ?_
  refine q_aload_n d_Model_same_1 rfl rfl ?_
  refine q_iload_n d_Model_same_2 rfl rfl ?_
  refine q_callVi (M2 := M_Model_isRecordHandle) d_Model_same_3 ⟨(Nat.le_of_ble_eq_true rfl), (Nat.le_of_ble_eq_true rfl), w_1417, w_10, ⟨by decide, by decide⟩, show _ = some 1 by decide +kernel⟩ w_1414 w_1416 (ci := 11) rfl s_74 hL.1 rfl (Nat.le_of_ble_eq_true rfl) (by omega) (by omega) (c_Model_isRecordHandle hL hH v) ?_
  rintro _ _ ⟨rfl, rfl⟩
  cases hv : k_ish S.lv v with
  | false =>
    refine q_if_eq (tgt := 21) d_Model_same_6 rfl (fun hc => ?_) (fun hc => ?_)
    · exact fin _ _ rfl rfl
    · exact absurd rfl hc
  | true =>
    refine q_if_eq (tgt := 21) d_Model_same_6 rfl (fun hc => ?_) (fun hc => ?_)
    · exact absurd hc (by decide)
    · refine q_aload_n d_Model_same_9 rfl rfl ?_
      refine q_iload_n d_Model_same_10 rfl rfl ?_
      refine q_callVi (M2 := M_Model_isRecordHandle) d_Model_same_11 ⟨(Nat.le_of_ble_eq_true rfl), (Nat.le_of_ble_eq_true rfl), w_1417, w_10, ⟨by decide, by decide⟩, show _ = some 1 by decide +kernel⟩ w_1414 w_1416 (ci := 11) rfl s_74 hL.1 rfl (Nat.le_of_ble_eq_true rfl) (by omega) (by omega) (c_Model_isRecordHandle hL hH u) ?_
      rintro _ _ ⟨rfl, rfl⟩
      have hu : k_ish S.lv u = false := by
        rcases hb with hb | hb
        · rw [hv] at hb; cases hb
        · exact hb
      rw [hu]
      refine q_if_eq (tgt := 21) d_Model_same_14 rfl (fun hc => ?_) (fun hc => ?_)
      · exact fin _ _ rfl rfl
      · exact absurd rfl hc
theorem c_Model_same (hw : wf S) (hM : relM S m T I R) {i i2 : Nat} {c c2 : KR} (hi : i < 16) (hc : S.rs i = some c) (hb : k_ish S.lv (nI i) = true) (hi2 : i2 < 16) (hc2 : S.rs i2 = some c2) (hb2 : k_ish S.lv (nI i2) = true) : q_Ci g M_Model_same [.ref m, .int (nI i), .int (nI i2)] (sz, T, I, R, J) 0 0 (m_spm m sz T I R J (0, p_b (decide (c.ver = c2.ver ∧ c.val = c2.val)), S)) := by
  have hL := hM.1
  have hH := hM.mh hw
  obtain ⟨L, e1, e2, e3, e4, e5, e6, e7, e8, e9⟩ := hM.of hw hi hc
  obtain ⟨L2, f1, f2, f3, f4, f5, f6, f7, f8, f9⟩ := hM.of hw hi2 hc2
  have h24 := e2.1.1
  have t11 := (hL.2 15 _ _ _ rfl).2
  have loop : ∀ (j k mcc msc : Nat), mcc = 0 → msc = 0 → k + j = L.length → c.ver = c2.ver → (∀ q, q < k → c.val[q]? = c2.val[q]?) → q_V g M_Model_same 0 0 mcc msc (sz, T, q_upI I m (nI 0) (nI 0), R, J) (fun o h' => ∃ r : Int32, o = .inl (some (.int r)) ∧ m_spm m sz T I R J (0, p_b (decide (c.ver = c2.ver ∧ c.val = c2.val)), S) r h') 58 [some (.ref m), some (.int (nI i)), some (.int (nI i2)), some (.int (nI 1)), some (.int (nI k))] [] := by
    intro j
    induction j with
    | zero =>
      intro k mcc msc m1 m2 hk hv hq
      subst m1 m2
      rw [← hv] at f1
      obtain rfl : L = L2 := Option.some.inj (e1.symm.trans f1)
      refine q_iload d_Model_same_58 rfl ?_
      refine q_aload_n d_Model_same_60 rfl rfl ?_
      refine q_getR (ci := 11) (fk := 2) d_Model_same_61 rfl (Nat.le_of_ble_eq_true rfl) w_1106 (fun _ _ => rfl) hL.1 (hL.2 2 _ _ _ rfl).1 ?_
      refine q_aload_n d_Model_same_64 rfl rfl ?_
      refine q_getR (ci := 11) (fk := 14) d_Model_same_65 rfl (Nat.le_of_ble_eq_true rfl) w_1118 (fun _ _ => rfl) hL.1 (hL.2 14 _ _ _ rfl).1 ?_
      refine q_iload_n d_Model_same_68 rfl rfl ?_
      refine q_iald d_Model_same_69 (hL.2 14 _ _ _ rfl).2 (by first | assumption | exact vp_in_nI (by omega) (by omega)) ?_
      rw [q_upI_nea (by omega), e7]
      refine q_iald d_Model_same_70 (hL.2 2 _ _ _ rfl).2 (by first | assumption | exact vp_in_nI (by omega) (by omega)) ?_
      rw [q_upI_nea (by omega), e6.1]
      refine q_icmp_ge (tgt := 139) d_Model_same_71 rfl (fun hc => ?_) (fun hc => ?_)
      · refine q_iload_n d_Model_same_139 rfl rfl ?_
        refine q_zret d_Model_same_140 rfl (by first | exact Or.inl rfl | exact Or.inr rfl | assumption) (by omega) (by omega) ?_
        have : c.val = c2.val := List.ext_getElem? fun q => by
          by_cases hql : q < L.length
          · exact hq q (by omega)
          · rw [List.getElem?_eq_none (by omega), List.getElem?_eq_none (by omega)]
        rw [decide_eq_true (show c.ver = c2.ver ∧ c.val = c2.val from ⟨hv, this⟩)]
        exact ⟨_, rfl, m_is hM _⟩
      · exact absurd (by rw [nI_leI (by omega) (by omega)]; omega) hc
    | succ j ih =>
      intro k mcc msc m1 m2 hk hv hq
      subst m1 m2
      have f1b := f1
      rw [← hv] at f1b
      obtain rfl : L = L2 := Option.some.inj (e1.symm.trans f1b)
      obtain ⟨f, hf⟩ : ∃ f, L[k]? = some f := ⟨_, List.getElem?_eq_getElem (by omega)⟩
      obtain ⟨v, hv1⟩ : ∃ v, c.val[k]? = some v := ⟨_, List.getElem?_eq_getElem (by omega)⟩
      obtain ⟨v2, hv2⟩ : ∃ v, c2.val[k]? = some v := ⟨_, List.getElem?_eq_getElem (by omega)⟩
      obtain ⟨l1, l2, l3, l4⟩ := e6.2 k f hf
      have next : v = v2 → ∀ (mcc msc : Nat), mcc = 0 → msc = 0 → q_V g M_Model_same 0 0 mcc msc (sz, T, q_upI I m (nI 0) (nI 0), R, J) (fun o h' => ∃ r : Int32, o = .inl (some (.int r)) ∧ m_spm m sz T I R J (0, p_b (decide (c.ver = c2.ver ∧ c.val = c2.val)), S) r h') 127 [some (.ref m), some (.int (nI i)), some (.int (nI i2)), some (.int (nI 1)), some (.int (nI k))] [] := by
        intro hvv mcc msc m1 m2
        subst m1 m2
        refine q_iconst (v := nI 1) d_Model_same_127 (by decide) ?_
        refine q_goto (tgt := 132) d_Model_same_128 rfl ?_
        refine q_istore_n d_Model_same_132 rfl (Nat.le_of_ble_eq_true rfl) (by first | exact q_ok0 | exact q_okI rfl | exact q_okR rfl | exact q_okN rfl) rfl ?_
        first | refine q_iincN d_Model_same_133 rfl (Nat.le_of_ble_eq_true rfl) (by first | exact q_ok0 | exact q_okI rfl | exact q_okR rfl | exact q_okN rfl) rfl ?_ | refine q_iinc d_Model_same_133 rfl rfl (Nat.le_of_ble_eq_true rfl) (by first | exact q_ok0 | exact q_okI rfl | exact q_okR rfl | exact q_okN rfl) rfl ?_
        refine q_goto (tgt := 58) d_Model_same_136 rfl ?_
        refine ih (k + 1) _ _ rfl rfl (by omega) hv (fun q hq2 => ?_)
        by_cases hqk : q = k
        · rw [hqk, hv1, hv2, hvv]
        · exact hq q (by omega)
      refine q_iload d_Model_same_58 rfl ?_
      refine q_aload_n d_Model_same_60 rfl rfl ?_
      refine q_getR (ci := 11) (fk := 2) d_Model_same_61 rfl (Nat.le_of_ble_eq_true rfl) w_1106 (fun _ _ => rfl) hL.1 (hL.2 2 _ _ _ rfl).1 ?_
      refine q_aload_n d_Model_same_64 rfl rfl ?_
      refine q_getR (ci := 11) (fk := 14) d_Model_same_65 rfl (Nat.le_of_ble_eq_true rfl) w_1118 (fun _ _ => rfl) hL.1 (hL.2 14 _ _ _ rfl).1 ?_
      refine q_iload_n d_Model_same_68 rfl rfl ?_
      refine q_iald d_Model_same_69 (hL.2 14 _ _ _ rfl).2 (by first | assumption | exact vp_in_nI (by omega) (by omega)) ?_
      rw [q_upI_nea (by omega), e7]
      refine q_iald d_Model_same_70 (hL.2 2 _ _ _ rfl).2 (by first | assumption | exact vp_in_nI (by omega) (by omega)) ?_
      rw [q_upI_nea (by omega), e6.1]
      refine q_icmp_ge (tgt := 139) d_Model_same_71 rfl (fun hc => ?_) (fun hc => ?_)
      · rw [nI_leI (by omega) (by omega)] at hc
        omega
      refine q_iload_n d_Model_same_74 rfl rfl ?_
      refine q_if_eq (tgt := 139) d_Model_same_75 rfl (fun hc => ?_) (fun hc => ?_)
      · exact absurd hc (by decide)
      refine q_aload_n d_Model_same_78 rfl rfl ?_
      refine q_getR (ci := 11) (fk := 4) d_Model_same_79 rfl (Nat.le_of_ble_eq_true rfl) w_1108 (fun _ _ => rfl) hL.1 (hL.2 4 _ _ _ rfl).1 ?_
      refine q_bipush (v := nI 24) d_Model_same_82 (by decide) ?_
      refine q_aload_n d_Model_same_84 rfl rfl ?_
      refine q_getR (ci := 11) (fk := 14) d_Model_same_85 rfl (Nat.le_of_ble_eq_true rfl) w_1118 (fun _ _ => rfl) hL.1 (hL.2 14 _ _ _ rfl).1 ?_
      refine q_iload_n d_Model_same_88 rfl rfl ?_
      refine q_iald d_Model_same_89 (hL.2 14 _ _ _ rfl).2 (by first | assumption | exact vp_in_nI (by omega) (by omega)) ?_
      rw [q_upI_nea (by omega), e7]
      first | refine q_imulN d_Model_same_90 ?_ | refine q_imul d_Model_same_90 ?_
      refine q_iload d_Model_same_91 rfl ?_
      first | refine q_iaddN d_Model_same_93 ?_ | refine q_iadd d_Model_same_93 ?_
      refine q_iald d_Model_same_94 (hL.2 4 _ _ _ rfl).2 (by first | assumption | exact vp_in_nI (by omega) (by omega)) ?_
      rw [q_upI_nea (by omega), l2]
      refine q_iconst (v := nI 2) d_Model_same_95 (by decide) ?_
      refine q_icmp_eq (tgt := 127) d_Model_same_96 rfl (fun hc => ?_) (fun hc => ?_)
      · have h2 : f.2.1 = 2 := hc
        refine next ?_ _ _ rfl rfl
        rw [(e5 k f v hf hv1).2.2 h2, (f5 k f v2 hf hv2).2.2 h2]
      refine q_aload_n d_Model_same_99 rfl rfl ?_
      refine q_getR (ci := 11) (fk := 15) d_Model_same_100 rfl (Nat.le_of_ble_eq_true rfl) w_1119 (fun _ _ => rfl) hL.1 (hL.2 15 _ _ _ rfl).1 ?_
      refine q_aload_n d_Model_same_103 rfl rfl ?_
      refine q_iload_n d_Model_same_104 rfl rfl ?_
      refine q_iload d_Model_same_105 rfl ?_
      refine q_callVi (M2 := M_Model_rowOf) d_Model_same_107 ⟨(Nat.le_of_ble_eq_true rfl), (Nat.le_of_ble_eq_true rfl), w_1437, w_10, ⟨by decide, by decide⟩, show _ = some 2 by decide +kernel⟩ w_1434 w_1436 (ci := 11) rfl s_77 hL.1 rfl (Nat.le_of_ble_eq_true rfl) (by omega) (by omega) (c_Model_rowOf) ?_
      rintro _ _ ⟨rfl, rfl⟩
      refine q_aload_n d_Model_same_110 rfl rfl ?_
      refine q_getR (ci := 11) (fk := 15) d_Model_same_111 rfl (Nat.le_of_ble_eq_true rfl) w_1119 (fun _ _ => rfl) hL.1 (hL.2 15 _ _ _ rfl).1 ?_
      refine q_aload_n d_Model_same_114 rfl rfl ?_
      refine q_iload_n d_Model_same_115 rfl rfl ?_
      refine q_iload d_Model_same_116 rfl ?_
      refine q_callVi (M2 := M_Model_rowOf) d_Model_same_118 ⟨(Nat.le_of_ble_eq_true rfl), (Nat.le_of_ble_eq_true rfl), w_1437, w_10, ⟨by decide, by decide⟩, show _ = some 2 by decide +kernel⟩ w_1434 w_1436 (ci := 11) rfl s_77 hL.1 rfl (Nat.le_of_ble_eq_true rfl) (by omega) (by omega) (c_Model_rowOf) ?_
      rintro _ _ ⟨rfl, rfl⟩
      have hI : q_upI I m (nI 0) (nI 0) (m + 11) = I (m + 11) := by funext q; rw [q_upI_nea (by omega)]
      refine q_callSi (M2 := M_Model_sameRow) d_Model_same_121 ⟨(Nat.le_of_ble_eq_true rfl), (Nat.le_of_ble_eq_true rfl), w_1369, w_10, ⟨by decide, by decide⟩, show _ = some 4 by decide +kernel⟩ w_1367 w_1368 rfl (Nat.le_of_ble_eq_true rfl) (by omega) (by omega) (c_Model_sameRow (u := v) (v := v2) t11 t11 (by decide) (by decide) (by omega) (by omega) (by rw [hI]; exact e8 k v hv1) (by rw [hI]; exact f8 k v2 hv2)) ?_
      rintro _ _ ⟨rfl, rfl⟩
      by_cases hvv : v = v2
      · rw [decide_eq_true hvv]
        refine q_if_eq (tgt := 131) d_Model_same_124 rfl (fun hc => ?_) (fun hc => ?_)
        · exact absurd hc (by decide)
        · exact next hvv _ _ rfl rfl
      · rw [decide_eq_false hvv]
        refine q_if_eq (tgt := 131) d_Model_same_124 rfl (fun hc => ?_) (fun hc => ?_)
        rotate_left
        · exact absurd rfl hc
        refine q_iconst (v := nI 0) d_Model_same_131 (by decide) ?_
        refine q_istore_n d_Model_same_132 rfl (Nat.le_of_ble_eq_true rfl) (by first | exact q_ok0 | exact q_okI rfl | exact q_okR rfl | exact q_okN rfl) rfl ?_
        first | refine q_iincN d_Model_same_133 rfl (Nat.le_of_ble_eq_true rfl) (by first | exact q_ok0 | exact q_okI rfl | exact q_okR rfl | exact q_okN rfl) rfl ?_ | refine q_iinc d_Model_same_133 rfl rfl (Nat.le_of_ble_eq_true rfl) (by first | exact q_ok0 | exact q_okI rfl | exact q_okR rfl | exact q_okN rfl) rfl ?_
        refine q_goto (tgt := 58) d_Model_same_136 rfl ?_
        refine q_iload d_Model_same_58 rfl ?_
        refine q_aload_n d_Model_same_60 rfl rfl ?_
        refine q_getR (ci := 11) (fk := 2) d_Model_same_61 rfl (Nat.le_of_ble_eq_true rfl) w_1106 (fun _ _ => rfl) hL.1 (hL.2 2 _ _ _ rfl).1 ?_
        refine q_aload_n d_Model_same_64 rfl rfl ?_
        refine q_getR (ci := 11) (fk := 14) d_Model_same_65 rfl (Nat.le_of_ble_eq_true rfl) w_1118 (fun _ _ => rfl) hL.1 (hL.2 14 _ _ _ rfl).1 ?_
        refine q_iload_n d_Model_same_68 rfl rfl ?_
        refine q_iald d_Model_same_69 (hL.2 14 _ _ _ rfl).2 (by first | assumption | exact vp_in_nI (by omega) (by omega)) ?_
        rw [q_upI_nea (by omega), e7]
        refine q_iald d_Model_same_70 (hL.2 2 _ _ _ rfl).2 (by first | assumption | exact vp_in_nI (by omega) (by omega)) ?_
        rw [q_upI_nea (by omega), e6.1]
        have hz : decide (c.ver = c2.ver ∧ c.val = c2.val) = false := decide_eq_false (fun z => hvv (by
          have h8 := hv1
          rw [z.2, hv2] at h8
          exact (Option.some.inj h8).symm))
        rw [hz]
        refine q_icmp_ge (tgt := 139) d_Model_same_71 rfl (fun hc => ?_) (fun hc => ?_)
        · refine q_iload_n d_Model_same_139 rfl rfl ?_
          refine q_zret d_Model_same_140 rfl (by first | exact Or.inl rfl | exact Or.inr rfl | assumption) (by omega) (by omega) ?_
          exact ⟨_, rfl, m_is hM _⟩
        · refine q_iload_n d_Model_same_74 rfl rfl ?_
          refine q_if_eq (tgt := 139) d_Model_same_75 rfl (fun hc => ?_) (fun hc => ?_)
          · refine q_iload_n d_Model_same_139 rfl rfl ?_
            refine q_zret d_Model_same_140 rfl (by first | exact Or.inl rfl | exact Or.inr rfl | assumption) (by omega) (by omega) ?_
            exact ⟨_, rfl, m_is hM _⟩
          · exact absurd rfl hc
  refine q_C.of (ls0 := [some (.ref m), some (.int (nI i)), some (.int (nI i2)), none, none]) (by decide) rfl (by decide) (Nat.le_of_ble_eq_true rfl) rfl ?_
  refine q_aload_n d_Model_same_0 rfl rfl ?_
  refine q_aload_n d_Model_same_1 rfl rfl ?_
  refine q_iload_n d_Model_same_2 rfl rfl ?_
  refine q_callVi (M2 := M_Model_isRecordHandle) d_Model_same_3 ⟨(Nat.le_of_ble_eq_true rfl), (Nat.le_of_ble_eq_true rfl), w_1417, w_10, ⟨by decide, by decide⟩, show _ = some 1 by decide +kernel⟩ w_1414 w_1416 (ci := 11) rfl s_74 hL.1 rfl (Nat.le_of_ble_eq_true rfl) (by omega) (by omega) (c_Model_isRecordHandle hL hH _) ?_
  rintro _ _ ⟨rfl, rfl⟩
  rw [hb]
  refine q_if_eq (tgt := 21) d_Model_same_6 rfl (fun hc => ?_) (fun hc => ?_)
  · exact absurd hc (by decide)
  refine q_aload_n d_Model_same_9 rfl rfl ?_
  refine q_iload_n d_Model_same_10 rfl rfl ?_
  refine q_callVi (M2 := M_Model_isRecordHandle) d_Model_same_11 ⟨(Nat.le_of_ble_eq_true rfl), (Nat.le_of_ble_eq_true rfl), w_1417, w_10, ⟨by decide, by decide⟩, show _ = some 1 by decide +kernel⟩ w_1414 w_1416 (ci := 11) rfl s_74 hL.1 rfl (Nat.le_of_ble_eq_true rfl) (by omega) (by omega) (c_Model_isRecordHandle hL hH _) ?_
  rintro _ _ ⟨rfl, rfl⟩
  rw [hb2]
  refine q_if_eq (tgt := 21) d_Model_same_14 rfl (fun hc => ?_) (fun hc => ?_)
  · exact absurd hc (by decide)
  refine q_iconst (v := nI 0) d_Model_same_17 (by decide) ?_
  refine q_goto (tgt := 22) d_Model_same_18 rfl ?_
  refine q_putI (ci := 11) (fk := 0) d_Model_same_22 rfl (Nat.le_of_ble_eq_true rfl) w_1104 (Or.inl rfl) (fun _ _ => rfl) rfl rfl hL.1 ?_
  refine q_aload_n d_Model_same_25 rfl rfl ?_
  refine q_getI (ci := 11) (fk := 0) d_Model_same_26 rfl (Nat.le_of_ble_eq_true rfl) w_1104 (fun _ _ => rfl) hL.1 ?_
  rw [q_upI_self]
  refine q_if_le (tgt := 34) d_Model_same_29 rfl (fun hc => ?_) (fun hc => ?_)
  rotate_left
  · exact absurd (Int32.le_refl _) hc
  refine q_aload_n d_Model_same_34 rfl rfl ?_
  refine q_getR (ci := 11) (fk := 14) d_Model_same_35 rfl (Nat.le_of_ble_eq_true rfl) w_1118 (fun _ _ => rfl) hL.1 (hL.2 14 _ _ _ rfl).1 ?_
  refine q_iload_n d_Model_same_38 rfl rfl ?_
  refine q_iald d_Model_same_39 (hL.2 14 _ _ _ rfl).2 (by first | assumption | exact vp_in_nI (by omega) (by omega)) ?_
  rw [q_upI_nea (by omega), e7]
  refine q_aload_n d_Model_same_40 rfl rfl ?_
  refine q_getR (ci := 11) (fk := 14) d_Model_same_41 rfl (Nat.le_of_ble_eq_true rfl) w_1118 (fun _ _ => rfl) hL.1 (hL.2 14 _ _ _ rfl).1 ?_
  refine q_iload_n d_Model_same_44 rfl rfl ?_
  refine q_iald d_Model_same_45 (hL.2 14 _ _ _ rfl).2 (by first | assumption | exact vp_in_nI (by omega) (by omega)) ?_
  rw [q_upI_nea (by omega), f7]
  refine q_icmp_ne (tgt := 53) d_Model_same_46 rfl (fun hc => ?_) (fun hc => ?_)
  · have h9 : ¬ c.ver = c2.ver := fun z => hc (by rw [z])
    rw [show decide (c.ver = c2.ver ∧ c.val = c2.val) = false from decide_eq_false (fun z => h9 z.1)]
    refine q_iconst (v := nI 0) d_Model_same_53 (by decide) ?_
    refine q_istore_n d_Model_same_54 rfl (Nat.le_of_ble_eq_true rfl) (by first | exact q_ok0 | exact q_okI rfl | exact q_okR rfl | exact q_okN rfl) rfl ?_
    refine q_iconst (v := nI 0) d_Model_same_55 (by decide) ?_
    refine q_istore d_Model_same_56 (Nat.le_of_ble_eq_true rfl) (by first | exact q_ok0 | exact q_okI rfl | exact q_okR rfl | exact q_okN rfl) rfl ?_
    refine q_iload d_Model_same_58 rfl ?_
    refine q_aload_n d_Model_same_60 rfl rfl ?_
    refine q_getR (ci := 11) (fk := 2) d_Model_same_61 rfl (Nat.le_of_ble_eq_true rfl) w_1106 (fun _ _ => rfl) hL.1 (hL.2 2 _ _ _ rfl).1 ?_
    refine q_aload_n d_Model_same_64 rfl rfl ?_
    refine q_getR (ci := 11) (fk := 14) d_Model_same_65 rfl (Nat.le_of_ble_eq_true rfl) w_1118 (fun _ _ => rfl) hL.1 (hL.2 14 _ _ _ rfl).1 ?_
    refine q_iload_n d_Model_same_68 rfl rfl ?_
    refine q_iald d_Model_same_69 (hL.2 14 _ _ _ rfl).2 (by first | assumption | exact vp_in_nI (by omega) (by omega)) ?_
    rw [q_upI_nea (by omega), e7]
    refine q_iald d_Model_same_70 (hL.2 2 _ _ _ rfl).2 (by first | assumption | exact vp_in_nI (by omega) (by omega)) ?_
    rw [q_upI_nea (by omega), e6.1]
    refine q_icmp_ge (tgt := 139) d_Model_same_71 rfl (fun hc => ?_) (fun hc => ?_)
    · refine q_iload_n d_Model_same_139 rfl rfl ?_
      refine q_zret d_Model_same_140 rfl (by first | exact Or.inl rfl | exact Or.inr rfl | assumption) (by omega) (by omega) ?_
      exact ⟨_, rfl, m_is hM _⟩
    · refine q_iload_n d_Model_same_74 rfl rfl ?_
      refine q_if_eq (tgt := 139) d_Model_same_75 rfl (fun hc => ?_) (fun hc => ?_)
      · refine q_iload_n d_Model_same_139 rfl rfl ?_
        refine q_zret d_Model_same_140 rfl (by first | exact Or.inl rfl | exact Or.inr rfl | assumption) (by omega) (by omega) ?_
        exact ⟨_, rfl, m_is hM _⟩
      · exact absurd rfl hc
  · have h9 : c.ver = c2.ver := (nI_eq (by omega) (by omega)).mp (by have := hc; exact this)
    refine q_iconst (v := nI 1) d_Model_same_49 (by decide) ?_
    refine q_goto (tgt := 54) d_Model_same_50 rfl ?_
    refine q_istore_n d_Model_same_54 rfl (Nat.le_of_ble_eq_true rfl) (by first | exact q_ok0 | exact q_okI rfl | exact q_okR rfl | exact q_okN rfl) rfl ?_
    refine q_iconst (v := nI 0) d_Model_same_55 (by decide) ?_
    refine q_istore d_Model_same_56 (Nat.le_of_ble_eq_true rfl) (by first | exact q_ok0 | exact q_okI rfl | exact q_okR rfl | exact q_okN rfl) rfl ?_
    exact loop L.length 0 _ _ rfl rfl (by omega) h9 (fun q hq => absurd hq (Nat.not_lt_zero _))
theorem k_bel4 {v : Int32} (h : ¬ v < 0) (h2 : v ≤ nI 3) : k_bel 4 v = true := by
  obtain ⟨j, j1, rfl⟩ := nI_of h
  rw [nI_leI j1 (by decide)] at h2
  exact k_bel_nI (by decide) (by omega)
theorem c_Model_count_no (hM : relM S m T I R) {v : Int32} (hv : k_bel 4 v = false) : q_Ci g M_Model_count [.ref m, .int v] (sz, T, I, R, J) 0 0 (m_spm m sz T I R J (nI 1, 0, S)) := by
  have hL := hM.1
  have fin : q_V g M_Model_count 0 0 0 0 (sz, T, I, R, J) (fun o h' => ∃ r : Int32, o = .inl (some (.int r)) ∧ m_spm m sz T I R J (nI 1, 0, S) r h') 10 [some (.ref m), some (.int v), none, none] [.ref m] := by
    refine q_iconst (v := nI 1) d_Model_count_10 (by decide) ?_
    refine q_goto (tgt := 15) d_Model_count_11 rfl ?_
    refine q_putI (ci := 11) (fk := 0) d_Model_count_15 rfl (Nat.le_of_ble_eq_true rfl) w_1104 (Or.inl rfl) (fun _ _ => rfl) rfl rfl hL.1 ?_
    refine q_aload_n d_Model_count_18 rfl rfl ?_
    refine q_getI (ci := 11) (fk := 0) d_Model_count_19 rfl (Nat.le_of_ble_eq_true rfl) w_1104 (fun _ _ => rfl) hL.1 ?_
    rw [q_upI_self]
    refine q_if_le (tgt := 27) d_Model_count_22 rfl (fun hc => ?_) (fun hc => ?_)
    · exact absurd hc (by decide)
    · refine q_iconst (v := nI 0) d_Model_count_25 (by decide) ?_
      refine q_iret d_Model_count_26 rfl (by omega) (by omega) ?_
      exact ⟨_, rfl, m_no hM (by decide) _⟩
  refine q_C.of (ls0 := [some (.ref m), some (.int v), none, none]) (by decide) rfl (by decide) (Nat.le_of_ble_eq_true rfl) rfl ?_
  refine q_aload_n d_Model_count_0 rfl rfl ?_
  refine q_iload_n d_Model_count_1 rfl rfl ?_
  refine q_if_lt (tgt := 10) d_Model_count_2 rfl (fun hc => ?_) (fun hc => ?_)
  · exact fin
  · have h1 := hc
    refine q_iload_n d_Model_count_5 rfl rfl ?_
    refine q_iconst (v := nI 3) d_Model_count_6 (by decide) ?_
    refine q_icmp_le (tgt := 14) d_Model_count_7 rfl (fun hc => ?_) (fun hc => ?_)
    · rw [k_bel4 h1 hc] at hv
      cases hv
    · exact fin
theorem c_Model_count (hw : wf S) (hM : relM S m T I R) {n : Nat} (hn : n < 4) : q_Ci g M_Model_count [.ref m, .int (nI n)] (sz, T, I, R, J) 0 0 (m_spm m sz T I R J (0, a_cnt S n, S)) := by
  have hL := hM.1
  have hH := hM.mh hw
  have hss := hw.2.1.1
  have fin : ∀ k, k = k_lvn S.lv 0 16 → q_V g M_Model_count 0 0 0 0 (sz, T, q_upI I m (nI 0) (nI 0), R, J) (fun o h' => ∃ r : Int32, o = .inl (some (.int r)) ∧ m_spm m sz T I R J (0, a_cnt S n, S) r h') 60 [some (.ref m), some (.int (nI n)), some (.int (nI k)), some (.int (nI 16))] [] := by
    intro k hk
    rcases (by omega : n = 0 ∨ n = 1 ∨ n = 2 ∨ n = 3) with rfl | rfl | rfl | rfl
    · refine q_iload_n d_Model_count_60 rfl rfl ?_
      refine q_if_ne (tgt := 71) d_Model_count_61 rfl (fun hc => ?_) (fun hc => ?_)
      · exact absurd rfl hc
      · refine q_aload_n d_Model_count_64 rfl rfl ?_
        refine q_getI (ci := 11) (fk := 1) d_Model_count_65 rfl (Nat.le_of_ble_eq_true rfl) w_1105 (fun _ _ => rfl) hL.1 ?_
        rw [q_upI_nk (by omega), hM.2.1.1]
        refine q_goto (tgt := 112) d_Model_count_68 rfl ?_
        refine q_iret d_Model_count_112 rfl (by omega) (by omega) ?_
        exact ⟨_, rfl, m_is hM _⟩
    · refine q_iload_n d_Model_count_60 rfl rfl ?_
      refine q_if_ne (tgt := 71) d_Model_count_61 rfl (fun hc => ?_) (fun hc => ?_)
      rotate_left
      · exact absurd hc (by decide)
      refine q_iload_n d_Model_count_71 rfl rfl ?_
      refine q_iconst (v := nI 1) d_Model_count_72 (by decide) ?_
      refine q_icmp_ne (tgt := 83) d_Model_count_73 rfl (fun hc => ?_) (fun hc => ?_)
      · exact absurd rfl hc
      · refine q_aload_n d_Model_count_76 rfl rfl ?_
        refine q_getI (ci := 11) (fk := 8) d_Model_count_77 rfl (Nat.le_of_ble_eq_true rfl) w_1112 (fun _ _ => rfl) hL.1 ?_
        rw [q_upI_nk (by omega), hM.2.2.1.1]
        refine q_goto (tgt := 112) d_Model_count_80 rfl ?_
        refine q_iret d_Model_count_112 rfl (by omega) (by omega) ?_
        exact ⟨_, rfl, m_is hM _⟩
    · refine q_iload_n d_Model_count_60 rfl rfl ?_
      refine q_if_ne (tgt := 71) d_Model_count_61 rfl (fun hc => ?_) (fun hc => ?_)
      rotate_left
      · exact absurd hc (by decide)
      refine q_iload_n d_Model_count_71 rfl rfl ?_
      refine q_iconst (v := nI 1) d_Model_count_72 (by decide) ?_
      refine q_icmp_ne (tgt := 83) d_Model_count_73 rfl (fun hc => ?_) (fun hc => ?_)
      rotate_left
      · exact absurd hc (by decide)
      refine q_iload_n d_Model_count_83 rfl rfl ?_
      refine q_iconst (v := nI 2) d_Model_count_84 (by decide) ?_
      refine q_icmp_ne (tgt := 92) d_Model_count_85 rfl (fun hc => ?_) (fun hc => ?_)
      · exact absurd rfl hc
      · refine q_iload_n d_Model_count_88 rfl rfl ?_
        refine q_goto (tgt := 112) d_Model_count_89 rfl ?_
        refine q_iret d_Model_count_112 rfl (by omega) (by omega) ?_
        rw [hk]
        exact ⟨_, rfl, m_is hM _⟩
    · refine q_iload_n d_Model_count_60 rfl rfl ?_
      refine q_if_ne (tgt := 71) d_Model_count_61 rfl (fun hc => ?_) (fun hc => ?_)
      rotate_left
      · exact absurd hc (by decide)
      refine q_iload_n d_Model_count_71 rfl rfl ?_
      refine q_iconst (v := nI 1) d_Model_count_72 (by decide) ?_
      refine q_icmp_ne (tgt := 83) d_Model_count_73 rfl (fun hc => ?_) (fun hc => ?_)
      rotate_left
      · exact absurd hc (by decide)
      refine q_iload_n d_Model_count_83 rfl rfl ?_
      refine q_iconst (v := nI 2) d_Model_count_84 (by decide) ?_
      refine q_icmp_ne (tgt := 92) d_Model_count_85 rfl (fun hc => ?_) (fun hc => ?_)
      rotate_left
      · exact absurd hc (by decide)
      refine q_aload_n d_Model_count_92 rfl rfl ?_
      refine q_getI (ci := 11) (fk := 13) d_Model_count_93 rfl (Nat.le_of_ble_eq_true rfl) w_1117 (fun _ _ => rfl) hL.1 ?_
      rw [q_upI_nk (by omega), hM.2.2.1.2.2.1]
      cases ho : S.op with
      | false =>
        refine q_if_eq (tgt := 111) d_Model_count_96 rfl (fun hc => ?_) (fun hc => ?_)
        · refine q_iconst (v := (-1)) d_Model_count_111 (by decide) ?_
          refine q_iret d_Model_count_112 rfl (by omega) (by omega) ?_
          have : a_cnt S 3 = -1 := by unfold a_cnt; rw [ho]; rfl
          rw [this]
          exact ⟨_, rfl, m_is hM _⟩
        · exact absurd rfl hc
      | true =>
        refine q_if_eq (tgt := 111) d_Model_count_96 rfl (fun hc => ?_) (fun hc => ?_)
        · exact absurd hc (by decide)
        · refine q_aload_n d_Model_count_99 rfl rfl ?_
          refine q_getR (ci := 11) (fk := 11) d_Model_count_100 rfl (Nat.le_of_ble_eq_true rfl) w_1115 (fun _ _ => rfl) hL.1 (hL.2 11 _ _ _ rfl).1 ?_
          refine q_aload_n d_Model_count_103 rfl rfl ?_
          refine q_getI (ci := 11) (fk := 8) d_Model_count_104 rfl (Nat.le_of_ble_eq_true rfl) w_1112 (fun _ _ => rfl) hL.1 ?_
          rw [q_upI_nk (by omega), hM.2.2.1.1]
          refine q_iald d_Model_count_107 (hL.2 11 _ _ _ rfl).2 (by first | assumption | exact vp_in_nI (by omega) (by omega)) ?_
          rw [q_upI_nea (by omega), (hM.2.2.1.2.2.2 ho).2.1]
          refine q_goto (tgt := 112) d_Model_count_108 rfl ?_
          refine q_iret d_Model_count_112 rfl (by omega) (by omega) ?_
          have : a_cnt S 3 = nI S.dp.length := by unfold a_cnt; rw [ho]; rfl
          rw [this]
          exact ⟨_, rfl, m_is hM _⟩
  have loop : ∀ (j i k : Nat), i + j = 16 → k ≤ i → k + k_lvn S.lv i j = k_lvn S.lv 0 16 → q_V g M_Model_count 0 0 0 0 (sz, T, q_upI I m (nI 0) (nI 0), R, J) (fun o h' => ∃ r : Int32, o = .inl (some (.int r)) ∧ m_spm m sz T I R J (0, a_cnt S n, S) r h') 31 [some (.ref m), some (.int (nI n)), some (.int (nI k)), some (.int (nI i))] [] := by
    intro j
    induction j with
    | zero =>
      intro i k hij hk he
      obtain rfl : i = 16 := by omega
      refine q_iload_n d_Model_count_31 rfl rfl ?_
      refine q_bipush (v := nI 16) d_Model_count_32 (by decide) ?_
      refine q_icmp_ge (tgt := 60) d_Model_count_34 rfl (fun hc => ?_) (fun hc => ?_)
      · exact fin k he
      · exact absurd (Int32.le_refl _) hc
    | succ j ih =>
      intro i k hij hk he
      rw [k_lvn] at he
      have hi := hH i (by omega)
      refine q_iload_n d_Model_count_31 rfl rfl ?_
      refine q_bipush (v := nI 16) d_Model_count_32 (by decide) ?_
      refine q_icmp_ge (tgt := 60) d_Model_count_34 rfl (fun hc => ?_) (fun hc => ?_)
      · rw [nI_leI (by omega) (by omega)] at hc
        omega
      · refine q_aload_n d_Model_count_37 rfl rfl ?_
        refine q_getR (ci := 11) (fk := 14) d_Model_count_38 rfl (Nat.le_of_ble_eq_true rfl) w_1118 (fun _ _ => rfl) hL.1 (hL.2 14 _ _ _ rfl).1 ?_
        refine q_iload_n d_Model_count_41 rfl rfl ?_
        refine q_iald d_Model_count_42 (hL.2 14 _ _ _ rfl).2 (by first | assumption | exact vp_in_nI (by omega) (by omega)) ?_
        rw [q_upI_nea (by omega)]
        cases hl : S.lv i with
        | false =>
          rw [hl] at he
          refine q_if_lt (tgt := 52) d_Model_count_43 rfl (fun hc => ?_) (fun hc => ?_)
          · refine q_iload_n d_Model_count_52 rfl rfl ?_
            refine q_istore_n d_Model_count_53 rfl (Nat.le_of_ble_eq_true rfl) (by first | exact q_ok0 | exact q_okI rfl | exact q_okR rfl | exact q_okN rfl) rfl ?_
            first | refine q_iincN d_Model_count_54 rfl (Nat.le_of_ble_eq_true rfl) (by first | exact q_ok0 | exact q_okI rfl | exact q_okR rfl | exact q_okN rfl) rfl ?_ | refine q_iinc d_Model_count_54 rfl rfl (Nat.le_of_ble_eq_true rfl) (by first | exact q_ok0 | exact q_okI rfl | exact q_okR rfl | exact q_okN rfl) rfl ?_
            refine q_goto (tgt := 31) d_Model_count_57 rfl ?_
            exact ih (i + 1) k (by omega) (by omega) (by simpa using he)
          · exact absurd (hi.mpr hl) hc
        | true =>
          rw [hl] at he
          refine q_if_lt (tgt := 52) d_Model_count_43 rfl (fun hc => ?_) (fun hc => ?_)
          · rw [hi.mp hc] at hl; cases hl
          · refine q_iload_n d_Model_count_46 rfl rfl ?_
            refine q_iconst (v := nI 1) d_Model_count_47 (by decide) ?_
            first | refine q_iaddN d_Model_count_48 ?_ | refine q_iadd d_Model_count_48 ?_
            refine q_goto (tgt := 53) d_Model_count_49 rfl ?_
            refine q_istore_n d_Model_count_53 rfl (Nat.le_of_ble_eq_true rfl) (by first | exact q_ok0 | exact q_okI rfl | exact q_okR rfl | exact q_okN rfl) rfl ?_
            first | refine q_iincN d_Model_count_54 rfl (Nat.le_of_ble_eq_true rfl) (by first | exact q_ok0 | exact q_okI rfl | exact q_okR rfl | exact q_okN rfl) rfl ?_ | refine q_iinc d_Model_count_54 rfl rfl (Nat.le_of_ble_eq_true rfl) (by first | exact q_ok0 | exact q_okI rfl | exact q_okR rfl | exact q_okN rfl) rfl ?_
            refine q_goto (tgt := 31) d_Model_count_57 rfl ?_
            refine ih (i + 1) (k + 1) (by omega) (by omega) ?_
            simp at he
            omega
  refine q_C.of (ls0 := [some (.ref m), some (.int (nI n)), none, none]) (by decide) rfl (by decide) (Nat.le_of_ble_eq_true rfl) rfl ?_
  refine q_aload_n d_Model_count_0 rfl rfl ?_
  refine q_iload_n d_Model_count_1 rfl rfl ?_
  refine q_if_lt (tgt := 10) d_Model_count_2 rfl (fun hc => ?_) (fun hc => ?_)
  · exact absurd hc (nI_pos (by omega))
  refine q_iload_n d_Model_count_5 rfl rfl ?_
  refine q_iconst (v := nI 3) d_Model_count_6 (by decide) ?_
  refine q_icmp_le (tgt := 14) d_Model_count_7 rfl (fun hc => ?_) (fun hc => ?_)
  rotate_left
  · exact absurd (by rw [nI_leI (by omega) (by omega)]; omega) hc
  refine q_iconst (v := nI 0) d_Model_count_14 (by decide) ?_
  refine q_putI (ci := 11) (fk := 0) d_Model_count_15 rfl (Nat.le_of_ble_eq_true rfl) w_1104 (Or.inl rfl) (fun _ _ => rfl) rfl rfl hL.1 ?_
  refine q_aload_n d_Model_count_18 rfl rfl ?_
  refine q_getI (ci := 11) (fk := 0) d_Model_count_19 rfl (Nat.le_of_ble_eq_true rfl) w_1104 (fun _ _ => rfl) hL.1 ?_
  rw [q_upI_self]
  refine q_if_le (tgt := 27) d_Model_count_22 rfl (fun hc => ?_) (fun hc => ?_)
  rotate_left
  · exact absurd (Int32.le_refl _) hc
  refine q_iconst (v := nI 0) d_Model_count_27 (by decide) ?_
  refine q_istore_n d_Model_count_28 rfl (Nat.le_of_ble_eq_true rfl) (by first | exact q_ok0 | exact q_okI rfl | exact q_okR rfl | exact q_okN rfl) rfl ?_
  refine q_iconst (v := nI 0) d_Model_count_29 (by decide) ?_
  refine q_istore_n d_Model_count_30 rfl (Nat.le_of_ble_eq_true rfl) (by first | exact q_ok0 | exact q_okI rfl | exact q_okR rfl | exact q_okN rfl) rfl ?_
  exact loop 16 0 0 rfl (by omega) (by omega)
end MPub3
