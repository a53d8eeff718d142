/-! the reference's side: the calls that are done -/
abbrev M_Model_same : q_M := (⟨"LensPathsModel", "same", "(II)Z"⟩, prog_14_method_70_code, 5, (some .boolean), "LensPathsModel", [], false, 1, 25)
theorem d_Model_same_0 : decode prog_14_method_70_code 0 = .ok (.aload_n 0, 1) := by decide +kernel
theorem d_Model_same_1 : decode prog_14_method_70_code 1 = .ok (.aload_n 0, 1) := by decide +kernel
theorem d_Model_same_2 : decode prog_14_method_70_code 2 = .ok (.iload_n 1, 1) := by decide +kernel
theorem d_Model_same_3 : decode prog_14_method_70_code 3 = .ok (.invokevirtual 284, 3) := by decide +kernel
theorem d_Model_same_6 : decode prog_14_method_70_code 6 = .ok (.ifCond .eq 15, 3) := by decide +kernel
theorem d_Model_same_9 : decode prog_14_method_70_code 9 = .ok (.aload_n 0, 1) := by decide +kernel
theorem d_Model_same_10 : decode prog_14_method_70_code 10 = .ok (.iload_n 2, 1) := by decide +kernel
theorem d_Model_same_11 : decode prog_14_method_70_code 11 = .ok (.invokevirtual 284, 3) := by decide +kernel
theorem d_Model_same_14 : decode prog_14_method_70_code 14 = .ok (.ifCond .eq 7, 3) := by decide +kernel
theorem d_Model_same_17 : decode prog_14_method_70_code 17 = .ok (.iconst 0, 1) := by decide +kernel
theorem d_Model_same_18 : decode prog_14_method_70_code 18 = .ok (.goto 4, 3) := by decide +kernel
theorem d_Model_same_21 : decode prog_14_method_70_code 21 = .ok (.iconst 1, 1) := by decide +kernel
theorem d_Model_same_22 : decode prog_14_method_70_code 22 = .ok (.putfield 101, 3) := by decide +kernel
theorem d_Model_same_25 : decode prog_14_method_70_code 25 = .ok (.aload_n 0, 1) := by decide +kernel
theorem d_Model_same_26 : decode prog_14_method_70_code 26 = .ok (.getfield 101, 3) := by decide +kernel
theorem d_Model_same_29 : decode prog_14_method_70_code 29 = .ok (.ifCond .le 5, 3) := by decide +kernel
theorem d_Model_same_32 : decode prog_14_method_70_code 32 = .ok (.iconst 0, 1) := by decide +kernel
theorem d_Model_same_33 : decode prog_14_method_70_code 33 = .ok (.ireturn, 1) := by decide +kernel
theorem d_Model_same_34 : decode prog_14_method_70_code 34 = .ok (.aload_n 0, 1) := by decide +kernel
theorem d_Model_same_35 : decode prog_14_method_70_code 35 = .ok (.getfield 41, 3) := by decide +kernel
theorem d_Model_same_38 : decode prog_14_method_70_code 38 = .ok (.iload_n 1, 1) := by decide +kernel
theorem d_Model_same_39 : decode prog_14_method_70_code 39 = .ok (.iaload, 1) := by decide +kernel
theorem d_Model_same_40 : decode prog_14_method_70_code 40 = .ok (.aload_n 0, 1) := by decide +kernel
theorem d_Model_same_41 : decode prog_14_method_70_code 41 = .ok (.getfield 41, 3) := by decide +kernel
theorem d_Model_same_44 : decode prog_14_method_70_code 44 = .ok (.iload_n 2, 1) := by decide +kernel
theorem d_Model_same_45 : decode prog_14_method_70_code 45 = .ok (.iaload, 1) := by decide +kernel
theorem d_Model_same_46 : decode prog_14_method_70_code 46 = .ok (.if_icmp .ne 7, 3) := by decide +kernel
theorem d_Model_same_49 : decode prog_14_method_70_code 49 = .ok (.iconst 1, 1) := by decide +kernel
theorem d_Model_same_50 : decode prog_14_method_70_code 50 = .ok (.goto 4, 3) := by decide +kernel
theorem d_Model_same_53 : decode prog_14_method_70_code 53 = .ok (.iconst 0, 1) := by decide +kernel
theorem d_Model_same_54 : decode prog_14_method_70_code 54 = .ok (.istore_n 3, 1) := by decide +kernel
theorem d_Model_same_55 : decode prog_14_method_70_code 55 = .ok (.iconst 0, 1) := by decide +kernel
theorem d_Model_same_56 : decode prog_14_method_70_code 56 = .ok (.istore 4, 2) := by decide +kernel
theorem d_Model_same_58 : decode prog_14_method_70_code 58 = .ok (.iload 4, 2) := by decide +kernel
theorem d_Model_same_60 : decode prog_14_method_70_code 60 = .ok (.aload_n 0, 1) := by decide +kernel
theorem d_Model_same_61 : decode prog_14_method_70_code 61 = .ok (.getfield 13, 3) := by decide +kernel
theorem d_Model_same_64 : decode prog_14_method_70_code 64 = .ok (.aload_n 0, 1) := by decide +kernel
theorem d_Model_same_65 : decode prog_14_method_70_code 65 = .ok (.getfield 41, 3) := by decide +kernel
theorem d_Model_same_68 : decode prog_14_method_70_code 68 = .ok (.iload_n 1, 1) := by decide +kernel
theorem d_Model_same_69 : decode prog_14_method_70_code 69 = .ok (.iaload, 1) := by decide +kernel
theorem d_Model_same_70 : decode prog_14_method_70_code 70 = .ok (.iaload, 1) := by decide +kernel
theorem d_Model_same_71 : decode prog_14_method_70_code 71 = .ok (.if_icmp .ge 68, 3) := by decide +kernel
theorem d_Model_same_74 : decode prog_14_method_70_code 74 = .ok (.iload_n 3, 1) := by decide +kernel
theorem d_Model_same_75 : decode prog_14_method_70_code 75 = .ok (.ifCond .eq 64, 3) := by decide +kernel
theorem d_Model_same_78 : decode prog_14_method_70_code 78 = .ok (.aload_n 0, 1) := by decide +kernel
theorem d_Model_same_79 : decode prog_14_method_70_code 79 = .ok (.getfield 20, 3) := by decide +kernel
theorem d_Model_same_82 : decode prog_14_method_70_code 82 = .ok (.bipush 24, 2) := by decide +kernel
theorem d_Model_same_84 : decode prog_14_method_70_code 84 = .ok (.aload_n 0, 1) := by decide +kernel
theorem d_Model_same_85 : decode prog_14_method_70_code 85 = .ok (.getfield 41, 3) := by decide +kernel
theorem d_Model_same_88 : decode prog_14_method_70_code 88 = .ok (.iload_n 1, 1) := by decide +kernel
theorem d_Model_same_89 : decode prog_14_method_70_code 89 = .ok (.iaload, 1) := by decide +kernel
theorem d_Model_same_90 : decode prog_14_method_70_code 90 = .ok (.imul, 1) := by decide +kernel
theorem d_Model_same_91 : decode prog_14_method_70_code 91 = .ok (.iload 4, 2) := by decide +kernel
theorem d_Model_same_93 : decode prog_14_method_70_code 93 = .ok (.iadd, 1) := by decide +kernel
theorem d_Model_same_94 : decode prog_14_method_70_code 94 = .ok (.iaload, 1) := by decide +kernel
theorem d_Model_same_95 : decode prog_14_method_70_code 95 = .ok (.iconst 2, 1) := by decide +kernel
theorem d_Model_same_96 : decode prog_14_method_70_code 96 = .ok (.if_icmp .eq 31, 3) := by decide +kernel
theorem d_Model_same_99 : decode prog_14_method_70_code 99 = .ok (.aload_n 0, 1) := by decide +kernel
theorem d_Model_same_100 : decode prog_14_method_70_code 100 = .ok (.getfield 44, 3) := by decide +kernel
theorem d_Model_same_103 : decode prog_14_method_70_code 103 = .ok (.aload_n 0, 1) := by decide +kernel
theorem d_Model_same_104 : decode prog_14_method_70_code 104 = .ok (.iload_n 1, 1) := by decide +kernel
theorem d_Model_same_105 : decode prog_14_method_70_code 105 = .ok (.iload 4, 2) := by decide +kernel
theorem d_Model_same_107 : decode prog_14_method_70_code 107 = .ok (.invokevirtual 293, 3) := by decide +kernel
theorem d_Model_same_110 : decode prog_14_method_70_code 110 = .ok (.aload_n 0, 1) := by decide +kernel
theorem d_Model_same_111 : decode prog_14_method_70_code 111 = .ok (.getfield 44, 3) := by decide +kernel
theorem d_Model_same_114 : decode prog_14_method_70_code 114 = .ok (.aload_n 0, 1) := by decide +kernel
theorem d_Model_same_115 : decode prog_14_method_70_code 115 = .ok (.iload_n 2, 1) := by decide +kernel
theorem d_Model_same_116 : decode prog_14_method_70_code 116 = .ok (.iload 4, 2) := by decide +kernel
theorem d_Model_same_118 : decode prog_14_method_70_code 118 = .ok (.invokevirtual 293, 3) := by decide +kernel
theorem d_Model_same_121 : decode prog_14_method_70_code 121 = .ok (.invokestatic 226, 3) := by decide +kernel
theorem d_Model_same_124 : decode prog_14_method_70_code 124 = .ok (.ifCond .eq 7, 3) := by decide +kernel
theorem d_Model_same_127 : decode prog_14_method_70_code 127 = .ok (.iconst 1, 1) := by decide +kernel
theorem d_Model_same_128 : decode prog_14_method_70_code 128 = .ok (.goto 4, 3) := by decide +kernel
theorem d_Model_same_131 : decode prog_14_method_70_code 131 = .ok (.iconst 0, 1) := by decide +kernel
theorem d_Model_same_132 : decode prog_14_method_70_code 132 = .ok (.istore_n 3, 1) := by decide +kernel
theorem d_Model_same_133 : decode prog_14_method_70_code 133 = .ok (.iinc 4 1, 3) := by decide +kernel
theorem d_Model_same_136 : decode prog_14_method_70_code 136 = .ok (.goto (-78), 3) := by decide +kernel
theorem d_Model_same_139 : decode prog_14_method_70_code 139 = .ok (.iload_n 3, 1) := by decide +kernel
theorem d_Model_same_140 : decode prog_14_method_70_code 140 = .ok (.ireturn, 1) := by decide +kernel
section MPub2
variable {g : q_G} {sz m : Nat} {T : q_T} {I : q_I} {R : q_R} {J : q_J} {S : KA}
theorem relM.val (hw : wf S) (hM : relM S m T I R) {i k : Nat} {c : KR} {I' : q_I} {v : List Int32} (hi : i < 16) (hc : S.rs i = some c) (hk : k < c.val.length) (hp : m_p9 m I I') (h10 : I' (m + 10) = I (m + 10)) (h12 : I' (m + 12) = I (m + 12)) (h13 : I' (m + 13) = I (m + 13)) (hv : k_rw (I' (m + 11)) (7 * (24 * i + k)) v) (ho : ∀ j, j < 2 ^ 31 → j < 7 * (24 * i + k) ∨ 7 * (24 * i + k) + 7 ≤ j → I' (m + 11) (nI j) = I (m + 11) (nI j)) : relM (S.setR i (some (c.setV k v))) m T I' R := by
  have hv24 := hw.v24 hi hc
  refine hM.row hp (fun z => by cases z) (fun c2 hc2 => ?_) (fun h hh hne => ⟨by rw [h10], fun j j1 j2 => ho j (by omega) (by omega), fun j j1 j2 => by rw [h12], fun j j1 j2 => by rw [h13]⟩) (fun h c hh hc => hw.v24 hh hc)
  cases hc2
  obtain ⟨a1, a2, a3⟩ := (hM.2.2.2.1 i hi).2 c hc
  refine ⟨by rw [h10]; exact a1, fun q u hu => ?_, ?_⟩
  · have hu2 : (c.val.set k v)[q]? = some u := hu
    rw [List.getElem?_set] at hu2
    by_cases hqk : k = q
    · rw [if_pos hqk, if_pos hk] at hu2
      cases hu2
      subst hqk
      exact hv
    · rw [if_neg hqk] at hu2
      have hq := (List.getElem?_eq_some_iff.mp hu2).1
      exact (a2 q u hu2).cong (fun j j1 j2 => ho j (by omega) (by omega))
  · unfold m_kpt
    rw [h12, h13]
    exact a3

theorem c_Model_get (hw : wf S) (hM : relM S m T I R) {i k : Nat} {c : KR} {L : List KF} {p : Int32} (hi : i < 16) (hc : S.rs i = some c) (hb : k_ish S.lv (nI i) = true) (hV : S.vs[c.ver]? = some L) (hp : a_pl L p 0 = some k) {y : Int32} (hv : c.val[k]? = some [y]) : q_Ci g M_Model_get [.ref m, .int (nI i), .int p] (sz, T, I, R, J) 0 0 (m_spm m sz T I R J (0, y, S)) := by
  have hL := hM.1
  have hH := hM.mh hw
  obtain ⟨L2, e1, e2, e3, e4, e5, e6, e7, e8, e9⟩ := hM.of hw hi hc
  obtain rfl : L = L2 := Option.some.inj (hV.symm.trans e1)
  have hk0 := (List.getElem?_eq_some_iff.mp hv).1
  have hk : k < 24 := by have := e2.1.1; omega
  have hw1 := e8 k _ hv
  have hw6 := hw1.1
  refine q_C.of (ls0 := [some (.ref m), some (.int (nI i)), some (.int p), none]) (by decide) rfl (by decide) (Nat.le_of_ble_eq_true rfl) rfl ?_
  refine q_aload_n d_Model_get_0 rfl rfl ?_
  refine q_iload_n d_Model_get_1 rfl rfl ?_
  refine q_callVi (M2 := M_Model_isRecordHandle) d_Model_get_2 ⟨(Nat.le_of_ble_eq_true rfl), (Nat.le_of_ble_eq_true rfl), w_1417, w_10, ⟨by decide, by decide⟩, show _ = some 1 by decide +kernel⟩ w_1414 w_1416 (ci := 11) rfl s_74 hL.1 rfl (Nat.le_of_ble_eq_true rfl) (by omega) (by omega) (c_Model_isRecordHandle hL hH _) ?_
  rintro _ _ ⟨rfl, rfl⟩
  rw [hb]
  refine q_if_eq (tgt := 18) d_Model_get_5 rfl (fun hc => ?_) (fun hc => ?_)
  · exact absurd hc (by decide)
  refine q_aload_n d_Model_get_8 rfl rfl ?_
  refine q_iload_n d_Model_get_9 rfl rfl ?_
  refine q_iload_n d_Model_get_10 rfl rfl ?_
  refine q_iconst (v := nI 0) d_Model_get_11 (by decide) ?_
  refine q_callVi (M2 := M_Model_fieldOf) d_Model_get_12 ⟨(Nat.le_of_ble_eq_true rfl), (Nat.le_of_ble_eq_true rfl), w_1429, w_10, ⟨by decide, by decide⟩, show _ = some 3 by decide +kernel⟩ w_1426 w_1428 (ci := 11) rfl s_75 hL.1 rfl (Nat.le_of_ble_eq_true rfl) (by omega) (by omega) (c_Model_fieldOf (so := nI 0) hL hi e3 e7 e6 e2.1.2.2.1 e2.1.2.1 e2.1.1) ?_
  rintro _ _ ⟨rfl, rfl⟩
  rw [show a_pl L p (nI 0) = some k from hp]
  refine q_goto (tgt := 19) d_Model_get_15 rfl ?_
  refine q_istore_n d_Model_get_19 rfl (Nat.le_of_ble_eq_true rfl) (by first | exact q_ok0 | exact q_okI rfl | exact q_okR rfl | exact q_okN rfl) rfl ?_
  refine q_aload_n d_Model_get_20 rfl rfl ?_
  refine q_aload_n d_Model_get_21 rfl rfl ?_
  refine q_iload_n d_Model_get_22 rfl rfl ?_
  refine q_callVi (M2 := M_Model_isRecordHandle) d_Model_get_23 ⟨(Nat.le_of_ble_eq_true rfl), (Nat.le_of_ble_eq_true rfl), w_1417, w_10, ⟨by decide, by decide⟩, show _ = some 1 by decide +kernel⟩ w_1414 w_1416 (ci := 11) rfl s_74 hL.1 rfl (Nat.le_of_ble_eq_true rfl) (by omega) (by omega) (c_Model_isRecordHandle hL hH _) ?_
  rintro _ _ ⟨rfl, rfl⟩
  rw [hb]
  refine q_if_ne (tgt := 33) d_Model_get_26 rfl (fun hc => ?_) (fun hc => ?_)
  rotate_left
  · exact absurd hc (by decide)
  rw [show p_idx (some k) = nI k from rfl]
  refine q_iload_n d_Model_get_33 rfl rfl ?_
  refine q_if_ge (tgt := 41) d_Model_get_34 rfl (fun hc => ?_) (fun hc => ?_)
  rotate_left
  · exact absurd (nI_pos' (by omega)) hc
  refine q_iconst (v := nI 0) d_Model_get_41 (by decide) ?_
  refine q_putI (ci := 11) (fk := 0) d_Model_get_42 rfl (Nat.le_of_ble_eq_true rfl) w_1104 (Or.inl rfl) (fun _ _ => rfl) rfl rfl hL.1 ?_
  refine q_aload_n d_Model_get_45 rfl rfl ?_
  refine q_getI (ci := 11) (fk := 0) d_Model_get_46 rfl (Nat.le_of_ble_eq_true rfl) w_1104 (fun _ _ => rfl) hL.1 ?_
  rw [q_upI_self]
  refine q_if_le (tgt := 56) d_Model_get_49 rfl (fun hc => ?_) (fun hc => ?_)
  · refine q_aload_n d_Model_get_56 rfl rfl ?_
    refine q_getR (ci := 11) (fk := 15) d_Model_get_57 rfl (Nat.le_of_ble_eq_true rfl) w_1119 (fun _ _ => rfl) hL.1 (hL.2 15 _ _ _ rfl).1 ?_
    refine q_aload_n d_Model_get_60 rfl rfl ?_
    refine q_iload_n d_Model_get_61 rfl rfl ?_
    refine q_iload_n d_Model_get_62 rfl rfl ?_
    refine q_callVi (M2 := M_Model_rowOf) d_Model_get_63 ⟨(Nat.le_of_ble_eq_true rfl), (Nat.le_of_ble_eq_true rfl), w_1437, w_10, ⟨by decide, by decide⟩, show _ = some 2 by decide +kernel⟩ w_1434 w_1436 (ci := 11) rfl s_77 hL.1 rfl (Nat.le_of_ble_eq_true rfl) (by omega) (by omega) (c_Model_rowOf) ?_
    rintro _ _ ⟨rfl, rfl⟩
    refine q_iconst (v := nI 1) d_Model_get_66 (by decide) ?_
    first | refine q_iaddN d_Model_get_67 ?_ | refine q_iadd d_Model_get_67 ?_
    refine q_iald d_Model_get_68 (hL.2 15 _ _ _ rfl).2 (by first | assumption | exact vp_in_nI (by omega) (by omega)) ?_
    rw [q_upI_nea (by omega), hw1.2.2 0 y rfl]
    refine q_iret d_Model_get_69 rfl (by omega) (by omega) ?_
    exact ⟨_, rfl, m_is hM _⟩
  · exact absurd (Int32.le_refl _) hc

theorem c_Model_size (hw : wf S) (hM : relM S m T I R) {i k : Nat} {c : KR} {L : List KF} {p : Int32} (hi : i < 16) (hc : S.rs i = some c) (hb : k_ish S.lv (nI i) = true) (hV : S.vs[c.ver]? = some L) (hp : a_pl L p 1 = some k) {v : List Int32} (hv : c.val[k]? = some v) : q_Ci g M_Model_size [.ref m, .int (nI i), .int p] (sz, T, I, R, J) 0 0 (m_spm m sz T I R J (0, nI v.length, S)) := by
  have hL := hM.1
  have hH := hM.mh hw
  obtain ⟨L2, e1, e2, e3, e4, e5, e6, e7, e8, e9⟩ := hM.of hw hi hc
  obtain rfl : L = L2 := Option.some.inj (hV.symm.trans e1)
  have hk0 := (List.getElem?_eq_some_iff.mp hv).1
  have hk : k < 24 := by have := e2.1.1; omega
  have hw1 := e8 k _ hv
  have hw6 := hw1.1
  refine q_C.of (ls0 := [some (.ref m), some (.int (nI i)), some (.int p), none]) (by decide) rfl (by decide) (Nat.le_of_ble_eq_true rfl) rfl ?_
  refine q_aload_n d_Model_size_0 rfl rfl ?_
  refine q_iload_n d_Model_size_1 rfl rfl ?_
  refine q_callVi (M2 := M_Model_isRecordHandle) d_Model_size_2 ⟨(Nat.le_of_ble_eq_true rfl), (Nat.le_of_ble_eq_true rfl), w_1417, w_10, ⟨by decide, by decide⟩, show _ = some 1 by decide +kernel⟩ w_1414 w_1416 (ci := 11) rfl s_74 hL.1 rfl (Nat.le_of_ble_eq_true rfl) (by omega) (by omega) (c_Model_isRecordHandle hL hH _) ?_
  rintro _ _ ⟨rfl, rfl⟩
  rw [hb]
  refine q_if_eq (tgt := 18) d_Model_size_5 rfl (fun hc => ?_) (fun hc => ?_)
  · exact absurd hc (by decide)
  refine q_aload_n d_Model_size_8 rfl rfl ?_
  refine q_iload_n d_Model_size_9 rfl rfl ?_
  refine q_iload_n d_Model_size_10 rfl rfl ?_
  refine q_iconst (v := nI 1) d_Model_size_11 (by decide) ?_
  refine q_callVi (M2 := M_Model_fieldOf) d_Model_size_12 ⟨(Nat.le_of_ble_eq_true rfl), (Nat.le_of_ble_eq_true rfl), w_1429, w_10, ⟨by decide, by decide⟩, show _ = some 3 by decide +kernel⟩ w_1426 w_1428 (ci := 11) rfl s_75 hL.1 rfl (Nat.le_of_ble_eq_true rfl) (by omega) (by omega) (c_Model_fieldOf (so := nI 1) hL hi e3 e7 e6 e2.1.2.2.1 e2.1.2.1 e2.1.1) ?_
  rintro _ _ ⟨rfl, rfl⟩
  rw [show a_pl L p (nI 1) = some k from hp]
  refine q_goto (tgt := 19) d_Model_size_15 rfl ?_
  refine q_istore_n d_Model_size_19 rfl (Nat.le_of_ble_eq_true rfl) (by first | exact q_ok0 | exact q_okI rfl | exact q_okR rfl | exact q_okN rfl) rfl ?_
  refine q_aload_n d_Model_size_20 rfl rfl ?_
  refine q_aload_n d_Model_size_21 rfl rfl ?_
  refine q_iload_n d_Model_size_22 rfl rfl ?_
  refine q_callVi (M2 := M_Model_isRecordHandle) d_Model_size_23 ⟨(Nat.le_of_ble_eq_true rfl), (Nat.le_of_ble_eq_true rfl), w_1417, w_10, ⟨by decide, by decide⟩, show _ = some 1 by decide +kernel⟩ w_1414 w_1416 (ci := 11) rfl s_74 hL.1 rfl (Nat.le_of_ble_eq_true rfl) (by omega) (by omega) (c_Model_isRecordHandle hL hH _) ?_
  rintro _ _ ⟨rfl, rfl⟩
  rw [hb]
  refine q_if_ne (tgt := 33) d_Model_size_26 rfl (fun hc => ?_) (fun hc => ?_)
  rotate_left
  · exact absurd hc (by decide)
  rw [show p_idx (some k) = nI k from rfl]
  refine q_iload_n d_Model_size_33 rfl rfl ?_
  refine q_if_ge (tgt := 41) d_Model_size_34 rfl (fun hc => ?_) (fun hc => ?_)
  rotate_left
  · exact absurd (nI_pos' (by omega)) hc
  refine q_iconst (v := nI 0) d_Model_size_41 (by decide) ?_
  refine q_putI (ci := 11) (fk := 0) d_Model_size_42 rfl (Nat.le_of_ble_eq_true rfl) w_1104 (Or.inl rfl) (fun _ _ => rfl) rfl rfl hL.1 ?_
  refine q_aload_n d_Model_size_45 rfl rfl ?_
  refine q_getI (ci := 11) (fk := 0) d_Model_size_46 rfl (Nat.le_of_ble_eq_true rfl) w_1104 (fun _ _ => rfl) hL.1 ?_
  rw [q_upI_self]
  refine q_if_le (tgt := 56) d_Model_size_49 rfl (fun hc => ?_) (fun hc => ?_)
  · refine q_aload_n d_Model_size_56 rfl rfl ?_
    refine q_getR (ci := 11) (fk := 15) d_Model_size_57 rfl (Nat.le_of_ble_eq_true rfl) w_1119 (fun _ _ => rfl) hL.1 (hL.2 15 _ _ _ rfl).1 ?_
    refine q_aload_n d_Model_size_60 rfl rfl ?_
    refine q_iload_n d_Model_size_61 rfl rfl ?_
    refine q_iload_n d_Model_size_62 rfl rfl ?_
    refine q_callVi (M2 := M_Model_rowOf) d_Model_size_63 ⟨(Nat.le_of_ble_eq_true rfl), (Nat.le_of_ble_eq_true rfl), w_1437, w_10, ⟨by decide, by decide⟩, show _ = some 2 by decide +kernel⟩ w_1434 w_1436 (ci := 11) rfl s_77 hL.1 rfl (Nat.le_of_ble_eq_true rfl) (by omega) (by omega) (c_Model_rowOf) ?_
    rintro _ _ ⟨rfl, rfl⟩
    refine q_iald d_Model_size_66 (hL.2 15 _ _ _ rfl).2 (by first | assumption | exact vp_in_nI (by omega) (by omega)) ?_
    rw [q_upI_nea (by omega), hw1.2.1]
    refine q_iret d_Model_size_67 rfl (by omega) (by omega) ?_
    exact ⟨_, rfl, m_is hM _⟩
  · exact absurd (Int32.le_refl _) hc

theorem c_Model_item_no3 (hw : wf S) (hM : relM S m T I R) {i k : Nat} {c : KR} {L : List KF} {p n : Int32} (hi : i < 16) (hc : S.rs i = some c) (hb : k_ish S.lv (nI i) = true) (hV : S.vs[c.ver]? = some L) (hp : a_pl L p 1 = some k) {v : List Int32} (hv : c.val[k]? = some v) (hn : n < 0 ∨ nI v.length ≤ n) : q_Ci g M_Model_item [.ref m, .int (nI i), .int p, .int n] (sz, T, I, R, J) 0 0 (m_spm m sz T I R J (nI 2, 0, S)) := by
  have hL := hM.1
  have hH := hM.mh hw
  obtain ⟨L2, e1, e2, e3, e4, e5, e6, e7, e8, e9⟩ := hM.of hw hi hc
  obtain rfl : L = L2 := Option.some.inj (hV.symm.trans e1)
  have hk0 := (List.getElem?_eq_some_iff.mp hv).1
  have hk : k < 24 := by have := e2.1.1; omega
  have hw1 := e8 k _ hv
  have hw6 := hw1.1
  have fin : ∀ mcc msc : Nat, mcc = 0 → msc = 0 → q_V g M_Model_item 0 0 mcc msc (sz, T, I, R, J) (fun o h' => ∃ r : Int32, o = .inl (some (.int r)) ∧ m_spm m sz T I R J (nI 2, 0, S) r h') 59 [some (.ref m), some (.int (nI i)), some (.int p), some (.int n), some (.int (nI k))] [.ref m] := by
    intro mcc msc m1 m2
    subst m1 m2
    refine q_iconst (v := nI 2) d_Model_item_59 (by decide) ?_
    refine q_goto (tgt := 64) d_Model_item_60 rfl ?_
    refine q_putI (ci := 11) (fk := 0) d_Model_item_64 rfl (Nat.le_of_ble_eq_true rfl) w_1104 (Or.inl rfl) (fun _ _ => rfl) rfl rfl hL.1 ?_
    refine q_aload_n d_Model_item_67 rfl rfl ?_
    refine q_getI (ci := 11) (fk := 0) d_Model_item_68 rfl (Nat.le_of_ble_eq_true rfl) w_1104 (fun _ _ => rfl) hL.1 ?_
    rw [q_upI_self]
    refine q_if_le (tgt := 78) d_Model_item_71 rfl (fun hc => ?_) (fun hc => ?_)
    · exact absurd hc (by decide)
    · refine q_iconst (v := nI 0) d_Model_item_74 (by decide) ?_
      refine q_goto (tgt := 94) d_Model_item_75 rfl ?_
      refine q_iret d_Model_item_94 rfl (by omega) (by omega) ?_
      exact ⟨_, rfl, m_no hM (by decide) _⟩
  refine q_C.of (ls0 := [some (.ref m), some (.int (nI i)), some (.int p), some (.int n), none]) (by decide) rfl (by decide) (Nat.le_of_ble_eq_true rfl) rfl ?_
  refine q_aload_n d_Model_item_0 rfl rfl ?_
  refine q_iload_n d_Model_item_1 rfl rfl ?_
  refine q_callVi (M2 := M_Model_isRecordHandle) d_Model_item_2 ⟨(Nat.le_of_ble_eq_true rfl), (Nat.le_of_ble_eq_true rfl), w_1417, w_10, ⟨by decide, by decide⟩, show _ = some 1 by decide +kernel⟩ w_1414 w_1416 (ci := 11) rfl s_74 hL.1 rfl (Nat.le_of_ble_eq_true rfl) (by omega) (by omega) (c_Model_isRecordHandle hL hH _) ?_
  rintro _ _ ⟨rfl, rfl⟩
  rw [hb]
  refine q_if_eq (tgt := 18) d_Model_item_5 rfl (fun hc => ?_) (fun hc => ?_)
  · exact absurd hc (by decide)
  refine q_aload_n d_Model_item_8 rfl rfl ?_
  refine q_iload_n d_Model_item_9 rfl rfl ?_
  refine q_iload_n d_Model_item_10 rfl rfl ?_
  refine q_iconst (v := nI 1) d_Model_item_11 (by decide) ?_
  refine q_callVi (M2 := M_Model_fieldOf) d_Model_item_12 ⟨(Nat.le_of_ble_eq_true rfl), (Nat.le_of_ble_eq_true rfl), w_1429, w_10, ⟨by decide, by decide⟩, show _ = some 3 by decide +kernel⟩ w_1426 w_1428 (ci := 11) rfl s_75 hL.1 rfl (Nat.le_of_ble_eq_true rfl) (by omega) (by omega) (c_Model_fieldOf (so := nI 1) hL hi e3 e7 e6 e2.1.2.2.1 e2.1.2.1 e2.1.1) ?_
  rintro _ _ ⟨rfl, rfl⟩
  rw [show a_pl L p (nI 1) = some k from hp]
  refine q_goto (tgt := 19) d_Model_item_15 rfl ?_
  refine q_istore d_Model_item_19 (Nat.le_of_ble_eq_true rfl) (by first | exact q_ok0 | exact q_okI rfl | exact q_okR rfl | exact q_okN rfl) rfl ?_
  refine q_aload_n d_Model_item_21 rfl rfl ?_
  refine q_aload_n d_Model_item_22 rfl rfl ?_
  refine q_iload_n d_Model_item_23 rfl rfl ?_
  refine q_callVi (M2 := M_Model_isRecordHandle) d_Model_item_24 ⟨(Nat.le_of_ble_eq_true rfl), (Nat.le_of_ble_eq_true rfl), w_1417, w_10, ⟨by decide, by decide⟩, show _ = some 1 by decide +kernel⟩ w_1414 w_1416 (ci := 11) rfl s_74 hL.1 rfl (Nat.le_of_ble_eq_true rfl) (by omega) (by omega) (c_Model_isRecordHandle hL hH _) ?_
  rintro _ _ ⟨rfl, rfl⟩
  rw [hb]
  refine q_if_ne (tgt := 34) d_Model_item_27 rfl (fun hc => ?_) (fun hc => ?_)
  rotate_left
  · exact absurd hc (by decide)
  rw [show p_idx (some k) = nI k from rfl]
  refine q_iload d_Model_item_34 rfl ?_
  refine q_if_lt (tgt := 59) d_Model_item_36 rfl (fun hc => ?_) (fun hc => ?_)
  · exact absurd hc (nI_pos (by omega))
  refine q_iload_n d_Model_item_39 rfl rfl ?_
  refine q_if_lt (tgt := 59) d_Model_item_40 rfl (fun hc => ?_) (fun hc => ?_)
  · exact fin _ _ rfl rfl
  have h9 := hc
  refine q_iload_n d_Model_item_43 rfl rfl ?_
  refine q_aload_n d_Model_item_44 rfl rfl ?_
  refine q_getR (ci := 11) (fk := 15) d_Model_item_45 rfl (Nat.le_of_ble_eq_true rfl) w_1119 (fun _ _ => rfl) hL.1 (hL.2 15 _ _ _ rfl).1 ?_
  refine q_aload_n d_Model_item_48 rfl rfl ?_
  refine q_iload_n d_Model_item_49 rfl rfl ?_
  refine q_iload d_Model_item_50 rfl ?_
  refine q_callVi (M2 := M_Model_rowOf) d_Model_item_52 ⟨(Nat.le_of_ble_eq_true rfl), (Nat.le_of_ble_eq_true rfl), w_1437, w_10, ⟨by decide, by decide⟩, show _ = some 2 by decide +kernel⟩ w_1434 w_1436 (ci := 11) rfl s_77 hL.1 rfl (Nat.le_of_ble_eq_true rfl) (by omega) (by omega) (c_Model_rowOf) ?_
  rintro _ _ ⟨rfl, rfl⟩
  refine q_iald d_Model_item_55 (hL.2 15 _ _ _ rfl).2 (by first | assumption | exact vp_in_nI (by omega) (by omega)) ?_
  rw [hw1.2.1]
  refine q_icmp_lt (tgt := 63) d_Model_item_56 rfl (fun hc => ?_) (fun hc => ?_)
  · rcases hn with hn | hn
    · exact absurd hn h9
    · exact absurd hc (Int32.not_lt.mpr hn)
  · exact fin _ _ rfl rfl

theorem c_Model_item (hw : wf S) (hM : relM S m T I R) {i k : Nat} {c : KR} {L : List KF} {p : Int32} (hi : i < 16) (hc : S.rs i = some c) (hb : k_ish S.lv (nI i) = true) (hV : S.vs[c.ver]? = some L) (hp : a_pl L p 1 = some k) {v : List Int32} (hv : c.val[k]? = some v) {n : Nat} {y : Int32} (hn : v[n]? = some y) : q_Ci g M_Model_item [.ref m, .int (nI i), .int p, .int (nI n)] (sz, T, I, R, J) 0 0 (m_spm m sz T I R J (0, y, S)) := by
  have hL := hM.1
  have hH := hM.mh hw
  obtain ⟨L2, e1, e2, e3, e4, e5, e6, e7, e8, e9⟩ := hM.of hw hi hc
  obtain rfl : L = L2 := Option.some.inj (hV.symm.trans e1)
  have hk0 := (List.getElem?_eq_some_iff.mp hv).1
  have hk : k < 24 := by have := e2.1.1; omega
  have hw1 := e8 k _ hv
  have hw6 := hw1.1
  have hn6 := (List.getElem?_eq_some_iff.mp hn).1
  refine q_C.of (ls0 := [some (.ref m), some (.int (nI i)), some (.int p), some (.int (nI n)), none]) (by decide) rfl (by decide) (Nat.le_of_ble_eq_true rfl) rfl ?_
  refine q_aload_n d_Model_item_0 rfl rfl ?_
  refine q_iload_n d_Model_item_1 rfl rfl ?_
  refine q_callVi (M2 := M_Model_isRecordHandle) d_Model_item_2 ⟨(Nat.le_of_ble_eq_true rfl), (Nat.le_of_ble_eq_true rfl), w_1417, w_10, ⟨by decide, by decide⟩, show _ = some 1 by decide +kernel⟩ w_1414 w_1416 (ci := 11) rfl s_74 hL.1 rfl (Nat.le_of_ble_eq_true rfl) (by omega) (by omega) (c_Model_isRecordHandle hL hH _) ?_
  rintro _ _ ⟨rfl, rfl⟩
  rw [hb]
  refine q_if_eq (tgt := 18) d_Model_item_5 rfl (fun hc => ?_) (fun hc => ?_)
  · exact absurd hc (by decide)
  refine q_aload_n d_Model_item_8 rfl rfl ?_
  refine q_iload_n d_Model_item_9 rfl rfl ?_
  refine q_iload_n d_Model_item_10 rfl rfl ?_
  refine q_iconst (v := nI 1) d_Model_item_11 (by decide) ?_
  refine q_callVi (M2 := M_Model_fieldOf) d_Model_item_12 ⟨(Nat.le_of_ble_eq_true rfl), (Nat.le_of_ble_eq_true rfl), w_1429, w_10, ⟨by decide, by decide⟩, show _ = some 3 by decide +kernel⟩ w_1426 w_1428 (ci := 11) rfl s_75 hL.1 rfl (Nat.le_of_ble_eq_true rfl) (by omega) (by omega) (c_Model_fieldOf (so := nI 1) hL hi e3 e7 e6 e2.1.2.2.1 e2.1.2.1 e2.1.1) ?_
  rintro _ _ ⟨rfl, rfl⟩
  rw [show a_pl L p (nI 1) = some k from hp]
  refine q_goto (tgt := 19) d_Model_item_15 rfl ?_
  refine q_istore d_Model_item_19 (Nat.le_of_ble_eq_true rfl) (by first | exact q_ok0 | exact q_okI rfl | exact q_okR rfl | exact q_okN rfl) rfl ?_
  refine q_aload_n d_Model_item_21 rfl rfl ?_
  refine q_aload_n d_Model_item_22 rfl rfl ?_
  refine q_iload_n d_Model_item_23 rfl rfl ?_
  refine q_callVi (M2 := M_Model_isRecordHandle) d_Model_item_24 ⟨(Nat.le_of_ble_eq_true rfl), (Nat.le_of_ble_eq_true rfl), w_1417, w_10, ⟨by decide, by decide⟩, show _ = some 1 by decide +kernel⟩ w_1414 w_1416 (ci := 11) rfl s_74 hL.1 rfl (Nat.le_of_ble_eq_true rfl) (by omega) (by omega) (c_Model_isRecordHandle hL hH _) ?_
  rintro _ _ ⟨rfl, rfl⟩
  rw [hb]
  refine q_if_ne (tgt := 34) d_Model_item_27 rfl (fun hc => ?_) (fun hc => ?_)
  rotate_left
  · exact absurd hc (by decide)
  rw [show p_idx (some k) = nI k from rfl]
  refine q_iload d_Model_item_34 rfl ?_
  refine q_if_lt (tgt := 59) d_Model_item_36 rfl (fun hc => ?_) (fun hc => ?_)
  · exact absurd hc (nI_pos (by omega))
  refine q_iload_n d_Model_item_39 rfl rfl ?_
  refine q_if_lt (tgt := 59) d_Model_item_40 rfl (fun hc => ?_) (fun hc => ?_)
  · exact absurd hc (nI_pos (by omega))
  refine q_iload_n d_Model_item_43 rfl rfl ?_
  refine q_aload_n d_Model_item_44 rfl rfl ?_
  refine q_getR (ci := 11) (fk := 15) d_Model_item_45 rfl (Nat.le_of_ble_eq_true rfl) w_1119 (fun _ _ => rfl) hL.1 (hL.2 15 _ _ _ rfl).1 ?_
  refine q_aload_n d_Model_item_48 rfl rfl ?_
  refine q_iload_n d_Model_item_49 rfl rfl ?_
  refine q_iload d_Model_item_50 rfl ?_
  refine q_callVi (M2 := M_Model_rowOf) d_Model_item_52 ⟨(Nat.le_of_ble_eq_true rfl), (Nat.le_of_ble_eq_true rfl), w_1437, w_10, ⟨by decide, by decide⟩, show _ = some 2 by decide +kernel⟩ w_1434 w_1436 (ci := 11) rfl s_77 hL.1 rfl (Nat.le_of_ble_eq_true rfl) (by omega) (by omega) (c_Model_rowOf) ?_
  rintro _ _ ⟨rfl, rfl⟩
  refine q_iald d_Model_item_55 (hL.2 15 _ _ _ rfl).2 (by first | assumption | exact vp_in_nI (by omega) (by omega)) ?_
  rw [hw1.2.1]
  refine q_icmp_lt (tgt := 63) d_Model_item_56 rfl (fun hc => ?_) (fun hc => ?_)
  rotate_left
  · exact absurd (nI_lt hn6 (by omega)) hc
  refine q_iconst (v := nI 0) d_Model_item_63 (by decide) ?_
  refine q_putI (ci := 11) (fk := 0) d_Model_item_64 rfl (Nat.le_of_ble_eq_true rfl) w_1104 (Or.inl rfl) (fun _ _ => rfl) rfl rfl hL.1 ?_
  refine q_aload_n d_Model_item_67 rfl rfl ?_
  refine q_getI (ci := 11) (fk := 0) d_Model_item_68 rfl (Nat.le_of_ble_eq_true rfl) w_1104 (fun _ _ => rfl) hL.1 ?_
  rw [q_upI_self]
  refine q_if_le (tgt := 78) d_Model_item_71 rfl (fun hc => ?_) (fun hc => ?_)
  · refine q_aload_n d_Model_item_78 rfl rfl ?_
    refine q_getR (ci := 11) (fk := 15) d_Model_item_79 rfl (Nat.le_of_ble_eq_true rfl) w_1119 (fun _ _ => rfl) hL.1 (hL.2 15 _ _ _ rfl).1 ?_
    refine q_aload_n d_Model_item_82 rfl rfl ?_
    refine q_iload_n d_Model_item_83 rfl rfl ?_
    refine q_iload d_Model_item_84 rfl ?_
    refine q_callVi (M2 := M_Model_rowOf) d_Model_item_86 ⟨(Nat.le_of_ble_eq_true rfl), (Nat.le_of_ble_eq_true rfl), w_1437, w_10, ⟨by decide, by decide⟩, show _ = some 2 by decide +kernel⟩ w_1434 w_1436 (ci := 11) rfl s_77 hL.1 rfl (Nat.le_of_ble_eq_true rfl) (by omega) (by omega) (c_Model_rowOf) ?_
    rintro _ _ ⟨rfl, rfl⟩
    refine q_iconst (v := nI 1) d_Model_item_89 (by decide) ?_
    first | refine q_iaddN d_Model_item_90 ?_ | refine q_iadd d_Model_item_90 ?_
    refine q_iload_n d_Model_item_91 rfl rfl ?_
    first | refine q_iaddN d_Model_item_92 ?_ | refine q_iadd d_Model_item_92 ?_
    refine q_iald d_Model_item_93 (hL.2 15 _ _ _ rfl).2 (by first | assumption | exact vp_in_nI (by omega) (by omega)) ?_
    rw [q_upI_nea (by omega), hw1.2.2 n y hn]
    refine q_iret d_Model_item_94 rfl (by omega) (by omega) ?_
    exact ⟨_, rfl, m_is hM _⟩
  · exact absurd (Int32.le_refl _) hc

theorem c_Model_cut_no3 (hw : wf S) (hM : relM S m T I R) {i k : Nat} {c : KR} {L : List KF} {p n : Int32} (hi : i < 16) (hc : S.rs i = some c) (hb : k_ish S.lv (nI i) = true) (hV : S.vs[c.ver]? = some L) (hp : a_pl L p 1 = some k) {v : List Int32} (hv : c.val[k]? = some v) (hn : n < 0 ∨ nI v.length < n) : q_Cv g M_Model_cut [.ref m, .int (nI i), .int p, .int n] (sz, T, I, R, J) 0 0 (m_spm m sz T I R J (nI 2, 0, S) 0) := by
  have hL := hM.1
  have hH := hM.mh hw
  obtain ⟨L2, e1, e2, e3, e4, e5, e6, e7, e8, e9⟩ := hM.of hw hi hc
  obtain rfl : L = L2 := Option.some.inj (hV.symm.trans e1)
  have hk0 := (List.getElem?_eq_some_iff.mp hv).1
  have hk : k < 24 := by have := e2.1.1; omega
  have hw1 := e8 k _ hv
  have hw6 := hw1.1
  have fin : ∀ mcc msc : Nat, mcc = 0 → msc = 0 → q_V g M_Model_cut 0 0 mcc msc (sz, T, I, R, J) (fun o h' => o = .inl none ∧ m_spm m sz T I R J (nI 2, 0, S) 0 h') 59 [some (.ref m), some (.int (nI i)), some (.int p), some (.int n), some (.int (nI k))] [.ref m] := by
    intro mcc msc m1 m2
    subst m1 m2
    refine q_iconst (v := nI 2) d_Model_cut_59 (by decide) ?_
    refine q_goto (tgt := 64) d_Model_cut_60 rfl ?_
    refine q_putI (ci := 11) (fk := 0) d_Model_cut_64 rfl (Nat.le_of_ble_eq_true rfl) w_1104 (Or.inl rfl) (fun _ _ => rfl) rfl rfl hL.1 ?_
    refine q_aload_n d_Model_cut_67 rfl rfl ?_
    refine q_getI (ci := 11) (fk := 0) d_Model_cut_68 rfl (Nat.le_of_ble_eq_true rfl) w_1104 (fun _ _ => rfl) hL.1 ?_
    rw [q_upI_self]
    refine q_if_ne (tgt := 87) d_Model_cut_71 rfl (fun hc => ?_) (fun hc => ?_)
    · refine q_vret d_Model_cut_87 rfl (by omega) (by omega) ?_
      exact ⟨rfl, m_no hM (by decide) _⟩
    · exact absurd hc (by decide)
  refine q_C.of (ls0 := [some (.ref m), some (.int (nI i)), some (.int p), some (.int n), none]) (by decide) rfl (by decide) (Nat.le_of_ble_eq_true rfl) rfl ?_
  refine q_aload_n d_Model_cut_0 rfl rfl ?_
  refine q_iload_n d_Model_cut_1 rfl rfl ?_
  refine q_callVi (M2 := M_Model_isRecordHandle) d_Model_cut_2 ⟨(Nat.le_of_ble_eq_true rfl), (Nat.le_of_ble_eq_true rfl), w_1417, w_10, ⟨by decide, by decide⟩, show _ = some 1 by decide +kernel⟩ w_1414 w_1416 (ci := 11) rfl s_74 hL.1 rfl (Nat.le_of_ble_eq_true rfl) (by omega) (by omega) (c_Model_isRecordHandle hL hH _) ?_
  rintro _ _ ⟨rfl, rfl⟩
  rw [hb]
  refine q_if_eq (tgt := 18) d_Model_cut_5 rfl (fun hc => ?_) (fun hc => ?_)
  · exact absurd hc (by decide)
  refine q_aload_n d_Model_cut_8 rfl rfl ?_
  refine q_iload_n d_Model_cut_9 rfl rfl ?_
  refine q_iload_n d_Model_cut_10 rfl rfl ?_
  refine q_iconst (v := nI 1) d_Model_cut_11 (by decide) ?_
  refine q_callVi (M2 := M_Model_fieldOf) d_Model_cut_12 ⟨(Nat.le_of_ble_eq_true rfl), (Nat.le_of_ble_eq_true rfl), w_1429, w_10, ⟨by decide, by decide⟩, show _ = some 3 by decide +kernel⟩ w_1426 w_1428 (ci := 11) rfl s_75 hL.1 rfl (Nat.le_of_ble_eq_true rfl) (by omega) (by omega) (c_Model_fieldOf (so := nI 1) hL hi e3 e7 e6 e2.1.2.2.1 e2.1.2.1 e2.1.1) ?_
  rintro _ _ ⟨rfl, rfl⟩
  rw [show a_pl L p (nI 1) = some k from hp]
  refine q_goto (tgt := 19) d_Model_cut_15 rfl ?_
  refine q_istore d_Model_cut_19 (Nat.le_of_ble_eq_true rfl) (by first | exact q_ok0 | exact q_okI rfl | exact q_okR rfl | exact q_okN rfl) rfl ?_
  refine q_aload_n d_Model_cut_21 rfl rfl ?_
  refine q_aload_n d_Model_cut_22 rfl rfl ?_
  refine q_iload_n d_Model_cut_23 rfl rfl ?_
  refine q_callVi (M2 := M_Model_isRecordHandle) d_Model_cut_24 ⟨(Nat.le_of_ble_eq_true rfl), (Nat.le_of_ble_eq_true rfl), w_1417, w_10, ⟨by decide, by decide⟩, show _ = some 1 by decide +kernel⟩ w_1414 w_1416 (ci := 11) rfl s_74 hL.1 rfl (Nat.le_of_ble_eq_true rfl) (by omega) (by omega) (c_Model_isRecordHandle hL hH _) ?_
  rintro _ _ ⟨rfl, rfl⟩
  rw [hb]
  refine q_if_ne (tgt := 34) d_Model_cut_27 rfl (fun hc => ?_) (fun hc => ?_)
  rotate_left
  · exact absurd hc (by decide)
  rw [show p_idx (some k) = nI k from rfl]
  refine q_iload d_Model_cut_34 rfl ?_
  refine q_if_lt (tgt := 59) d_Model_cut_36 rfl (fun hc => ?_) (fun hc => ?_)
  · exact absurd hc (nI_pos (by omega))
  refine q_iload_n d_Model_cut_39 rfl rfl ?_
  refine q_if_lt (tgt := 59) d_Model_cut_40 rfl (fun hc => ?_) (fun hc => ?_)
  · exact fin _ _ rfl rfl
  have h9 := hc
  refine q_iload_n d_Model_cut_43 rfl rfl ?_
  refine q_aload_n d_Model_cut_44 rfl rfl ?_
  refine q_getR (ci := 11) (fk := 15) d_Model_cut_45 rfl (Nat.le_of_ble_eq_true rfl) w_1119 (fun _ _ => rfl) hL.1 (hL.2 15 _ _ _ rfl).1 ?_
  refine q_aload_n d_Model_cut_48 rfl rfl ?_
  refine q_iload_n d_Model_cut_49 rfl rfl ?_
  refine q_iload d_Model_cut_50 rfl ?_
  refine q_callVi (M2 := M_Model_rowOf) d_Model_cut_52 ⟨(Nat.le_of_ble_eq_true rfl), (Nat.le_of_ble_eq_true rfl), w_1437, w_10, ⟨by decide, by decide⟩, show _ = some 2 by decide +kernel⟩ w_1434 w_1436 (ci := 11) rfl s_77 hL.1 rfl (Nat.le_of_ble_eq_true rfl) (by omega) (by omega) (c_Model_rowOf) ?_
  rintro _ _ ⟨rfl, rfl⟩
  refine q_iald d_Model_cut_55 (hL.2 15 _ _ _ rfl).2 (by first | assumption | exact vp_in_nI (by omega) (by omega)) ?_
  rw [hw1.2.1]
  refine q_icmp_le (tgt := 63) d_Model_cut_56 rfl (fun hc => ?_) (fun hc => ?_)
  · rcases hn with hn | hn
    · exact absurd hn h9
    · exact absurd hc (Int32.not_le.mpr hn)
  · exact fin _ _ rfl rfl

theorem c_Model_cut (hw : wf S) (hM : relM S m T I R) {i k : Nat} {c : KR} {L : List KF} {p : Int32} (hi : i < 16) (hc : S.rs i = some c) (hb : k_ish S.lv (nI i) = true) (hV : S.vs[c.ver]? = some L) (hp : a_pl L p 1 = some k) {v : List Int32} (hv : c.val[k]? = some v) {n : Nat} (hn : n ≤ v.length) : q_Cv g M_Model_cut [.ref m, .int (nI i), .int p, .int (nI n)] (sz, T, I, R, J) 0 0 (m_spm m sz T I R J (0, 0, S.setR i (some (c.setV k (v.take n)))) 0) := by
  have hL := hM.1
  have hH := hM.mh hw
  obtain ⟨L2, e1, e2, e3, e4, e5, e6, e7, e8, e9⟩ := hM.of hw hi hc
  obtain rfl : L = L2 := Option.some.inj (hV.symm.trans e1)
  have hk0 := (List.getElem?_eq_some_iff.mp hv).1
  have hk : k < 24 := by have := e2.1.1; omega
  have hw1 := e8 k _ hv
  have hw6 := hw1.1
  refine q_C.of (ls0 := [some (.ref m), some (.int (nI i)), some (.int p), some (.int (nI n)), none]) (by decide) rfl (by decide) (Nat.le_of_ble_eq_true rfl) rfl ?_
  refine q_aload_n d_Model_cut_0 rfl rfl ?_
  refine q_iload_n d_Model_cut_1 rfl rfl ?_
  refine q_callVi (M2 := M_Model_isRecordHandle) d_Model_cut_2 ⟨(Nat.le_of_ble_eq_true rfl), (Nat.le_of_ble_eq_true rfl), w_1417, w_10, ⟨by decide, by decide⟩, show _ = some 1 by decide +kernel⟩ w_1414 w_1416 (ci := 11) rfl s_74 hL.1 rfl (Nat.le_of_ble_eq_true rfl) (by omega) (by omega) (c_Model_isRecordHandle hL hH _) ?_
  rintro _ _ ⟨rfl, rfl⟩
  rw [hb]
  refine q_if_eq (tgt := 18) d_Model_cut_5 rfl (fun hc => ?_) (fun hc => ?_)
  · exact absurd hc (by decide)
  refine q_aload_n d_Model_cut_8 rfl rfl ?_
  refine q_iload_n d_Model_cut_9 rfl rfl ?_
  refine q_iload_n d_Model_cut_10 rfl rfl ?_
  refine q_iconst (v := nI 1) d_Model_cut_11 (by decide) ?_
  refine q_callVi (M2 := M_Model_fieldOf) d_Model_cut_12 ⟨(Nat.le_of_ble_eq_true rfl), (Nat.le_of_ble_eq_true rfl), w_1429, w_10, ⟨by decide, by decide⟩, show _ = some 3 by decide +kernel⟩ w_1426 w_1428 (ci := 11) rfl s_75 hL.1 rfl (Nat.le_of_ble_eq_true rfl) (by omega) (by omega) (c_Model_fieldOf (so := nI 1) hL hi e3 e7 e6 e2.1.2.2.1 e2.1.2.1 e2.1.1) ?_
  rintro _ _ ⟨rfl, rfl⟩
  rw [show a_pl L p (nI 1) = some k from hp]
  refine q_goto (tgt := 19) d_Model_cut_15 rfl ?_
  refine q_istore d_Model_cut_19 (Nat.le_of_ble_eq_true rfl) (by first | exact q_ok0 | exact q_okI rfl | exact q_okR rfl | exact q_okN rfl) rfl ?_
  refine q_aload_n d_Model_cut_21 rfl rfl ?_
  refine q_aload_n d_Model_cut_22 rfl rfl ?_
  refine q_iload_n d_Model_cut_23 rfl rfl ?_
  refine q_callVi (M2 := M_Model_isRecordHandle) d_Model_cut_24 ⟨(Nat.le_of_ble_eq_true rfl), (Nat.le_of_ble_eq_true rfl), w_1417, w_10, ⟨by decide, by decide⟩, show _ = some 1 by decide +kernel⟩ w_1414 w_1416 (ci := 11) rfl s_74 hL.1 rfl (Nat.le_of_ble_eq_true rfl) (by omega) (by omega) (c_Model_isRecordHandle hL hH _) ?_
  rintro _ _ ⟨rfl, rfl⟩
  rw [hb]
  refine q_if_ne (tgt := 34) d_Model_cut_27 rfl (fun hc => ?_) (fun hc => ?_)
  rotate_left
  · exact absurd hc (by decide)
  rw [show p_idx (some k) = nI k from rfl]
  have hcc := hc
  refine q_iload d_Model_cut_34 rfl ?_
  refine q_if_lt (tgt := 59) d_Model_cut_36 rfl (fun hc => ?_) (fun hc => ?_)
  · exact absurd hc (nI_pos (by omega))
  refine q_iload_n d_Model_cut_39 rfl rfl ?_
  refine q_if_lt (tgt := 59) d_Model_cut_40 rfl (fun hc => ?_) (fun hc => ?_)
  · exact absurd hc (nI_pos (by omega))
  refine q_iload_n d_Model_cut_43 rfl rfl ?_
  refine q_aload_n d_Model_cut_44 rfl rfl ?_
  refine q_getR (ci := 11) (fk := 15) d_Model_cut_45 rfl (Nat.le_of_ble_eq_true rfl) w_1119 (fun _ _ => rfl) hL.1 (hL.2 15 _ _ _ rfl).1 ?_
  refine q_aload_n d_Model_cut_48 rfl rfl ?_
  refine q_iload_n d_Model_cut_49 rfl rfl ?_
  refine q_iload d_Model_cut_50 rfl ?_
  refine q_callVi (M2 := M_Model_rowOf) d_Model_cut_52 ⟨(Nat.le_of_ble_eq_true rfl), (Nat.le_of_ble_eq_true rfl), w_1437, w_10, ⟨by decide, by decide⟩, show _ = some 2 by decide +kernel⟩ w_1434 w_1436 (ci := 11) rfl s_77 hL.1 rfl (Nat.le_of_ble_eq_true rfl) (by omega) (by omega) (c_Model_rowOf) ?_
  rintro _ _ ⟨rfl, rfl⟩
  refine q_iald d_Model_cut_55 (hL.2 15 _ _ _ rfl).2 (by first | assumption | exact vp_in_nI (by omega) (by omega)) ?_
  rw [hw1.2.1]
  refine q_icmp_le (tgt := 63) d_Model_cut_56 rfl (fun hc => ?_) (fun hc => ?_)
  rotate_left
  · exact absurd (by rw [nI_leI (by omega) (by omega)]; exact hn) hc
  refine q_iconst (v := nI 0) d_Model_cut_63 (by decide) ?_
  refine q_putI (ci := 11) (fk := 0) d_Model_cut_64 rfl (Nat.le_of_ble_eq_true rfl) w_1104 (Or.inl rfl) (fun _ _ => rfl) rfl rfl hL.1 ?_
  refine q_aload_n d_Model_cut_67 rfl rfl ?_
  refine q_getI (ci := 11) (fk := 0) d_Model_cut_68 rfl (Nat.le_of_ble_eq_true rfl) w_1104 (fun _ _ => rfl) hL.1 ?_
  rw [q_upI_self]
  refine q_if_ne (tgt := 87) d_Model_cut_71 rfl (fun hc => ?_) (fun hc => ?_)
  · exact absurd rfl hc
  · refine q_aload_n d_Model_cut_74 rfl rfl ?_
    refine q_getR (ci := 11) (fk := 15) d_Model_cut_75 rfl (Nat.le_of_ble_eq_true rfl) w_1119 (fun _ _ => rfl) hL.1 (hL.2 15 _ _ _ rfl).1 ?_
    refine q_aload_n d_Model_cut_78 rfl rfl ?_
    refine q_iload_n d_Model_cut_79 rfl rfl ?_
    refine q_iload d_Model_cut_80 rfl ?_
    refine q_callVi (M2 := M_Model_rowOf) d_Model_cut_82 ⟨(Nat.le_of_ble_eq_true rfl), (Nat.le_of_ble_eq_true rfl), w_1437, w_10, ⟨by decide, by decide⟩, show _ = some 2 by decide +kernel⟩ w_1434 w_1436 (ci := 11) rfl s_77 hL.1 rfl (Nat.le_of_ble_eq_true rfl) (by omega) (by omega) (c_Model_rowOf) ?_
    rintro _ _ ⟨rfl, rfl⟩
    refine q_iload_n d_Model_cut_85 rfl rfl ?_
    refine q_iast d_Model_cut_86 (hL.2 15 _ _ _ rfl).2 (by first | assumption | exact vp_in_nI (by omega) (by omega)) ?_
    refine q_vret d_Model_cut_87 rfl (by omega) (by omega) ?_
    have hlen : (v.take n).length = n := by rw [List.length_take]; omega
    exact ⟨rfl, fun _ => rfl, _, rfl, by rw [q_upI_nea (by omega), q_upI_self]; rfl, fun b hb => by funext j; rw [q_upI_nea (by omega), q_upI_nea (by omega)], hM.val hw hi ‹S.rs i = some c› hk0 ⟨fun b hb => by funext j; rw [q_upI_nea (by omega), q_upI_nea (by omega)], fun j j1 j2 => by funext q; rw [q_upI_nea (by omega), q_upI_nea (by omega)], by rw [q_upI_nea (by omega), q_upI_nk (by omega)], by rw [q_upI_nea (by omega), q_upI_nk (by omega)], by rw [q_upI_nea (by omega), q_upI_nk (by omega)], by rw [q_upI_nea (by omega), q_upI_nk (by omega)]⟩ (by funext j; rw [q_upI_nea (by omega), q_upI_nea (by omega)]) (by funext j; rw [q_upI_nea (by omega), q_upI_nea (by omega)]) (by funext j; rw [q_upI_nea (by omega), q_upI_nea (by omega)]) ⟨by omega, by rw [q_upI_self, hlen], fun q y hy => (by
      have hq := (List.getElem?_eq_some_iff.mp hy).1
      rw [List.getElem?_take_of_lt (by omega)] at hy
      rw [q_upI_nk (by omega), q_upI_nea (by omega)]
      exact hw1.2.2 q y hy)⟩ (fun j hj hj2 => by rw [q_upI_nk (by omega), q_upI_nea (by omega)])⟩

theorem c_Model_set_no3 (hw : wf S) (hM : relM S m T I R) {i k : Nat} {c : KR} {L : List KF} {p n : Int32} (hi : i < 16) (hc : S.rs i = some c) (hb : k_ish S.lv (nI i) = true) (hV : S.vs[c.ver]? = some L) (hp : a_pl L p 0 = some k) {v : List Int32} (hv : c.val[k]? = some v) {f : KF} (hf : L[k]? = some f) (hn : (decide (f.2.2.1 ≤ n) && decide (n ≤ f.2.2.2.1)) = false) : q_Cv g M_Model_set [.ref m, .int (nI i), .int p, .int n] (sz, T, I, R, J) 0 0 (m_spm m sz T I R J (nI 2, 0, S) 0) := by
  have hL := hM.1
  have hH := hM.mh hw
  obtain ⟨L2, e1, e2, e3, e4, e5, e6, e7, e8, e9⟩ := hM.of hw hi hc
  obtain rfl : L = L2 := Option.some.inj (hV.symm.trans e1)
  have hk0 := (List.getElem?_eq_some_iff.mp hv).1
  have hk : k < 24 := by have := e2.1.1; omega
  have hw1 := e8 k _ hv
  have hw6 := hw1.1
  refine q_C.of (ls0 := [some (.ref m), some (.int (nI i)), some (.int p), some (.int n), none]) (by decide) rfl (by decide) (Nat.le_of_ble_eq_true rfl) rfl ?_
  refine q_aload_n d_Model_set_0 rfl rfl ?_
  refine q_iload_n d_Model_set_1 rfl rfl ?_
  refine q_callVi (M2 := M_Model_isRecordHandle) d_Model_set_2 ⟨(Nat.le_of_ble_eq_true rfl), (Nat.le_of_ble_eq_true rfl), w_1417, w_10, ⟨by decide, by decide⟩, show _ = some 1 by decide +kernel⟩ w_1414 w_1416 (ci := 11) rfl s_74 hL.1 rfl (Nat.le_of_ble_eq_true rfl) (by omega) (by omega) (c_Model_isRecordHandle hL hH _) ?_
  rintro _ _ ⟨rfl, rfl⟩
  rw [hb]
  refine q_if_eq (tgt := 18) d_Model_set_5 rfl (fun hc => ?_) (fun hc => ?_)
  · exact absurd hc (by decide)
  refine q_aload_n d_Model_set_8 rfl rfl ?_
  refine q_iload_n d_Model_set_9 rfl rfl ?_
  refine q_iload_n d_Model_set_10 rfl rfl ?_
  refine q_iconst (v := nI 0) d_Model_set_11 (by decide) ?_
  refine q_callVi (M2 := M_Model_fieldOf) d_Model_set_12 ⟨(Nat.le_of_ble_eq_true rfl), (Nat.le_of_ble_eq_true rfl), w_1429, w_10, ⟨by decide, by decide⟩, show _ = some 3 by decide +kernel⟩ w_1426 w_1428 (ci := 11) rfl s_75 hL.1 rfl (Nat.le_of_ble_eq_true rfl) (by omega) (by omega) (c_Model_fieldOf (so := nI 0) hL hi e3 e7 e6 e2.1.2.2.1 e2.1.2.1 e2.1.1) ?_
  rintro _ _ ⟨rfl, rfl⟩
  rw [show a_pl L p (nI 0) = some k from hp]
  refine q_goto (tgt := 19) d_Model_set_15 rfl ?_
  refine q_istore d_Model_set_19 (Nat.le_of_ble_eq_true rfl) (by first | exact q_ok0 | exact q_okI rfl | exact q_okR rfl | exact q_okN rfl) rfl ?_
  refine q_aload_n d_Model_set_21 rfl rfl ?_
  refine q_aload_n d_Model_set_22 rfl rfl ?_
  refine q_iload_n d_Model_set_23 rfl rfl ?_
  refine q_callVi (M2 := M_Model_isRecordHandle) d_Model_set_24 ⟨(Nat.le_of_ble_eq_true rfl), (Nat.le_of_ble_eq_true rfl), w_1417, w_10, ⟨by decide, by decide⟩, show _ = some 1 by decide +kernel⟩ w_1414 w_1416 (ci := 11) rfl s_74 hL.1 rfl (Nat.le_of_ble_eq_true rfl) (by omega) (by omega) (c_Model_isRecordHandle hL hH _) ?_
  rintro _ _ ⟨rfl, rfl⟩
  rw [hb]
  refine q_if_ne (tgt := 34) d_Model_set_27 rfl (fun hc => ?_) (fun hc => ?_)
  rotate_left
  · exact absurd hc (by decide)
  rw [show p_idx (some k) = nI k from rfl]
  refine q_iload d_Model_set_34 rfl ?_
  refine q_if_lt (tgt := 50) d_Model_set_36 rfl (fun hc => ?_) (fun hc => ?_)
  · exact absurd hc (nI_pos (by omega))
  refine q_aload_n d_Model_set_39 rfl rfl ?_
  refine q_iload_n d_Model_set_40 rfl rfl ?_
  refine q_iload d_Model_set_41 rfl ?_
  refine q_iload_n d_Model_set_43 rfl rfl ?_
  refine q_callVi (M2 := M_Model_fits) d_Model_set_44 ⟨(Nat.le_of_ble_eq_true rfl), (Nat.le_of_ble_eq_true rfl), w_1433, w_10, ⟨by decide, by decide⟩, show _ = some 3 by decide +kernel⟩ w_1430 w_1432 (ci := 11) rfl s_76 hL.1 rfl (Nat.le_of_ble_eq_true rfl) (by omega) (by omega) (c_Model_fits hL hi e3 e7 e6 e2.1.1 hf) ?_
  rintro _ _ ⟨rfl, rfl⟩
  rw [hn]
  refine q_if_ne (tgt := 54) d_Model_set_47 rfl (fun hc => ?_) (fun hc => ?_)
  · exact absurd rfl hc
  refine q_iconst (v := nI 2) d_Model_set_50 (by decide) ?_
  refine q_goto (tgt := 55) d_Model_set_51 rfl ?_
  refine q_putI (ci := 11) (fk := 0) d_Model_set_55 rfl (Nat.le_of_ble_eq_true rfl) w_1104 (Or.inl rfl) (fun _ _ => rfl) rfl rfl hL.1 ?_
  refine q_aload_n d_Model_set_58 rfl rfl ?_
  refine q_getI (ci := 11) (fk := 0) d_Model_set_59 rfl (Nat.le_of_ble_eq_true rfl) w_1104 (fun _ _ => rfl) hL.1 ?_
  rw [q_upI_self]
  refine q_if_ne (tgt := 80) d_Model_set_62 rfl (fun hc => ?_) (fun hc => ?_)
  · refine q_vret d_Model_set_80 rfl (by omega) (by omega) ?_
    exact ⟨rfl, m_no hM (by decide) _⟩
  · exact absurd hc (by decide)

theorem c_Model_set (hw : wf S) (hM : relM S m T I R) {i k : Nat} {c : KR} {L : List KF} {p n : Int32} (hi : i < 16) (hc : S.rs i = some c) (hb : k_ish S.lv (nI i) = true) (hV : S.vs[c.ver]? = some L) (hp : a_pl L p 0 = some k) {v : List Int32} (hv : c.val[k]? = some v) (hv1 : v.length = 1) {f : KF} (hf : L[k]? = some f) (hn : (decide (f.2.2.1 ≤ n) && decide (n ≤ f.2.2.2.1)) = true) : q_Cv g M_Model_set [.ref m, .int (nI i), .int p, .int n] (sz, T, I, R, J) 0 0 (m_spm m sz T I R J (0, 0, S.setR i (some (c.setV k [n]))) 0) := by
  have hL := hM.1
  have hH := hM.mh hw
  obtain ⟨L2, e1, e2, e3, e4, e5, e6, e7, e8, e9⟩ := hM.of hw hi hc
  obtain rfl : L = L2 := Option.some.inj (hV.symm.trans e1)
  have hk0 := (List.getElem?_eq_some_iff.mp hv).1
  have hk : k < 24 := by have := e2.1.1; omega
  have hw1 := e8 k _ hv
  have hw6 := hw1.1
  refine q_C.of (ls0 := [some (.ref m), some (.int (nI i)), some (.int p), some (.int n), none]) (by decide) rfl (by decide) (Nat.le_of_ble_eq_true rfl) rfl ?_
  refine q_aload_n d_Model_set_0 rfl rfl ?_
  refine q_iload_n d_Model_set_1 rfl rfl ?_
  refine q_callVi (M2 := M_Model_isRecordHandle) d_Model_set_2 ⟨(Nat.le_of_ble_eq_true rfl), (Nat.le_of_ble_eq_true rfl), w_1417, w_10, ⟨by decide, by decide⟩, show _ = some 1 by decide +kernel⟩ w_1414 w_1416 (ci := 11) rfl s_74 hL.1 rfl (Nat.le_of_ble_eq_true rfl) (by omega) (by omega) (c_Model_isRecordHandle hL hH _) ?_
  rintro _ _ ⟨rfl, rfl⟩
  rw [hb]
  refine q_if_eq (tgt := 18) d_Model_set_5 rfl (fun hc => ?_) (fun hc => ?_)
  · exact absurd hc (by decide)
  refine q_aload_n d_Model_set_8 rfl rfl ?_
  refine q_iload_n d_Model_set_9 rfl rfl ?_
  refine q_iload_n d_Model_set_10 rfl rfl ?_
  refine q_iconst (v := nI 0) d_Model_set_11 (by decide) ?_
  refine q_callVi (M2 := M_Model_fieldOf) d_Model_set_12 ⟨(Nat.le_of_ble_eq_true rfl), (Nat.le_of_ble_eq_true rfl), w_1429, w_10, ⟨by decide, by decide⟩, show _ = some 3 by decide +kernel⟩ w_1426 w_1428 (ci := 11) rfl s_75 hL.1 rfl (Nat.le_of_ble_eq_true rfl) (by omega) (by omega) (c_Model_fieldOf (so := nI 0) hL hi e3 e7 e6 e2.1.2.2.1 e2.1.2.1 e2.1.1) ?_
  rintro _ _ ⟨rfl, rfl⟩
  rw [show a_pl L p (nI 0) = some k from hp]
  refine q_goto (tgt := 19) d_Model_set_15 rfl ?_
  refine q_istore d_Model_set_19 (Nat.le_of_ble_eq_true rfl) (by first | exact q_ok0 | exact q_okI rfl | exact q_okR rfl | exact q_okN rfl) rfl ?_
  refine q_aload_n d_Model_set_21 rfl rfl ?_
  refine q_aload_n d_Model_set_22 rfl rfl ?_
  refine q_iload_n d_Model_set_23 rfl rfl ?_
  refine q_callVi (M2 := M_Model_isRecordHandle) d_Model_set_24 ⟨(Nat.le_of_ble_eq_true rfl), (Nat.le_of_ble_eq_true rfl), w_1417, w_10, ⟨by decide, by decide⟩, show _ = some 1 by decide +kernel⟩ w_1414 w_1416 (ci := 11) rfl s_74 hL.1 rfl (Nat.le_of_ble_eq_true rfl) (by omega) (by omega) (c_Model_isRecordHandle hL hH _) ?_
  rintro _ _ ⟨rfl, rfl⟩
  rw [hb]
  refine q_if_ne (tgt := 34) d_Model_set_27 rfl (fun hc => ?_) (fun hc => ?_)
  rotate_left
  · exact absurd hc (by decide)
  rw [show p_idx (some k) = nI k from rfl]
  refine q_iload d_Model_set_34 rfl ?_
  refine q_if_lt (tgt := 50) d_Model_set_36 rfl (fun hc => ?_) (fun hc => ?_)
  · exact absurd hc (nI_pos (by omega))
  refine q_aload_n d_Model_set_39 rfl rfl ?_
  refine q_iload_n d_Model_set_40 rfl rfl ?_
  refine q_iload d_Model_set_41 rfl ?_
  refine q_iload_n d_Model_set_43 rfl rfl ?_
  refine q_callVi (M2 := M_Model_fits) d_Model_set_44 ⟨(Nat.le_of_ble_eq_true rfl), (Nat.le_of_ble_eq_true rfl), w_1433, w_10, ⟨by decide, by decide⟩, show _ = some 3 by decide +kernel⟩ w_1430 w_1432 (ci := 11) rfl s_76 hL.1 rfl (Nat.le_of_ble_eq_true rfl) (by omega) (by omega) (c_Model_fits hL hi e3 e7 e6 e2.1.1 hf) ?_
  rintro _ _ ⟨rfl, rfl⟩
  rw [hn]
  refine q_if_ne (tgt := 54) d_Model_set_47 rfl (fun hc => ?_) (fun hc => ?_)
  rotate_left
  · exact absurd hc (by decide)
  refine q_iconst (v := nI 0) d_Model_set_54 (by decide) ?_
  refine q_putI (ci := 11) (fk := 0) d_Model_set_55 rfl (Nat.le_of_ble_eq_true rfl) w_1104 (Or.inl rfl) (fun _ _ => rfl) rfl rfl hL.1 ?_
  refine q_aload_n d_Model_set_58 rfl rfl ?_
  refine q_getI (ci := 11) (fk := 0) d_Model_set_59 rfl (Nat.le_of_ble_eq_true rfl) w_1104 (fun _ _ => rfl) hL.1 ?_
  rw [q_upI_self]
  refine q_if_ne (tgt := 80) d_Model_set_62 rfl (fun hc => ?_) (fun hc => ?_)
  · exact absurd rfl hc
  · refine q_aload_n d_Model_set_65 rfl rfl ?_
    refine q_getR (ci := 11) (fk := 15) d_Model_set_66 rfl (Nat.le_of_ble_eq_true rfl) w_1119 (fun _ _ => rfl) hL.1 (hL.2 15 _ _ _ rfl).1 ?_
    refine q_aload_n d_Model_set_69 rfl rfl ?_
    refine q_iload_n d_Model_set_70 rfl rfl ?_
    refine q_iload d_Model_set_71 rfl ?_
    refine q_callVi (M2 := M_Model_rowOf) d_Model_set_73 ⟨(Nat.le_of_ble_eq_true rfl), (Nat.le_of_ble_eq_true rfl), w_1437, w_10, ⟨by decide, by decide⟩, show _ = some 2 by decide +kernel⟩ w_1434 w_1436 (ci := 11) rfl s_77 hL.1 rfl (Nat.le_of_ble_eq_true rfl) (by omega) (by omega) (c_Model_rowOf) ?_
    rintro _ _ ⟨rfl, rfl⟩
    refine q_iconst (v := nI 1) d_Model_set_76 (by decide) ?_
    first | refine q_iaddN d_Model_set_77 ?_ | refine q_iadd d_Model_set_77 ?_
    refine q_iload_n d_Model_set_78 rfl rfl ?_
    refine q_iast d_Model_set_79 (hL.2 15 _ _ _ rfl).2 (by first | assumption | exact vp_in_nI (by omega) (by omega)) ?_
    refine q_vret d_Model_set_80 rfl (by omega) (by omega) ?_
    exact ⟨rfl, fun _ => rfl, _, rfl, by rw [q_upI_nea (by omega), q_upI_self]; rfl, fun b hb => by funext j; rw [q_upI_nea (by omega), q_upI_nea (by omega)], hM.val hw hi ‹S.rs i = some c› hk0 ⟨fun b hb => by funext j; rw [q_upI_nea (by omega), q_upI_nea (by omega)], fun j j1 j2 => by funext q; rw [q_upI_nea (by omega), q_upI_nea (by omega)], by rw [q_upI_nea (by omega), q_upI_nk (by omega)], by rw [q_upI_nea (by omega), q_upI_nk (by omega)], by rw [q_upI_nea (by omega), q_upI_nk (by omega)], by rw [q_upI_nea (by omega), q_upI_nk (by omega)]⟩ (by funext j; rw [q_upI_nea (by omega), q_upI_nea (by omega)]) (by funext j; rw [q_upI_nea (by omega), q_upI_nea (by omega)]) (by funext j; rw [q_upI_nea (by omega), q_upI_nea (by omega)]) ⟨Nat.le_of_ble_eq_true rfl, by rw [q_upI_nk (by omega), q_upI_nea (by omega), hw1.2.1, hv1]; rfl, fun q y hy => (by
      have hq := (List.getElem?_eq_some_iff.mp hy).1
      have hq0 : q = 0 := by have : ([n] : List Int32).length = 1 := rfl
                             omega
      subst hq0
      cases hy
      rw [Nat.add_zero, q_upI_self])⟩ (fun j hj hj2 => by rw [q_upI_nk (by omega), q_upI_nea (by omega)])⟩

theorem c_Model_put_no3 (hw : wf S) (hM : relM S m T I R) {i k : Nat} {c : KR} {L : List KF} {p n y : Int32} (hi : i < 16) (hc : S.rs i = some c) (hb : k_ish S.lv (nI i) = true) (hV : S.vs[c.ver]? = some L) (hp : a_pl L p 1 = some k) {v : List Int32} (hv : c.val[k]? = some v) (hn : n < 0 ∨ nI v.length < n ∨ nI 6 ≤ n) : q_Ci g M_Model_put [.ref m, .int (nI i), .int p, .int n, .int y] (sz, T, I, R, J) 0 0 (m_spm m sz T I R J (nI 2, 0, S)) := by
  have hL := hM.1
  have hH := hM.mh hw
  obtain ⟨L2, e1, e2, e3, e4, e5, e6, e7, e8, e9⟩ := hM.of hw hi hc
  obtain rfl : L = L2 := Option.some.inj (hV.symm.trans e1)
  have hk0 := (List.getElem?_eq_some_iff.mp hv).1
  have hk : k < 24 := by have := e2.1.1; omega
  have hw1 := e8 k _ hv
  have hw6 := hw1.1
  have fin : ∀ mcc msc : Nat, mcc = 0 → msc = 0 → q_V g M_Model_put 0 0 mcc msc (sz, T, I, R, J) (fun o h' => ∃ r : Int32, o = .inl (some (.int r)) ∧ m_spm m sz T I R J (nI 2, 0, S) r h') 77 [some (.ref m), some (.int (nI i)), some (.int p), some (.int n), some (.int y), some (.int (nI k)), none] [.ref m] := by
    intro mcc msc m1 m2
    subst m1 m2
    refine q_iconst (v := nI 2) d_Model_put_77 (by decide) ?_
    refine q_goto (tgt := 82) d_Model_put_78 rfl ?_
    refine q_putI (ci := 11) (fk := 0) d_Model_put_82 rfl (Nat.le_of_ble_eq_true rfl) w_1104 (Or.inl rfl) (fun _ _ => rfl) rfl rfl hL.1 ?_
    refine q_aload_n d_Model_put_85 rfl rfl ?_
    refine q_getI (ci := 11) (fk := 0) d_Model_put_86 rfl (Nat.le_of_ble_eq_true rfl) w_1104 (fun _ _ => rfl) hL.1 ?_
    rw [q_upI_self]
    refine q_if_le (tgt := 94) d_Model_put_89 rfl (fun hc => ?_) (fun hc => ?_)
    · exact absurd hc (by decide)
    · refine q_iconst (v := nI 0) d_Model_put_92 (by decide) ?_
      refine q_iret d_Model_put_93 rfl (by omega) (by omega) ?_
      exact ⟨_, rfl, m_no hM (by decide) _⟩
  refine q_C.of (ls0 := [some (.ref m), some (.int (nI i)), some (.int p), some (.int n), some (.int y), none, none]) (by decide) rfl (by decide) (Nat.le_of_ble_eq_true rfl) rfl ?_
  refine q_aload_n d_Model_put_0 rfl rfl ?_
  refine q_iload_n d_Model_put_1 rfl rfl ?_
  refine q_callVi (M2 := M_Model_isRecordHandle) d_Model_put_2 ⟨(Nat.le_of_ble_eq_true rfl), (Nat.le_of_ble_eq_true rfl), w_1417, w_10, ⟨by decide, by decide⟩, show _ = some 1 by decide +kernel⟩ w_1414 w_1416 (ci := 11) rfl s_74 hL.1 rfl (Nat.le_of_ble_eq_true rfl) (by omega) (by omega) (c_Model_isRecordHandle hL hH _) ?_
  rintro _ _ ⟨rfl, rfl⟩
  rw [hb]
  refine q_if_eq (tgt := 18) d_Model_put_5 rfl (fun hc => ?_) (fun hc => ?_)
  · exact absurd hc (by decide)
  refine q_aload_n d_Model_put_8 rfl rfl ?_
  refine q_iload_n d_Model_put_9 rfl rfl ?_
  refine q_iload_n d_Model_put_10 rfl rfl ?_
  refine q_iconst (v := nI 1) d_Model_put_11 (by decide) ?_
  refine q_callVi (M2 := M_Model_fieldOf) d_Model_put_12 ⟨(Nat.le_of_ble_eq_true rfl), (Nat.le_of_ble_eq_true rfl), w_1429, w_10, ⟨by decide, by decide⟩, show _ = some 3 by decide +kernel⟩ w_1426 w_1428 (ci := 11) rfl s_75 hL.1 rfl (Nat.le_of_ble_eq_true rfl) (by omega) (by omega) (c_Model_fieldOf (so := nI 1) hL hi e3 e7 e6 e2.1.2.2.1 e2.1.2.1 e2.1.1) ?_
  rintro _ _ ⟨rfl, rfl⟩
  rw [show a_pl L p (nI 1) = some k from hp]
  refine q_goto (tgt := 19) d_Model_put_15 rfl ?_
  refine q_istore d_Model_put_19 (Nat.le_of_ble_eq_true rfl) (by first | exact q_ok0 | exact q_okI rfl | exact q_okR rfl | exact q_okN rfl) rfl ?_
  refine q_aload_n d_Model_put_21 rfl rfl ?_
  refine q_aload_n d_Model_put_22 rfl rfl ?_
  refine q_iload_n d_Model_put_23 rfl rfl ?_
  refine q_callVi (M2 := M_Model_isRecordHandle) d_Model_put_24 ⟨(Nat.le_of_ble_eq_true rfl), (Nat.le_of_ble_eq_true rfl), w_1417, w_10, ⟨by decide, by decide⟩, show _ = some 1 by decide +kernel⟩ w_1414 w_1416 (ci := 11) rfl s_74 hL.1 rfl (Nat.le_of_ble_eq_true rfl) (by omega) (by omega) (c_Model_isRecordHandle hL hH _) ?_
  rintro _ _ ⟨rfl, rfl⟩
  rw [hb]
  refine q_if_ne (tgt := 34) d_Model_put_27 rfl (fun hc => ?_) (fun hc => ?_)
  rotate_left
  · exact absurd hc (by decide)
  rw [show p_idx (some k) = nI k from rfl]
  refine q_iload d_Model_put_34 rfl ?_
  refine q_if_lt (tgt := 77) d_Model_put_36 rfl (fun hc => ?_) (fun hc => ?_)
  · exact absurd hc (nI_pos (by omega))
  refine q_iload_n d_Model_put_39 rfl rfl ?_
  refine q_if_lt (tgt := 77) d_Model_put_40 rfl (fun hc => ?_) (fun hc => ?_)
  · exact fin _ _ rfl rfl
  have h9 := hc
  refine q_iload_n d_Model_put_43 rfl rfl ?_
  refine q_aload_n d_Model_put_44 rfl rfl ?_
  refine q_getR (ci := 11) (fk := 15) d_Model_put_45 rfl (Nat.le_of_ble_eq_true rfl) w_1119 (fun _ _ => rfl) hL.1 (hL.2 15 _ _ _ rfl).1 ?_
  refine q_aload_n d_Model_put_48 rfl rfl ?_
  refine q_iload_n d_Model_put_49 rfl rfl ?_
  refine q_iload d_Model_put_50 rfl ?_
  refine q_callVi (M2 := M_Model_rowOf) d_Model_put_52 ⟨(Nat.le_of_ble_eq_true rfl), (Nat.le_of_ble_eq_true rfl), w_1437, w_10, ⟨by decide, by decide⟩, show _ = some 2 by decide +kernel⟩ w_1434 w_1436 (ci := 11) rfl s_77 hL.1 rfl (Nat.le_of_ble_eq_true rfl) (by omega) (by omega) (c_Model_rowOf) ?_
  rintro _ _ ⟨rfl, rfl⟩
  refine q_iald d_Model_put_55 (hL.2 15 _ _ _ rfl).2 (by first | assumption | exact vp_in_nI (by omega) (by omega)) ?_
  rw [hw1.2.1]
  refine q_icmp_gt (tgt := 77) d_Model_put_56 rfl (fun hc => ?_) (fun hc => ?_)
  · exact fin _ _ rfl rfl
  have h8 := hc
  refine q_iload_n d_Model_put_59 rfl rfl ?_
  refine q_bipush (v := nI 6) d_Model_put_60 (by decide) ?_
  refine q_icmp_eq (tgt := 77) d_Model_put_62 rfl (fun hc => ?_) (fun hc => ?_)
  · exact fin _ _ rfl rfl
  · exfalso
    rcases hn with hn | hn | hn
    · exact absurd hn h9
    · exact absurd hn h8
    · obtain ⟨j, j1, rfl⟩ := nI_of h9
      rw [nI_leI (by omega) j1] at hn
      have h7 : ¬ v.length < j := fun z => h8 (nI_lt z j1)
      exact hc (by rw [show j = 6 by omega])

theorem c_Model_put_no4 (hw : wf S) (hM : relM S m T I R) {i k : Nat} {c : KR} {L : List KF} {p y : Int32} (hi : i < 16) (hc : S.rs i = some c) (hb : k_ish S.lv (nI i) = true) (hV : S.vs[c.ver]? = some L) (hp : a_pl L p 1 = some k) {v : List Int32} (hv : c.val[k]? = some v) {f : KF} (hf : L[k]? = some f) {n : Nat} (hn : n ≤ v.length) (hn6 : n < 6) (hy : (decide (f.2.2.1 ≤ y) && decide (y ≤ f.2.2.2.1)) = false) : q_Ci g M_Model_put [.ref m, .int (nI i), .int p, .int (nI n), .int y] (sz, T, I, R, J) 0 0 (m_spm m sz T I R J (nI 2, 0, S)) := by
  have hL := hM.1
  have hH := hM.mh hw
  obtain ⟨L2, e1, e2, e3, e4, e5, e6, e7, e8, e9⟩ := hM.of hw hi hc
  obtain rfl : L = L2 := Option.some.inj (hV.symm.trans e1)
  have hk0 := (List.getElem?_eq_some_iff.mp hv).1
  have hk : k < 24 := by have := e2.1.1; omega
  have hw1 := e8 k _ hv
  have hw6 := hw1.1
  refine q_C.of (ls0 := [some (.ref m), some (.int (nI i)), some (.int p), some (.int (nI n)), some (.int y), none, none]) (by decide) rfl (by decide) (Nat.le_of_ble_eq_true rfl) rfl ?_
  refine q_aload_n d_Model_put_0 rfl rfl ?_
  refine q_iload_n d_Model_put_1 rfl rfl ?_
  refine q_callVi (M2 := M_Model_isRecordHandle) d_Model_put_2 ⟨(Nat.le_of_ble_eq_true rfl), (Nat.le_of_ble_eq_true rfl), w_1417, w_10, ⟨by decide, by decide⟩, show _ = some 1 by decide +kernel⟩ w_1414 w_1416 (ci := 11) rfl s_74 hL.1 rfl (Nat.le_of_ble_eq_true rfl) (by omega) (by omega) (c_Model_isRecordHandle hL hH _) ?_
  rintro _ _ ⟨rfl, rfl⟩
  rw [hb]
  refine q_if_eq (tgt := 18) d_Model_put_5 rfl (fun hc => ?_) (fun hc => ?_)
  · exact absurd hc (by decide)
  refine q_aload_n d_Model_put_8 rfl rfl ?_
  refine q_iload_n d_Model_put_9 rfl rfl ?_
  refine q_iload_n d_Model_put_10 rfl rfl ?_
  refine q_iconst (v := nI 1) d_Model_put_11 (by decide) ?_
  refine q_callVi (M2 := M_Model_fieldOf) d_Model_put_12 ⟨(Nat.le_of_ble_eq_true rfl), (Nat.le_of_ble_eq_true rfl), w_1429, w_10, ⟨by decide, by decide⟩, show _ = some 3 by decide +kernel⟩ w_1426 w_1428 (ci := 11) rfl s_75 hL.1 rfl (Nat.le_of_ble_eq_true rfl) (by omega) (by omega) (c_Model_fieldOf (so := nI 1) hL hi e3 e7 e6 e2.1.2.2.1 e2.1.2.1 e2.1.1) ?_
  rintro _ _ ⟨rfl, rfl⟩
  rw [show a_pl L p (nI 1) = some k from hp]
  refine q_goto (tgt := 19) d_Model_put_15 rfl ?_
  refine q_istore d_Model_put_19 (Nat.le_of_ble_eq_true rfl) (by first | exact q_ok0 | exact q_okI rfl | exact q_okR rfl | exact q_okN rfl) rfl ?_
  refine q_aload_n d_Model_put_21 rfl rfl ?_
  refine q_aload_n d_Model_put_22 rfl rfl ?_
  refine q_iload_n d_Model_put_23 rfl rfl ?_
  refine q_callVi (M2 := M_Model_isRecordHandle) d_Model_put_24 ⟨(Nat.le_of_ble_eq_true rfl), (Nat.le_of_ble_eq_true rfl), w_1417, w_10, ⟨by decide, by decide⟩, show _ = some 1 by decide +kernel⟩ w_1414 w_1416 (ci := 11) rfl s_74 hL.1 rfl (Nat.le_of_ble_eq_true rfl) (by omega) (by omega) (c_Model_isRecordHandle hL hH _) ?_
  rintro _ _ ⟨rfl, rfl⟩
  rw [hb]
  refine q_if_ne (tgt := 34) d_Model_put_27 rfl (fun hc => ?_) (fun hc => ?_)
  rotate_left
  · exact absurd hc (by decide)
  rw [show p_idx (some k) = nI k from rfl]
  refine q_iload d_Model_put_34 rfl ?_
  refine q_if_lt (tgt := 77) d_Model_put_36 rfl (fun hc => ?_) (fun hc => ?_)
  · exact absurd hc (nI_pos (by omega))
  refine q_iload_n d_Model_put_39 rfl rfl ?_
  refine q_if_lt (tgt := 77) d_Model_put_40 rfl (fun hc => ?_) (fun hc => ?_)
  · exact absurd hc (nI_pos (by omega))
  refine q_iload_n d_Model_put_43 rfl rfl ?_
  refine q_aload_n d_Model_put_44 rfl rfl ?_
  refine q_getR (ci := 11) (fk := 15) d_Model_put_45 rfl (Nat.le_of_ble_eq_true rfl) w_1119 (fun _ _ => rfl) hL.1 (hL.2 15 _ _ _ rfl).1 ?_
  refine q_aload_n d_Model_put_48 rfl rfl ?_
  refine q_iload_n d_Model_put_49 rfl rfl ?_
  refine q_iload d_Model_put_50 rfl ?_
  refine q_callVi (M2 := M_Model_rowOf) d_Model_put_52 ⟨(Nat.le_of_ble_eq_true rfl), (Nat.le_of_ble_eq_true rfl), w_1437, w_10, ⟨by decide, by decide⟩, show _ = some 2 by decide +kernel⟩ w_1434 w_1436 (ci := 11) rfl s_77 hL.1 rfl (Nat.le_of_ble_eq_true rfl) (by omega) (by omega) (c_Model_rowOf) ?_
  rintro _ _ ⟨rfl, rfl⟩
  refine q_iald d_Model_put_55 (hL.2 15 _ _ _ rfl).2 (by first | assumption | exact vp_in_nI (by omega) (by omega)) ?_
  rw [hw1.2.1]
  refine q_icmp_gt (tgt := 77) d_Model_put_56 rfl (fun hc => ?_) (fun hc => ?_)
  · exact absurd hc (by rw [Int32.not_lt, nI_leI (by omega) (by omega)]; exact hn)
  refine q_iload_n d_Model_put_59 rfl rfl ?_
  refine q_bipush (v := nI 6) d_Model_put_60 (by decide) ?_
  refine q_icmp_eq (tgt := 77) d_Model_put_62 rfl (fun hc => ?_) (fun hc => ?_)
  · have := (nI_eq (by omega) (by omega)).mp hc
    omega
  refine q_aload_n d_Model_put_65 rfl rfl ?_
  refine q_iload_n d_Model_put_66 rfl rfl ?_
  refine q_iload d_Model_put_67 rfl ?_
  refine q_iload d_Model_put_69 rfl ?_
  refine q_callVi (M2 := M_Model_fits) d_Model_put_71 ⟨(Nat.le_of_ble_eq_true rfl), (Nat.le_of_ble_eq_true rfl), w_1433, w_10, ⟨by decide, by decide⟩, show _ = some 3 by decide +kernel⟩ w_1430 w_1432 (ci := 11) rfl s_76 hL.1 rfl (Nat.le_of_ble_eq_true rfl) (by omega) (by omega) (c_Model_fits hL hi e3 e7 e6 e2.1.1 hf) ?_
  rintro _ _ ⟨rfl, rfl⟩
  rw [hy]
  refine q_if_ne (tgt := 81) d_Model_put_74 rfl (fun hc => ?_) (fun hc => ?_)
  · exact absurd rfl hc
  refine q_iconst (v := nI 2) d_Model_put_77 (by decide) ?_
  refine q_goto (tgt := 82) d_Model_put_78 rfl ?_
  refine q_putI (ci := 11) (fk := 0) d_Model_put_82 rfl (Nat.le_of_ble_eq_true rfl) w_1104 (Or.inl rfl) (fun _ _ => rfl) rfl rfl hL.1 ?_
  refine q_aload_n d_Model_put_85 rfl rfl ?_
  refine q_getI (ci := 11) (fk := 0) d_Model_put_86 rfl (Nat.le_of_ble_eq_true rfl) w_1104 (fun _ _ => rfl) hL.1 ?_
  rw [q_upI_self]
  refine q_if_le (tgt := 94) d_Model_put_89 rfl (fun hc => ?_) (fun hc => ?_)
  · exact absurd hc (by decide)
  · refine q_iconst (v := nI 0) d_Model_put_92 (by decide) ?_
    refine q_iret d_Model_put_93 rfl (by omega) (by omega) ?_
    exact ⟨_, rfl, m_no hM (by decide) _⟩

theorem c_Model_put (hw : wf S) (hM : relM S m T I R) {i k : Nat} {c : KR} {L : List KF} {p y : Int32} (hi : i < 16) (hc : S.rs i = some c) (hb : k_ish S.lv (nI i) = true) (hV : S.vs[c.ver]? = some L) (hp : a_pl L p 1 = some k) {v : List Int32} (hv : c.val[k]? = some v) {f : KF} (hf : L[k]? = some f) {n : Nat} (hn : n ≤ v.length) (hn6 : n < 6) (hy : (decide (f.2.2.1 ≤ y) && decide (y ≤ f.2.2.2.1)) = true) : q_Ci g M_Model_put [.ref m, .int (nI i), .int p, .int (nI n), .int y] (sz, T, I, R, J) 0 0 (m_spm m sz T I R J (0, nI (a_put v n y).length, S.setR i (some (c.setV k (a_put v n y))))) := by
  have hL := hM.1
  have hH := hM.mh hw
  obtain ⟨L2, e1, e2, e3, e4, e5, e6, e7, e8, e9⟩ := hM.of hw hi hc
  obtain rfl : L = L2 := Option.some.inj (hV.symm.trans e1)
  have hk0 := (List.getElem?_eq_some_iff.mp hv).1
  have hk : k < 24 := by have := e2.1.1; omega
  have hw1 := e8 k _ hv
  have hw6 := hw1.1
  have hcc : S.rs i = some c := hc
  have fin : ∀ (mcc msc : Nat) (l : Int32), mcc = 0 → msc = 0 → l = nI (a_put v n y).length → q_V g M_Model_put 0 0 mcc msc (sz, T, q_upI I m (nI 0) (nI 0), R, J) (fun o h' => ∃ r : Int32, o = .inl (some (.int r)) ∧ m_spm m sz T I R J (0, nI (a_put v n y).length, S.setR i (some (c.setV k (a_put v n y)))) r h') 133 [some (.ref m), some (.int (nI i)), some (.int p), some (.int (nI n)), some (.int y), some (.int (nI k)), some (.int (nI (7 * (24 * i + k))))] [.int l, .int (nI (7 * (24 * i + k))), .ref (m + 11)] := by
    intro mcc msc l m1 m2 hl
    subst m1 m2 hl
    have t11 := (hL.2 15 _ _ _ rfl).2
    refine q_iast d_Model_put_133 (hL.2 15 _ _ _ rfl).2 (by first | assumption | exact vp_in_nI (by omega) (by omega)) ?_
    refine q_aload_n d_Model_put_134 rfl rfl ?_
    refine q_getR (ci := 11) (fk := 15) d_Model_put_135 rfl (Nat.le_of_ble_eq_true rfl) w_1119 (fun _ _ => rfl) hL.1 (hL.2 15 _ _ _ rfl).1 ?_
    refine q_iload d_Model_put_138 rfl ?_
    refine q_iconst (v := nI 1) d_Model_put_140 (by decide) ?_
    first | refine q_iaddN d_Model_put_141 ?_ | refine q_iadd d_Model_put_141 ?_
    refine q_iload_n d_Model_put_142 rfl rfl ?_
    first | refine q_iaddN d_Model_put_143 ?_ | refine q_iadd d_Model_put_143 ?_
    refine q_iload d_Model_put_144 rfl ?_
    refine q_iast d_Model_put_146 (hL.2 15 _ _ _ rfl).2 (by first | assumption | exact vp_in_nI (by omega) (by omega)) ?_
    refine q_aload_n d_Model_put_147 rfl rfl ?_
    refine q_getR (ci := 11) (fk := 15) d_Model_put_148 rfl (Nat.le_of_ble_eq_true rfl) w_1119 (fun _ _ => rfl) hL.1 (hL.2 15 _ _ _ rfl).1 ?_
    refine q_iload d_Model_put_151 rfl ?_
    refine q_iald d_Model_put_153 (hL.2 15 _ _ _ rfl).2 (by first | assumption | exact vp_in_nI (by omega) (by omega)) ?_
    rw [q_upI_nk (by omega), q_upI_self]
    refine q_iret d_Model_put_154 rfl (by omega) (by omega) ?_
    have hl : (a_put v n y).length ≤ 6 := by rw [a_put_len hn]; split <;> omega
    refine ⟨_, rfl, fun _ => rfl, _, rfl, by rw [q_upI_nea (by omega), q_upI_nea (by omega), q_upI_self]; rfl, fun b hb => by funext j; rw [q_upI_nea (by omega), q_upI_nea (by omega), q_upI_nea (by omega)], hM.val hw hi hcc hk0 ⟨fun b hb => by funext j; rw [q_upI_nea (by omega), q_upI_nea (by omega), q_upI_nea (by omega)], fun j j1 j2 => by funext q; rw [q_upI_nea (by omega), q_upI_nea (by omega), q_upI_nea (by omega)], ?_, ?_, ?_, ?_⟩ (by funext j; rw [q_upI_nea (by omega), q_upI_nea (by omega), q_upI_nea (by omega)]) (by funext j; rw [q_upI_nea (by omega), q_upI_nea (by omega), q_upI_nea (by omega)]) (by funext j; rw [q_upI_nea (by omega), q_upI_nea (by omega), q_upI_nea (by omega)]) ⟨hl, by rw [q_upI_nk (by omega), q_upI_self], fun q u hu => (by
      have hq := (List.getElem?_eq_some_iff.mp hu).1
      rw [a_put_at hn] at hu
      by_cases hqn : q = n
      · rw [if_pos hqn] at hu
        cases hu
        rw [hqn, q_upI_self]
      · rw [if_neg hqn] at hu
        rw [q_upI_nk (by omega), q_upI_nk (by omega), q_upI_nea (by omega)]
        exact hw1.2.2 q u hu)⟩ (fun j hj hj2 => by rw [q_upI_nk (by omega), q_upI_nk (by omega), q_upI_nea (by omega)])⟩
    · rw [q_upI_nea (by omega), q_upI_nea (by omega), q_upI_nk (by omega)]
    · rw [q_upI_nea (by omega), q_upI_nea (by omega), q_upI_nk (by omega)]
    · rw [q_upI_nea (by omega), q_upI_nea (by omega), q_upI_nk (by omega)]
    · rw [q_upI_nea (by omega), q_upI_nea (by omega), q_upI_nk (by omega)]
  refine q_C.of (ls0 := [some (.ref m), some (.int (nI i)), some (.int p), some (.int (nI n)), some (.int y), none, none]) (by decide) rfl (by decide) (Nat.le_of_ble_eq_true rfl) rfl ?_
  refine q_aload_n d_Model_put_0 rfl rfl ?_
  refine q_iload_n d_Model_put_1 rfl rfl ?_
  refine q_callVi (M2 := M_Model_isRecordHandle) d_Model_put_2 ⟨(Nat.le_of_ble_eq_true rfl), (Nat.le_of_ble_eq_true rfl), w_1417, w_10, ⟨by decide, by decide⟩, show _ = some 1 by decide +kernel⟩ w_1414 w_1416 (ci := 11) rfl s_74 hL.1 rfl (Nat.le_of_ble_eq_true rfl) (by omega) (by omega) (c_Model_isRecordHandle hL hH _) ?_
  rintro _ _ ⟨rfl, rfl⟩
  rw [hb]
  refine q_if_eq (tgt := 18) d_Model_put_5 rfl (fun hc => ?_) (fun hc => ?_)
  · exact absurd hc (by decide)
  refine q_aload_n d_Model_put_8 rfl rfl ?_
  refine q_iload_n d_Model_put_9 rfl rfl ?_
  refine q_iload_n d_Model_put_10 rfl rfl ?_
  refine q_iconst (v := nI 1) d_Model_put_11 (by decide) ?_
  refine q_callVi (M2 := M_Model_fieldOf) d_Model_put_12 ⟨(Nat.le_of_ble_eq_true rfl), (Nat.le_of_ble_eq_true rfl), w_1429, w_10, ⟨by decide, by decide⟩, show _ = some 3 by decide +kernel⟩ w_1426 w_1428 (ci := 11) rfl s_75 hL.1 rfl (Nat.le_of_ble_eq_true rfl) (by omega) (by omega) (c_Model_fieldOf (so := nI 1) hL hi e3 e7 e6 e2.1.2.2.1 e2.1.2.1 e2.1.1) ?_
  rintro _ _ ⟨rfl, rfl⟩
  rw [show a_pl L p (nI 1) = some k from hp]
  refine q_goto (tgt := 19) d_Model_put_15 rfl ?_
  refine q_istore d_Model_put_19 (Nat.le_of_ble_eq_true rfl) (by first | exact q_ok0 | exact q_okI rfl | exact q_okR rfl | exact q_okN rfl) rfl ?_
  refine q_aload_n d_Model_put_21 rfl rfl ?_
  refine q_aload_n d_Model_put_22 rfl rfl ?_
  refine q_iload_n d_Model_put_23 rfl rfl ?_
  refine q_callVi (M2 := M_Model_isRecordHandle) d_Model_put_24 ⟨(Nat.le_of_ble_eq_true rfl), (Nat.le_of_ble_eq_true rfl), w_1417, w_10, ⟨by decide, by decide⟩, show _ = some 1 by decide +kernel⟩ w_1414 w_1416 (ci := 11) rfl s_74 hL.1 rfl (Nat.le_of_ble_eq_true rfl) (by omega) (by omega) (c_Model_isRecordHandle hL hH _) ?_
  rintro _ _ ⟨rfl, rfl⟩
  rw [hb]
  refine q_if_ne (tgt := 34) d_Model_put_27 rfl (fun hc => ?_) (fun hc => ?_)
  rotate_left
  · exact absurd hc (by decide)
  rw [show p_idx (some k) = nI k from rfl]
  refine q_iload d_Model_put_34 rfl ?_
  refine q_if_lt (tgt := 77) d_Model_put_36 rfl (fun hc => ?_) (fun hc => ?_)
  · exact absurd hc (nI_pos (by omega))
  refine q_iload_n d_Model_put_39 rfl rfl ?_
  refine q_if_lt (tgt := 77) d_Model_put_40 rfl (fun hc => ?_) (fun hc => ?_)
  · exact absurd hc (nI_pos (by omega))
  refine q_iload_n d_Model_put_43 rfl rfl ?_
  refine q_aload_n d_Model_put_44 rfl rfl ?_
  refine q_getR (ci := 11) (fk := 15) d_Model_put_45 rfl (Nat.le_of_ble_eq_true rfl) w_1119 (fun _ _ => rfl) hL.1 (hL.2 15 _ _ _ rfl).1 ?_
  refine q_aload_n d_Model_put_48 rfl rfl ?_
  refine q_iload_n d_Model_put_49 rfl rfl ?_
  refine q_iload d_Model_put_50 rfl ?_
  refine q_callVi (M2 := M_Model_rowOf) d_Model_put_52 ⟨(Nat.le_of_ble_eq_true rfl), (Nat.le_of_ble_eq_true rfl), w_1437, w_10, ⟨by decide, by decide⟩, show _ = some 2 by decide +kernel⟩ w_1434 w_1436 (ci := 11) rfl s_77 hL.1 rfl (Nat.le_of_ble_eq_true rfl) (by omega) (by omega) (c_Model_rowOf) ?_
  rintro _ _ ⟨rfl, rfl⟩
  refine q_iald d_Model_put_55 (hL.2 15 _ _ _ rfl).2 (by first | assumption | exact vp_in_nI (by omega) (by omega)) ?_
  rw [hw1.2.1]
  refine q_icmp_gt (tgt := 77) d_Model_put_56 rfl (fun hc => ?_) (fun hc => ?_)
  · exact absurd hc (by rw [Int32.not_lt, nI_leI (by omega) (by omega)]; exact hn)
  refine q_iload_n d_Model_put_59 rfl rfl ?_
  refine q_bipush (v := nI 6) d_Model_put_60 (by decide) ?_
  refine q_icmp_eq (tgt := 77) d_Model_put_62 rfl (fun hc => ?_) (fun hc => ?_)
  · have := (nI_eq (by omega) (by omega)).mp hc
    omega
  refine q_aload_n d_Model_put_65 rfl rfl ?_
  refine q_iload_n d_Model_put_66 rfl rfl ?_
  refine q_iload d_Model_put_67 rfl ?_
  refine q_iload d_Model_put_69 rfl ?_
  refine q_callVi (M2 := M_Model_fits) d_Model_put_71 ⟨(Nat.le_of_ble_eq_true rfl), (Nat.le_of_ble_eq_true rfl), w_1433, w_10, ⟨by decide, by decide⟩, show _ = some 3 by decide +kernel⟩ w_1430 w_1432 (ci := 11) rfl s_76 hL.1 rfl (Nat.le_of_ble_eq_true rfl) (by omega) (by omega) (c_Model_fits hL hi e3 e7 e6 e2.1.1 hf) ?_
  rintro _ _ ⟨rfl, rfl⟩
  rw [hy]
  refine q_if_ne (tgt := 81) d_Model_put_74 rfl (fun hc => ?_) (fun hc => ?_)
  rotate_left
  · exact absurd hc (by decide)
  refine q_iconst (v := nI 0) d_Model_put_81 (by decide) ?_
  refine q_putI (ci := 11) (fk := 0) d_Model_put_82 rfl (Nat.le_of_ble_eq_true rfl) w_1104 (Or.inl rfl) (fun _ _ => rfl) rfl rfl hL.1 ?_
  refine q_aload_n d_Model_put_85 rfl rfl ?_
  refine q_getI (ci := 11) (fk := 0) d_Model_put_86 rfl (Nat.le_of_ble_eq_true rfl) w_1104 (fun _ _ => rfl) hL.1 ?_
  rw [q_upI_self]
  refine q_if_le (tgt := 94) d_Model_put_89 rfl (fun hc => ?_) (fun hc => ?_)
  rotate_left
  · exact absurd (Int32.le_refl _) hc
  refine q_aload_n d_Model_put_94 rfl rfl ?_
  refine q_iload_n d_Model_put_95 rfl rfl ?_
  refine q_iload d_Model_put_96 rfl ?_
  refine q_callVi (M2 := M_Model_rowOf) d_Model_put_98 ⟨(Nat.le_of_ble_eq_true rfl), (Nat.le_of_ble_eq_true rfl), w_1437, w_10, ⟨by decide, by decide⟩, show _ = some 2 by decide +kernel⟩ w_1434 w_1436 (ci := 11) rfl s_77 hL.1 rfl (Nat.le_of_ble_eq_true rfl) (by omega) (by omega) (c_Model_rowOf) ?_
  rintro _ _ ⟨rfl, rfl⟩
  refine q_istore d_Model_put_101 (Nat.le_of_ble_eq_true rfl) (by first | exact q_ok0 | exact q_okI rfl | exact q_okR rfl | exact q_okN rfl) rfl ?_
  refine q_aload_n d_Model_put_103 rfl rfl ?_
  refine q_getR (ci := 11) (fk := 15) d_Model_put_104 rfl (Nat.le_of_ble_eq_true rfl) w_1119 (fun _ _ => rfl) hL.1 (hL.2 15 _ _ _ rfl).1 ?_
  refine q_iload d_Model_put_107 rfl ?_
  refine q_iload_n d_Model_put_109 rfl rfl ?_
  refine q_aload_n d_Model_put_110 rfl rfl ?_
  refine q_getR (ci := 11) (fk := 15) d_Model_put_111 rfl (Nat.le_of_ble_eq_true rfl) w_1119 (fun _ _ => rfl) hL.1 (hL.2 15 _ _ _ rfl).1 ?_
  refine q_iload d_Model_put_114 rfl ?_
  refine q_iald d_Model_put_116 (hL.2 15 _ _ _ rfl).2 (by first | assumption | exact vp_in_nI (by omega) (by omega)) ?_
  rw [q_upI_nea (by omega), hw1.2.1]
  refine q_icmp_ne (tgt := 126) d_Model_put_117 rfl (fun hc => ?_) (fun hc => ?_)
  · have h9 : n ≠ v.length := fun z => hc (by rw [z])
    refine q_aload_n d_Model_put_126 rfl rfl ?_
    refine q_getR (ci := 11) (fk := 15) d_Model_put_127 rfl (Nat.le_of_ble_eq_true rfl) w_1119 (fun _ _ => rfl) hL.1 (hL.2 15 _ _ _ rfl).1 ?_
    refine q_iload d_Model_put_130 rfl ?_
    refine q_iald d_Model_put_132 (hL.2 15 _ _ _ rfl).2 (by first | assumption | exact vp_in_nI (by omega) (by omega)) ?_
    rw [q_upI_nea (by omega), hw1.2.1]
    refine fin _ _ _ rfl rfl ?_
    rw [a_put_len hn, if_neg h9]
  · have h9 : n = v.length := by
      have := hc
      exact (nI_eq (by omega) (by omega)).mp this
    refine q_iload_n d_Model_put_120 rfl rfl ?_
    refine q_iconst (v := nI 1) d_Model_put_121 (by decide) ?_
    first | refine q_iaddN d_Model_put_122 ?_ | refine q_iadd d_Model_put_122 ?_
    refine q_goto (tgt := 133) d_Model_put_123 rfl ?_
    refine fin _ _ _ rfl rfl ?_
    rw [a_put_len hn, if_pos h9]

end MPub2
