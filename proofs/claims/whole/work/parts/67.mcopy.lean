/-! copy, the reference's side -/
section CopyM
variable {g : q_G} {sz m : Nat} {T : q_T} {I : q_I} {R : q_R} {J : q_J} {S : KA}
theorem c_Model_copy_no (hw : wf S) (hM : relM S m T I R) {v : Int32} (hb : k_ish S.lv v = false) : q_Ci g M_Model_copy [.ref m, .int v] (sz, T, I, R, J) 0 0 (m_spm m sz T I R J (nI 1, 0, S)) := by
  have hL := hM.1
  refine q_C.of (ls0 := [some (.ref m), some (.int v), none, none, none]) (by decide) rfl (by decide) (Nat.le_of_ble_eq_true rfl) rfl ?_
  refine q_aload_n d_Model_copy_0 rfl rfl ?_
  refine q_callVi (M2 := M_Model_free) d_Model_copy_1 ⟨(Nat.le_of_ble_eq_true rfl), (Nat.le_of_ble_eq_true rfl), w_1409, w_10, ⟨by decide, by decide⟩, show _ = some 0 by decide +kernel⟩ w_1406 w_1408 (ci := 11) rfl s_73 hL.1 rfl (Nat.le_of_ble_eq_true rfl) (by omega) (by omega) (c_Model_free hL (hM.mh hw)) ?_
  rintro _ _ ⟨rfl, rfl⟩
  refine q_istore_n d_Model_copy_4 rfl (Nat.le_of_ble_eq_true rfl) (by first | exact q_ok0 | exact q_okI rfl | exact q_okR rfl | exact q_okN rfl) rfl ?_
  refine q_aload_n d_Model_copy_5 rfl rfl ?_
  refine q_aload_n d_Model_copy_6 rfl rfl ?_
  refine q_iload_n d_Model_copy_7 rfl rfl ?_
  refine q_callVi (M2 := M_Model_isRecordHandle) d_Model_copy_8 ⟨(Nat.le_of_ble_eq_true rfl), (Nat.le_of_ble_eq_true rfl), w_1417, w_10, ⟨by decide, by decide⟩, show _ = some 1 by decide +kernel⟩ w_1414 w_1416 (ci := 11) rfl s_74 hL.1 rfl (Nat.le_of_ble_eq_true rfl) (by omega) (by omega) (c_Model_isRecordHandle hL (hM.mh hw) v) ?_
  rintro _ _ ⟨rfl, rfl⟩
  rw [hb]
  refine q_if_ne (tgt := 18) d_Model_copy_11 rfl (fun hc => ?_) (fun hc => ?_)
  · exact absurd rfl hc
  refine q_iconst (v := nI 1) d_Model_copy_14 (by decide) ?_
  refine q_goto (tgt := 27) d_Model_copy_15 rfl ?_
  refine q_putI (ci := 11) (fk := 0) d_Model_copy_27 rfl (Nat.le_of_ble_eq_true rfl) w_1104 (Or.inl rfl) (fun _ _ => rfl) rfl rfl hL.1 ?_
  refine q_aload_n d_Model_copy_30 rfl rfl ?_
  refine q_getI (ci := 11) (fk := 0) d_Model_copy_31 rfl (Nat.le_of_ble_eq_true rfl) w_1104 (fun _ _ => rfl) hL.1 ?_
  rw [q_upI_self]
  refine q_if_le (tgt := 39) d_Model_copy_34 rfl (fun hc => ?_) (fun hc => ?_)
  · exact absurd hc (by decide)
  · refine q_iconst (v := nI 0) d_Model_copy_37 (by decide) ?_
    refine q_iret d_Model_copy_38 rfl (by omega) (by omega) ?_
    exact ⟨_, rfl, m_no hM (by decide) _⟩
theorem c_Model_copy_no2 (hw : wf S) (hM : relM S m T I R) {v : Int32} (hb : k_ish S.lv v = true) (hf : k_fr S.lv 0 16 = none) : q_Ci g M_Model_copy [.ref m, .int v] (sz, T, I, R, J) 0 0 (m_spm m sz T I R J (nI 2, 0, S)) := by
  have hL := hM.1
  refine q_C.of (ls0 := [some (.ref m), some (.int v), none, none, none]) (by decide) rfl (by decide) (Nat.le_of_ble_eq_true rfl) rfl ?_
  refine q_aload_n d_Model_copy_0 rfl rfl ?_
  refine q_callVi (M2 := M_Model_free) d_Model_copy_1 ⟨(Nat.le_of_ble_eq_true rfl), (Nat.le_of_ble_eq_true rfl), w_1409, w_10, ⟨by decide, by decide⟩, show _ = some 0 by decide +kernel⟩ w_1406 w_1408 (ci := 11) rfl s_73 hL.1 rfl (Nat.le_of_ble_eq_true rfl) (by omega) (by omega) (c_Model_free hL (hM.mh hw)) ?_
  rintro _ _ ⟨rfl, rfl⟩
  rw [hf]
  refine q_istore_n d_Model_copy_4 rfl (Nat.le_of_ble_eq_true rfl) (by first | exact q_ok0 | exact q_okI rfl | exact q_okR rfl | exact q_okN rfl) rfl ?_
  refine q_aload_n d_Model_copy_5 rfl rfl ?_
  refine q_aload_n d_Model_copy_6 rfl rfl ?_
  refine q_iload_n d_Model_copy_7 rfl rfl ?_
  refine q_callVi (M2 := M_Model_isRecordHandle) d_Model_copy_8 ⟨(Nat.le_of_ble_eq_true rfl), (Nat.le_of_ble_eq_true rfl), w_1417, w_10, ⟨by decide, by decide⟩, show _ = some 1 by decide +kernel⟩ w_1414 w_1416 (ci := 11) rfl s_74 hL.1 rfl (Nat.le_of_ble_eq_true rfl) (by omega) (by omega) (c_Model_isRecordHandle hL (hM.mh hw) v) ?_
  rintro _ _ ⟨rfl, rfl⟩
  rw [hb]
  refine q_if_ne (tgt := 18) d_Model_copy_11 rfl (fun hc => ?_) (fun hc => ?_)
  rotate_left
  · exact absurd hc (by decide)
  refine q_iload_n d_Model_copy_18 rfl rfl ?_
  refine q_if_ge (tgt := 26) d_Model_copy_19 rfl (fun hc => ?_) (fun hc => ?_)
  · exact absurd (show (0 : Int32) ≤ -1 from hc) (by decide)
  refine q_iconst (v := nI 2) d_Model_copy_22 (by decide) ?_
  refine q_goto (tgt := 27) d_Model_copy_23 rfl ?_
  refine q_putI (ci := 11) (fk := 0) d_Model_copy_27 rfl (Nat.le_of_ble_eq_true rfl) w_1104 (Or.inl rfl) (fun _ _ => rfl) rfl rfl hL.1 ?_
  refine q_aload_n d_Model_copy_30 rfl rfl ?_
  refine q_getI (ci := 11) (fk := 0) d_Model_copy_31 rfl (Nat.le_of_ble_eq_true rfl) w_1104 (fun _ _ => rfl) hL.1 ?_
  rw [q_upI_self]
  refine q_if_le (tgt := 39) d_Model_copy_34 rfl (fun hc => ?_) (fun hc => ?_)
  · exact absurd hc (by decide)
  · refine q_iconst (v := nI 0) d_Model_copy_37 (by decide) ?_
    refine q_iret d_Model_copy_38 rfl (by omega) (by omega) ?_
    exact ⟨_, rfl, m_no hM (by decide) _⟩
set_option maxHeartbeats 1000000 in
theorem c_Model_copy (hw : wf S) (hM : relM S m T I R) {i h : Nat} {c : KR} (hi : i < 16) (hc : S.rs i = some c) (hb : k_ish S.lv (nI i) = true) (hf : k_fr S.lv 0 16 = some h) : q_Ci g M_Model_copy [.ref m, .int (nI i)] (sz, T, I, R, J) 0 0 (m_spm m sz T I R J (0, nI h, S.setR h (some c))) := by
  have hL := hM.1
  obtain ⟨L, e1, e2, e3, e4, e5, e6, e7, e8, e9⟩ := hM.of hw hi hc
  have h24 := e2.1.1
  obtain ⟨f1, f2, f3⟩ := k_fr_some hf
  have hih : i ≠ h := fun z => by
    have : (S.rs h).isSome = false := f3
    rw [← z, hc] at this; cases this
  have t11 := (hL.2 15 _ _ _ rfl).2
  have t12 := (hL.2 16 _ _ _ rfl).2
  have t13 := (hL.2 17 _ _ _ rfl).2
  have loop3 : ∀ (j k : Nat) (I2 : q_I) (mcc msc : Nat), mcc = 0 → msc = 0 → k + j = 1792 → (∀ b, b ≠ m → b ≠ m + 10 → b ≠ m + 11 → b ≠ m + 12 → b ≠ m + 13 → I2 b = I b) → (∀ q, q < 39 → q ≠ 0 → I2 m (nI q) = I m (nI q)) → I2 m (nI 0) = 0 → I2 (m + 10) (nI h) = nI c.ver → (∀ q, q < 16 → q ≠ h → I2 (m + 10) (nI q) = I (m + 10) (nI q)) → (∀ q, q < 168 → I2 (m + 11) (nI (168 * h + q)) = I (m + 11) (nI (168 * i + q))) → (∀ q, q < 2 ^ 31 → q < 168 * h ∨ 168 * h + 168 ≤ q → I2 (m + 11) (nI q) = I (m + 11) (nI q)) → (∀ q, q < 128 → I2 (m + 12) (nI (128 * h + q)) = I (m + 12) (nI (128 * i + q))) → (∀ q, q < 2 ^ 31 → q < 128 * h ∨ 128 * h + 128 ≤ q → I2 (m + 12) (nI q) = I (m + 12) (nI q)) → (∀ q, q < k → I2 (m + 13) (nI (1792 * h + q)) = I (m + 13) (nI (1792 * i + q))) → (∀ q, q < 2 ^ 31 → q < 1792 * h ∨ 1792 * h + 1792 ≤ q → I2 (m + 13) (nI q) = I (m + 13) (nI q)) → q_V g M_Model_copy 0 0 mcc msc (sz, T, I2, R, J) (fun o h' => ∃ r : Int32, o = .inl (some (.int r)) ∧ m_spm m sz T I R J (0, nI h, S.setR h (some c)) r h') 134 [some (.ref m), some (.int (nI i)), some (.int (nI h)), some (.int (nI 128)), some (.int (nI k))] [] := by
    intro j
    induction j with
    | zero =>
      intro k I2 mcc msc m1 m2 hk p1 p2 p3 p4 p5 p6 p7 p8 p9 p10 p11
      subst m1 m2
      obtain rfl : k = 1792 := by omega
      refine q_iload d_Model_copy_134 rfl ?_
      refine q_bipush (v := nI 14) d_Model_copy_136 (by decide) ?_
      refine q_iload_n d_Model_copy_138 rfl rfl ?_
      first | refine q_imulN d_Model_copy_139 ?_ | refine q_imul d_Model_copy_139 ?_
      refine q_icmp_ge (tgt := 177) d_Model_copy_140 rfl (fun hc => ?_) (fun hc => ?_)
      · refine q_iload_n d_Model_copy_177 rfl rfl ?_
        refine q_iret d_Model_copy_178 rfl (by omega) (by omega) ?_
        refine ⟨_, rfl, fun _ => rfl, I2, rfl, p3, fun b hb => p1 b (by omega) (by omega) (by omega) (by omega) (by omega), hM.row ⟨fun b hb => p1 b (by omega) (by omega) (by omega) (by omega) (by omega), fun j j1 j2 => p1 (m + j) (by omega) (by omega) (by omega) (by omega) (by omega), p2 1 (by omega) (by omega), p2 7 (by omega) (by omega), p2 8 (by omega) (by omega), p2 13 (by omega) (by omega)⟩ (fun z => by cases z) (fun c2 hc2 => ?_) (fun q hq hne => ⟨p5 q hq hne, fun j j1 j2 => p7 j (by omega) (by omega), fun j j1 j2 => p9 j (by omega) (by omega), fun j j1 j2 => p11 j (by omega) (by omega)⟩) (fun q c hq hc => hw.v24 hq hc)⟩
        cases hc2
        refine ⟨p4, fun q u hu => ?_, fun q hq => ?_⟩
        · have hq := (List.getElem?_eq_some_iff.mp hu).1
          obtain ⟨r1, r2, r3⟩ := e8 q u hu
          refine ⟨r1, ?_, fun z y hy => ?_⟩
          · rw [show 7 * (24 * h + q) = 168 * h + 7 * q by omega, p6 _ (by omega), show 168 * i + 7 * q = 7 * (24 * i + q) by omega]
            exact r2
          · have := (List.getElem?_eq_some_iff.mp hy).1
            rw [show 7 * (24 * h + q) + 1 + z = 168 * h + (7 * q + 1 + z) by omega, p6 _ (by omega), show 168 * i + (7 * q + 1 + z) = 7 * (24 * i + q) + 1 + z by omega]
            exact r3 z y hy
        · obtain ⟨d1, d2, d3⟩ := e9 q hq
          refine ⟨by rw [p8 q hq]; exact d1, fun hz => ?_, fun hz => ?_⟩
          · obtain ⟨r1, r2, r3⟩ := d2 hz
            refine ⟨r1, ?_, fun z y hy => ?_⟩
            · rw [show 14 * (128 * h + q) = 1792 * h + 14 * q by omega, p10 _ (by omega), show 1792 * i + 14 * q = 14 * (128 * i + q) by omega]
              exact r2
            · have := (List.getElem?_eq_some_iff.mp hy).1
              rw [show 14 * (128 * h + q) + 1 + z = 1792 * h + (14 * q + 1 + z) by omega, p10 _ (by omega), show 1792 * i + (14 * q + 1 + z) = 14 * (128 * i + q) + 1 + z by omega]
              exact r3 z y hy
          · obtain ⟨r1, r2, r3⟩ := d3 hz
            refine ⟨r1, ?_, fun z y hy => ?_⟩
            · rw [show 14 * (128 * h + q) + 7 = 1792 * h + (14 * q + 7) by omega, p10 _ (by omega), show 1792 * i + (14 * q + 7) = 14 * (128 * i + q) + 7 by omega]
              exact r2
            · have := (List.getElem?_eq_some_iff.mp hy).1
              rw [show 14 * (128 * h + q) + 7 + 1 + z = 1792 * h + (14 * q + 7 + 1 + z) by omega, p10 _ (by omega), show 1792 * i + (14 * q + 7 + 1 + z) = 14 * (128 * i + q) + 7 + 1 + z by omega]
              exact r3 z y hy
      · exact absurd (by rw [nI_leI (by omega) (by omega)]; omega) hc
    | succ j ih =>
      intro k I2 mcc msc m1 m2 hk p1 p2 p3 p4 p5 p6 p7 p8 p9 p10 p11
      subst m1 m2
      refine q_iload d_Model_copy_134 rfl ?_
      refine q_bipush (v := nI 14) d_Model_copy_136 (by decide) ?_
      refine q_iload_n d_Model_copy_138 rfl rfl ?_
      first | refine q_imulN d_Model_copy_139 ?_ | refine q_imul d_Model_copy_139 ?_
      refine q_icmp_ge (tgt := 177) d_Model_copy_140 rfl (fun hc => ?_) (fun hc => ?_)
      · rw [nI_leI (by omega) (by omega)] at hc
        omega
      · refine q_aload_n d_Model_copy_143 rfl rfl ?_
        refine q_getR (ci := 11) (fk := 17) d_Model_copy_144 rfl (Nat.le_of_ble_eq_true rfl) w_1121 (fun _ _ => rfl) hL.1 (hL.2 17 _ _ _ rfl).1 ?_
        refine q_bipush (v := nI 14) d_Model_copy_147 (by decide) ?_
        refine q_iload_n d_Model_copy_149 rfl rfl ?_
        first | refine q_imulN d_Model_copy_150 ?_ | refine q_imul d_Model_copy_150 ?_
        refine q_iload_n d_Model_copy_151 rfl rfl ?_
        first | refine q_imulN d_Model_copy_152 ?_ | refine q_imul d_Model_copy_152 ?_
        refine q_iload d_Model_copy_153 rfl ?_
        first | refine q_iaddN d_Model_copy_155 ?_ | refine q_iadd d_Model_copy_155 ?_
        refine q_aload_n d_Model_copy_156 rfl rfl ?_
        refine q_getR (ci := 11) (fk := 17) d_Model_copy_157 rfl (Nat.le_of_ble_eq_true rfl) w_1121 (fun _ _ => rfl) hL.1 (hL.2 17 _ _ _ rfl).1 ?_
        refine q_bipush (v := nI 14) d_Model_copy_160 (by decide) ?_
        refine q_iload_n d_Model_copy_162 rfl rfl ?_
        first | refine q_imulN d_Model_copy_163 ?_ | refine q_imul d_Model_copy_163 ?_
        refine q_iload_n d_Model_copy_164 rfl rfl ?_
        first | refine q_imulN d_Model_copy_165 ?_ | refine q_imul d_Model_copy_165 ?_
        refine q_iload d_Model_copy_166 rfl ?_
        first | refine q_iaddN d_Model_copy_168 ?_ | refine q_iadd d_Model_copy_168 ?_
        refine q_iald d_Model_copy_169 (hL.2 17 _ _ _ rfl).2 (by first | assumption | exact vp_in_nI (by omega) (by omega)) ?_
        refine q_iast d_Model_copy_170 (hL.2 17 _ _ _ rfl).2 (by first | assumption | exact vp_in_nI (by omega) (by omega)) ?_
        first | refine q_iincN d_Model_copy_171 rfl (Nat.le_of_ble_eq_true rfl) (by first | exact q_ok0 | exact q_okI rfl | exact q_okR rfl | exact q_okN rfl) rfl ?_ | refine q_iinc d_Model_copy_171 rfl rfl (Nat.le_of_ble_eq_true rfl) (by first | exact q_ok0 | exact q_okI rfl | exact q_okR rfl | exact q_okN rfl) rfl ?_
        refine q_goto (tgt := 134) d_Model_copy_174 rfl ?_
        refine ih (k + 1) _ _ _ rfl rfl (by omega) (fun b b1 b2 b3 b4 b5 => by funext q; rw [q_upI_nea b5, p1 b b1 b2 b3 b4 b5]) (fun q hq hq0 => by rw [q_upI_nea (by omega)]; exact p2 q hq hq0) (by rw [q_upI_nea (by omega)]; exact p3) (by rw [q_upI_nea (by omega)]; exact p4) (fun q hq hne => by rw [q_upI_nea (by omega)]; exact p5 q hq hne) (fun q hq => by rw [q_upI_nea (by omega)]; exact p6 q hq) (fun q hq hq2 => by rw [q_upI_nea (by omega)]; exact p7 q hq hq2) (fun q hq => by rw [q_upI_nea (by omega)]; exact p8 q hq) (fun q hq hq2 => by rw [q_upI_nea (by omega)]; exact p9 q hq hq2) (fun q hq => ?_) (fun q hq hq2 => by rw [q_upI_nk (by omega)]; exact p11 q hq hq2)
        by_cases hqk : q = k
        · rw [hqk, show 1792 * h + k = 14 * 128 * h + k by omega, q_upI_self, show 14 * 128 * i + k = 1792 * i + k by omega]
          exact p11 _ (by omega) (by omega)
        · rw [q_upI_nk (by omega)]; exact p10 q (by omega)
  have loop2 : ∀ (j k : Nat) (I2 : q_I) (mcc msc : Nat), mcc = 0 → msc = 0 → k + j = 128 → (∀ b, b ≠ m → b ≠ m + 10 → b ≠ m + 11 → b ≠ m + 12 → I2 b = I b) → (∀ q, q < 39 → q ≠ 0 → I2 m (nI q) = I m (nI q)) → I2 m (nI 0) = 0 → I2 (m + 10) (nI h) = nI c.ver → (∀ q, q < 16 → q ≠ h → I2 (m + 10) (nI q) = I (m + 10) (nI q)) → (∀ q, q < 168 → I2 (m + 11) (nI (168 * h + q)) = I (m + 11) (nI (168 * i + q))) → (∀ q, q < 2 ^ 31 → q < 168 * h ∨ 168 * h + 168 ≤ q → I2 (m + 11) (nI q) = I (m + 11) (nI q)) → (∀ q, q < k → I2 (m + 12) (nI (128 * h + q)) = I (m + 12) (nI (128 * i + q))) → (∀ q, q < 2 ^ 31 → q < 128 * h ∨ 128 * h + 128 ≤ q → I2 (m + 12) (nI q) = I (m + 12) (nI q)) → q_V g M_Model_copy 0 0 mcc msc (sz, T, I2, R, J) (fun o h' => ∃ r : Int32, o = .inl (some (.int r)) ∧ m_spm m sz T I R J (0, nI h, S.setR h (some c)) r h') 97 [some (.ref m), some (.int (nI i)), some (.int (nI h)), some (.int (nI 128)), some (.int (nI k))] [] := by
    intro j
    induction j with
    | zero =>
      intro k I2 mcc msc m1 m2 hk p1 p2 p3 p4 p5 p6 p7 p8 p9
      subst m1 m2
      obtain rfl : k = 128 := by omega
      refine q_iload d_Model_copy_97 rfl ?_
      refine q_iload_n d_Model_copy_99 rfl rfl ?_
      refine q_icmp_ge (tgt := 131) d_Model_copy_100 rfl (fun hc => ?_) (fun hc => ?_)
      · refine q_iconst (v := nI 0) d_Model_copy_131 (by decide) ?_
        refine q_istore d_Model_copy_132 (Nat.le_of_ble_eq_true rfl) (by first | exact q_ok0 | exact q_okI rfl | exact q_okR rfl | exact q_okN rfl) rfl ?_
        exact loop3 1792 0 I2 _ _ rfl rfl (by omega) (fun b b1 b2 b3 b4 b5 => p1 b b1 b2 b3 b4) p2 p3 p4 p5 p6 p7 p8 p9 (fun q hq => absurd hq (Nat.not_lt_zero _)) (fun q hq hq2 => by rw [p1 (m + 13) (by omega) (by omega) (by omega) (by omega)])
      · exact absurd (by rw [nI_leI (by omega) (by omega)]; omega) hc
    | succ j ih =>
      intro k I2 mcc msc m1 m2 hk p1 p2 p3 p4 p5 p6 p7 p8 p9
      subst m1 m2
      refine q_iload d_Model_copy_97 rfl ?_
      refine q_iload_n d_Model_copy_99 rfl rfl ?_
      refine q_icmp_ge (tgt := 131) d_Model_copy_100 rfl (fun hc => ?_) (fun hc => ?_)
      · rw [nI_leI (by omega) (by omega)] at hc
        omega
      · refine q_aload_n d_Model_copy_103 rfl rfl ?_
        refine q_getR (ci := 11) (fk := 16) d_Model_copy_104 rfl (Nat.le_of_ble_eq_true rfl) w_1120 (fun _ _ => rfl) hL.1 (hL.2 16 _ _ _ rfl).1 ?_
        refine q_iload_n d_Model_copy_107 rfl rfl ?_
        refine q_iload_n d_Model_copy_108 rfl rfl ?_
        first | refine q_imulN d_Model_copy_109 ?_ | refine q_imul d_Model_copy_109 ?_
        refine q_iload d_Model_copy_110 rfl ?_
        first | refine q_iaddN d_Model_copy_112 ?_ | refine q_iadd d_Model_copy_112 ?_
        refine q_aload_n d_Model_copy_113 rfl rfl ?_
        refine q_getR (ci := 11) (fk := 16) d_Model_copy_114 rfl (Nat.le_of_ble_eq_true rfl) w_1120 (fun _ _ => rfl) hL.1 (hL.2 16 _ _ _ rfl).1 ?_
        refine q_iload_n d_Model_copy_117 rfl rfl ?_
        refine q_iload_n d_Model_copy_118 rfl rfl ?_
        first | refine q_imulN d_Model_copy_119 ?_ | refine q_imul d_Model_copy_119 ?_
        refine q_iload d_Model_copy_120 rfl ?_
        first | refine q_iaddN d_Model_copy_122 ?_ | refine q_iadd d_Model_copy_122 ?_
        refine q_iald d_Model_copy_123 (hL.2 16 _ _ _ rfl).2 (by first | assumption | exact vp_in_nI (by omega) (by omega)) ?_
        refine q_iast d_Model_copy_124 (hL.2 16 _ _ _ rfl).2 (by first | assumption | exact vp_in_nI (by omega) (by omega)) ?_
        first | refine q_iincN d_Model_copy_125 rfl (Nat.le_of_ble_eq_true rfl) (by first | exact q_ok0 | exact q_okI rfl | exact q_okR rfl | exact q_okN rfl) rfl ?_ | refine q_iinc d_Model_copy_125 rfl rfl (Nat.le_of_ble_eq_true rfl) (by first | exact q_ok0 | exact q_okI rfl | exact q_okR rfl | exact q_okN rfl) rfl ?_
        refine q_goto (tgt := 97) d_Model_copy_128 rfl ?_
        refine ih (k + 1) _ _ _ rfl rfl (by omega) (fun b b1 b2 b3 b4 => by funext q; rw [q_upI_nea b4, p1 b b1 b2 b3 b4]) (fun q hq hq0 => by rw [q_upI_nea (by omega)]; exact p2 q hq hq0) (by rw [q_upI_nea (by omega)]; exact p3) (by rw [q_upI_nea (by omega)]; exact p4) (fun q hq hne => by rw [q_upI_nea (by omega)]; exact p5 q hq hne) (fun q hq => by rw [q_upI_nea (by omega)]; exact p6 q hq) (fun q hq hq2 => by rw [q_upI_nea (by omega)]; exact p7 q hq hq2) (fun q hq => ?_) (fun q hq hq2 => by rw [q_upI_nk (by omega)]; exact p9 q hq hq2)
        by_cases hqk : q = k
        · rw [hqk, q_upI_self]
          exact p9 _ (by omega) (by omega)
        · rw [q_upI_nk (by omega)]; exact p8 q (by omega)
  have loop1 : ∀ (j k : Nat) (I2 : q_I) (mcc msc : Nat), mcc = 0 → msc = 0 → k + j = 168 → (∀ b, b ≠ m → b ≠ m + 10 → b ≠ m + 11 → I2 b = I b) → (∀ q, q < 39 → q ≠ 0 → I2 m (nI q) = I m (nI q)) → I2 m (nI 0) = 0 → I2 (m + 10) (nI h) = nI c.ver → (∀ q, q < 16 → q ≠ h → I2 (m + 10) (nI q) = I (m + 10) (nI q)) → (∀ q, q < k → I2 (m + 11) (nI (168 * h + q)) = I (m + 11) (nI (168 * i + q))) → (∀ q, q < 2 ^ 31 → q < 168 * h ∨ 168 * h + 168 ≤ q → I2 (m + 11) (nI q) = I (m + 11) (nI q)) → q_V g M_Model_copy 0 0 mcc msc (sz, T, I2, R, J) (fun o h' => ∃ r : Int32, o = .inl (some (.int r)) ∧ m_spm m sz T I R J (0, nI h, S.setR h (some c)) r h') 53 [some (.ref m), some (.int (nI i)), some (.int (nI h)), some (.int (nI k)), none] [] := by
    intro j
    induction j with
    | zero =>
      intro k I2 mcc msc m1 m2 hk p1 p2 p3 p4 p5 p6 p7
      subst m1 m2
      obtain rfl : k = 168 := by omega
      refine q_iload_n d_Model_copy_53 rfl rfl ?_
      refine q_sipush (v := nI 168) d_Model_copy_54 (by decide) ?_
      refine q_icmp_ge (tgt := 90) d_Model_copy_57 rfl (fun hc => ?_) (fun hc => ?_)
      · refine q_sipush (v := nI 128) d_Model_copy_90 (by decide) ?_
        refine q_istore_n d_Model_copy_93 rfl (Nat.le_of_ble_eq_true rfl) (by first | exact q_ok0 | exact q_okI rfl | exact q_okR rfl | exact q_okN rfl) rfl ?_
        refine q_iconst (v := nI 0) d_Model_copy_94 (by decide) ?_
        refine q_istore d_Model_copy_95 (Nat.le_of_ble_eq_true rfl) (by first | exact q_ok0 | exact q_okI rfl | exact q_okR rfl | exact q_okN rfl) rfl ?_
        exact loop2 128 0 I2 _ _ rfl rfl (by omega) (fun b b1 b2 b3 b4 => p1 b b1 b2 b3) p2 p3 p4 p5 p6 p7 (fun q hq => absurd hq (Nat.not_lt_zero _)) (fun q hq hq2 => by rw [p1 (m + 12) (by omega) (by omega) (by omega)])
      · exact absurd (by rw [nI_leI (by omega) (by omega)]; omega) hc
    | succ j ih =>
      intro k I2 mcc msc m1 m2 hk p1 p2 p3 p4 p5 p6 p7
      subst m1 m2
      refine q_iload_n d_Model_copy_53 rfl rfl ?_
      refine q_sipush (v := nI 168) d_Model_copy_54 (by decide) ?_
      refine q_icmp_ge (tgt := 90) d_Model_copy_57 rfl (fun hc => ?_) (fun hc => ?_)
      · rw [nI_leI (by omega) (by omega)] at hc
        omega
      · refine q_aload_n d_Model_copy_60 rfl rfl ?_
        refine q_getR (ci := 11) (fk := 15) d_Model_copy_61 rfl (Nat.le_of_ble_eq_true rfl) w_1119 (fun _ _ => rfl) hL.1 (hL.2 15 _ _ _ rfl).1 ?_
        refine q_sipush (v := nI 168) d_Model_copy_64 (by decide) ?_
        refine q_iload_n d_Model_copy_67 rfl rfl ?_
        first | refine q_imulN d_Model_copy_68 ?_ | refine q_imul d_Model_copy_68 ?_
        refine q_iload_n d_Model_copy_69 rfl rfl ?_
        first | refine q_iaddN d_Model_copy_70 ?_ | refine q_iadd d_Model_copy_70 ?_
        refine q_aload_n d_Model_copy_71 rfl rfl ?_
        refine q_getR (ci := 11) (fk := 15) d_Model_copy_72 rfl (Nat.le_of_ble_eq_true rfl) w_1119 (fun _ _ => rfl) hL.1 (hL.2 15 _ _ _ rfl).1 ?_
        refine q_sipush (v := nI 168) d_Model_copy_75 (by decide) ?_
        refine q_iload_n d_Model_copy_78 rfl rfl ?_
        first | refine q_imulN d_Model_copy_79 ?_ | refine q_imul d_Model_copy_79 ?_
        refine q_iload_n d_Model_copy_80 rfl rfl ?_
        first | refine q_iaddN d_Model_copy_81 ?_ | refine q_iadd d_Model_copy_81 ?_
        refine q_iald d_Model_copy_82 (hL.2 15 _ _ _ rfl).2 (by first | assumption | exact vp_in_nI (by omega) (by omega)) ?_
        refine q_iast d_Model_copy_83 (hL.2 15 _ _ _ rfl).2 (by first | assumption | exact vp_in_nI (by omega) (by omega)) ?_
        first | refine q_iincN d_Model_copy_84 rfl (Nat.le_of_ble_eq_true rfl) (by first | exact q_ok0 | exact q_okI rfl | exact q_okR rfl | exact q_okN rfl) rfl ?_ | refine q_iinc d_Model_copy_84 rfl rfl (Nat.le_of_ble_eq_true rfl) (by first | exact q_ok0 | exact q_okI rfl | exact q_okR rfl | exact q_okN rfl) rfl ?_
        refine q_goto (tgt := 53) d_Model_copy_87 rfl ?_
        refine ih (k + 1) _ _ _ rfl rfl (by omega) (fun b b1 b2 b3 => by funext q; rw [q_upI_nea b3, p1 b b1 b2 b3]) (fun q hq hq0 => by rw [q_upI_nea (by omega)]; exact p2 q hq hq0) (by rw [q_upI_nea (by omega)]; exact p3) (by rw [q_upI_nea (by omega)]; exact p4) (fun q hq hne => by rw [q_upI_nea (by omega)]; exact p5 q hq hne) (fun q hq => ?_) (fun q hq hq2 => by rw [q_upI_nk (by omega)]; exact p7 q hq hq2)
        by_cases hqk : q = k
        · rw [hqk, q_upI_self]
          exact p7 _ (by omega) (by omega)
        · rw [q_upI_nk (by omega)]; exact p6 q (by omega)
  refine q_C.of (ls0 := [some (.ref m), some (.int (nI i)), none, none, none]) (by decide) rfl (by decide) (Nat.le_of_ble_eq_true rfl) rfl ?_
  refine q_aload_n d_Model_copy_0 rfl rfl ?_
  refine q_callVi (M2 := M_Model_free) d_Model_copy_1 ⟨(Nat.le_of_ble_eq_true rfl), (Nat.le_of_ble_eq_true rfl), w_1409, w_10, ⟨by decide, by decide⟩, show _ = some 0 by decide +kernel⟩ w_1406 w_1408 (ci := 11) rfl s_73 hL.1 rfl (Nat.le_of_ble_eq_true rfl) (by omega) (by omega) (c_Model_free hL (hM.mh hw)) ?_
  rintro _ _ ⟨rfl, rfl⟩
  rw [hf, show p_idx (some h) = nI h from rfl]
  refine q_istore_n d_Model_copy_4 rfl (Nat.le_of_ble_eq_true rfl) (by first | exact q_ok0 | exact q_okI rfl | exact q_okR rfl | exact q_okN rfl) rfl ?_
  refine q_aload_n d_Model_copy_5 rfl rfl ?_
  refine q_aload_n d_Model_copy_6 rfl rfl ?_
  refine q_iload_n d_Model_copy_7 rfl rfl ?_
  refine q_callVi (M2 := M_Model_isRecordHandle) d_Model_copy_8 ⟨(Nat.le_of_ble_eq_true rfl), (Nat.le_of_ble_eq_true rfl), w_1417, w_10, ⟨by decide, by decide⟩, show _ = some 1 by decide +kernel⟩ w_1414 w_1416 (ci := 11) rfl s_74 hL.1 rfl (Nat.le_of_ble_eq_true rfl) (by omega) (by omega) (c_Model_isRecordHandle hL (hM.mh hw) _) ?_
  rintro _ _ ⟨rfl, rfl⟩
  rw [hb]
  refine q_if_ne (tgt := 18) d_Model_copy_11 rfl (fun hc => ?_) (fun hc => ?_)
  rotate_left
  · exact absurd hc (by decide)
  refine q_iload_n d_Model_copy_18 rfl rfl ?_
  refine q_if_ge (tgt := 26) d_Model_copy_19 rfl (fun hc => ?_) (fun hc => ?_)
  rotate_left
  · exact absurd (nI_pos' (by omega)) hc
  refine q_iconst (v := nI 0) d_Model_copy_26 (by decide) ?_
  refine q_putI (ci := 11) (fk := 0) d_Model_copy_27 rfl (Nat.le_of_ble_eq_true rfl) w_1104 (Or.inl rfl) (fun _ _ => rfl) rfl rfl hL.1 ?_
  refine q_aload_n d_Model_copy_30 rfl rfl ?_
  refine q_getI (ci := 11) (fk := 0) d_Model_copy_31 rfl (Nat.le_of_ble_eq_true rfl) w_1104 (fun _ _ => rfl) hL.1 ?_
  rw [q_upI_self]
  refine q_if_le (tgt := 39) d_Model_copy_34 rfl (fun hc => ?_) (fun hc => ?_)
  rotate_left
  · exact absurd (Int32.le_refl _) hc
  refine q_aload_n d_Model_copy_39 rfl rfl ?_
  refine q_getR (ci := 11) (fk := 14) d_Model_copy_40 rfl (Nat.le_of_ble_eq_true rfl) w_1118 (fun _ _ => rfl) hL.1 (hL.2 14 _ _ _ rfl).1 ?_
  refine q_iload_n d_Model_copy_43 rfl rfl ?_
  refine q_aload_n d_Model_copy_44 rfl rfl ?_
  refine q_getR (ci := 11) (fk := 14) d_Model_copy_45 rfl (Nat.le_of_ble_eq_true rfl) w_1118 (fun _ _ => rfl) hL.1 (hL.2 14 _ _ _ rfl).1 ?_
  refine q_iload_n d_Model_copy_48 rfl rfl ?_
  refine q_iald d_Model_copy_49 (hL.2 14 _ _ _ rfl).2 (by first | assumption | exact vp_in_nI (by omega) (by omega)) ?_
  rw [q_upI_nea (by omega), e7]
  refine q_iast d_Model_copy_50 (hL.2 14 _ _ _ rfl).2 (by first | assumption | exact vp_in_nI (by omega) (by omega)) ?_
  refine q_iconst (v := nI 0) d_Model_copy_51 (by decide) ?_
  refine q_istore_n d_Model_copy_52 rfl (Nat.le_of_ble_eq_true rfl) (by first | exact q_ok0 | exact q_okI rfl | exact q_okR rfl | exact q_okN rfl) rfl ?_
  refine loop1 168 0 _ _ _ rfl rfl (by omega) (fun b b1 b2 b3 => by funext q; rw [q_upI_nea b2, q_upI_nea b1]) (fun q hq hq0 => by rw [q_upI_nea (by omega), q_upI_nk (by omega)]) (by rw [q_upI_nea (by omega), q_upI_self]; rfl) q_upI_self (fun q hq hne => by rw [q_upI_nk (by omega), q_upI_nea (by omega)]) (fun q hq => absurd hq (Nat.not_lt_zero _)) (fun q hq hq2 => by rw [q_upI_nea (by omega), q_upI_nea (by omega)])
end CopyM
