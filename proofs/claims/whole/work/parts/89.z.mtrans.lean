/-! translate, by the reference -/
section MTrans
variable {g : q_G} {sz m : Nat} {T : q_T} {I : q_I} {R : q_R} {J : q_J} {S : KA}
/-- a stretch of one array is copied into another -/
def k_cpn (I : q_I) (a o a2 o2 N : Nat) (I' : q_I) : Prop := (∀ b, b ≠ a2 → I' b = I b) ∧ (∀ q, q < N → I' a2 (nI (o2 + q)) = I a (nI (o + q))) ∧ ∀ q, q < 2 ^ 31 → q < o2 ∨ o2 + N ≤ q → I' a2 (nI q) = I a2 (nI q)
theorem k_cpn.rw {a o a2 o2 N x : Nat} {I' : q_I} {v : List Int32} (h : k_cpn I a o a2 o2 N I') (hv : k_rw (I a) (o + x) v) (hx : x + 7 ≤ N) : k_rw (I' a2) (o2 + x) v := by
  obtain ⟨v1, v2, v3⟩ := hv
  refine ⟨v1, by rw [h.2.1 x (by omega)]; exact v2, fun j y hy => ?_⟩
  have hj := (List.getElem?_eq_some_iff.mp hy).1
  rw [show o2 + x + 1 + j = o2 + (x + 1 + j) by omega, h.2.1 _ (by omega), show o + (x + 1 + j) = o + x + 1 + j by omega]
  exact v3 j y hy
theorem k_cpn.step {a o a2 o2 N : Nat} {I1 : q_I} (h : k_cpn I a o a2 o2 N I1) (hne : a ≠ a2) (hb : o2 + N < 2 ^ 31) : k_cpn I a o a2 o2 (N + 1) (q_upI I1 a2 (nI (o2 + N)) (I1 a (nI (o + N)))) := by
  refine ⟨fun b hb => ?_, fun q hq => ?_, fun q q1 q2 => ?_⟩
  · funext z; rw [q_upI_nea hb, h.1 b hb]
  · by_cases hqN : q = N
    · subst hqN
      rw [q_upI_self, h.1 a hne]
    · rw [q_upI_nk (by omega)]
      exact h.2.1 q (by omega)
  · rw [q_upI_nk (by omega)]
    exact h.2.2 q q1 (by omega)
theorem k_cpn.zero {a o a2 o2 : Nat} : k_cpn I a o a2 o2 0 I := ⟨fun _ _ => rfl, fun q hq => absurd hq (Nat.not_lt_zero _), fun _ _ _ => rfl⟩
theorem m_xf.ps {I' : q_I} (h : m_xf m I I') : m_ps m I I' := by
  have e : ∀ k : Nat, k < 39 → k ≠ 18 → k ≠ 28 → I' m (nI k) = I m (nI k) := fun k hk k1 k2 => h.2 _ (fun z => by have := q_nI_inj z; omega) (fun z => by have := q_nI_inj z; omega)
  exact ⟨⟨fun b hb => h.1 b (by omega) (by omega), fun j j1 j2 => h.1 (m + j) (by omega) (by omega), e 1 (by omega) (by omega) (by omega), e 7 (by omega) (by omega) (by omega), e 8 (by omega) (by omega) (by omega), e 13 (by omega) (by omega) (by omega)⟩, fun j j1 j2 => h.1 (m + j) (by omega) (by omega)⟩
theorem c_Model_translate_no (hw : wf S) (hM : relM S m T I R) {h v : Int32} (hb : k_ish S.lv h = false ∨ k_bel S.vs.length v = false) : q_Ci g M_Model_translate [.ref m, .int h, .int v] (sz, T, I, R, J) 0 0 (m_spm m sz T I R J (nI 1, 0, S)) := by
  have hL := hM.1
  refine q_C.of (ls0 := [some (.ref m), some (.int h), some (.int v), none, none]) (by decide) rfl (by decide) (Nat.le_of_ble_eq_true rfl) rfl ?_
  have fin : ∀ (mcc msc : Nat), mcc = 0 → msc = 0 → q_V g M_Model_translate 0 0 mcc msc (sz, T, I, R, J) (fun o h' => ∃ r : Int32, o = .inl (some (.int r)) ∧ m_spm m sz T I R J (nI 1, 0, S) r h') 17 [some (.ref m), some (.int h), some (.int v), none, none] [.ref m] := by
    intro mcc msc m1 m2
    subst m1 m2
    refine q_iconst (v := nI 1) d_Model_translate_17 (by decide) ?_
    refine q_goto (tgt := 41) d_Model_translate_18 rfl ?_
    refine q_putI (ci := 11) (fk := 0) d_Model_translate_41 rfl (Nat.le_of_ble_eq_true rfl) w_1104 (Or.inl rfl) (fun _ _ => rfl) rfl rfl hL.1 ?_
    refine q_aload_n d_Model_translate_44 rfl rfl ?_
    refine q_getI (ci := 11) (fk := 0) d_Model_translate_45 rfl (Nat.le_of_ble_eq_true rfl) w_1104 (fun _ _ => rfl) hL.1 ?_
    rw [q_upI_self]
    refine q_if_le (tgt := 53) d_Model_translate_48 rfl (fun hc => ?_) (fun hc => ?_)
    · exact absurd hc (by decide)
    refine q_iconst (v := nI 0) d_Model_translate_51 (by decide) ?_
    refine q_iret d_Model_translate_52 rfl (by omega) (by omega) ?_
    exact ⟨_, rfl, m_no hM (by decide) _⟩
  refine q_aload_n d_Model_translate_0 rfl rfl ?_
  refine q_aload_n d_Model_translate_1 rfl rfl ?_
  refine q_iload_n d_Model_translate_2 rfl rfl ?_
  refine q_callVi (M2 := M_Model_isRecordHandle) d_Model_translate_3 ⟨(Nat.le_of_ble_eq_true rfl), (Nat.le_of_ble_eq_true rfl), w_1417, w_10, ⟨by decide, by decide⟩, show _ = some 1 by decide +kernel⟩ w_1414 w_1416 (ci := 11) rfl s_74 hL.1 rfl (Nat.le_of_ble_eq_true rfl) (by omega) (by omega) (c_Model_isRecordHandle hL (hM.mh hw) h) ?_
  rintro _ _ ⟨rfl, rfl⟩
  cases hz : k_ish S.lv h with
  | false =>
    refine q_if_eq (tgt := 17) d_Model_translate_6 rfl (fun hc => ?_) (fun hc => ?_)
    rotate_left
    · exact absurd rfl hc
    exact fin _ _ rfl rfl
  | true =>
    refine q_if_eq (tgt := 17) d_Model_translate_6 rfl (fun hc => ?_) (fun hc => ?_)
    · exact absurd hc (by decide)
    refine q_aload_n d_Model_translate_9 rfl rfl ?_
    refine q_iload_n d_Model_translate_10 rfl rfl ?_
    refine q_callVi (M2 := M_Model_isVersion) d_Model_translate_11 ⟨(Nat.le_of_ble_eq_true rfl), (Nat.le_of_ble_eq_true rfl), w_1281, w_10, ⟨by decide, by decide⟩, show _ = some 1 by decide +kernel⟩ w_1278 w_1280 (ci := 11) rfl s_55 hL.1 rfl (Nat.le_of_ble_eq_true rfl) (by omega) (by omega) (c_Model_isVersion hL hM.2.1.1 v) ?_
    rintro _ _ ⟨rfl, rfl⟩
    rw [show k_bel S.vs.length v = false by rcases hb with z | z; rw [hz] at z; cases z; exact z]
    refine q_if_ne (tgt := 21) d_Model_translate_14 rfl (fun hc => ?_) (fun hc => ?_)
    · exact absurd rfl hc
    exact fin _ _ rfl rfl
set_option maxHeartbeats 1000000 in
theorem c_Model_translate (hw : wf S) (hM : relM S m T I R) {i v : Nat} {c : KR} (hi : i < 16) (hcr : S.rs i = some c) (hb : k_ish S.lv (nI i) = true) (hv : v < S.vs.length) : q_Ci g M_Model_translate [.ref m, .int (nI i), .int (nI v)] (sz, T, I, R, J) 0 0 (m_spm m sz T I R J (a_tr S i v c)) := by
  have hL := hM.1
  have hv8 := hw.1.2.1
  obtain ⟨L, e1, e2, e3, e4, e5, e6, e7, e8, e9⟩ := hM.of hw hi hcr
  have hwr := hw.2.2.2.1 i c hi hcr
  have h24 := e2.1.1
  have t11 : T (m + 11) = some (0, 2688) := (hL.2 15 _ _ _ rfl).2
  have t12 : T (m + 12) = some (0, 2048) := (hL.2 16 _ _ _ rfl).2
  have t13 : T (m + 13) = some (0, 28672) := (hL.2 17 _ _ _ rfl).2
  have t18 : T (m + 18) = some (0, 182) := (hL.2 23 _ _ _ rfl).2
  have hcv : c.ver < S.vs.length := hwr.1
  obtain ⟨Q, hQ⟩ : ∃ Q : q_O → q_H → Prop, Q = (fun o h' => ∃ r : Int32, o = .inl (some (.int r)) ∧ m_spm m sz T I R J (a_tr S i v c) r h') := ⟨_, rfl⟩
  refine q_C.of (ls0 := [some (.ref m), some (.int (nI i)), some (.int (nI v)), none, none]) (by decide) rfl (by decide) (Nat.le_of_ble_eq_true rfl) rfl ?_
  rw [← hQ]
  refine q_aload_n d_Model_translate_0 rfl rfl ?_
  refine q_aload_n d_Model_translate_1 rfl rfl ?_
  refine q_iload_n d_Model_translate_2 rfl rfl ?_
  refine q_callVi (M2 := M_Model_isRecordHandle) d_Model_translate_3 ⟨(Nat.le_of_ble_eq_true rfl), (Nat.le_of_ble_eq_true rfl), w_1417, w_10, ⟨by decide, by decide⟩, show _ = some 1 by decide +kernel⟩ w_1414 w_1416 (ci := 11) rfl s_74 hL.1 rfl (Nat.le_of_ble_eq_true rfl) (by omega) (by omega) (c_Model_isRecordHandle hL (hM.mh hw) _) ?_
  rintro _ _ ⟨rfl, rfl⟩
  rw [hb]
  refine q_if_eq (tgt := 17) d_Model_translate_6 rfl (fun hc => ?_) (fun hc => ?_)
  · exact absurd hc (by decide)
  refine q_aload_n d_Model_translate_9 rfl rfl ?_
  refine q_iload_n d_Model_translate_10 rfl rfl ?_
  refine q_callVi (M2 := M_Model_isVersion) d_Model_translate_11 ⟨(Nat.le_of_ble_eq_true rfl), (Nat.le_of_ble_eq_true rfl), w_1281, w_10, ⟨by decide, by decide⟩, show _ = some 1 by decide +kernel⟩ w_1278 w_1280 (ci := 11) rfl s_55 hL.1 rfl (Nat.le_of_ble_eq_true rfl) (by omega) (by omega) (c_Model_isVersion hL hM.2.1.1 _) ?_
  rintro _ _ ⟨rfl, rfl⟩
  rw [k_bel_nI (by omega) hv]
  refine q_if_ne (tgt := 21) d_Model_translate_14 rfl (fun hc => ?_) (fun hc => ?_)
  rotate_left
  · exact absurd hc (by decide)
  refine q_aload_n d_Model_translate_21 rfl rfl ?_
  refine q_aload_n d_Model_translate_22 rfl rfl ?_
  refine q_getR (ci := 11) (fk := 14) d_Model_translate_23 rfl (Nat.le_of_ble_eq_true rfl) w_1118 (fun _ _ => rfl) hL.1 (hL.2 14 _ _ _ rfl).1 ?_
  refine q_iload_n d_Model_translate_26 rfl rfl ?_
  refine q_iald d_Model_translate_27 (hL.2 14 _ _ _ rfl).2 (by first | assumption | exact vp_in_nI (by omega) (by omega)) ?_
  rw [e7]
  refine q_iload_n d_Model_translate_28 rfl rfl ?_
  refine q_iconst (v := (-1)) d_Model_translate_29 (by decide) ?_
  refine q_callVi (M2 := M_Model_findRoute) d_Model_translate_30 ⟨(Nat.le_of_ble_eq_true rfl), (Nat.le_of_ble_eq_true rfl), w_1477, w_10, ⟨by decide, by decide⟩, show _ = some 3 by decide +kernel⟩ w_1474 w_1476 (ci := 11) rfl s_78 hL.1 rfl (Nat.le_of_ble_eq_true rfl) (by omega) (by omega) (c_Model_findRoute hL (hM.ssv hw) hM.2.1.1 hv8 hcv hv (-1)) ?_
  rintro _ _ ⟨rfl, I1, rfl, i1, i2⟩
  have hps1 := i1.ps
  have hM1 := hM.ps hps1
  cases ho : k_way (k_A S.ss (-1)) S.vs.length c.ver v with
  | none =>
    have ea : a_tr S i v c = (nI 2, 0, S) := by unfold a_tr; rw [ho]
    refine q_if_ne (tgt := 40) d_Model_translate_33 rfl (fun hc => ?_) (fun hc => ?_)
    · exact absurd rfl hc
    refine q_iconst (v := nI 2) d_Model_translate_36 (by decide) ?_
    refine q_goto (tgt := 41) d_Model_translate_37 rfl ?_
    refine q_putI (ci := 11) (fk := 0) d_Model_translate_41 rfl (Nat.le_of_ble_eq_true rfl) w_1104 (Or.inl rfl) (fun _ _ => rfl) rfl rfl hL.1 ?_
    refine q_aload_n d_Model_translate_44 rfl rfl ?_
    refine q_getI (ci := 11) (fk := 0) d_Model_translate_45 rfl (Nat.le_of_ble_eq_true rfl) w_1104 (fun _ _ => rfl) hL.1 ?_
    rw [q_upI_self]
    refine q_if_le (tgt := 53) d_Model_translate_48 rfl (fun hc => ?_) (fun hc => ?_)
    · exact absurd hc (by decide)
    refine q_iconst (v := nI 0) d_Model_translate_51 (by decide) ?_
    refine q_iret d_Model_translate_52 rfl (by omega) (by omega) ?_
    rw [hQ, ea]
    have hps2 : m_ps m I (q_upI I1 m (nI 0) (nI 2)) := hps1.trans (m_ps.int (by decide) (by decide) (by decide) (by decide) (by decide))
    exact ⟨_, rfl, fun z => absurd (show nI 2 = 0 from z) (by decide), _, rfl, q_upI_self, hps2.1.1, hM.ps hps2⟩
  | some l =>
    obtain ⟨l1, l2⟩ := k_way_len hv8 ho
    obtain ⟨w1, w2, w3, w4⟩ := k_way_ok hcv hv ho
    obtain ⟨j33, jar, jst⟩ := i2 l ho
    obtain ⟨Y, hY⟩ : ∃ Y, Y = a_go S.ss l (c.val, c.kp, false) := ⟨_, rfl⟩
    have ea : a_tr S i v c = if Y.2.2 = true then (nI 3, 0, S) else (0, nI (l.length - 1), S.setR i (some (v, Y.1, Y.2.1))) := by unfold a_tr; rw [ho, hY]
    obtain ⟨Lv, hLv⟩ : ∃ Lv, S.vs[v]? = some Lv := ⟨_, List.getElem?_eq_getElem hv⟩
    have hLv24 := (hw.1.2.2 Lv (List.mem_of_getElem? hLv)).1.1
    rw [show (some l).isSome = true from rfl]
    refine q_if_ne (tgt := 40) d_Model_translate_33 rfl (fun hc => ?_) (fun hc => ?_)
    rotate_left
    · exact absurd hc (by decide)
    refine q_iconst (v := nI 0) d_Model_translate_40 (by decide) ?_
    refine q_putI (ci := 11) (fk := 0) d_Model_translate_41 rfl (Nat.le_of_ble_eq_true rfl) w_1104 (Or.inl rfl) (fun _ _ => rfl) rfl rfl hL.1 ?_
    refine q_aload_n d_Model_translate_44 rfl rfl ?_
    refine q_getI (ci := 11) (fk := 0) d_Model_translate_45 rfl (Nat.le_of_ble_eq_true rfl) w_1104 (fun _ _ => rfl) hL.1 ?_
    rw [q_upI_self]
    refine q_if_le (tgt := 53) d_Model_translate_48 rfl (fun hc => ?_) (fun hc => ?_)
    rotate_left
    · exact absurd (by decide) hc
    -- behind goRoute
    have loopF : ∀ (I6 : q_I), (∀ I7, k_cpn I6 (m + 21) 0 (m + 13) (1792 * i) 1792 I7 → q_V g M_Model_translate 0 0 0 0 (sz, T, I7, R, J) Q 355 [some (.ref m), some (.int (nI i)), some (.int (nI v)), some (.int (nI 128)), some (.int (nI 1792))] []) → ∀ (j k : Nat) (I7 : q_I), k + j = 1792 → k_cpn I6 (m + 21) 0 (m + 13) (1792 * i) k I7 → q_V g M_Model_translate 0 0 0 0 (sz, T, I7, R, J) Q 319 [some (.ref m), some (.int (nI i)), some (.int (nI v)), some (.int (nI 128)), some (.int (nI k))] [] := by
      intro I6 kk j
      induction j with
      | zero =>
        intro k I7 hk hc7
        obtain rfl : k = 1792 := by omega
        refine q_iload d_Model_translate_319 rfl ?_
        refine q_bipush (v := nI 14) d_Model_translate_321 (by decide) ?_
        refine q_iload_n d_Model_translate_323 rfl rfl ?_
        first | refine q_imulN d_Model_translate_324 ?_ | refine q_imul d_Model_translate_324 ?_
        refine q_icmp_ge (tgt := 355) d_Model_translate_325 rfl (fun hc => ?_) (fun hc => ?_)
        · exact kk I7 hc7
        · exact absurd (by rw [nI_leI (by omega) (by omega)]; omega) hc
      | succ j ih =>
        intro k I7 hk hc7
        refine q_iload d_Model_translate_319 rfl ?_
        refine q_bipush (v := nI 14) d_Model_translate_321 (by decide) ?_
        refine q_iload_n d_Model_translate_323 rfl rfl ?_
        first | refine q_imulN d_Model_translate_324 ?_ | refine q_imul d_Model_translate_324 ?_
        refine q_icmp_ge (tgt := 355) d_Model_translate_325 rfl (fun hc => ?_) (fun hc => ?_)
        · rw [nI_leI (by omega) (by omega)] at hc
          omega
        refine q_aload_n d_Model_translate_328 rfl rfl ?_
        refine q_getR (ci := 11) (fk := 17) d_Model_translate_329 rfl (Nat.le_of_ble_eq_true rfl) w_1121 (fun _ _ => rfl) hL.1 (hL.2 17 _ _ _ rfl).1 ?_
        refine q_bipush (v := nI 14) d_Model_translate_332 (by decide) ?_
        refine q_iload_n d_Model_translate_334 rfl rfl ?_
        first | refine q_imulN d_Model_translate_335 ?_ | refine q_imul d_Model_translate_335 ?_
        refine q_iload_n d_Model_translate_336 rfl rfl ?_
        first | refine q_imulN d_Model_translate_337 ?_ | refine q_imul d_Model_translate_337 ?_
        refine q_iload d_Model_translate_338 rfl ?_
        first | refine q_iaddN d_Model_translate_340 ?_ | refine q_iadd d_Model_translate_340 ?_
        refine q_aload_n d_Model_translate_341 rfl rfl ?_
        refine q_getR (ci := 11) (fk := 26) d_Model_translate_342 rfl (Nat.le_of_ble_eq_true rfl) w_1130 (fun _ _ => rfl) hL.1 (hL.2 26 _ _ _ rfl).1 ?_
        refine q_iload d_Model_translate_345 rfl ?_
        refine q_iald d_Model_translate_347 (hL.2 26 _ _ _ rfl).2 (by first | assumption | exact vp_in_nI (by omega) (by omega)) ?_
        refine q_iast d_Model_translate_348 (hL.2 17 _ _ _ rfl).2 (by first | assumption | exact vp_in_nI (by omega) (by omega)) ?_
        first | refine q_iincN d_Model_translate_349 rfl (Nat.le_of_ble_eq_true rfl) (by first | exact q_ok0 | exact q_okI rfl | exact q_okR rfl | exact q_okN rfl) rfl ?_ | refine q_iinc d_Model_translate_349 rfl rfl (Nat.le_of_ble_eq_true rfl) (by first | exact q_ok0 | exact q_okI rfl | exact q_okR rfl | exact q_okN rfl) rfl ?_
        refine q_goto (tgt := 319) d_Model_translate_352 rfl ?_
        have := hc7.step (by omega) (by omega)
        rw [Nat.zero_add] at this
        rw [show 14 * 128 * i = 1792 * i by omega]
        exact ih (k + 1) _ (by omega) this
    have loopE : ∀ (I6 : q_I), (∀ I7, k_cpn I6 (m + 20) 0 (m + 12) (128 * i) 128 I7 → q_V g M_Model_translate 0 0 0 0 (sz, T, I7, R, J) Q 316 [some (.ref m), some (.int (nI i)), some (.int (nI v)), some (.int (nI 128)), some (.int (nI 128))] []) → ∀ (j k : Nat) (I7 : q_I), k + j = 128 → k_cpn I6 (m + 20) 0 (m + 12) (128 * i) k I7 → q_V g M_Model_translate 0 0 0 0 (sz, T, I7, R, J) Q 286 [some (.ref m), some (.int (nI i)), some (.int (nI v)), some (.int (nI 128)), some (.int (nI k))] [] := by
      intro I6 kk j
      induction j with
      | zero =>
        intro k I7 hk hc7
        obtain rfl : k = 128 := by omega
        refine q_iload d_Model_translate_286 rfl ?_
        refine q_iload_n d_Model_translate_288 rfl rfl ?_
        refine q_icmp_ge (tgt := 316) d_Model_translate_289 rfl (fun hc => ?_) (fun hc => ?_)
        · exact kk I7 hc7
        · exact absurd (by rw [nI_leI (by omega) (by omega)]; omega) hc
      | succ j ih =>
        intro k I7 hk hc7
        refine q_iload d_Model_translate_286 rfl ?_
        refine q_iload_n d_Model_translate_288 rfl rfl ?_
        refine q_icmp_ge (tgt := 316) d_Model_translate_289 rfl (fun hc => ?_) (fun hc => ?_)
        · rw [nI_leI (by omega) (by omega)] at hc
          omega
        refine q_aload_n d_Model_translate_292 rfl rfl ?_
        refine q_getR (ci := 11) (fk := 16) d_Model_translate_293 rfl (Nat.le_of_ble_eq_true rfl) w_1120 (fun _ _ => rfl) hL.1 (hL.2 16 _ _ _ rfl).1 ?_
        refine q_iload_n d_Model_translate_296 rfl rfl ?_
        refine q_iload_n d_Model_translate_297 rfl rfl ?_
        first | refine q_imulN d_Model_translate_298 ?_ | refine q_imul d_Model_translate_298 ?_
        refine q_iload d_Model_translate_299 rfl ?_
        first | refine q_iaddN d_Model_translate_301 ?_ | refine q_iadd d_Model_translate_301 ?_
        refine q_aload_n d_Model_translate_302 rfl rfl ?_
        refine q_getR (ci := 11) (fk := 25) d_Model_translate_303 rfl (Nat.le_of_ble_eq_true rfl) w_1129 (fun _ _ => rfl) hL.1 (hL.2 25 _ _ _ rfl).1 ?_
        refine q_iload d_Model_translate_306 rfl ?_
        refine q_iald d_Model_translate_308 (hL.2 25 _ _ _ rfl).2 (by first | assumption | exact vp_in_nI (by omega) (by omega)) ?_
        refine q_iast d_Model_translate_309 (hL.2 16 _ _ _ rfl).2 (by first | assumption | exact vp_in_nI (by omega) (by omega)) ?_
        first | refine q_iincN d_Model_translate_310 rfl (Nat.le_of_ble_eq_true rfl) (by first | exact q_ok0 | exact q_okI rfl | exact q_okR rfl | exact q_okN rfl) rfl ?_ | refine q_iinc d_Model_translate_310 rfl rfl (Nat.le_of_ble_eq_true rfl) (by first | exact q_ok0 | exact q_okI rfl | exact q_okR rfl | exact q_okN rfl) rfl ?_
        refine q_goto (tgt := 286) d_Model_translate_313 rfl ?_
        have := hc7.step (by omega) (by omega)
        rw [Nat.zero_add] at this
        exact ih (k + 1) _ (by omega) this
    have behind : ∀ (Ig : q_I) (M' : List KF) (l4 : Option Value), m_ps m I Ig → Ig m (nI 33) = nI l.length → m_x m M' (k_vv Y.1, Y.2.1, Y.2.2) Ig → w_rec S.vs S.ss (v, Y.1, Y.2.1) → M'.Perm (k_rs 0 Lv) → q_V g M_Model_translate 0 0 0 0 (sz, T, Ig, R, J) Q 194 [some (.ref m), some (.int (nI i)), some (.int (nI v)), some (.int (nI 128)), l4] [] := by
      intro Ig M' l4 b1 b2 b3 b4 b5
      have bcan : Ig m (nI 28) = p_b Y.2.2 := b3.2.2.2.2
      refine q_aload_n d_Model_translate_194 rfl rfl ?_
      refine q_aload_n d_Model_translate_195 rfl rfl ?_
      refine q_getI (ci := 11) (fk := 28) d_Model_translate_196 rfl (Nat.le_of_ble_eq_true rfl) w_1132 (fun _ _ => rfl) hL.1 ?_
      rw [bcan]
      cases hcan : Y.2.2 with
      | true =>
        rw [hcan, if_pos rfl] at ea
        refine q_if_eq (tgt := 206) d_Model_translate_199 rfl (fun hc => ?_) (fun hc => ?_)
        · exact absurd hc (by decide)
        refine q_iconst (v := nI 3) d_Model_translate_202 (by decide) ?_
        refine q_goto (tgt := 207) d_Model_translate_203 rfl ?_
        refine q_putI (ci := 11) (fk := 0) d_Model_translate_207 rfl (Nat.le_of_ble_eq_true rfl) w_1104 (Or.inl rfl) (fun _ _ => rfl) rfl rfl hL.1 ?_
        refine q_aload_n d_Model_translate_210 rfl rfl ?_
        refine q_getI (ci := 11) (fk := 0) d_Model_translate_211 rfl (Nat.le_of_ble_eq_true rfl) w_1104 (fun _ _ => rfl) hL.1 ?_
        rw [q_upI_self]
        refine q_if_le (tgt := 219) d_Model_translate_214 rfl (fun hc => ?_) (fun hc => ?_)
        · exact absurd hc (by decide)
        refine q_iconst (v := nI 0) d_Model_translate_217 (by decide) ?_
        refine q_iret d_Model_translate_218 rfl (by omega) (by omega) ?_
        rw [hQ, ea]
        have hps2 : m_ps m I (q_upI Ig m (nI 0) (nI 3)) := b1.trans (m_ps.int (by decide) (by decide) (by decide) (by decide) (by decide))
        exact ⟨_, rfl, fun z => absurd (show nI 3 = 0 from z) (by decide), _, rfl, q_upI_self, hps2.1.1, hM.ps hps2⟩
      | false =>
        rw [hcan, if_neg (by decide)] at ea
        refine q_if_eq (tgt := 206) d_Model_translate_199 rfl (fun hc => ?_) (fun hc => ?_)
        rotate_left
        · exact absurd rfl hc
        refine q_iconst (v := nI 0) d_Model_translate_206 (by decide) ?_
        refine q_putI (ci := 11) (fk := 0) d_Model_translate_207 rfl (Nat.le_of_ble_eq_true rfl) w_1104 (Or.inl rfl) (fun _ _ => rfl) rfl rfl hL.1 ?_
        refine q_aload_n d_Model_translate_210 rfl rfl ?_
        refine q_getI (ci := 11) (fk := 0) d_Model_translate_211 rfl (Nat.le_of_ble_eq_true rfl) w_1104 (fun _ _ => rfl) hL.1 ?_
        rw [q_upI_self]
        refine q_if_le (tgt := 219) d_Model_translate_214 rfl (fun hc => ?_) (fun hc => ?_)
        rotate_left
        · exact absurd (by decide) hc
        refine q_aload_n d_Model_translate_219 rfl rfl ?_
        refine q_getR (ci := 11) (fk := 14) d_Model_translate_220 rfl (Nat.le_of_ble_eq_true rfl) w_1118 (fun _ _ => rfl) hL.1 (hL.2 14 _ _ _ rfl).1 ?_
        refine q_iload_n d_Model_translate_223 rfl rfl ?_
        refine q_iload_n d_Model_translate_224 rfl rfl ?_
        refine q_iast d_Model_translate_225 (hL.2 14 _ _ _ rfl).2 (by first | assumption | exact vp_in_nI (by omega) (by omega)) ?_
        refine q_iconst (v := nI 0) d_Model_translate_226 (by decide) ?_
        refine q_istore d_Model_translate_227 (Nat.le_of_ble_eq_true rfl) (by first | exact q_ok0 | exact q_okI rfl | exact q_okR rfl | exact q_okN rfl) rfl ?_
        obtain ⟨I5, hI5⟩ : ∃ I5, I5 = q_upI (q_upI Ig m (nI 0) (nI 0)) (m + 10) (nI i) (nI v) := ⟨_, rfl⟩
        rw [← hI5]
        have o5 : ∀ b, b ≠ m → b ≠ m + 10 → I5 b = Ig b := fun b b1 b2 => by rw [hI5]; funext z; rw [q_upI_nea b2, q_upI_nea b1]
        have o5m : ∀ q, q < 39 → q ≠ 0 → I5 m (nI q) = Ig m (nI q) := fun q q1 q2 => by rw [hI5, q_upI_nea (by omega), q_upI_nk (by omega)]
        have hvl : m_vl m v Lv I5 := (hM.vl hLv).cong fun j j1 j2 => by rw [o5 _ (by omega) (by omega), b1.1.2.1 j (by omega) (by omega)]
        obtain ⟨u1, u2⟩ := b4.2.1 Lv hLv
        have u1 : Y.1.length = Lv.length := u1
        have hwM : k_wfL M' := (k_rs_wf (hw.1.2.2 Lv (List.mem_of_getElem? hLv)).1).perm b5
        have hM5 : k_mw m M' I5 := b3.1.cong (o5m 18 (by omega) (by omega)) (fun j j1 j2 => o5 _ (by omega) (by omega))
        have h26 := hM5.2.1
        have loopD : ∀ (j k : Nat) (I6 : q_I), k + j = Lv.length → (∀ b, b ≠ m + 11 → I6 b = I5 b) → (∀ (a : Nat) (u : List Int32), a < k → Y.1[a]? = some u → k_rw (I6 (m + 11)) (7 * (24 * i + a)) u) → (∀ q, q < 2 ^ 31 → q < 168 * i ∨ 168 * i + 168 ≤ q → I6 (m + 11) (nI q) = I5 (m + 11) (nI q)) → q_V g M_Model_translate 0 0 0 0 (sz, T, I6, R, J) Q 229 [some (.ref m), some (.int (nI i)), some (.int (nI v)), some (.int (nI 128)), some (.int (nI k))] [] := by
          intro j
          induction j with
          | zero =>
            intro k I6 hk g1 g2 g3
            obtain rfl : k = Lv.length := by omega
            refine q_iload d_Model_translate_229 rfl ?_
            refine q_aload_n d_Model_translate_231 rfl rfl ?_
            refine q_getR (ci := 11) (fk := 2) d_Model_translate_232 rfl (Nat.le_of_ble_eq_true rfl) w_1106 (fun _ _ => rfl) hL.1 (hL.2 2 _ _ _ rfl).1 ?_
            refine q_iload_n d_Model_translate_235 rfl rfl ?_
            refine q_iald d_Model_translate_236 (hL.2 2 _ _ _ rfl).2 (by first | assumption | exact vp_in_nI (by omega) (by omega)) ?_
            rw [g1 _ (by omega), hvl.1]
            refine q_icmp_ge (tgt := 283) d_Model_translate_237 rfl (fun hc => ?_) (fun hc => ?_)
            rotate_left
            · exact absurd (Int32.le_refl _) hc
            refine q_iconst (v := nI 0) d_Model_translate_283 (by decide) ?_
            refine q_istore d_Model_translate_284 (Nat.le_of_ble_eq_true rfl) (by first | exact q_ok0 | exact q_okI rfl | exact q_okR rfl | exact q_okN rfl) rfl ?_
            refine loopE I6 (fun I7 c7 => ?_) 128 0 I6 (by omega) k_cpn.zero
            refine q_iconst (v := nI 0) d_Model_translate_316 (by decide) ?_
            refine q_istore d_Model_translate_317 (Nat.le_of_ble_eq_true rfl) (by first | exact q_ok0 | exact q_okI rfl | exact q_okR rfl | exact q_okN rfl) rfl ?_
            refine loopF I7 (fun I8 c8 => ?_) 1792 0 I7 (by omega) k_cpn.zero
            have o8 : ∀ b, b ≠ m + 11 → b ≠ m + 12 → b ≠ m + 13 → I8 b = I5 b := fun b b1 b2 b3 => by rw [c8.1 b b3, c7.1 b b2, g1 b b1]
            have e33 : I8 m (nI 33) = nI l.length := by rw [o8 m (by omega) (by omega) (by omega), o5m 33 (by omega) (by omega)]; exact b2
            refine q_aload_n d_Model_translate_355 rfl rfl ?_
            refine q_getI (ci := 11) (fk := 33) d_Model_translate_356 rfl (Nat.le_of_ble_eq_true rfl) w_1137 (fun _ _ => rfl) hL.1 ?_
            rw [e33, show l.length = l.length - 1 + 1 by omega]
            refine q_iconst (v := nI 1) d_Model_translate_359 (by decide) ?_
            refine q_isub d_Model_translate_360 ?_
            rw [nI_sb (l.length - 1) 1]
            refine q_iret d_Model_translate_361 rfl (by omega) (by omega) ?_
            rw [hQ, ea]
            have far : ∀ b, b < m ∨ m + 30 ≤ b → I8 b = I b := fun b hb => by rw [o8 b (by omega) (by omega) (by omega), o5 b (by omega) (by omega), b1.1.1 b hb]
            have f8 : ∀ j, 1 ≤ j → j ≤ 9 → I8 (m + j) = I (m + j) := fun j j1 j2 => by rw [o8 _ (by omega) (by omega) (by omega), o5 _ (by omega) (by omega), b1.1.2.1 j j1 j2]
            have fm : ∀ q, q < 39 → q ≠ 0 → I8 m (nI q) = Ig m (nI q) := fun q q1 q2 => by rw [o8 m (by omega) (by omega) (by omega), o5m q q1 q2]
            have e10 : ∀ j, I8 (m + 10) (nI j) = I5 (m + 10) (nI j) := fun j => by rw [o8 _ (by omega) (by omega) (by omega)]
            refine ⟨_, rfl, fun _ => rfl, I8, rfl, ?_, far, hM.row ⟨far, f8, (fm 1 (by omega) (by omega)).trans b1.1.2.2.1, (fm 7 (by omega) (by omega)).trans b1.1.2.2.2.1, (fm 8 (by omega) (by omega)).trans b1.1.2.2.2.2.1, (fm 13 (by omega) (by omega)).trans b1.1.2.2.2.2.2⟩ (fun z => by cases z) (fun c2 hc2 => ?_) (fun h hh hne => ?_) (fun h c2 hh hc2 => ?_)⟩
            · rw [o8 m (by omega) (by omega) (by omega), hI5, q_upI_nea (by omega), q_upI_self]; rfl
            · cases hc2
              refine ⟨by rw [e10, hI5, q_upI_self], fun a u hu => ?_, fun a ha => ?_⟩
              · have := (List.getElem?_eq_some_iff.mp hu).1
                rw [c8.1 _ (by omega), c7.1 _ (by omega)]
                exact g2 a u (by omega) hu
              · obtain ⟨d1, d2, d3⟩ := b3.2.2.1 a ha
                have e20 : I6 (m + 20) = Ig (m + 20) := by rw [g1 _ (by omega), o5 _ (by omega) (by omega)]
                have e21 : I7 (m + 21) = Ig (m + 21) := by rw [c7.1 _ (by omega), g1 _ (by omega), o5 _ (by omega) (by omega)]
                refine ⟨?_, fun z => ?_, fun z => ?_⟩
                · rw [c8.1 _ (by omega), c7.2.1 a ha, Nat.zero_add, e20]; exact d1
                · have := c8.rw (x := 14 * a) (v := (Y.2.1 a).2.1) (by rw [e21, Nat.zero_add]; exact d2 z) (by omega)
                  rw [show 1792 * i + 14 * a = 14 * (128 * i + a) by omega] at this
                  exact this
                · have := c8.rw (x := 14 * a + 7) (v := (Y.2.1 a).2.2) (by rw [e21, Nat.zero_add]; exact d3 z) (by omega)
                  rw [show 1792 * i + (14 * a + 7) = 14 * (128 * i + a) + 7 by omega] at this
                  exact this
            · have hz : ∀ j, 10 ≤ j → j ≤ 13 → Ig (m + j) = I (m + j) := b1.2
              refine ⟨?_, fun q q1 q2 => ?_, fun q q1 q2 => ?_, fun q q1 q2 => ?_⟩
              · rw [e10, hI5, q_upI_nk (by omega), q_upI_nea (by omega), hz 10 (by omega) (by omega)]
              · rw [c8.1 _ (by omega), c7.1 _ (by omega), g3 q (by omega) (by omega), o5 _ (by omega) (by omega), hz 11 (by omega) (by omega)]
              · rw [c8.1 _ (by omega), c7.2.2 q (by omega) (by omega), g1 _ (by omega), o5 _ (by omega) (by omega), hz 12 (by omega) (by omega)]
              · rw [c8.2.2 q (by omega) (by omega), c7.1 _ (by omega), g1 _ (by omega), o5 _ (by omega) (by omega), hz 13 (by omega) (by omega)]
            · obtain ⟨L9, g9, g10, -, g11, -⟩ := hM.of hw hh hc2
              rw [g11]; exact g10.1.1
          | succ j ih =>
            intro k I6 hk g1 g2 g3
            obtain ⟨f, hf⟩ : ∃ f, Lv[k]? = some f := ⟨_, List.getElem?_eq_getElem (by omega)⟩
            obtain ⟨x1, -, -, -⟩ := hvl.2 k f hf
            obtain ⟨f', hf'⟩ : ∃ f' : KF, f' = (f.1, f.2.1, f.2.2.1, f.2.2.2.1, k) := ⟨_, rfl⟩
            have hfm : f' ∈ M' := b5.mem_iff.mpr (List.mem_of_getElem? (i := k) (by rw [k_rs_at, hf, hf', show 0 + k = k by omega]; rfl))
            obtain ⟨a, ha⟩ := List.getElem?_of_mem hfm
            have hal := (List.getElem?_eq_some_iff.mp ha).1
            have hfi := k_fi_at hwM.2.2.1 ha
            have hM6 : k_mw m M' I6 := hM5.cong (by rw [g1 m (by omega)]) (fun j j1 j2 => g1 _ (by omega))
            refine q_iload d_Model_translate_229 rfl ?_
            refine q_aload_n d_Model_translate_231 rfl rfl ?_
            refine q_getR (ci := 11) (fk := 2) d_Model_translate_232 rfl (Nat.le_of_ble_eq_true rfl) w_1106 (fun _ _ => rfl) hL.1 (hL.2 2 _ _ _ rfl).1 ?_
            refine q_iload_n d_Model_translate_235 rfl rfl ?_
            refine q_iald d_Model_translate_236 (hL.2 2 _ _ _ rfl).2 (by first | assumption | exact vp_in_nI (by omega) (by omega)) ?_
            rw [g1 _ (by omega), hvl.1]
            refine q_icmp_ge (tgt := 283) d_Model_translate_237 rfl (fun hc => ?_) (fun hc => ?_)
            · rw [nI_leI (by omega) (by omega)] at hc
              omega
            refine q_aload_n d_Model_translate_240 rfl rfl ?_
            refine q_getR (ci := 11) (fk := 23) d_Model_translate_241 rfl (Nat.le_of_ble_eq_true rfl) w_1127 (fun _ _ => rfl) hL.1 (hL.2 23 _ _ _ rfl).1 ?_
            refine q_bipush (v := nI 7) d_Model_translate_244 (by decide) ?_
            refine q_aload_n d_Model_translate_246 rfl rfl ?_
            refine q_aload_n d_Model_translate_247 rfl rfl ?_
            refine q_getR (ci := 11) (fk := 3) d_Model_translate_248 rfl (Nat.le_of_ble_eq_true rfl) w_1107 (fun _ _ => rfl) hL.1 (hL.2 3 _ _ _ rfl).1 ?_
            refine q_bipush (v := nI 24) d_Model_translate_251 (by decide) ?_
            refine q_iload_n d_Model_translate_253 rfl rfl ?_
            first | refine q_imulN d_Model_translate_254 ?_ | refine q_imul d_Model_translate_254 ?_
            refine q_iload d_Model_translate_255 rfl ?_
            first | refine q_iaddN d_Model_translate_257 ?_ | refine q_iadd d_Model_translate_257 ?_
            refine q_iald d_Model_translate_258 (hL.2 3 _ _ _ rfl).2 (by first | assumption | exact vp_in_nI (by omega) (by omega)) ?_
            rw [g1 _ (by omega), x1]
            refine q_callVi (M2 := M_Model_find) d_Model_translate_259 ⟨(Nat.le_of_ble_eq_true rfl), (Nat.le_of_ble_eq_true rfl), w_1266, w_10, ⟨by decide, by decide⟩, show _ = some 1 by decide +kernel⟩ w_1263 w_1265 (ci := 11) rfl s_53 hL.1 rfl (Nat.le_of_ble_eq_true rfl) (by omega) (by omega) (c_Model_findF hL hM6 hwM.2.1 _) ?_
            rintro _ _ ⟨rfl, rfl⟩
            have hokf : k_ok 4 f.1 := by
              have := (hwM.2.1 f' hfm).1
              rw [hf'] at this; exact this
            have hfo : k_fo M' (k_of (nI (k_path f.1))) = some a := by
              rw [k_of_path hokf]
              rw [hf'] at hfi
              exact hfi
            rw [hfo, show p_idx (some a) = nI a from rfl]
            first | refine q_imulN d_Model_translate_262 ?_ | refine q_imul d_Model_translate_262 ?_
            refine q_aload_n d_Model_translate_263 rfl rfl ?_
            refine q_getR (ci := 11) (fk := 15) d_Model_translate_264 rfl (Nat.le_of_ble_eq_true rfl) w_1119 (fun _ _ => rfl) hL.1 (hL.2 15 _ _ _ rfl).1 ?_
            refine q_aload_n d_Model_translate_267 rfl rfl ?_
            refine q_iload_n d_Model_translate_268 rfl rfl ?_
            refine q_iload d_Model_translate_269 rfl ?_
            refine q_callVi (M2 := M_Model_rowOf) d_Model_translate_271 ⟨(Nat.le_of_ble_eq_true rfl), (Nat.le_of_ble_eq_true rfl), w_1437, w_10, ⟨by decide, by decide⟩, show _ = some 2 by decide +kernel⟩ w_1434 w_1436 (ci := 11) rfl s_77 hL.1 rfl (Nat.le_of_ble_eq_true rfl) (by omega) (by omega) (c_Model_rowOf) ?_
            rintro _ _ ⟨rfl, rfl⟩
            refine q_callSv (M2 := M_Model_copyRow) d_Model_translate_274 ⟨(Nat.le_of_ble_eq_true rfl), (Nat.le_of_ble_eq_true rfl), w_1321, w_10, ⟨by decide, by decide⟩, show _ = some 4 by decide +kernel⟩ w_1319 w_1320 rfl (Nat.le_of_ble_eq_true rfl) (by omega) (by omega) (c_Model_copyRow (a := m + 18) (a2 := m + 11) t18 t11 (by omega) (by omega) (by omega) (by omega) (Or.inl (by omega))) ?_
            rintro _ ⟨I7, rfl, cp⟩
            first | refine q_iincN d_Model_translate_277 rfl (Nat.le_of_ble_eq_true rfl) (by first | exact q_ok0 | exact q_okI rfl | exact q_okR rfl | exact q_okN rfl) rfl ?_ | refine q_iinc d_Model_translate_277 rfl rfl (Nat.le_of_ble_eq_true rfl) (by first | exact q_ok0 | exact q_okI rfl | exact q_okR rfl | exact q_okN rfl) rfl ?_
            refine q_goto (tgt := 229) d_Model_translate_280 rfl ?_
            refine ih (k + 1) I7 (by omega) (fun b hb => (cp.1 b hb).trans (g1 b hb)) (fun a2 u ha2 hu => ?_) (fun q q1 q2 => ?_)
            · by_cases hak : a2 = k
              · subst hak
                refine cp.rw ?_
                have := b3.2.1 a f' ha
                rw [hf'] at this
                have e9 : k_vv Y.1 a2 = u := k_getD hu
                rw [show (k_vv Y.1, Y.2.1, Y.2.2).1 a2 = u from e9] at this
                rw [g1 _ (by omega), o5 _ (by omega) (by omega)]
                exact this
              · exact (g2 a2 u (by omega) hu).cong fun q q1 q2 => cp.2.2 q (by omega) (by omega)
            · rw [cp.2.2 q q1 (by omega)]
              exact g3 q q1 q2
        exact loopD Lv.length 0 I5 (by omega) (fun _ _ => rfl) (fun a _ ha => absurd ha (Nat.not_lt_zero _)) (fun _ _ _ => rfl)
    -- before goRoute
    have loopC : ∀ (I6 : q_I), (∀ I7, k_cpn I6 (m + 13) (1792 * i) (m + 21) 0 1792 I7 → q_V g M_Model_translate 0 0 0 0 (sz, T, I7, R, J) Q 190 [some (.ref m), some (.int (nI i)), some (.int (nI v)), some (.int (nI 128)), some (.int (nI 1792))] []) → ∀ (j k : Nat) (I7 : q_I), k + j = 1792 → k_cpn I6 (m + 13) (1792 * i) (m + 21) 0 k I7 → q_V g M_Model_translate 0 0 0 0 (sz, T, I7, R, J) Q 154 [some (.ref m), some (.int (nI i)), some (.int (nI v)), some (.int (nI 128)), some (.int (nI k))] [] := by
      intro I6 kk j
      induction j with
      | zero =>
        intro k I7 hk hc7
        obtain rfl : k = 1792 := by omega
        refine q_iload d_Model_translate_154 rfl ?_
        refine q_bipush (v := nI 14) d_Model_translate_156 (by decide) ?_
        refine q_iload_n d_Model_translate_158 rfl rfl ?_
        first | refine q_imulN d_Model_translate_159 ?_ | refine q_imul d_Model_translate_159 ?_
        refine q_icmp_ge (tgt := 190) d_Model_translate_160 rfl (fun hc => ?_) (fun hc => ?_)
        · exact kk I7 hc7
        · exact absurd (by rw [nI_leI (by omega) (by omega)]; omega) hc
      | succ j ih =>
        intro k I7 hk hc7
        refine q_iload d_Model_translate_154 rfl ?_
        refine q_bipush (v := nI 14) d_Model_translate_156 (by decide) ?_
        refine q_iload_n d_Model_translate_158 rfl rfl ?_
        first | refine q_imulN d_Model_translate_159 ?_ | refine q_imul d_Model_translate_159 ?_
        refine q_icmp_ge (tgt := 190) d_Model_translate_160 rfl (fun hc => ?_) (fun hc => ?_)
        · rw [nI_leI (by omega) (by omega)] at hc
          omega
        refine q_aload_n d_Model_translate_163 rfl rfl ?_
        refine q_getR (ci := 11) (fk := 26) d_Model_translate_164 rfl (Nat.le_of_ble_eq_true rfl) w_1130 (fun _ _ => rfl) hL.1 (hL.2 26 _ _ _ rfl).1 ?_
        refine q_iload d_Model_translate_167 rfl ?_
        refine q_aload_n d_Model_translate_169 rfl rfl ?_
        refine q_getR (ci := 11) (fk := 17) d_Model_translate_170 rfl (Nat.le_of_ble_eq_true rfl) w_1121 (fun _ _ => rfl) hL.1 (hL.2 17 _ _ _ rfl).1 ?_
        refine q_bipush (v := nI 14) d_Model_translate_173 (by decide) ?_
        refine q_iload_n d_Model_translate_175 rfl rfl ?_
        first | refine q_imulN d_Model_translate_176 ?_ | refine q_imul d_Model_translate_176 ?_
        refine q_iload_n d_Model_translate_177 rfl rfl ?_
        first | refine q_imulN d_Model_translate_178 ?_ | refine q_imul d_Model_translate_178 ?_
        refine q_iload d_Model_translate_179 rfl ?_
        first | refine q_iaddN d_Model_translate_181 ?_ | refine q_iadd d_Model_translate_181 ?_
        refine q_iald d_Model_translate_182 (hL.2 17 _ _ _ rfl).2 (by first | assumption | exact vp_in_nI (by omega) (by omega)) ?_
        refine q_iast d_Model_translate_183 (hL.2 26 _ _ _ rfl).2 (by first | assumption | exact vp_in_nI (by omega) (by omega)) ?_
        first | refine q_iincN d_Model_translate_184 rfl (Nat.le_of_ble_eq_true rfl) (by first | exact q_ok0 | exact q_okI rfl | exact q_okR rfl | exact q_okN rfl) rfl ?_ | refine q_iinc d_Model_translate_184 rfl rfl (Nat.le_of_ble_eq_true rfl) (by first | exact q_ok0 | exact q_okI rfl | exact q_okR rfl | exact q_okN rfl) rfl ?_
        refine q_goto (tgt := 154) d_Model_translate_187 rfl ?_
        have := hc7.step (by omega) (by omega)
        rw [Nat.zero_add] at this
        rw [show 14 * 128 * i = 1792 * i by omega]
        exact ih (k + 1) _ (by omega) this
    have loopB : ∀ (I6 : q_I), (∀ I7, k_cpn I6 (m + 12) (128 * i) (m + 20) 0 128 I7 → q_V g M_Model_translate 0 0 0 0 (sz, T, I7, R, J) Q 151 [some (.ref m), some (.int (nI i)), some (.int (nI v)), some (.int (nI 128)), some (.int (nI 128))] []) → ∀ (j k : Nat) (I7 : q_I), k + j = 128 → k_cpn I6 (m + 12) (128 * i) (m + 20) 0 k I7 → q_V g M_Model_translate 0 0 0 0 (sz, T, I7, R, J) Q 121 [some (.ref m), some (.int (nI i)), some (.int (nI v)), some (.int (nI 128)), some (.int (nI k))] [] := by
      intro I6 kk j
      induction j with
      | zero =>
        intro k I7 hk hc7
        obtain rfl : k = 128 := by omega
        refine q_iload d_Model_translate_121 rfl ?_
        refine q_iload_n d_Model_translate_123 rfl rfl ?_
        refine q_icmp_ge (tgt := 151) d_Model_translate_124 rfl (fun hc => ?_) (fun hc => ?_)
        · exact kk I7 hc7
        · exact absurd (by rw [nI_leI (by omega) (by omega)]; omega) hc
      | succ j ih =>
        intro k I7 hk hc7
        refine q_iload d_Model_translate_121 rfl ?_
        refine q_iload_n d_Model_translate_123 rfl rfl ?_
        refine q_icmp_ge (tgt := 151) d_Model_translate_124 rfl (fun hc => ?_) (fun hc => ?_)
        · rw [nI_leI (by omega) (by omega)] at hc
          omega
        refine q_aload_n d_Model_translate_127 rfl rfl ?_
        refine q_getR (ci := 11) (fk := 25) d_Model_translate_128 rfl (Nat.le_of_ble_eq_true rfl) w_1129 (fun _ _ => rfl) hL.1 (hL.2 25 _ _ _ rfl).1 ?_
        refine q_iload d_Model_translate_131 rfl ?_
        refine q_aload_n d_Model_translate_133 rfl rfl ?_
        refine q_getR (ci := 11) (fk := 16) d_Model_translate_134 rfl (Nat.le_of_ble_eq_true rfl) w_1120 (fun _ _ => rfl) hL.1 (hL.2 16 _ _ _ rfl).1 ?_
        refine q_iload_n d_Model_translate_137 rfl rfl ?_
        refine q_iload_n d_Model_translate_138 rfl rfl ?_
        first | refine q_imulN d_Model_translate_139 ?_ | refine q_imul d_Model_translate_139 ?_
        refine q_iload d_Model_translate_140 rfl ?_
        first | refine q_iaddN d_Model_translate_142 ?_ | refine q_iadd d_Model_translate_142 ?_
        refine q_iald d_Model_translate_143 (hL.2 16 _ _ _ rfl).2 (by first | assumption | exact vp_in_nI (by omega) (by omega)) ?_
        refine q_iast d_Model_translate_144 (hL.2 25 _ _ _ rfl).2 (by first | assumption | exact vp_in_nI (by omega) (by omega)) ?_
        first | refine q_iincN d_Model_translate_145 rfl (Nat.le_of_ble_eq_true rfl) (by first | exact q_ok0 | exact q_okI rfl | exact q_okR rfl | exact q_okN rfl) rfl ?_ | refine q_iinc d_Model_translate_145 rfl rfl (Nat.le_of_ble_eq_true rfl) (by first | exact q_ok0 | exact q_okI rfl | exact q_okR rfl | exact q_okN rfl) rfl ?_
        refine q_goto (tgt := 121) d_Model_translate_148 rfl ?_
        have := hc7.step (by omega) (by omega)
        rw [Nat.zero_add] at this
        exact ih (k + 1) _ (by omega) this
    refine q_sipush (v := nI 128) d_Model_translate_53 (by decide) ?_
    refine q_istore_n d_Model_translate_56 rfl (Nat.le_of_ble_eq_true rfl) (by first | exact q_ok0 | exact q_okI rfl | exact q_okR rfl | exact q_okN rfl) rfl ?_
    refine q_aload_n d_Model_translate_57 rfl rfl ?_
    refine q_iconst (v := nI 1) d_Model_translate_58 (by decide) ?_
    refine q_putI (ci := 11) (fk := 27) d_Model_translate_59 rfl (Nat.le_of_ble_eq_true rfl) w_1131 (Or.inl rfl) (fun _ _ => rfl) rfl rfl hL.1 ?_
    refine q_aload_n d_Model_translate_62 rfl rfl ?_
    refine q_iconst (v := nI 0) d_Model_translate_63 (by decide) ?_
    refine q_putI (ci := 11) (fk := 28) d_Model_translate_64 rfl (Nat.le_of_ble_eq_true rfl) w_1132 (Or.inl rfl) (fun _ _ => rfl) (by first | rfl | decide | assumption) (by first | rfl | decide | assumption) hL.1 ?_
    refine q_aload_n d_Model_translate_67 rfl rfl ?_
    refine q_aload_n d_Model_translate_68 rfl rfl ?_
    refine q_getR (ci := 11) (fk := 14) d_Model_translate_69 rfl (Nat.le_of_ble_eq_true rfl) w_1118 (fun _ _ => rfl) hL.1 (hL.2 14 _ _ _ rfl).1 ?_
    refine q_iload_n d_Model_translate_72 rfl rfl ?_
    refine q_iald d_Model_translate_73 (hL.2 14 _ _ _ rfl).2 (by first | assumption | exact vp_in_nI (by omega) (by omega)) ?_
    obtain ⟨I2, hI2⟩ : ∃ I2, I2 = q_upI (q_upI (q_upI I1 m (nI 0) (nI 0)) m (nI 27) (nI 1)) m (nI 28) (nI 0) := ⟨_, rfl⟩
    rw [← hI2]
    have hps2 : m_ps m I I2 := by
      rw [hI2]
      exact ((hps1.trans (m_ps.int (by decide) (by decide) (by decide) (by decide) (by decide))).trans (m_ps.int (by decide) (by decide) (by decide) (by decide) (by decide))).trans (m_ps.int (by decide) (by decide) (by decide) (by decide) (by decide))
    have o2 : ∀ b, b ≠ m → I2 b = I1 b := fun b hb => by rw [hI2]; funext z; rw [q_upI_nea hb, q_upI_nea hb, q_upI_nea hb]
    have m27 : I2 m (nI 27) = nI 1 := by rw [hI2, q_upI_nk (by omega), q_upI_self]
    have m28 : I2 m (nI 28) = nI 0 := by rw [hI2, q_upI_self]
    have m33 : I2 m (nI 33) = nI l.length := by rw [hI2, q_upI_nk (by omega), q_upI_nk (by omega), q_upI_nk (by omega)]; exact j33
    have x10 : I2 (m + 10) (nI i) = nI c.ver := by rw [hps2.2 10 (by omega) (by omega)]; exact e7
    have vl2 : m_vl m c.ver L I2 := e6.cong fun j j1 j2 => hps2.1.2.1 j (by omega) (by omega)
    rw [x10]
    refine q_callVv (M2 := M_Model_take) d_Model_translate_74 ⟨(Nat.le_of_ble_eq_true rfl), (Nat.le_of_ble_eq_true rfl), w_1233, w_10, ⟨by decide, by decide⟩, show _ = some 1 by decide +kernel⟩ w_1230 w_1232 (ci := 11) rfl s_47 hL.1 rfl (Nat.le_of_ble_eq_true rfl) (by omega) (by omega) (c_Model_take0 hL vl2 e3 h24 (by rw [m27]; decide)) ?_
    rintro _ ⟨I3, rfl, k1, k2, k3⟩
    have hps3 := hps2.trans k1.ps
    have loopA : ∀ (j k : Nat) (I4 : q_I), k + j = L.length → (∀ b, b ≠ m + 18 → I4 b = I3 b) → (∀ (a : Nat) (u : List Int32), a < k → c.val[a]? = some u → k_rw (I4 (m + 18)) (7 * a) u) → q_V g M_Model_translate 0 0 0 0 (sz, T, I4, R, J) Q 80 [some (.ref m), some (.int (nI i)), some (.int (nI v)), some (.int (nI 128)), some (.int (nI k))] [] := by
      intro j
      induction j with
      | zero =>
        intro k I4 hk g1 g2
        obtain rfl : k = L.length := by omega
        refine q_iload d_Model_translate_80 rfl ?_
        refine q_aload_n d_Model_translate_82 rfl rfl ?_
        refine q_getI (ci := 11) (fk := 18) d_Model_translate_83 rfl (Nat.le_of_ble_eq_true rfl) w_1122 (fun _ _ => rfl) hL.1 ?_
        rw [g1 m (by omega), k2.1]
        refine q_icmp_ge (tgt := 118) d_Model_translate_86 rfl (fun hc => ?_) (fun hc => ?_)
        rotate_left
        · exact absurd (Int32.le_refl _) hc
        refine q_iconst (v := nI 0) d_Model_translate_118 (by decide) ?_
        refine q_istore d_Model_translate_119 (Nat.le_of_ble_eq_true rfl) (by first | exact q_ok0 | exact q_okI rfl | exact q_okR rfl | exact q_okN rfl) rfl ?_
        refine loopB I4 (fun I5 c5 => ?_) 128 0 I4 (by omega) k_cpn.zero
        refine q_iconst (v := nI 0) d_Model_translate_151 (by decide) ?_
        refine q_istore d_Model_translate_152 (Nat.le_of_ble_eq_true rfl) (by first | exact q_ok0 | exact q_okI rfl | exact q_okR rfl | exact q_okN rfl) rfl ?_
        refine loopC I5 (fun I6 c6 => ?_) 1792 0 I5 (by omega) k_cpn.zero
        have o6 : ∀ b, b ≠ m + 18 → b ≠ m + 20 → b ≠ m + 21 → I6 b = I3 b := fun b b1 b2 b3 => by rw [c6.1 b b3, c5.1 b b2, g1 b b1]
        have hps6 : m_ps m I I6 := hps3.trans (m_xf.ps (m_xf.arr fun b hb => o6 b (by omega) (by omega) (by omega)))
        have hx : m_x m (k_rs 0 L) (k_vv c.val, c.kp, false) I6 := by
          refine ⟨(k2.cong (by rw [o6 m (by omega) (by omega) (by omega)]) (fun j j1 j2 => o6 _ (by omega) (by omega) (by omega))).rs, fun a f hf => ?_, fun a ha => ?_, ?_, ?_⟩
          · rw [k_rs_at] at hf
            cases hLa : L[a]? with
            | none => rw [hLa] at hf; cases hf
            | some e =>
              rw [hLa] at hf
              have hal := (List.getElem?_eq_some_iff.mp hLa).1
              obtain ⟨u, hu⟩ : ∃ u, c.val[a]? = some u := ⟨_, List.getElem?_eq_getElem (by omega)⟩
              rw [← Option.some.inj hf]
              have e9 : k_vv c.val (0 + a) = u := by rw [show 0 + a = a by omega]; exact k_getD hu
              show k_rw (I6 (m + 18)) (7 * a) (k_vv c.val (0 + a))
              rw [e9, c6.1 _ (by omega), c5.1 _ (by omega)]
              exact g2 a u (by omega) hu
          · obtain ⟨d1, d2, d3⟩ := e9 a ha
            have e12 : I4 (m + 12) = I (m + 12) := by rw [g1 _ (by omega), hps3.2 12 (by omega) (by omega)]
            have e13 : I5 (m + 13) = I (m + 13) := by rw [c5.1 _ (by omega), g1 _ (by omega), hps3.2 13 (by omega) (by omega)]
            refine ⟨?_, fun z => ?_, fun z => ?_⟩
            · have := c5.2.1 a ha
              rw [Nat.zero_add] at this
              rw [c6.1 _ (by omega), this, e12]; exact d1
            · have := c6.rw (x := 14 * a) (v := (c.kp a).2.1) (by rw [e13, show 1792 * i + 14 * a = 14 * (128 * i + a) by omega]; exact d2 z) (by omega)
              rw [Nat.zero_add] at this
              exact this
            · have := c6.rw (x := 14 * a + 7) (v := (c.kp a).2.2) (by rw [e13, show 1792 * i + (14 * a + 7) = 14 * (128 * i + a) + 7 by omega]; exact d3 z) (by omega)
              rw [Nat.zero_add] at this
              exact this
          · rw [o6 m (by omega) (by omega) (by omega), k1.2 _ (fun z => absurd (q_nI_inj z) (by decide))]; exact m27
          · rw [o6 m (by omega) (by omega) (by omega), k1.2 _ (fun z => absurd (q_nI_inj z) (by decide)), m28]; rfl
        have r33 : I6 m (nI 33) = nI l.length := by rw [o6 m (by omega) (by omega) (by omega), k1.2 _ (fun z => absurd (q_nI_inj z) (by decide))]; exact m33
        have r25 : I6 (m + 25) = I1 (m + 25) := by rw [o6 _ (by omega) (by omega) (by omega), k1.1 _ (by omega) (by omega), o2 _ (by omega)]
        have r26 : I6 (m + 26) = I1 (m + 26) := by rw [o6 _ (by omega) (by omega) (by omega), k1.1 _ (by omega) (by omega), o2 _ (by omega)]
        refine q_aload_n d_Model_translate_190 rfl rfl ?_
        refine q_callVv (M2 := M_Model_goRoute) d_Model_translate_191 ⟨(Nat.le_of_ble_eq_true rfl), (Nat.le_of_ble_eq_true rfl), w_1489, w_10, ⟨by decide, by decide⟩, show _ = some 0 by decide +kernel⟩ w_1486 w_1488 (ci := 11) rfl s_81 hL.1 rfl (Nat.le_of_ble_eq_true rfl) (by omega) (by omega) (c_Model_goRoute1 hw (hM.ps hps6) r33 (by rw [r25]; exact jar) (by rw [r26]; exact jst) l2 w1 w3 e1 hx (List.Perm.refl _) hwr) ?_
        rintro _ ⟨I7, M', rfl, z1, z2, z3⟩
        rw [← hY] at z2 z3
        obtain ⟨z4, z5⟩ := z3 v w4
        exact behind I7 M' _ (hps6.trans z1.ps) (by rw [z1.2 _ (fun z => absurd (q_nI_inj z) (by decide)) (fun z => absurd (q_nI_inj z) (by decide))]; exact r33) z2 z4 (z5 Lv hLv)
      | succ j ih =>
        intro k I4 hk g1 g2
        obtain ⟨u, hu⟩ : ∃ u, c.val[k]? = some u := ⟨_, List.getElem?_eq_getElem (by omega)⟩
        refine q_iload d_Model_translate_80 rfl ?_
        refine q_aload_n d_Model_translate_82 rfl rfl ?_
        refine q_getI (ci := 11) (fk := 18) d_Model_translate_83 rfl (Nat.le_of_ble_eq_true rfl) w_1122 (fun _ _ => rfl) hL.1 ?_
        rw [g1 m (by omega), k2.1]
        refine q_icmp_ge (tgt := 118) d_Model_translate_86 rfl (fun hc => ?_) (fun hc => ?_)
        · rw [nI_leI (by omega) (by omega)] at hc
          omega
        refine q_aload_n d_Model_translate_89 rfl rfl ?_
        refine q_getR (ci := 11) (fk := 15) d_Model_translate_90 rfl (Nat.le_of_ble_eq_true rfl) w_1119 (fun _ _ => rfl) hL.1 (hL.2 15 _ _ _ rfl).1 ?_
        refine q_aload_n d_Model_translate_93 rfl rfl ?_
        refine q_iload_n d_Model_translate_94 rfl rfl ?_
        refine q_iload d_Model_translate_95 rfl ?_
        refine q_callVi (M2 := M_Model_rowOf) d_Model_translate_97 ⟨(Nat.le_of_ble_eq_true rfl), (Nat.le_of_ble_eq_true rfl), w_1437, w_10, ⟨by decide, by decide⟩, show _ = some 2 by decide +kernel⟩ w_1434 w_1436 (ci := 11) rfl s_77 hL.1 rfl (Nat.le_of_ble_eq_true rfl) (by omega) (by omega) (c_Model_rowOf) ?_
        rintro _ _ ⟨rfl, rfl⟩
        refine q_aload_n d_Model_translate_100 rfl rfl ?_
        refine q_getR (ci := 11) (fk := 23) d_Model_translate_101 rfl (Nat.le_of_ble_eq_true rfl) w_1127 (fun _ _ => rfl) hL.1 (hL.2 23 _ _ _ rfl).1 ?_
        refine q_bipush (v := nI 7) d_Model_translate_104 (by decide) ?_
        refine q_iload d_Model_translate_106 rfl ?_
        first | refine q_imulN d_Model_translate_108 ?_ | refine q_imul d_Model_translate_108 ?_
        refine q_callSv (M2 := M_Model_copyRow) d_Model_translate_109 ⟨(Nat.le_of_ble_eq_true rfl), (Nat.le_of_ble_eq_true rfl), w_1321, w_10, ⟨by decide, by decide⟩, show _ = some 4 by decide +kernel⟩ w_1319 w_1320 rfl (Nat.le_of_ble_eq_true rfl) (by omega) (by omega) (c_Model_copyRow (a := m + 11) (a2 := m + 18) t11 t18 (by omega) (by omega) (by omega) (by omega) (Or.inl (by omega))) ?_
        rintro _ ⟨I5, rfl, cp⟩
        first | refine q_iincN d_Model_translate_112 rfl (Nat.le_of_ble_eq_true rfl) (by first | exact q_ok0 | exact q_okI rfl | exact q_okR rfl | exact q_okN rfl) rfl ?_ | refine q_iinc d_Model_translate_112 rfl rfl (Nat.le_of_ble_eq_true rfl) (by first | exact q_ok0 | exact q_okI rfl | exact q_okR rfl | exact q_okN rfl) rfl ?_
        refine q_goto (tgt := 80) d_Model_translate_115 rfl ?_
        refine ih (k + 1) I5 (by omega) (fun b hb => (cp.1 b hb).trans (g1 b hb)) (fun a2 u2 ha2 hu2 => ?_)
        by_cases hak : a2 = k
        · subst hak
          rw [← Option.some.inj (hu.symm.trans hu2)]
          refine cp.rw ?_
          rw [g1 _ (by omega), hps3.2 11 (by omega) (by omega)]
          exact e8 a2 u hu
        · exact (g2 a2 u2 (by omega) hu2).cong fun q q1 q2 => cp.2.2 q (by omega) (by omega)
    refine q_iconst (v := nI 0) d_Model_translate_77 (by decide) ?_
    refine q_istore d_Model_translate_78 (Nat.le_of_ble_eq_true rfl) (by first | exact q_ok0 | exact q_okI rfl | exact q_okR rfl | exact q_okN rfl) rfl ?_
    exact loopA L.length 0 I3 (by omega) (fun _ _ => rfl) (fun a _ ha => absurd ha (Nat.not_lt_zero _))
end MTrans
