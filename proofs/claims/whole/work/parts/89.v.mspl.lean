/-! translate, by the reference: split, join, change -/
section MSpl
variable {g : q_G} {sz m : Nat} {T : q_T} {I : q_I} {R : q_R} {J : q_J} {M : List KF} {X : KV}
theorem z_flm {x a : Int32} (ha : nI 2 ≤ a) : (x.toInt64 - a.toInt64 * k_flr x.toInt64 a.toInt64).toInt32 = z_mod x a := by
  have h1 := z_lit 2 (by decide) ha
  have h2 := z_bd x
  have h3 := z_bd a
  have e : (k_flr x.toInt64 a.toInt64).toInt = x.toInt / a.toInt := by
    rw [k_flr_int (by rw [z_i64]; omega) (by rw [z_i64]; omega) (by rw [z_i64]; omega), z_i64, z_i64]
  have e2 := Int.mul_ediv_add_emod x.toInt a.toInt
  have e3 := Int.emod_nonneg x.toInt (show a.toInt ≠ 0 by omega)
  have e4 := Int.emod_lt_of_pos x.toInt (show 0 < a.toInt by omega)
  obtain ⟨q, hq⟩ : ∃ q, q = a.toInt * (x.toInt / a.toInt) := ⟨_, rfl⟩
  obtain ⟨r, hr⟩ : ∃ r, r = x.toInt % a.toInt := ⟨_, rfl⟩
  rw [← hq, ← hr] at e2
  rw [← hr] at e3 e4
  have e5 : (a.toInt64 * k_flr x.toInt64 a.toInt64).toInt = q := by
    rw [Int64.toInt_mul, e, z_i64, ← hq, k_bm (by omega) (by omega)]
  rw [z_l2i, Int64.toInt_sub, e5, z_i64, k_bm (by omega) (by omega)]
  unfold z_mod
  rw [← hr, show x.toInt - q = r by omega]
theorem k_nds_set {k : Nat} {f f' : KF} (hn : k_nds M) (hf : M[k]? = some f) (hs : f'.2.2.2.2 = f.2.2.2.2) : k_nds (M.set k f') := by
  unfold k_nds at *
  rw [List.map_set, hs]
  have : (M.map (fun e : KF => e.2.2.2.2)).set k f.2.2.2.2 = M.map (fun e : KF => e.2.2.2.2) := by
    obtain ⟨h1, h2⟩ := List.getElem?_eq_some_iff.mp hf
    refine List.ext_getElem? fun i => ?_
    rw [List.getElem?_set]
    by_cases hi : k = i
    · subst hi
      rw [if_pos rfl, List.length_map, if_pos h1, List.getElem?_map, hf]; rfl
    · rw [if_neg hi]
  rw [this]; exact hn
theorem k_set_slo {k : Nat} {f f' : KF} (hf : M[k]? = some f) (hs : f'.2.2.2.2 = f.2.2.2.2) {s : Nat} (h : ∀ e ∈ M, e.2.2.2.2 ≠ s) : ∀ e ∈ M.set k f', e.2.2.2.2 ≠ s := fun e he => by
  rcases List.mem_or_eq_of_mem_set he with z | z
  · exact h e z
  · rw [z, hs]; exact h f (List.mem_of_getElem? hf)
/-- a one-number row gets another number -/
theorem k_rw_one {a b : Nat} {x y : Int32} (h : k_rw (I a) b [x]) (hb : b + 7 ≤ 2 ^ 31) : k_rw (q_upI I a (nI (b + 1)) y a) b [y] := ⟨by simp, by rw [q_upI_nk (by omega)]; exact h.2.1, fun i z hz => by
  cases i with
  | zero => rw [← Option.some.inj hz, show b + 1 + 0 = b + 1 by omega, q_upI_self]
  | succ i => cases hz⟩
theorem c_Model_split1 {k n : Nat} {p : KP} (hL : q_L 11 t_Model m T R) (h : m_x m M X I) (hn : k_nds M) (hfk : k_ok 4 p.nm ∧ p.nm ≠ []) (hlt : M.length < 25) (hf : M[k]? = some p.f) (ha : nI 2 ≤ p.a) (h1l : (X.1 p.sl).length = 1) (hrs : ∀ e ∈ M, e.2.2.2.2 ≠ p.rs) : q_Cv g M_Model_split [.ref m, .int (nI k), .int (nI (k_path p.nm)), .int p.a, .int (nI n)] (sz, T, I, R, J) 0 0 (fun h' => ∃ I' : q_I, h' = (sz, T, I', R, J) ∧ m_xf m I I' ∧ m_x m (M.set k (p.nm, p.so, z_div p.lo p.a, z_div p.hi p.a, p.sl) ++ [(p.nm.dropLast ++ [n + 1], 0, 0, p.a - 1, p.rs)]) (t_spl p X) I') := by
  have hM := h.1
  have hkl := (List.getElem?_eq_some_iff.mp hf).1
  obtain ⟨w1, w2, w3, w4⟩ := hM.2.2 k p.f hf
  have w3 : I (m + 16) (nI k) = p.lo := w3
  have w4 : I (m + 17) (nI k) = p.hi := w4
  obtain ⟨x1, hnz⟩ := z_flr (x := p.lo) ha
  obtain ⟨x2, -⟩ := z_flr (x := p.hi) ha
  have hr : k_rw (I (m + 18)) (7 * k) (X.1 p.sl) := h.2.1 k p.f hf
  obtain ⟨x, hx⟩ : ∃ x, X.1 p.sl = [x] := by
    match hv : X.1 p.sl, h1l with
    | [x], _ => exact ⟨x, rfl⟩
  have hx1 : I (m + 18) (nI (7 * k + 1)) = x := hr.2.2 0 x (by rw [hx]; rfl)
  obtain ⟨x3, -⟩ := z_flr (x := x) ha
  refine q_C.of (ls0 := [some (.ref m), some (.int (nI k)), some (.int (nI (k_path p.nm))), some (.int p.a), some (.int (nI n)), none, none, none, none, none]) (by decide) rfl (by decide) (Nat.le_of_ble_eq_true rfl) rfl ?_
  refine q_aload_n d_Model_split_0 rfl rfl ?_
  refine q_getR (ci := 11) (fk := 23) d_Model_split_1 rfl (Nat.le_of_ble_eq_true rfl) w_1127 (fun _ _ => rfl) hL.1 (hL.2 23 _ _ _ rfl).1 ?_
  refine q_bipush (v := nI 7) d_Model_split_4 (by decide) ?_
  refine q_iload_n d_Model_split_6 rfl rfl ?_
  first | refine q_imulN d_Model_split_7 ?_ | refine q_imul d_Model_split_7 ?_
  refine q_iconst (v := nI 1) d_Model_split_8 (by decide) ?_
  first | refine q_iaddN d_Model_split_9 ?_ | refine q_iadd d_Model_split_9 ?_
  refine q_iald d_Model_split_10 (hL.2 23 _ _ _ rfl).2 (by first | assumption | exact vp_in_nI (by omega) (by omega)) ?_
  rw [hx1]
  refine q_istore d_Model_split_11 (Nat.le_of_ble_eq_true rfl) (by first | exact q_ok0 | exact q_okI rfl | exact q_okR rfl | exact q_okN rfl) rfl ?_
  refine q_aload_n d_Model_split_13 rfl rfl ?_
  refine q_getR (ci := 11) (fk := 24) d_Model_split_14 rfl (Nat.le_of_ble_eq_true rfl) w_1128 (fun _ _ => rfl) hL.1 (hL.2 24 _ _ _ rfl).1 ?_
  refine q_iload_n d_Model_split_17 rfl rfl ?_
  refine q_iald d_Model_split_18 (hL.2 24 _ _ _ rfl).2 (by first | assumption | exact vp_in_nI (by omega) (by omega)) ?_
  refine q_istore d_Model_split_19 (Nat.le_of_ble_eq_true rfl) (by first | exact q_ok0 | exact q_okI rfl | exact q_okR rfl | exact q_okN rfl) rfl ?_
  refine q_aload_n d_Model_split_21 rfl rfl ?_
  refine q_getR (ci := 11) (fk := 21) d_Model_split_22 rfl (Nat.le_of_ble_eq_true rfl) w_1125 (fun _ _ => rfl) hL.1 (hL.2 21 _ _ _ rfl).1 ?_
  refine q_iload_n d_Model_split_25 rfl rfl ?_
  refine q_aload_n d_Model_split_26 rfl rfl ?_
  refine q_getR (ci := 11) (fk := 21) d_Model_split_27 rfl (Nat.le_of_ble_eq_true rfl) w_1125 (fun _ _ => rfl) hL.1 (hL.2 21 _ _ _ rfl).1 ?_
  refine q_iload_n d_Model_split_30 rfl rfl ?_
  refine q_iald d_Model_split_31 (hL.2 21 _ _ _ rfl).2 (by first | assumption | exact vp_in_nI (by omega) (by omega)) ?_
  rw [w3]
  refine q_i2l d_Model_split_32 rfl ?_
  refine q_iload_n d_Model_split_33 rfl rfl ?_
  refine q_i2l d_Model_split_34 rfl ?_
  refine q_callSl (M2 := M_Model_floor) d_Model_split_35 ⟨(Nat.le_of_ble_eq_true rfl), (Nat.le_of_ble_eq_true rfl), w_1344, w_10, ⟨by decide, by decide⟩, show _ = some 2 by decide +kernel⟩ w_1342 w_1343 rfl (Nat.le_of_ble_eq_true rfl) (by omega) (by omega) (c_Model_floor hnz) ?_
  rintro _ _ ⟨rfl, rfl⟩
  refine q_l2i d_Model_split_38 rfl ?_
  rw [x1]
  refine q_iast d_Model_split_39 (hL.2 21 _ _ _ rfl).2 (by first | assumption | exact vp_in_nI (by omega) (by omega)) ?_
  refine q_aload_n d_Model_split_40 rfl rfl ?_
  refine q_getR (ci := 11) (fk := 22) d_Model_split_41 rfl (Nat.le_of_ble_eq_true rfl) w_1126 (fun _ _ => rfl) hL.1 (hL.2 22 _ _ _ rfl).1 ?_
  refine q_iload_n d_Model_split_44 rfl rfl ?_
  refine q_aload_n d_Model_split_45 rfl rfl ?_
  refine q_getR (ci := 11) (fk := 22) d_Model_split_46 rfl (Nat.le_of_ble_eq_true rfl) w_1126 (fun _ _ => rfl) hL.1 (hL.2 22 _ _ _ rfl).1 ?_
  refine q_iload_n d_Model_split_49 rfl rfl ?_
  refine q_iald d_Model_split_50 (hL.2 22 _ _ _ rfl).2 (by first | assumption | exact vp_in_nI (by omega) (by omega)) ?_
  rw [q_upI_nea (by omega), w4]
  refine q_i2l d_Model_split_51 rfl ?_
  refine q_iload_n d_Model_split_52 rfl rfl ?_
  refine q_i2l d_Model_split_53 rfl ?_
  refine q_callSl (M2 := M_Model_floor) d_Model_split_54 ⟨(Nat.le_of_ble_eq_true rfl), (Nat.le_of_ble_eq_true rfl), w_1344, w_10, ⟨by decide, by decide⟩, show _ = some 2 by decide +kernel⟩ w_1342 w_1343 rfl (Nat.le_of_ble_eq_true rfl) (by omega) (by omega) (c_Model_floor hnz) ?_
  rintro _ _ ⟨rfl, rfl⟩
  refine q_l2i d_Model_split_57 rfl ?_
  rw [x2]
  refine q_iast d_Model_split_58 (hL.2 22 _ _ _ rfl).2 (by first | assumption | exact vp_in_nI (by omega) (by omega)) ?_
  refine q_aload_n d_Model_split_59 rfl rfl ?_
  refine q_iload_n d_Model_split_60 rfl rfl ?_
  refine q_iload d_Model_split_61 rfl ?_
  refine q_callSi (M2 := M_Model_besides) d_Model_split_63 ⟨(Nat.le_of_ble_eq_true rfl), (Nat.le_of_ble_eq_true rfl), w_1347, w_10, ⟨by decide, by decide⟩, show _ = some 2 by decide +kernel⟩ w_1345 w_1346 rfl (Nat.le_of_ble_eq_true rfl) (by omega) (by omega) (c_Model_besides hfk.1 hfk.2) ?_
  rintro _ _ ⟨rfl, rfl⟩
  refine q_iconst (v := nI 0) d_Model_split_66 (by decide) ?_
  refine q_iconst (v := nI 0) d_Model_split_67 (by decide) ?_
  refine q_iload_n d_Model_split_68 rfl rfl ?_
  refine q_iconst (v := nI 1) d_Model_split_69 (by decide) ?_
  refine q_isub d_Model_split_70 ?_
  obtain ⟨I1, hI1⟩ : ∃ I1, I1 = q_upI (q_upI I (m + 16) (nI k) (z_div p.lo p.a)) (m + 17) (nI k) (z_div p.hi p.a) := ⟨_, rfl⟩
  rw [← hI1]
  have o1 : ∀ b, b ≠ m + 16 → b ≠ m + 17 → I1 b = I b := fun b b1 b2 => by rw [hI1]; funext j; rw [q_upI_nea b2, q_upI_nea b1]
  obtain ⟨f', hf'⟩ : ∃ f' : KF, f' = (p.nm, p.so, z_div p.lo p.a, z_div p.hi p.a, p.sl) := ⟨_, rfl⟩
  have hM1 : k_mw m (M.set k f') I1 := by
    rw [hf']
    refine hM.set hf (by rw [o1 m (by omega) (by omega)]) ⟨by rw [o1 (m + 14) (by omega) (by omega)]; exact w1, by rw [o1 (m + 15) (by omega) (by omega)]; exact w2, ?_, ?_⟩ (fun j i j1 j2 hi hik => ?_)
    · rw [hI1, q_upI_nea (by omega), q_upI_self]
    · rw [hI1, q_upI_self]
    · rw [hI1, q_upI_nk (by omega), q_upI_nk (by omega)]
  have hs' : f'.2.2.2.2 = p.f.2.2.2.2 := by rw [hf']
  have y1 : m_x m (M.set k f') X I1 := h.set hf hs' hM1 (fun j j1 j2 j3 => o1 _ (by omega) (by omega)) (by rw [o1 m (by omega) (by omega)]) (by rw [o1 m (by omega) (by omega)])
  have n1 := k_nds_set hn hf hs'
  rw [← hf']
  obtain ⟨e, he⟩ : ∃ e : KF, e = (p.nm.dropLast ++ [n + 1], 0, 0, p.a - 1, p.rs) := ⟨_, rfl⟩
  have hl1 : (M.set k f').length = M.length := List.length_set
  have hcome := c_Model_come0 (g := g) (sz := sz) (J := J) hL hM1 (by rw [hl1]; omega) (by rw [y1.2.2.2.1]; decide) e
  have hrs1 : ∀ q ∈ M.set k f', q.2.2.2.2 ≠ e.2.2.2.2 := by rw [he]; exact k_set_slo hf hs' hrs
  rw [he] at hcome
  refine q_callVi (M2 := M_Model_come) d_Model_split_71 ⟨(Nat.le_of_ble_eq_true rfl), (Nat.le_of_ble_eq_true rfl), w_1237, w_10, ⟨by decide, by decide⟩, show _ = some 4 by decide +kernel⟩ w_1234 w_1236 (ci := 11) rfl s_48 hL.1 rfl (Nat.le_of_ble_eq_true rfl) (by omega) (by omega) (hcome) ?_
  rw [← he]
  rintro _ _ ⟨rfl, I2, rfl, k1, k2⟩
  have y2 := y1.come hrs1 k1 k2
  have n2 : k_nds (M.set k f' ++ [e]) := k_nds_snoc n1 hrs1
  have hkl2 : k < (M.set k f').length := by rw [hl1]; exact hkl
  have hf2 : (M.set k f' ++ [e])[k]? = some f' := by rw [List.getElem?_append_left hkl2, List.getElem?_set, if_pos rfl, if_pos hkl]
  have he2 : (M.set k f' ++ [e])[M.length]? = some e := by rw [List.getElem?_append_right (by omega), hl1, Nat.sub_self]; rfl
  have e1 : e.2.2.2.2 = p.rs := by rw [he]
  have f1 : f'.2.2.2.2 = p.sl := by rw [hf']
  have hne : p.sl ≠ p.rs := hrs p.f (List.mem_of_getElem? hf)
  rw [hl1]
  refine q_istore d_Model_split_74 (Nat.le_of_ble_eq_true rfl) (by first | exact q_ok0 | exact q_okI rfl | exact q_okR rfl | exact q_okN rfl) rfl ?_
  refine q_aload_n d_Model_split_76 rfl rfl ?_
  refine q_getI (ci := 11) (fk := 27) d_Model_split_77 rfl (Nat.le_of_ble_eq_true rfl) w_1131 (fun _ _ => rfl) hL.1 ?_
  rw [y2.2.2.2.1]
  refine q_iconst (v := nI 1) d_Model_split_80 (by decide) ?_
  refine q_icmp_ne (tgt := 132) d_Model_split_81 rfl (fun hc => ?_) (fun hc => ?_)
  · exact absurd rfl hc
  refine q_aload_n d_Model_split_84 rfl rfl ?_
  refine q_getR (ci := 11) (fk := 23) d_Model_split_85 rfl (Nat.le_of_ble_eq_true rfl) w_1127 (fun _ _ => rfl) hL.1 (hL.2 23 _ _ _ rfl).1 ?_
  refine q_bipush (v := nI 7) d_Model_split_88 (by decide) ?_
  refine q_iload_n d_Model_split_90 rfl rfl ?_
  first | refine q_imulN d_Model_split_91 ?_ | refine q_imul d_Model_split_91 ?_
  refine q_iconst (v := nI 1) d_Model_split_92 (by decide) ?_
  first | refine q_iaddN d_Model_split_93 ?_ | refine q_iadd d_Model_split_93 ?_
  refine q_iload d_Model_split_94 rfl ?_
  refine q_i2l d_Model_split_96 rfl ?_
  refine q_iload_n d_Model_split_97 rfl rfl ?_
  refine q_i2l d_Model_split_98 rfl ?_
  refine q_callSl (M2 := M_Model_floor) d_Model_split_99 ⟨(Nat.le_of_ble_eq_true rfl), (Nat.le_of_ble_eq_true rfl), w_1344, w_10, ⟨by decide, by decide⟩, show _ = some 2 by decide +kernel⟩ w_1342 w_1343 rfl (Nat.le_of_ble_eq_true rfl) (by omega) (by omega) (c_Model_floor hnz) ?_
  rintro _ _ ⟨rfl, rfl⟩
  refine q_l2i d_Model_split_102 rfl ?_
  rw [x3]
  refine q_iast d_Model_split_103 (hL.2 23 _ _ _ rfl).2 (by first | assumption | exact vp_in_nI (by omega) (by omega)) ?_
  have hr2 : k_rw (I2 (m + 18)) (7 * k) [x] := by
    have := y2.2.1 k f' hf2
    rw [f1] at this
    have e9 : k_ud X.1 e.2.2.2.2 (k_dfl e.2.1 e.2.2.1 e.2.2.2.1) p.sl = [x] := by rw [e1, k_ud_ne hne]; exact hx
    rw [show (k_ud X.1 e.2.2.2.2 (k_dfl e.2.1 e.2.2.1 e.2.2.2.1), X.2.1, X.2.2).1 p.sl = [x] from e9] at this
    exact this
  have y3 := y2.rs (I' := q_upI I2 (m + 18) (nI (7 * k + 1)) (z_div x p.a)) n2 hf2 (fun b hb => by funext z; rw [q_upI_nea hb]) (fun j j1 j2 => by rw [q_upI_nk (by omega)]) (k_rw_one hr2 (by omega))
  obtain ⟨I3, hI3⟩ : ∃ I3, I3 = q_upI I2 (m + 18) (nI (7 * k + 1)) (z_div x p.a) := ⟨_, rfl⟩
  rw [← hI3] at y3 ⊢
  have o3 : ∀ b, b ≠ m + 18 → I3 b = I2 b := fun b hb => by rw [hI3]; funext z; rw [q_upI_nea hb]
  refine q_aload_n d_Model_split_104 rfl rfl ?_
  refine q_getR (ci := 11) (fk := 23) d_Model_split_105 rfl (Nat.le_of_ble_eq_true rfl) w_1127 (fun _ _ => rfl) hL.1 (hL.2 23 _ _ _ rfl).1 ?_
  refine q_bipush (v := nI 7) d_Model_split_108 (by decide) ?_
  refine q_iload d_Model_split_110 rfl ?_
  first | refine q_imulN d_Model_split_112 ?_ | refine q_imul d_Model_split_112 ?_
  refine q_iconst (v := nI 1) d_Model_split_113 (by decide) ?_
  first | refine q_iaddN d_Model_split_114 ?_ | refine q_iadd d_Model_split_114 ?_
  refine q_iload d_Model_split_115 rfl ?_
  refine q_i2l d_Model_split_117 rfl ?_
  refine q_iload_n d_Model_split_118 rfl rfl ?_
  refine q_i2l d_Model_split_119 rfl ?_
  refine q_iload d_Model_split_120 rfl ?_
  refine q_i2l d_Model_split_122 rfl ?_
  refine q_iload_n d_Model_split_123 rfl rfl ?_
  refine q_i2l d_Model_split_124 rfl ?_
  refine q_callSl (M2 := M_Model_floor) d_Model_split_125 ⟨(Nat.le_of_ble_eq_true rfl), (Nat.le_of_ble_eq_true rfl), w_1344, w_10, ⟨by decide, by decide⟩, show _ = some 2 by decide +kernel⟩ w_1342 w_1343 rfl (Nat.le_of_ble_eq_true rfl) (by omega) (by omega) (c_Model_floor hnz) ?_
  rintro _ _ ⟨rfl, rfl⟩
  refine q_lmul d_Model_split_128 ?_
  refine q_lsub d_Model_split_129 ?_
  refine q_l2i d_Model_split_130 rfl ?_
  rw [z_flm ha]
  refine q_iast d_Model_split_131 (hL.2 23 _ _ _ rfl).2 (by first | assumption | exact vp_in_nI (by omega) (by omega)) ?_
  have hr3 : k_rw (I3 (m + 18)) (7 * M.length) [p_near 0 (p.a - 1)] := by
    have := y3.2.1 M.length e he2
    have e9 : k_ud (k_ud X.1 e.2.2.2.2 (k_dfl e.2.1 e.2.2.1 e.2.2.2.1)) f'.2.2.2.2 [z_div x p.a] e.2.2.2.2 = [p_near 0 (p.a - 1)] := by
      rw [k_ud_ne (by rw [e1, f1]; exact fun z => hne z.symm), k_ud_self, he]; rfl
    rw [show (k_ud (k_ud X.1 e.2.2.2.2 (k_dfl e.2.1 e.2.2.1 e.2.2.2.1), X.2.1, X.2.2).1 f'.2.2.2.2 [z_div x p.a], (k_ud X.1 e.2.2.2.2 (k_dfl e.2.1 e.2.2.1 e.2.2.2.1), X.2.1, X.2.2).2.1, (k_ud X.1 e.2.2.2.2 (k_dfl e.2.1 e.2.2.1 e.2.2.2.1), X.2.1, X.2.2).2.2).1 e.2.2.2.2 = [p_near 0 (p.a - 1)] from e9] at this
    exact this
  have y4 := y3.rs (I' := q_upI I3 (m + 18) (nI (7 * M.length + 1)) (z_mod x p.a)) n2 he2 (fun b hb => by funext z; rw [q_upI_nea hb]) (fun j j1 j2 => by rw [q_upI_nk (by omega)]) (k_rw_one hr3 (by omega))
  obtain ⟨I4, hI4⟩ : ∃ I4, I4 = q_upI I3 (m + 18) (nI (7 * M.length + 1)) (z_mod x p.a) := ⟨_, rfl⟩
  rw [← hI4] at y4 ⊢
  have o4 : ∀ b, b ≠ m + 18 → I4 b = I3 b := fun b hb => by rw [hI4]; funext z; rw [q_upI_nea hb]
  refine q_aload_n d_Model_split_132 rfl rfl ?_
  refine q_getI (ci := 11) (fk := 27) d_Model_split_133 rfl (Nat.le_of_ble_eq_true rfl) w_1131 (fun _ _ => rfl) hL.1 ?_
  rw [y4.2.2.2.1]
  refine q_iconst (v := nI 2) d_Model_split_136 (by decide) ?_
  refine q_icmp_eq (tgt := 141) d_Model_split_137 rfl (fun hc => ?_) (fun hc => ?_)
  · exact absurd hc (by decide)
  refine q_vret d_Model_split_140 rfl (by omega) (by omega) ?_
  refine ⟨rfl, I4, rfl, ((m_xf.arr fun b hb => o1 b (by omega) (by omega)).trans k1.xf).trans (m_xf.arr fun b hb => (o4 b (by omega)).trans (o3 b (by omega))), ?_⟩
  have ev : k_ud (k_ud (k_ud X.1 e.2.2.2.2 (k_dfl e.2.1 e.2.2.1 e.2.2.2.1)) f'.2.2.2.2 [z_div x p.a]) e.2.2.2.2 [z_mod x p.a] = (t_spl p X).1 := by
    show _ = k_ud (k_ud X.1 p.sl [z_div ((X.1 p.sl).headD 0) p.a]) p.rs [z_mod ((X.1 p.sl).headD 0) p.a]
    rw [hx, e1, f1]
    funext j
    by_cases j1 : j = p.rs
    · simp [k_ud, j1]
    · by_cases j2 : j = p.sl
      · simp [k_ud, j2, hne]
      · simp [k_ud, j1, j2]
  have y5 : m_x m (M.set k f' ++ [e]) ((t_spl p X).1, X.2.1, X.2.2) I4 := by rw [← ev]; exact y4
  exact y5
theorem c_Model_join1 {k r q : Nat} {f e : KF} {p : KP} (hL : q_L 11 t_Model m T R) (h : m_x m M X I) (hn : k_nds M) (hf : M[k]? = some f) (he : M[r]? = some e) (hfs : f.2.2.2.2 = p.sl) (hes : e.2.2.2.2 = p.rs) (hkr : k ≠ r) (hp : k_mp m q p I) (hq : q + 7 < 1088) (h1l : (X.1 p.sl).length = 1) (h1r : (X.1 p.rs).length = 1) : q_Cv g M_Model_join [.ref m, .int (nI k), .int (nI r), .int p.a, .int (nI q)] (sz, T, I, R, J) 0 0 (fun h' => ∃ I' : q_I, h' = (sz, T, I', R, J) ∧ m_xf m I I' ∧ m_x m (k_goL (M.set k (f.1, f.2.1, p.lo, p.hi, f.2.2.2.2)) r) (t_joi p X) I') := by
  have hM := h.1
  have h26 := hM.2.1
  have hkl := (List.getElem?_eq_some_iff.mp hf).1
  have hrl := (List.getElem?_eq_some_iff.mp he).1
  obtain ⟨w1, w2, w3, w4⟩ := hM.2.2 k f hf
  obtain ⟨p0, p1, p2, p3, p5, p6, p7⟩ := hp
  have hr : k_rw (I (m + 18)) (7 * k) (X.1 p.sl) := by rw [← hfs]; exact h.2.1 k f hf
  have hr2 : k_rw (I (m + 18)) (7 * r) (X.1 p.rs) := by rw [← hes]; exact h.2.1 r e he
  obtain ⟨x, hx⟩ : ∃ x, X.1 p.sl = [x] := by
    match hv : X.1 p.sl, h1l with
    | [x], _ => exact ⟨x, rfl⟩
  obtain ⟨y, hy⟩ : ∃ y, X.1 p.rs = [y] := by
    match hv : X.1 p.rs, h1r with
    | [x], _ => exact ⟨x, rfl⟩
  have hx1 : I (m + 18) (nI (7 * k + 1)) = x := hr.2.2 0 x (by rw [hx]; rfl)
  have hy1 : I (m + 18) (nI (7 * r + 1)) = y := hr2.2.2 0 y (by rw [hy]; rfl)
  refine q_C.of (ls0 := [some (.ref m), some (.int (nI k)), some (.int (nI r)), some (.int p.a), some (.int (nI q)), none, none, none, none]) (by decide) rfl (by decide) (Nat.le_of_ble_eq_true rfl) rfl ?_
  obtain ⟨tk, htk⟩ : ∃ tk, tk = I (m + 19) (nI k) := ⟨_, rfl⟩
  obtain ⟨tr, htr⟩ : ∃ tr, tr = I (m + 19) (nI r) := ⟨_, rfl⟩
  refine q_aload_n d_Model_join_0 rfl rfl ?_
  refine q_getR (ci := 11) (fk := 24) d_Model_join_1 rfl (Nat.le_of_ble_eq_true rfl) w_1128 (fun _ _ => rfl) hL.1 (hL.2 24 _ _ _ rfl).1 ?_
  refine q_iload_n d_Model_join_4 rfl rfl ?_
  refine q_iald d_Model_join_5 (hL.2 24 _ _ _ rfl).2 (by first | assumption | exact vp_in_nI (by omega) (by omega)) ?_
  rw [← htk]
  refine q_istore d_Model_join_6 (Nat.le_of_ble_eq_true rfl) (by first | exact q_ok0 | exact q_okI rfl | exact q_okR rfl | exact q_okN rfl) rfl ?_
  refine q_aload_n d_Model_join_8 rfl rfl ?_
  refine q_getR (ci := 11) (fk := 24) d_Model_join_9 rfl (Nat.le_of_ble_eq_true rfl) w_1128 (fun _ _ => rfl) hL.1 (hL.2 24 _ _ _ rfl).1 ?_
  refine q_iload_n d_Model_join_12 rfl rfl ?_
  refine q_iald d_Model_join_13 (hL.2 24 _ _ _ rfl).2 (by first | assumption | exact vp_in_nI (by omega) (by omega)) ?_
  rw [← htr]
  refine q_istore d_Model_join_14 (Nat.le_of_ble_eq_true rfl) (by first | exact q_ok0 | exact q_okI rfl | exact q_okR rfl | exact q_okN rfl) rfl ?_
  refine q_aload_n d_Model_join_16 rfl rfl ?_
  refine q_getR (ci := 11) (fk := 21) d_Model_join_17 rfl (Nat.le_of_ble_eq_true rfl) w_1125 (fun _ _ => rfl) hL.1 (hL.2 21 _ _ _ rfl).1 ?_
  refine q_iload_n d_Model_join_20 rfl rfl ?_
  refine q_aload_n d_Model_join_21 rfl rfl ?_
  refine q_getR (ci := 11) (fk := 12) d_Model_join_22 rfl (Nat.le_of_ble_eq_true rfl) w_1116 (fun _ _ => rfl) hL.1 (hL.2 12 _ _ _ rfl).1 ?_
  refine q_iload d_Model_join_25 rfl ?_
  refine q_bipush (v := nI 6) d_Model_join_27 (by decide) ?_
  first | refine q_iaddN d_Model_join_29 ?_ | refine q_iadd d_Model_join_29 ?_
  refine q_iald d_Model_join_30 (hL.2 12 _ _ _ rfl).2 (by first | assumption | exact vp_in_nI (by omega) (by omega)) ?_
  rw [p6]
  refine q_iast d_Model_join_31 (hL.2 21 _ _ _ rfl).2 (by first | assumption | exact vp_in_nI (by omega) (by omega)) ?_
  refine q_aload_n d_Model_join_32 rfl rfl ?_
  refine q_getR (ci := 11) (fk := 22) d_Model_join_33 rfl (Nat.le_of_ble_eq_true rfl) w_1126 (fun _ _ => rfl) hL.1 (hL.2 22 _ _ _ rfl).1 ?_
  refine q_iload_n d_Model_join_36 rfl rfl ?_
  refine q_aload_n d_Model_join_37 rfl rfl ?_
  refine q_getR (ci := 11) (fk := 12) d_Model_join_38 rfl (Nat.le_of_ble_eq_true rfl) w_1116 (fun _ _ => rfl) hL.1 (hL.2 12 _ _ _ rfl).1 ?_
  refine q_iload d_Model_join_41 rfl ?_
  refine q_bipush (v := nI 7) d_Model_join_43 (by decide) ?_
  first | refine q_iaddN d_Model_join_45 ?_ | refine q_iadd d_Model_join_45 ?_
  refine q_iald d_Model_join_46 (hL.2 12 _ _ _ rfl).2 (by first | assumption | exact vp_in_nI (by omega) (by omega)) ?_
  rw [q_upI_nea (by omega), p7]
  refine q_iast d_Model_join_47 (hL.2 22 _ _ _ rfl).2 (by first | assumption | exact vp_in_nI (by omega) (by omega)) ?_
  obtain ⟨I1, hI1⟩ : ∃ I1, I1 = q_upI (q_upI I (m + 16) (nI k) p.lo) (m + 17) (nI k) p.hi := ⟨_, rfl⟩
  rw [← hI1]
  have o1 : ∀ b, b ≠ m + 16 → b ≠ m + 17 → I1 b = I b := fun b b1 b2 => by rw [hI1]; funext j; rw [q_upI_nea b2, q_upI_nea b1]
  obtain ⟨f', hf'⟩ : ∃ f' : KF, f' = (f.1, f.2.1, p.lo, p.hi, f.2.2.2.2) := ⟨_, rfl⟩
  have hM1 : k_mw m (M.set k f') I1 := by
    rw [hf']
    refine hM.set hf (by rw [o1 m (by omega) (by omega)]) ⟨by rw [o1 (m + 14) (by omega) (by omega)]; exact w1, by rw [o1 (m + 15) (by omega) (by omega)]; exact w2, ?_, ?_⟩ (fun j i j1 j2 hi hik => ?_)
    · rw [hI1, q_upI_nea (by omega), q_upI_self]
    · rw [hI1, q_upI_self]
    · rw [hI1, q_upI_nk (by omega), q_upI_nk (by omega)]
  have hs' : f'.2.2.2.2 = f.2.2.2.2 := by rw [hf']
  have y1 : m_x m (M.set k f') X I1 := h.set hf hs' hM1 (fun j j1 j2 j3 => o1 _ (by omega) (by omega)) (by rw [o1 m (by omega) (by omega)]) (by rw [o1 m (by omega) (by omega)])
  have n1 := k_nds_set hn hf hs'
  rw [← hf']
  have hl1 : (M.set k f').length = M.length := List.length_set
  have hf2 : (M.set k f')[k]? = some f' := by rw [List.getElem?_set, if_pos rfl, if_pos hkl]
  obtain ⟨-, -, v3, v4⟩ := hM1.2.2 k f' hf2
  have v3 : I1 (m + 16) (nI k) = p.lo := by rw [v3, hf']
  have v4 : I1 (m + 17) (nI k) = p.hi := by rw [v4, hf']
  refine q_aload_n d_Model_join_48 rfl rfl ?_
  refine q_getI (ci := 11) (fk := 27) d_Model_join_49 rfl (Nat.le_of_ble_eq_true rfl) w_1131 (fun _ _ => rfl) hL.1 ?_
  rw [y1.2.2.2.1]
  refine q_iconst (v := nI 1) d_Model_join_52 (by decide) ?_
  refine q_icmp_ne (tgt := 142) d_Model_join_53 rfl (fun hc => ?_) (fun hc => ?_)
  · exact absurd rfl hc
  refine q_aload_n d_Model_join_56 rfl rfl ?_
  refine q_getR (ci := 11) (fk := 23) d_Model_join_57 rfl (Nat.le_of_ble_eq_true rfl) w_1127 (fun _ _ => rfl) hL.1 (hL.2 23 _ _ _ rfl).1 ?_
  refine q_bipush (v := nI 7) d_Model_join_60 (by decide) ?_
  refine q_iload_n d_Model_join_62 rfl rfl ?_
  first | refine q_imulN d_Model_join_63 ?_ | refine q_imul d_Model_join_63 ?_
  refine q_iconst (v := nI 1) d_Model_join_64 (by decide) ?_
  first | refine q_iaddN d_Model_join_65 ?_ | refine q_iadd d_Model_join_65 ?_
  refine q_iald d_Model_join_66 (hL.2 23 _ _ _ rfl).2 (by first | assumption | exact vp_in_nI (by omega) (by omega)) ?_
  rw [o1 (m + 18) (by omega) (by omega), hx1]
  refine q_i2l d_Model_join_67 rfl ?_
  refine q_iload_n d_Model_join_68 rfl rfl ?_
  refine q_i2l d_Model_join_69 rfl ?_
  refine q_lmul d_Model_join_70 ?_
  refine q_aload_n d_Model_join_71 rfl rfl ?_
  refine q_getR (ci := 11) (fk := 23) d_Model_join_72 rfl (Nat.le_of_ble_eq_true rfl) w_1127 (fun _ _ => rfl) hL.1 (hL.2 23 _ _ _ rfl).1 ?_
  refine q_bipush (v := nI 7) d_Model_join_75 (by decide) ?_
  refine q_iload_n d_Model_join_77 rfl rfl ?_
  first | refine q_imulN d_Model_join_78 ?_ | refine q_imul d_Model_join_78 ?_
  refine q_iconst (v := nI 1) d_Model_join_79 (by decide) ?_
  first | refine q_iaddN d_Model_join_80 ?_ | refine q_iadd d_Model_join_80 ?_
  refine q_iald d_Model_join_81 (hL.2 23 _ _ _ rfl).2 (by first | assumption | exact vp_in_nI (by omega) (by omega)) ?_
  rw [o1 (m + 18) (by omega) (by omega), hy1]
  refine q_i2l d_Model_join_82 rfl ?_
  refine q_ladd d_Model_join_83 ?_
  refine q_lstore d_Model_join_84 (Nat.le_of_ble_eq_true rfl) (by first | exact q_ok0 | exact q_okI rfl | exact q_okR rfl | exact q_okN rfl) rfl ?_
  obtain ⟨W, hW⟩ : ∃ W, W = x.toInt64 * p.a.toInt64 + y.toInt64 := ⟨_, rfl⟩
  have hWt : W.toInt = a_whl p X := by
    rw [hW, z_whl]
    unfold a_whl
    rw [hx, hy]; rfl
  rw [← hW]
  have fin : ∀ (b : Bool) (mcc msc : Nat), mcc = 0 → msc = 0 → b = (t_joi p X).2.2 → q_V g M_Model_join 0 0 mcc msc (sz, T, I1, R, J) (fun o h' => o = .inl none ∧ ∃ I' : q_I, h' = (sz, T, I', R, J) ∧ m_xf m I I' ∧ m_x m (k_goL (M.set k f') r) (t_joi p X) I') 125 [some (.ref m), some (.int (nI k)), some (.int (nI r)), some (.int p.a), some (.int (nI q)), some (.int tk), some (.int tr), some (.long W), none] [.int (p_b b), .ref m] := by
    intro b mcc msc m1 m2 hb
    subst m1 m2
    have hb1 : narrow (q_ty 11 28) (Value.int (p_b b)) = Value.int (p_b b) := by cases b <;> rfl
    have hb2 : fits (q_ty 11 28) (Value.int (p_b b)) = true := by cases b <;> rfl
    refine q_putI (ci := 11) (fk := 28) d_Model_join_125 rfl (Nat.le_of_ble_eq_true rfl) w_1132 (Or.inl rfl) (fun _ _ => rfl) (by first | rfl | decide | assumption) (by first | rfl | decide | assumption) hL.1 ?_
    refine q_aload_n d_Model_join_128 rfl rfl ?_
    refine q_getR (ci := 11) (fk := 23) d_Model_join_129 rfl (Nat.le_of_ble_eq_true rfl) w_1127 (fun _ _ => rfl) hL.1 (hL.2 23 _ _ _ rfl).1 ?_
    refine q_bipush (v := nI 7) d_Model_join_132 (by decide) ?_
    refine q_iload_n d_Model_join_134 rfl rfl ?_
    first | refine q_imulN d_Model_join_135 ?_ | refine q_imul d_Model_join_135 ?_
    refine q_iconst (v := nI 1) d_Model_join_136 (by decide) ?_
    first | refine q_iaddN d_Model_join_137 ?_ | refine q_iadd d_Model_join_137 ?_
    refine q_lload d_Model_join_138 rfl ?_
    refine q_l2i d_Model_join_140 rfl ?_
    rw [z_l2i, hWt]
    refine q_iast d_Model_join_141 (hL.2 23 _ _ _ rfl).2 (by first | assumption | exact vp_in_nI (by omega) (by omega)) ?_
    obtain ⟨I2, hI2⟩ : ∃ I2, I2 = q_upI I1 m (nI 28) (p_b b) := ⟨_, rfl⟩
    rw [← hI2]
    have o2 : ∀ b, b ≠ m → I2 b = I1 b := fun b' hb => by rw [hI2]; funext z; rw [q_upI_nea hb]
    have o2m : ∀ j, j < 39 → j ≠ 28 → I2 m (nI j) = I1 m (nI j) := fun j j1 j2 => by rw [hI2, q_upI_nk (by omega)]
    have y2 : m_x m (M.set k f') (X.1, X.2.1, (t_joi p X).2.2) I2 := by
      obtain ⟨a1, a2, a3, a4, a5⟩ := y1
      exact ⟨a1.cong (o2m 18 (by omega) (by omega)) (fun j j1 j2 => o2 _ (by omega)), a2.cong (o2 _ (by omega)), a3.cong (o2 _ (by omega)) (o2 _ (by omega)), (o2m 27 (by omega) (by omega)).trans a4, by rw [hI2, q_upI_self, hb]⟩
    have hr3 : k_rw (I2 (m + 18)) (7 * k) [x] := by
      rw [o2 _ (by omega), o1 _ (by omega) (by omega), ← hx]; exact hr
    have y3 := y2.rs (I' := q_upI I2 (m + 18) (nI (7 * k + 1)) (Int32.ofInt (a_whl p X))) n1 hf2 (fun b hb => by funext z; rw [q_upI_nea hb]) (fun j j1 j2 => by rw [q_upI_nk (by omega)]) (k_rw_one hr3 (by omega))
    obtain ⟨I3, hI3⟩ : ∃ I3, I3 = q_upI I2 (m + 18) (nI (7 * k + 1)) (Int32.ofInt (a_whl p X)) := ⟨_, rfl⟩
    rw [← hI3] at y3 ⊢
    have o3 : ∀ b, b ≠ m + 18 → I3 b = I2 b := fun b hb => by rw [hI3]; funext z; rw [q_upI_nea hb]
    have y4 : m_x m (M.set k f') (t_joi p X) I3 := by
      rw [hs', hfs] at y3
      exact y3
    refine q_aload_n d_Model_join_142 rfl rfl ?_
    refine q_getI (ci := 11) (fk := 27) d_Model_join_143 rfl (Nat.le_of_ble_eq_true rfl) w_1131 (fun _ _ => rfl) hL.1 ?_
    rw [y4.2.2.2.1]
    refine q_iconst (v := nI 2) d_Model_join_146 (by decide) ?_
    refine q_icmp_ne (tgt := 295) d_Model_join_147 rfl (fun hc => ?_) (fun hc => ?_)
    rotate_left
    · exact absurd hc (by decide)
    refine q_aload_n d_Model_join_295 rfl rfl ?_
    refine q_iload_n d_Model_join_296 rfl rfl ?_
    refine q_callVv (M2 := M_Model_go) d_Model_join_297 ⟨(Nat.le_of_ble_eq_true rfl), (Nat.le_of_ble_eq_true rfl), w_1333, w_10, ⟨by decide, by decide⟩, show _ = some 1 by decide +kernel⟩ w_1330 w_1332 (ci := 11) rfl s_64 hL.1 rfl (Nat.le_of_ble_eq_true rfl) (by omega) (by omega) (c_Model_go hL y4.1 (by rw [hl1]; exact hrl)) ?_
    rintro _ ⟨I4, rfl, k1, k2⟩
    refine q_vret d_Model_join_300 rfl (by omega) (by omega) ?_
    refine ⟨rfl, I4, rfl, ?_, y4.go (by rw [hl1]; exact hrl) k1 k2⟩
    refine m_xf.trans ?_ k1.xf
    refine ⟨fun b b1 b2 => ?_, fun i i1 i2 => ?_⟩
    · rw [o3 b (by omega), o2 b b1, o1 b (by omega) (by omega)]
    · rw [o3 m (by omega), hI2, q_upI_nei i2, o1 m (by omega) (by omega)]
  have e5 := y1.2.2.2.2
  refine q_aload_n d_Model_join_86 rfl rfl ?_
  refine q_aload_n d_Model_join_87 rfl rfl ?_
  refine q_getI (ci := 11) (fk := 28) d_Model_join_88 rfl (Nat.le_of_ble_eq_true rfl) w_1132 (fun _ _ => rfl) hL.1 ?_
  rw [e5]
  have hj : (t_joi p X).2.2 = (X.2.2 || !decide (p.lo.toInt ≤ W.toInt ∧ W.toInt ≤ p.hi.toInt)) := by rw [hWt]; rfl
  cases hcan : X.2.2 with
  | true =>
    refine q_if_ne (tgt := 120) d_Model_join_91 rfl (fun hc => ?_) (fun hc => ?_)
    rotate_left
    · exact absurd hc (by decide)
    refine q_iconst (v := nI 1) d_Model_join_120 (by decide) ?_
    refine q_goto (tgt := 125) d_Model_join_121 rfl ?_
    exact fin true _ _ rfl rfl (by rw [hj, hcan]; rfl)
  | false =>
    rw [hcan, Bool.false_or] at hj
    refine q_if_ne (tgt := 120) d_Model_join_91 rfl (fun hc => ?_) (fun hc => ?_)
    · exact absurd rfl hc
    refine q_lload d_Model_join_94 rfl ?_
    refine q_aload_n d_Model_join_96 rfl rfl ?_
    refine q_getR (ci := 11) (fk := 21) d_Model_join_97 rfl (Nat.le_of_ble_eq_true rfl) w_1125 (fun _ _ => rfl) hL.1 (hL.2 21 _ _ _ rfl).1 ?_
    refine q_iload_n d_Model_join_100 rfl rfl ?_
    refine q_iald d_Model_join_101 (hL.2 21 _ _ _ rfl).2 (by first | assumption | exact vp_in_nI (by omega) (by omega)) ?_
    rw [v3]
    refine q_i2l d_Model_join_102 rfl ?_
    refine q_lcmp d_Model_join_103 ?_
    refine q_if_lt (tgt := 120) d_Model_join_104 rfl (fun hc => ?_) (fun hc => ?_)
    · have h1 := Int64.lt_iff_toInt_lt.mp ((lg_cmp_lt _ _).mp hc)
      rw [z_i64] at h1
      refine q_iconst (v := nI 1) d_Model_join_120 (by decide) ?_
      refine q_goto (tgt := 125) d_Model_join_121 rfl ?_
      exact fin true _ _ rfl rfl (by rw [hj, decide_eq_false (fun z => by omega)]; rfl)
    · have h1 : ¬ W < p.lo.toInt64 := fun z => hc ((lg_cmp_lt _ _).mpr z)
      rw [Int64.lt_iff_toInt_lt, z_i64] at h1
      refine q_lload d_Model_join_107 rfl ?_
      refine q_aload_n d_Model_join_109 rfl rfl ?_
      refine q_getR (ci := 11) (fk := 22) d_Model_join_110 rfl (Nat.le_of_ble_eq_true rfl) w_1126 (fun _ _ => rfl) hL.1 (hL.2 22 _ _ _ rfl).1 ?_
      refine q_iload_n d_Model_join_113 rfl rfl ?_
      refine q_iald d_Model_join_114 (hL.2 22 _ _ _ rfl).2 (by first | assumption | exact vp_in_nI (by omega) (by omega)) ?_
      rw [v4]
      refine q_i2l d_Model_join_115 rfl ?_
      refine q_lcmp d_Model_join_116 ?_
      refine q_if_le (tgt := 124) d_Model_join_117 rfl (fun hc => ?_) (fun hc => ?_)
      · have h2 : ¬ p.hi.toInt64 < W := fun z => absurd hc (by have := (lg_cmp_gt _ _).mpr z; exact Int32.not_le.mpr this)
        rw [Int64.lt_iff_toInt_lt, z_i64] at h2
        refine q_iconst (v := nI 0) d_Model_join_124 (by decide) ?_
        exact fin false _ _ rfl rfl (by rw [hj, decide_eq_true (by omega)]; rfl)
      · have h2 : p.hi.toInt64 < W := (lg_cmp_gt _ _).mp (Int32.not_le.mp hc)
        rw [Int64.lt_iff_toInt_lt, z_i64] at h2
        refine q_iconst (v := nI 1) d_Model_join_120 (by decide) ?_
        refine q_goto (tgt := 125) d_Model_join_121 rfl ?_
        exact fin true _ _ rfl rfl (by rw [hj, decide_eq_false (fun z => by omega)]; rfl)
end MSpl
