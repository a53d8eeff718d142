/-! put, same, count -/
abbrev M_Lens_count : q_M := (⟨"LensPaths", "count", "(I)I"⟩, prog_1_method_8_code, 2, (some .int), "LensPaths", [], false, 6, 90)
theorem d_Lens_count_0 : decode prog_1_method_8_code 0 = .ok (.iload_n 1, 1) := by decide +kernel
theorem d_Lens_count_1 : decode prog_1_method_8_code 1 = .ok (.tableswitch 74 0 3 #[31, 39, 47, 52], 31) := by decide +kernel
theorem d_Lens_count_32 : decode prog_1_method_8_code 32 = .ok (.aload_n 0, 1) := by decide +kernel
theorem d_Lens_count_33 : decode prog_1_method_8_code 33 = .ok (.getfield 12, 3) := by decide +kernel
theorem d_Lens_count_36 : decode prog_1_method_8_code 36 = .ok (.getfield 113, 3) := by decide +kernel
theorem d_Lens_count_39 : decode prog_1_method_8_code 39 = .ok (.ireturn, 1) := by decide +kernel
theorem d_Lens_count_40 : decode prog_1_method_8_code 40 = .ok (.aload_n 0, 1) := by decide +kernel
theorem d_Lens_count_41 : decode prog_1_method_8_code 41 = .ok (.getfield 12, 3) := by decide +kernel
theorem d_Lens_count_44 : decode prog_1_method_8_code 44 = .ok (.getfield 114, 3) := by decide +kernel
theorem d_Lens_count_47 : decode prog_1_method_8_code 47 = .ok (.ireturn, 1) := by decide +kernel
theorem d_Lens_count_48 : decode prog_1_method_8_code 48 = .ok (.aload_n 0, 1) := by decide +kernel
theorem d_Lens_count_49 : decode prog_1_method_8_code 49 = .ok (.invokevirtual 149, 3) := by decide +kernel
theorem d_Lens_count_52 : decode prog_1_method_8_code 52 = .ok (.ireturn, 1) := by decide +kernel
theorem d_Lens_count_53 : decode prog_1_method_8_code 53 = .ok (.aload_n 0, 1) := by decide +kernel
theorem d_Lens_count_54 : decode prog_1_method_8_code 54 = .ok (.getfield 19, 3) := by decide +kernel
theorem d_Lens_count_57 : decode prog_1_method_8_code 57 = .ok (.getfield 90, 3) := by decide +kernel
theorem d_Lens_count_60 : decode prog_1_method_8_code 60 = .ok (.ifCond .eq 13, 3) := by decide +kernel
theorem d_Lens_count_63 : decode prog_1_method_8_code 63 = .ok (.aload_n 0, 1) := by decide +kernel
theorem d_Lens_count_64 : decode prog_1_method_8_code 64 = .ok (.getfield 19, 3) := by decide +kernel
theorem d_Lens_count_67 : decode prog_1_method_8_code 67 = .ok (.getfield 97, 3) := by decide +kernel
theorem d_Lens_count_70 : decode prog_1_method_8_code 70 = .ok (.goto 4, 3) := by decide +kernel
theorem d_Lens_count_73 : decode prog_1_method_8_code 73 = .ok (.iconst (-1), 1) := by decide +kernel
theorem d_Lens_count_74 : decode prog_1_method_8_code 74 = .ok (.ireturn, 1) := by decide +kernel
theorem d_Lens_count_75 : decode prog_1_method_8_code 75 = .ok (.new 79, 3) := by decide +kernel
theorem d_Lens_count_78 : decode prog_1_method_8_code 78 = .ok (.dup, 1) := by decide +kernel
theorem d_Lens_count_79 : decode prog_1_method_8_code 79 = .ok (.invokespecial 81, 3) := by decide +kernel
theorem d_Lens_count_82 : decode prog_1_method_8_code 82 = .ok (.athrow, 1) := by decide +kernel
section CPub4
variable {g : q_G} {sz x : Nat} {T : q_T} {I : q_I} {R : q_R} {J : q_J} {S : KA}
/-- the list with the number at the place -/
def a_put (v : List Int32) (n : Nat) (y : Int32) : List Int32 := if n = v.length then v ++ [y] else v.set n y
theorem a_put_len {v : List Int32} {n : Nat} {y : Int32} (hn : n ≤ v.length) : (a_put v n y).length = if n = v.length then n + 1 else v.length := by
  unfold a_put
  by_cases h : n = v.length
  · rw [if_pos h, if_pos h, List.length_append, h]; rfl
  · rw [if_neg h, if_neg h, List.length_set]
theorem a_put_at {v : List Int32} {n : Nat} {y : Int32} (hn : n ≤ v.length) (j : Nat) : (a_put v n y)[j]? = if j = n then some y else v[j]? := by
  unfold a_put
  by_cases h : n = v.length
  · rw [if_pos h]
    by_cases hj : j = n
    · rw [if_pos hj, hj, h, List.getElem?_append_right (Nat.le_refl _), Nat.sub_self]; rfl
    · rw [if_neg hj]
      by_cases hj2 : j < v.length
      · rw [List.getElem?_append_left hj2]
      · rw [List.getElem?_eq_none (by rw [List.length_append]; show v.length + 1 ≤ j; omega), List.getElem?_eq_none (by omega)]
  · rw [if_neg h, List.getElem?_set]
    by_cases hj : j = n
    · rw [if_pos hj, if_pos hj.symm, if_pos (by omega)]
    · rw [if_neg hj, if_neg (fun z => hj z.symm)]

theorem c_Lens_put_no (hC : relC S x sz T I R) {v p n y : Int32} (hb : k_ish S.lv v = false) : q_C g M_Lens_put [.ref x, .int v, .int p, .int n, .int y] (sz, T, I, R, J) 1000 14000 (q_Xi [2, 1] (c_sp x sz T I R J (nI 1, 0, S))) := by
  have hL := hC.1.1
  refine q_C.of (ls0 := [some (.ref x), some (.int v), some (.int p), some (.int n), some (.int y), none, none, none]) (by decide) rfl (by decide) (Nat.le_of_ble_eq_true rfl) rfl ?_
  refine q_aload_n d_Lens_put_0 rfl rfl ?_
  refine q_iload_n d_Lens_put_1 rfl rfl ?_
  refine q_callV (M2 := M_Lens_needHandle) d_Lens_put_2 ⟨(Nat.le_of_ble_eq_true rfl), (Nat.le_of_ble_eq_true rfl), w_747, w_1, ⟨by decide, by decide⟩, show _ = some 1 by decide +kernel⟩ w_744 w_746 (ci := 10) rfl s_18 hL.1 rfl (Nat.le_of_ble_eq_true rfl) (by omega) (by omega) (c_needHandle_no hC hb) (fun v h' z => ?_) (fun z9 h' z => ?_)
  · cases z.1
  · obtain ⟨e9, rfl⟩ := z
    cases e9
    exact q_VX.out (by decide) (by omega) (by omega) (c_xi_no hC rfl)

theorem c_Lens_put_no2 (hw : wf S) (hC : relC S x sz T I R) {i : Nat} {c : KR} {L : List KF} {p n y : Int32} (hi : i < 16) (hc : S.rs i = some c) (hb : k_ish S.lv (nI i) = true) (hV : S.vs[c.ver]? = some L) (hp : a_pl L p 1 = none) : q_C g M_Lens_put [.ref x, .int (nI i), .int p, .int n, .int y] (sz, T, I, R, J) 1000 14000 (q_Xi [2, 1] (c_sp x sz T I R J (nI 2, 0, S))) := by
  obtain ⟨r, s, w, L2, e1, e2, e3, e4, e5, e6, e7, e8, e9, e10, e11⟩ := relC.of hw hC hi hc
  obtain rfl : L = L2 := Option.some.inj (hV.symm.trans e1)
  have hL := hC.1.1
  have hr0 := (r_T0 e7).1
  have hr1 := (e7.1.2 2 _ _ _ rfl).1
  have hr2 := (r_T0 e7).2.1
  refine q_C.of (ls0 := [some (.ref x), some (.int (nI i)), some (.int p), some (.int n), some (.int y), none, none, none]) (by decide) rfl (by decide) (Nat.le_of_ble_eq_true rfl) rfl ?_
  refine q_aload_n d_Lens_put_0 rfl rfl ?_
  refine q_iload_n d_Lens_put_1 rfl rfl ?_
  refine q_callVv (M2 := M_Lens_needHandle) d_Lens_put_2 ⟨(Nat.le_of_ble_eq_true rfl), (Nat.le_of_ble_eq_true rfl), w_747, w_1, ⟨by decide, by decide⟩, show _ = some 1 by decide +kernel⟩ w_744 w_746 (ci := 10) rfl s_18 hL.1 rfl (Nat.le_of_ble_eq_true rfl) (by omega) (by omega) (c_needHandle_ok hC hb) ?_
  rintro _ rfl
  refine q_aload_n d_Lens_put_5 rfl rfl ?_
  refine q_iload_n d_Lens_put_6 rfl rfl ?_
  refine q_iload_n d_Lens_put_7 rfl rfl ?_
  refine q_iconst (v := nI 1) d_Lens_put_8 (by decide) ?_
  refine q_callV (M2 := M_Lens_placeOf) d_Lens_put_9 ⟨(Nat.le_of_ble_eq_true rfl), (Nat.le_of_ble_eq_true rfl), w_777, w_1, ⟨by decide, by decide⟩, show _ = some 3 by decide +kernel⟩ w_774 w_776 (ci := 10) rfl s_19 hL.1 rfl (Nat.le_of_ble_eq_true rfl) (by omega) (by omega) (c_placeOf_no (so := nI 1) hC hi e6 hr0 e8.1 e3 e9 e10 e2.1.2.1 hp) (fun v h' z => ?_) (fun z9 h' z => ?_)
  · cases z.1
  · obtain ⟨e9, rfl⟩ := z
    cases e9
    exact q_VX.out (by decide) (by omega) (by omega) (c_xi_no hC rfl)

theorem c_Lens_put_no3 (hw : wf S) (hC : relC S x sz T I R) {i k : Nat} {c : KR} {L : List KF} {p n y : Int32} (hi : i < 16) (hc : S.rs i = some c) (hb : k_ish S.lv (nI i) = true) (hV : S.vs[c.ver]? = some L) (hp : a_pl L p 1 = some k) {v : List Int32} (hv : c.val[k]? = some v) (hn : n < 0 ∨ nI v.length < n ∨ nI 6 ≤ n) : q_C g M_Lens_put [.ref x, .int (nI i), .int p, .int n, .int y] (sz, T, I, R, J) 1000 14000 (q_Xi [2, 1] (c_sp x sz T I R J (nI 2, 0, S))) := by
  obtain ⟨r, s, w, L2, e1, e2, e3, e4, e5, e6, e7, e8, e9, e10, e11⟩ := relC.of hw hC hi hc
  obtain rfl : L = L2 := Option.some.inj (hV.symm.trans e1)
  have hL := hC.1.1
  have hr0 := (r_T0 e7).1
  have hr1 := (e7.1.2 2 _ _ _ rfl).1
  have hr2 := (r_T0 e7).2.1
  have hk : k < 24 := by have := (List.getElem?_eq_some_iff.mp hv).1; have := e2.1.1; omega
  have hw1 := e8.2.1 k _ hv
  have hw6 := hw1.1
  refine q_C.of (ls0 := [some (.ref x), some (.int (nI i)), some (.int p), some (.int n), some (.int y), none, none, none]) (by decide) rfl (by decide) (Nat.le_of_ble_eq_true rfl) rfl ?_
  refine q_aload_n d_Lens_put_0 rfl rfl ?_
  refine q_iload_n d_Lens_put_1 rfl rfl ?_
  refine q_callVv (M2 := M_Lens_needHandle) d_Lens_put_2 ⟨(Nat.le_of_ble_eq_true rfl), (Nat.le_of_ble_eq_true rfl), w_747, w_1, ⟨by decide, by decide⟩, show _ = some 1 by decide +kernel⟩ w_744 w_746 (ci := 10) rfl s_18 hL.1 rfl (Nat.le_of_ble_eq_true rfl) (by omega) (by omega) (c_needHandle_ok hC hb) ?_
  rintro _ rfl
  refine q_aload_n d_Lens_put_5 rfl rfl ?_
  refine q_iload_n d_Lens_put_6 rfl rfl ?_
  refine q_iload_n d_Lens_put_7 rfl rfl ?_
  refine q_iconst (v := nI 1) d_Lens_put_8 (by decide) ?_
  refine q_callVi (M2 := M_Lens_placeOf) d_Lens_put_9 ⟨(Nat.le_of_ble_eq_true rfl), (Nat.le_of_ble_eq_true rfl), w_777, w_1, ⟨by decide, by decide⟩, show _ = some 3 by decide +kernel⟩ w_774 w_776 (ci := 10) rfl s_19 hL.1 rfl (Nat.le_of_ble_eq_true rfl) (by omega) (by omega) (c_placeOf_ok (so := nI 1) hC hi e6 hr0 e8.1 e3 e9 e10 e2.1.2.1 hp) ?_
  rintro _ _ ⟨rfl, rfl⟩
  have fin : ∀ (mcc msc : Nat) (st7 : Option Value), mcc ≤ 10 → msc ≤ 100 → q_V g M_Lens_put 1000 14000 mcc msc (sz, T, I, R, J) (q_Xi [2, 1] (c_sp x sz T I R J (nI 2, 0, S))) 50 [some (.ref x), some (.int (nI i)), some (.int p), some (.int n), some (.int y), some (.int (nI k)), some (.ref (r + 1)), none] [] := by
    intro mcc msc st7 hm1 hm2
    refine q_iconst (v := nI 0) d_Lens_put_50 (by decide) ?_
    refine q_istore d_Lens_put_51 (Nat.le_of_ble_eq_true rfl) (by first | exact q_ok0 | exact q_okI rfl | exact q_okR rfl | exact q_okN rfl) rfl ?_
    refine q_iload d_Lens_put_53 rfl ?_
    refine q_if_eq (tgt := 77) d_Lens_put_55 rfl (fun hc => ?_) (fun hc => ?_)
    · refine q_throw (x := 1) d_Lens_put_77 d_Lens_put_80 d_Lens_put_81 d_Lens_put_84 (by decide +kernel) x_nmf (Nat.le_of_ble_eq_true rfl) (Nat.le_of_ble_eq_true rfl) (Nat.le_of_ble_eq_true rfl) w_396 w_16 x_at1 rfl (Nat.le_of_ble_eq_true rfl) (by omega) (by omega) ?_
      exact c_xi_no hC rfl
    · exact absurd rfl hc
  refine q_istore d_Lens_put_12 (Nat.le_of_ble_eq_true rfl) (by first | exact q_ok0 | exact q_okI rfl | exact q_okR rfl | exact q_okN rfl) rfl ?_
  refine q_aload_n d_Lens_put_14 rfl rfl ?_
  refine q_getR (ci := 10) (fk := 2) d_Lens_put_15 rfl (Nat.le_of_ble_eq_true rfl) w_274 (fun _ _ => rfl) hL.1 (hL.2 2 _ _ _ rfl).1 ?_
  refine q_iload_n d_Lens_put_18 rfl rfl ?_
  refine q_aaldR (kd := _) d_Lens_put_19 rfl (Nat.le_of_ble_eq_true rfl) (Nat.le_of_ble_eq_true rfl) (hL.2 2 _ _ _ rfl).2 (by first | assumption | exact vp_in_nI (by omega) (by omega)) (by first | assumption | rfl | (simp (disch := omega) only [q_upT_self, q_upT_ne, q_upR_self, q_upR_nea, q_upR_nk, q_upT_at, *]; done) | (simp (disch := omega) only [q_upT_self, q_upT_ne, q_upR_self, q_upR_nea, q_upR_nk, q_upT_at, *]; rfl)) ?_
  refine q_getR (ci := 5) (fk := 2) d_Lens_put_20 rfl (Nat.le_of_ble_eq_true rfl) w_198 (fun _ _ => rfl) (by first | assumption | rfl | (simp (disch := omega) only [q_upT_self, q_upT_ne, q_upR_self, q_upR_nea, q_upR_nk, q_upT_at, *]; done) | (simp (disch := omega) only [q_upT_self, q_upT_ne, q_upR_self, q_upR_nea, q_upR_nk, q_upT_at, *]; rfl)) (by first | assumption | rfl | (simp (disch := omega) only [q_upT_self, q_upT_ne, q_upR_self, q_upR_nea, q_upR_nk, q_upT_at, *]; done) | (simp (disch := omega) only [q_upT_self, q_upT_ne, q_upR_self, q_upR_nea, q_upR_nk, q_upT_at, *]; rfl)) ?_
  refine q_astore d_Lens_put_23 (Nat.le_of_ble_eq_true rfl) (by first | exact q_ok0 | exact q_okI rfl | exact q_okR rfl | exact q_okN rfl) rfl ?_
  refine q_iload_n d_Lens_put_25 rfl rfl ?_
  refine q_if_lt (tgt := 50) d_Lens_put_26 rfl (fun hc => ?_) (fun hc => ?_)
  · exact fin _ _ none (by omega) (by omega)
  · have h9 := hc
    refine q_iload_n d_Lens_put_29 rfl rfl ?_
    refine q_aload d_Lens_put_30 rfl ?_
    refine q_iload d_Lens_put_32 rfl ?_
    refine q_callVi (M2 := M_Cells_lengthOf) d_Lens_put_34 ⟨(Nat.le_of_ble_eq_true rfl), (Nat.le_of_ble_eq_true rfl), w_794, w_7, ⟨by decide, by decide⟩, show _ = some 1 by decide +kernel⟩ w_791 w_792 (ci := 1) rfl w_793 (by first | assumption | rfl | (simp (disch := omega) only [q_upT_self, q_upT_ne, q_upR_self, q_upR_nea, q_upR_nk, q_upT_at, *]; done) | (simp (disch := omega) only [q_upT_self, q_upT_ne, q_upR_self, q_upR_nea, q_upR_nk, q_upT_at, *]; rfl)) rfl (Nat.le_of_ble_eq_true rfl) (by omega) (by omega) (c_Cells_lengthOf e7.2.1 (by decide) (by omega)) ?_
    rintro _ _ ⟨rfl, rfl⟩
    rw [show r + 1 + 1 = r + 2 from rfl, hw1.2.1]
    refine q_icmp_gt (tgt := 50) d_Lens_put_37 rfl (fun hc => ?_) (fun hc => ?_)
    · exact fin _ _ none (by omega) (by omega)
    · have h8 := hc
      refine q_iload_n d_Lens_put_40 rfl rfl ?_
      refine q_bipush (v := nI 6) d_Lens_put_41 (by decide) ?_
      refine q_icmp_ge (tgt := 50) d_Lens_put_43 rfl (fun hc => ?_) (fun hc => ?_)
      · exact fin _ _ none (by omega) (by omega)
      · rcases hn with hn | hn | hn
        · exact absurd hn h9
        · exact absurd hn h8
        · exact absurd hn hc

theorem c_Lens_put_no4 (hw : wf S) (hC : relC S x sz T I R) {i k : Nat} {c : KR} {L : List KF} {p y : Int32} (hi : i < 16) (hc : S.rs i = some c) (hb : k_ish S.lv (nI i) = true) (hV : S.vs[c.ver]? = some L) (hp : a_pl L p 1 = some k) {v : List Int32} (hv : c.val[k]? = some v) {f : KF} (hf : L[k]? = some f) {n : Nat} (hn : n ≤ v.length) (hn6 : n < 6) (hy : (decide (f.2.2.1 ≤ y) && decide (y ≤ f.2.2.2.1)) = false) : q_C g M_Lens_put [.ref x, .int (nI i), .int p, .int (nI n), .int y] (sz, T, I, R, J) 1000 14000 (q_Xi [2, 1] (c_sp x sz T I R J (nI 2, 0, S))) := by
  obtain ⟨r, s, w, L2, e1, e2, e3, e4, e5, e6, e7, e8, e9, e10, e11⟩ := relC.of hw hC hi hc
  obtain rfl : L = L2 := Option.some.inj (hV.symm.trans e1)
  have hL := hC.1.1
  have hr0 := (r_T0 e7).1
  have hr1 := (e7.1.2 2 _ _ _ rfl).1
  have hr2 := (r_T0 e7).2.1
  have hk : k < 24 := by have := (List.getElem?_eq_some_iff.mp hv).1; have := e2.1.1; omega
  have hw1 := e8.2.1 k _ hv
  have hw6 := hw1.1
  obtain ⟨g1, g2, g3, g4⟩ := e10.at hf
  have hs1 := e10.1.1.1
  have hs2 := (e10.1.1.2 0 _ _ _ rfl).1
  have hs3 := (e10.1.1.2 0 _ _ _ rfl).2
  refine q_C.of (ls0 := [some (.ref x), some (.int (nI i)), some (.int p), some (.int (nI n)), some (.int y), none, none, none]) (by decide) rfl (by decide) (Nat.le_of_ble_eq_true rfl) rfl ?_
  refine q_aload_n d_Lens_put_0 rfl rfl ?_
  refine q_iload_n d_Lens_put_1 rfl rfl ?_
  refine q_callVv (M2 := M_Lens_needHandle) d_Lens_put_2 ⟨(Nat.le_of_ble_eq_true rfl), (Nat.le_of_ble_eq_true rfl), w_747, w_1, ⟨by decide, by decide⟩, show _ = some 1 by decide +kernel⟩ w_744 w_746 (ci := 10) rfl s_18 hL.1 rfl (Nat.le_of_ble_eq_true rfl) (by omega) (by omega) (c_needHandle_ok hC hb) ?_
  rintro _ rfl
  refine q_aload_n d_Lens_put_5 rfl rfl ?_
  refine q_iload_n d_Lens_put_6 rfl rfl ?_
  refine q_iload_n d_Lens_put_7 rfl rfl ?_
  refine q_iconst (v := nI 1) d_Lens_put_8 (by decide) ?_
  refine q_callVi (M2 := M_Lens_placeOf) d_Lens_put_9 ⟨(Nat.le_of_ble_eq_true rfl), (Nat.le_of_ble_eq_true rfl), w_777, w_1, ⟨by decide, by decide⟩, show _ = some 3 by decide +kernel⟩ w_774 w_776 (ci := 10) rfl s_19 hL.1 rfl (Nat.le_of_ble_eq_true rfl) (by omega) (by omega) (c_placeOf_ok (so := nI 1) hC hi e6 hr0 e8.1 e3 e9 e10 e2.1.2.1 hp) ?_
  rintro _ _ ⟨rfl, rfl⟩
  refine q_istore d_Lens_put_12 (Nat.le_of_ble_eq_true rfl) (by first | exact q_ok0 | exact q_okI rfl | exact q_okR rfl | exact q_okN rfl) rfl ?_
  refine q_aload_n d_Lens_put_14 rfl rfl ?_
  refine q_getR (ci := 10) (fk := 2) d_Lens_put_15 rfl (Nat.le_of_ble_eq_true rfl) w_274 (fun _ _ => rfl) hL.1 (hL.2 2 _ _ _ rfl).1 ?_
  refine q_iload_n d_Lens_put_18 rfl rfl ?_
  refine q_aaldR (kd := _) d_Lens_put_19 rfl (Nat.le_of_ble_eq_true rfl) (Nat.le_of_ble_eq_true rfl) (hL.2 2 _ _ _ rfl).2 (by first | assumption | exact vp_in_nI (by omega) (by omega)) (by first | assumption | rfl | (simp (disch := omega) only [q_upT_self, q_upT_ne, q_upR_self, q_upR_nea, q_upR_nk, q_upT_at, *]; done) | (simp (disch := omega) only [q_upT_self, q_upT_ne, q_upR_self, q_upR_nea, q_upR_nk, q_upT_at, *]; rfl)) ?_
  refine q_getR (ci := 5) (fk := 2) d_Lens_put_20 rfl (Nat.le_of_ble_eq_true rfl) w_198 (fun _ _ => rfl) (by first | assumption | rfl | (simp (disch := omega) only [q_upT_self, q_upT_ne, q_upR_self, q_upR_nea, q_upR_nk, q_upT_at, *]; done) | (simp (disch := omega) only [q_upT_self, q_upT_ne, q_upR_self, q_upR_nea, q_upR_nk, q_upT_at, *]; rfl)) (by first | assumption | rfl | (simp (disch := omega) only [q_upT_self, q_upT_ne, q_upR_self, q_upR_nea, q_upR_nk, q_upT_at, *]; done) | (simp (disch := omega) only [q_upT_self, q_upT_ne, q_upR_self, q_upR_nea, q_upR_nk, q_upT_at, *]; rfl)) ?_
  refine q_astore d_Lens_put_23 (Nat.le_of_ble_eq_true rfl) (by first | exact q_ok0 | exact q_okI rfl | exact q_okR rfl | exact q_okN rfl) rfl ?_
  refine q_iload_n d_Lens_put_25 rfl rfl ?_
  refine q_if_lt (tgt := 50) d_Lens_put_26 rfl (fun hc => ?_) (fun hc => ?_)
  · exact absurd hc (nI_pos (by omega))
  refine q_iload_n d_Lens_put_29 rfl rfl ?_
  refine q_aload d_Lens_put_30 rfl ?_
  refine q_iload d_Lens_put_32 rfl ?_
  refine q_callVi (M2 := M_Cells_lengthOf) d_Lens_put_34 ⟨(Nat.le_of_ble_eq_true rfl), (Nat.le_of_ble_eq_true rfl), w_794, w_7, ⟨by decide, by decide⟩, show _ = some 1 by decide +kernel⟩ w_791 w_792 (ci := 1) rfl w_793 (by first | assumption | rfl | (simp (disch := omega) only [q_upT_self, q_upT_ne, q_upR_self, q_upR_nea, q_upR_nk, q_upT_at, *]; done) | (simp (disch := omega) only [q_upT_self, q_upT_ne, q_upR_self, q_upR_nea, q_upR_nk, q_upT_at, *]; rfl)) rfl (Nat.le_of_ble_eq_true rfl) (by omega) (by omega) (c_Cells_lengthOf e7.2.1 (by decide) (by omega)) ?_
  rintro _ _ ⟨rfl, rfl⟩
  rw [show r + 1 + 1 = r + 2 from rfl, hw1.2.1]
  refine q_icmp_gt (tgt := 50) d_Lens_put_37 rfl (fun hc => ?_) (fun hc => ?_)
  · exact absurd hc (by rw [Int32.not_lt, nI_leI (by omega) (by omega)]; exact hn)
  refine q_iload_n d_Lens_put_40 rfl rfl ?_
  refine q_bipush (v := nI 6) d_Lens_put_41 (by decide) ?_
  refine q_icmp_ge (tgt := 50) d_Lens_put_43 rfl (fun hc => ?_) (fun hc => ?_)
  · exact absurd hc (by rw [nI_leI (by omega) (by omega)]; omega)
  refine q_iconst (v := nI 1) d_Lens_put_46 (by decide) ?_
  refine q_goto (tgt := 51) d_Lens_put_47 rfl ?_
  refine q_istore d_Lens_put_51 (Nat.le_of_ble_eq_true rfl) (by first | exact q_ok0 | exact q_okI rfl | exact q_okR rfl | exact q_okN rfl) rfl ?_
  refine q_iload d_Lens_put_53 rfl ?_
  refine q_if_eq (tgt := 77) d_Lens_put_55 rfl (fun hc => ?_) (fun hc => ?_)
  · exact absurd hc (by decide)
  refine q_aload_n d_Lens_put_58 rfl rfl ?_
  refine q_iload_n d_Lens_put_59 rfl rfl ?_
  refine q_callVr (M2 := M_Lens_schemaOf) d_Lens_put_60 ⟨(Nat.le_of_ble_eq_true rfl), (Nat.le_of_ble_eq_true rfl), w_781, w_1, ⟨by decide, by decide⟩, show _ = some 1 by decide +kernel⟩ w_778 w_780 (ci := 10) rfl s_20 hL.1 rfl (Nat.le_of_ble_eq_true rfl) (by omega) (by omega) (c_Lens_schemaOf hL hC.1.2.1 hi e6 hr0 e8.1 e3 e9) ?_
  rintro _ _ ⟨rfl, rfl⟩
  refine q_getR (ci := 6) (fk := 0) d_Lens_put_63 rfl (Nat.le_of_ble_eq_true rfl) w_97 (fun _ _ => rfl) (by first | assumption | rfl | (simp (disch := omega) only [q_upT_self, q_upT_ne, q_upR_self, q_upR_nea, q_upR_nk, q_upT_at, *]; done) | (simp (disch := omega) only [q_upT_self, q_upT_ne, q_upR_self, q_upR_nea, q_upR_nk, q_upT_at, *]; rfl)) (by first | assumption | rfl | (simp (disch := omega) only [q_upT_self, q_upT_ne, q_upR_self, q_upR_nea, q_upR_nk, q_upT_at, *]; done) | (simp (disch := omega) only [q_upT_self, q_upT_ne, q_upR_self, q_upR_nea, q_upR_nk, q_upT_at, *]; rfl)) ?_
  refine q_iload d_Lens_put_66 rfl ?_
  refine q_aaldR (kd := _) d_Lens_put_68 rfl (Nat.le_of_ble_eq_true rfl) (Nat.le_of_ble_eq_true rfl) (by first | assumption | rfl | (simp (disch := omega) only [q_upT_self, q_upT_ne, q_upR_self, q_upR_nea, q_upR_nk, q_upT_at, *]; done) | (simp (disch := omega) only [q_upT_self, q_upT_ne, q_upR_self, q_upR_nea, q_upR_nk, q_upT_at, *]; rfl)) (by first | assumption | exact vp_in_nI (by omega) (by omega)) (by first | assumption | rfl | (simp (disch := omega) only [q_upT_self, q_upT_ne, q_upR_self, q_upR_nea, q_upR_nk, q_upT_at, *]; done) | (simp (disch := omega) only [q_upT_self, q_upT_ne, q_upR_self, q_upR_nea, q_upR_nk, q_upT_at, *]; rfl)) ?_
  refine q_iload d_Lens_put_69 rfl ?_
  refine q_callVi (M2 := M_Field_admits) d_Lens_put_71 ⟨(Nat.le_of_ble_eq_true rfl), (Nat.le_of_ble_eq_true rfl), w_599, w_4, ⟨by decide, by decide⟩, show _ = some 1 by decide +kernel⟩ w_782 w_597 (ci := 3) rfl w_598 (by first | assumption | rfl | (simp (disch := omega) only [q_upT_self, q_upT_ne, q_upR_self, q_upR_nea, q_upR_nk, q_upT_at, *]; done) | (simp (disch := omega) only [q_upT_self, q_upT_ne, q_upR_self, q_upR_nea, q_upR_nk, q_upT_at, *]; rfl)) rfl (Nat.le_of_ble_eq_true rfl) (by omega) (by omega) (c_Field_admits g3 g4 y) ?_
  rintro _ _ ⟨rfl, rfl⟩
  rw [hy]
  refine q_if_ne (tgt := 85) d_Lens_put_74 rfl (fun hc => ?_) (fun hc => ?_)
  · exact absurd rfl hc
  · refine q_throw (x := 1) d_Lens_put_77 d_Lens_put_80 d_Lens_put_81 d_Lens_put_84 (by decide +kernel) x_nmf (Nat.le_of_ble_eq_true rfl) (Nat.le_of_ble_eq_true rfl) (Nat.le_of_ble_eq_true rfl) w_396 w_16 x_at1 rfl (Nat.le_of_ble_eq_true rfl) (by omega) (by omega) ?_
    exact c_xi_no hC rfl

theorem c_Lens_put (hw : wf S) (hC : relC S x sz T I R) {i k : Nat} {c : KR} {L : List KF} {p y : Int32} (hi : i < 16) (hc : S.rs i = some c) (hb : k_ish S.lv (nI i) = true) (hV : S.vs[c.ver]? = some L) (hp : a_pl L p 1 = some k) {v : List Int32} (hv : c.val[k]? = some v) {f : KF} (hf : L[k]? = some f) {n : Nat} (hn : n ≤ v.length) (hn6 : n < 6) (hy : (decide (f.2.2.1 ≤ y) && decide (y ≤ f.2.2.2.1)) = true) : q_C g M_Lens_put [.ref x, .int (nI i), .int p, .int (nI n), .int y] (sz, T, I, R, J) 1000 14000 (q_Xi [2, 1] (c_sp x sz T I R J (0, nI (a_put v n y).length, S.setR i (some (c.setV k (a_put v n y)))))) := by
  obtain ⟨r, s, w, L2, e1, e2, e3, e4, e5, e6, e7, e8, e9, e10, e11⟩ := relC.of hw hC hi hc
  obtain rfl : L = L2 := Option.some.inj (hV.symm.trans e1)
  have hL := hC.1.1
  have hr0 := (r_T0 e7).1
  have hr1 := (e7.1.2 2 _ _ _ rfl).1
  have hr2 := (r_T0 e7).2.1
  have hk : k < 24 := by have := (List.getElem?_eq_some_iff.mp hv).1; have := e2.1.1; omega
  have hw1 := e8.2.1 k _ hv
  have hw6 := hw1.1
  obtain ⟨g1, g2, g3, g4⟩ := e10.at hf
  have hs1 := e10.1.1.1
  have hs2 := (e10.1.1.2 0 _ _ _ rfl).1
  have hs3 := (e10.1.1.2 0 _ _ _ rfl).2
  have hk2 := (List.getElem?_eq_some_iff.mp hv).1
  have fin : ∀ (mcc msc : Nat) (I2 : q_I), mcc ≤ 10 → msc ≤ 100 → (∀ b, b ≠ r + 2 → I2 b = I b) → (∀ j, j < 2 ^ 31 → j ≠ k * 7 → I2 (r + 2) (nI j) = I (r + 2) (nI j)) → I2 (r + 2) (nI (k * 7)) = nI (a_put v n y).length → q_V g M_Lens_put 1000 14000 mcc msc (sz, T, I2, R, J) (q_Xi [2, 1] (c_sp x sz T I R J (0, nI (a_put v n y).length, S.setR i (some (c.setV k (a_put v n y)))))) 106 [some (.ref x), some (.int (nI i)), some (.int p), some (.int (nI n)), some (.int y), some (.int (nI k)), some (.ref (r + 1)), some (.int (nI 1))] [] := by
    intro mcc msc I2 hm1 hm2 i1 i2 i3
    refine q_aload d_Lens_put_106 rfl ?_
    refine q_iload d_Lens_put_108 rfl ?_
    refine q_iload_n d_Lens_put_110 rfl rfl ?_
    refine q_iload d_Lens_put_111 rfl ?_
    refine q_callVv (M2 := M_Cells_write) d_Lens_put_113 ⟨(Nat.le_of_ble_eq_true rfl), (Nat.le_of_ble_eq_true rfl), w_799, w_7, ⟨by decide, by decide⟩, show _ = some 3 by decide +kernel⟩ w_796 w_797 (ci := 1) rfl w_798 (by first | assumption | rfl | (simp (disch := omega) only [q_upT_self, q_upT_ne, q_upR_self, q_upR_nea, q_upR_nk, q_upT_at, *]; done) | (simp (disch := omega) only [q_upT_self, q_upT_ne, q_upR_self, q_upR_nea, q_upR_nk, q_upT_at, *]; rfl)) rfl (Nat.le_of_ble_eq_true rfl) (by omega) (by omega) (c_Cells_write (i := n) e7.2.1 (by decide) (by omega) y) ?_
    rintro _ rfl
    refine q_aload d_Lens_put_116 rfl ?_
    refine q_iload d_Lens_put_118 rfl ?_
    refine q_callVi (M2 := M_Cells_lengthOf) d_Lens_put_120 ⟨(Nat.le_of_ble_eq_true rfl), (Nat.le_of_ble_eq_true rfl), w_794, w_7, ⟨by decide, by decide⟩, show _ = some 1 by decide +kernel⟩ w_791 w_792 (ci := 1) rfl w_793 (by first | assumption | rfl | (simp (disch := omega) only [q_upT_self, q_upT_ne, q_upR_self, q_upR_nea, q_upR_nk, q_upT_at, *]; done) | (simp (disch := omega) only [q_upT_self, q_upT_ne, q_upR_self, q_upR_nea, q_upR_nk, q_upT_at, *]; rfl)) rfl (Nat.le_of_ble_eq_true rfl) (by omega) (by omega) (c_Cells_lengthOf e7.2.1 (by decide) (by omega)) ?_
    rintro _ _ ⟨rfl, rfl⟩
    rw [show r + 1 + 1 = r + 2 from rfl, q_upI_nk (by omega), i3]
    refine q_iret d_Lens_put_123 rfl (by omega) (by omega) ?_
    have hl : (a_put v n y).length ≤ 6 := by rw [a_put_len hn]; split <;> omega
    obtain ⟨h1, h2⟩ := hC.val hw (k := k) (v := a_put v n y) (I' := q_upI I2 (r + 2) (nI (k * 7 + 1 + n)) y) hi e6 e8 e11 hk2 (by rw [e4]; exact e2.1.1) (fun b hb => by funext j; rw [q_upI_nea hb, i1 b hb]) ⟨hl, by rw [q_upI_nk (by omega), i3], fun q u hu => (by
      have hq := (List.getElem?_eq_some_iff.mp hu).1
      rw [a_put_at hn] at hu
      by_cases hqn : q = n
      · rw [if_pos hqn] at hu
        cases hu
        rw [hqn, q_upI_self]
      · rw [if_neg hqn] at hu
        rw [q_upI_nk (by omega), i2 _ (by omega) (by omega)]
        exact hw1.2.2 q u hu)⟩ (fun j hj hj2 => by rw [q_upI_nk (by omega), i2 j hj (by omega)])
    exact Or.inl ⟨_, rfl, rfl, fun _ => rfl, _, _, _, _, rfl, h2, h1⟩
  refine q_C.of (ls0 := [some (.ref x), some (.int (nI i)), some (.int p), some (.int (nI n)), some (.int y), none, none, none]) (by decide) rfl (by decide) (Nat.le_of_ble_eq_true rfl) rfl ?_
  refine q_aload_n d_Lens_put_0 rfl rfl ?_
  refine q_iload_n d_Lens_put_1 rfl rfl ?_
  refine q_callVv (M2 := M_Lens_needHandle) d_Lens_put_2 ⟨(Nat.le_of_ble_eq_true rfl), (Nat.le_of_ble_eq_true rfl), w_747, w_1, ⟨by decide, by decide⟩, show _ = some 1 by decide +kernel⟩ w_744 w_746 (ci := 10) rfl s_18 hL.1 rfl (Nat.le_of_ble_eq_true rfl) (by omega) (by omega) (c_needHandle_ok hC hb) ?_
  rintro _ rfl
  refine q_aload_n d_Lens_put_5 rfl rfl ?_
  refine q_iload_n d_Lens_put_6 rfl rfl ?_
  refine q_iload_n d_Lens_put_7 rfl rfl ?_
  refine q_iconst (v := nI 1) d_Lens_put_8 (by decide) ?_
  refine q_callVi (M2 := M_Lens_placeOf) d_Lens_put_9 ⟨(Nat.le_of_ble_eq_true rfl), (Nat.le_of_ble_eq_true rfl), w_777, w_1, ⟨by decide, by decide⟩, show _ = some 3 by decide +kernel⟩ w_774 w_776 (ci := 10) rfl s_19 hL.1 rfl (Nat.le_of_ble_eq_true rfl) (by omega) (by omega) (c_placeOf_ok (so := nI 1) hC hi e6 hr0 e8.1 e3 e9 e10 e2.1.2.1 hp) ?_
  rintro _ _ ⟨rfl, rfl⟩
  refine q_istore d_Lens_put_12 (Nat.le_of_ble_eq_true rfl) (by first | exact q_ok0 | exact q_okI rfl | exact q_okR rfl | exact q_okN rfl) rfl ?_
  refine q_aload_n d_Lens_put_14 rfl rfl ?_
  refine q_getR (ci := 10) (fk := 2) d_Lens_put_15 rfl (Nat.le_of_ble_eq_true rfl) w_274 (fun _ _ => rfl) hL.1 (hL.2 2 _ _ _ rfl).1 ?_
  refine q_iload_n d_Lens_put_18 rfl rfl ?_
  refine q_aaldR (kd := _) d_Lens_put_19 rfl (Nat.le_of_ble_eq_true rfl) (Nat.le_of_ble_eq_true rfl) (hL.2 2 _ _ _ rfl).2 (by first | assumption | exact vp_in_nI (by omega) (by omega)) (by first | assumption | rfl | (simp (disch := omega) only [q_upT_self, q_upT_ne, q_upR_self, q_upR_nea, q_upR_nk, q_upT_at, *]; done) | (simp (disch := omega) only [q_upT_self, q_upT_ne, q_upR_self, q_upR_nea, q_upR_nk, q_upT_at, *]; rfl)) ?_
  refine q_getR (ci := 5) (fk := 2) d_Lens_put_20 rfl (Nat.le_of_ble_eq_true rfl) w_198 (fun _ _ => rfl) (by first | assumption | rfl | (simp (disch := omega) only [q_upT_self, q_upT_ne, q_upR_self, q_upR_nea, q_upR_nk, q_upT_at, *]; done) | (simp (disch := omega) only [q_upT_self, q_upT_ne, q_upR_self, q_upR_nea, q_upR_nk, q_upT_at, *]; rfl)) (by first | assumption | rfl | (simp (disch := omega) only [q_upT_self, q_upT_ne, q_upR_self, q_upR_nea, q_upR_nk, q_upT_at, *]; done) | (simp (disch := omega) only [q_upT_self, q_upT_ne, q_upR_self, q_upR_nea, q_upR_nk, q_upT_at, *]; rfl)) ?_
  refine q_astore d_Lens_put_23 (Nat.le_of_ble_eq_true rfl) (by first | exact q_ok0 | exact q_okI rfl | exact q_okR rfl | exact q_okN rfl) rfl ?_
  refine q_iload_n d_Lens_put_25 rfl rfl ?_
  refine q_if_lt (tgt := 50) d_Lens_put_26 rfl (fun hc => ?_) (fun hc => ?_)
  · exact absurd hc (nI_pos (by omega))
  refine q_iload_n d_Lens_put_29 rfl rfl ?_
  refine q_aload d_Lens_put_30 rfl ?_
  refine q_iload d_Lens_put_32 rfl ?_
  refine q_callVi (M2 := M_Cells_lengthOf) d_Lens_put_34 ⟨(Nat.le_of_ble_eq_true rfl), (Nat.le_of_ble_eq_true rfl), w_794, w_7, ⟨by decide, by decide⟩, show _ = some 1 by decide +kernel⟩ w_791 w_792 (ci := 1) rfl w_793 (by first | assumption | rfl | (simp (disch := omega) only [q_upT_self, q_upT_ne, q_upR_self, q_upR_nea, q_upR_nk, q_upT_at, *]; done) | (simp (disch := omega) only [q_upT_self, q_upT_ne, q_upR_self, q_upR_nea, q_upR_nk, q_upT_at, *]; rfl)) rfl (Nat.le_of_ble_eq_true rfl) (by omega) (by omega) (c_Cells_lengthOf e7.2.1 (by decide) (by omega)) ?_
  rintro _ _ ⟨rfl, rfl⟩
  rw [show r + 1 + 1 = r + 2 from rfl, hw1.2.1]
  refine q_icmp_gt (tgt := 50) d_Lens_put_37 rfl (fun hc => ?_) (fun hc => ?_)
  · exact absurd hc (by rw [Int32.not_lt, nI_leI (by omega) (by omega)]; exact hn)
  refine q_iload_n d_Lens_put_40 rfl rfl ?_
  refine q_bipush (v := nI 6) d_Lens_put_41 (by decide) ?_
  refine q_icmp_ge (tgt := 50) d_Lens_put_43 rfl (fun hc => ?_) (fun hc => ?_)
  · exact absurd hc (by rw [nI_leI (by omega) (by omega)]; omega)
  refine q_iconst (v := nI 1) d_Lens_put_46 (by decide) ?_
  refine q_goto (tgt := 51) d_Lens_put_47 rfl ?_
  refine q_istore d_Lens_put_51 (Nat.le_of_ble_eq_true rfl) (by first | exact q_ok0 | exact q_okI rfl | exact q_okR rfl | exact q_okN rfl) rfl ?_
  refine q_iload d_Lens_put_53 rfl ?_
  refine q_if_eq (tgt := 77) d_Lens_put_55 rfl (fun hc => ?_) (fun hc => ?_)
  · exact absurd hc (by decide)
  refine q_aload_n d_Lens_put_58 rfl rfl ?_
  refine q_iload_n d_Lens_put_59 rfl rfl ?_
  refine q_callVr (M2 := M_Lens_schemaOf) d_Lens_put_60 ⟨(Nat.le_of_ble_eq_true rfl), (Nat.le_of_ble_eq_true rfl), w_781, w_1, ⟨by decide, by decide⟩, show _ = some 1 by decide +kernel⟩ w_778 w_780 (ci := 10) rfl s_20 hL.1 rfl (Nat.le_of_ble_eq_true rfl) (by omega) (by omega) (c_Lens_schemaOf hL hC.1.2.1 hi e6 hr0 e8.1 e3 e9) ?_
  rintro _ _ ⟨rfl, rfl⟩
  refine q_getR (ci := 6) (fk := 0) d_Lens_put_63 rfl (Nat.le_of_ble_eq_true rfl) w_97 (fun _ _ => rfl) (by first | assumption | rfl | (simp (disch := omega) only [q_upT_self, q_upT_ne, q_upR_self, q_upR_nea, q_upR_nk, q_upT_at, *]; done) | (simp (disch := omega) only [q_upT_self, q_upT_ne, q_upR_self, q_upR_nea, q_upR_nk, q_upT_at, *]; rfl)) (by first | assumption | rfl | (simp (disch := omega) only [q_upT_self, q_upT_ne, q_upR_self, q_upR_nea, q_upR_nk, q_upT_at, *]; done) | (simp (disch := omega) only [q_upT_self, q_upT_ne, q_upR_self, q_upR_nea, q_upR_nk, q_upT_at, *]; rfl)) ?_
  refine q_iload d_Lens_put_66 rfl ?_
  refine q_aaldR (kd := _) d_Lens_put_68 rfl (Nat.le_of_ble_eq_true rfl) (Nat.le_of_ble_eq_true rfl) (by first | assumption | rfl | (simp (disch := omega) only [q_upT_self, q_upT_ne, q_upR_self, q_upR_nea, q_upR_nk, q_upT_at, *]; done) | (simp (disch := omega) only [q_upT_self, q_upT_ne, q_upR_self, q_upR_nea, q_upR_nk, q_upT_at, *]; rfl)) (by first | assumption | exact vp_in_nI (by omega) (by omega)) (by first | assumption | rfl | (simp (disch := omega) only [q_upT_self, q_upT_ne, q_upR_self, q_upR_nea, q_upR_nk, q_upT_at, *]; done) | (simp (disch := omega) only [q_upT_self, q_upT_ne, q_upR_self, q_upR_nea, q_upR_nk, q_upT_at, *]; rfl)) ?_
  refine q_iload d_Lens_put_69 rfl ?_
  refine q_callVi (M2 := M_Field_admits) d_Lens_put_71 ⟨(Nat.le_of_ble_eq_true rfl), (Nat.le_of_ble_eq_true rfl), w_599, w_4, ⟨by decide, by decide⟩, show _ = some 1 by decide +kernel⟩ w_782 w_597 (ci := 3) rfl w_598 (by first | assumption | rfl | (simp (disch := omega) only [q_upT_self, q_upT_ne, q_upR_self, q_upR_nea, q_upR_nk, q_upT_at, *]; done) | (simp (disch := omega) only [q_upT_self, q_upT_ne, q_upR_self, q_upR_nea, q_upR_nk, q_upT_at, *]; rfl)) rfl (Nat.le_of_ble_eq_true rfl) (by omega) (by omega) (c_Field_admits g3 g4 y) ?_
  rintro _ _ ⟨rfl, rfl⟩
  rw [hy]
  refine q_if_ne (tgt := 85) d_Lens_put_74 rfl (fun hc => ?_) (fun hc => ?_)
  · refine q_iload_n d_Lens_put_85 rfl rfl ?_
    refine q_aload d_Lens_put_86 rfl ?_
    refine q_iload d_Lens_put_88 rfl ?_
    refine q_callVi (M2 := M_Cells_lengthOf) d_Lens_put_90 ⟨(Nat.le_of_ble_eq_true rfl), (Nat.le_of_ble_eq_true rfl), w_794, w_7, ⟨by decide, by decide⟩, show _ = some 1 by decide +kernel⟩ w_791 w_792 (ci := 1) rfl w_793 (by first | assumption | rfl | (simp (disch := omega) only [q_upT_self, q_upT_ne, q_upR_self, q_upR_nea, q_upR_nk, q_upT_at, *]; done) | (simp (disch := omega) only [q_upT_self, q_upT_ne, q_upR_self, q_upR_nea, q_upR_nk, q_upT_at, *]; rfl)) rfl (Nat.le_of_ble_eq_true rfl) (by omega) (by omega) (c_Cells_lengthOf e7.2.1 (by decide) (by omega)) ?_
    rintro _ _ ⟨rfl, rfl⟩
    rw [show r + 1 + 1 = r + 2 from rfl, hw1.2.1]
    refine q_icmp_ne (tgt := 106) d_Lens_put_93 rfl (fun hc => ?_) (fun hc => ?_)
    · have h9 : n ≠ v.length := fun z => hc (by rw [z])
      refine fin _ _ I (by omega) (by omega) (fun b hb => rfl) (fun j hj hj2 => rfl) ?_
      rw [a_put_len hn, if_neg h9]
      exact hw1.2.1
    · have h9 : n = v.length := by
        have := hc
        exact (nI_eq (by omega) (by omega)).mp this
      refine q_aload d_Lens_put_96 rfl ?_
      refine q_iload d_Lens_put_98 rfl ?_
      refine q_iload_n d_Lens_put_100 rfl rfl ?_
      refine q_iconst (v := nI 1) d_Lens_put_101 (by decide) ?_
      first | refine q_iaddN d_Lens_put_102 ?_ | refine q_iadd d_Lens_put_102 ?_
      refine q_callVv (M2 := M_Cells_resize) d_Lens_put_103 ⟨(Nat.le_of_ble_eq_true rfl), (Nat.le_of_ble_eq_true rfl), w_736, w_7, ⟨by decide, by decide⟩, show _ = some 2 by decide +kernel⟩ w_795 w_734 (ci := 1) rfl w_735 (by first | assumption | rfl | (simp (disch := omega) only [q_upT_self, q_upT_ne, q_upR_self, q_upR_nea, q_upR_nk, q_upT_at, *]; done) | (simp (disch := omega) only [q_upT_self, q_upT_ne, q_upR_self, q_upR_nea, q_upR_nk, q_upT_at, *]; rfl)) rfl (Nat.le_of_ble_eq_true rfl) (by omega) (by omega) (c_Cells_resize e7.2.1 (by decide) (by omega) (nI (n + 1))) ?_
      rintro _ rfl
      refine fin _ _ _ (by omega) (by omega) (fun b hb => by funext j; rw [q_upI_nea hb]) (fun j hj hj2 => by rw [q_upI_nk (by omega)]) ?_
      rw [q_upI_self, a_put_len hn, if_pos h9]
  · exact absurd hc (by decide)

theorem c_Lens_same_no (hC : relC S x sz T I R) {v u : Int32} (hb : k_ish S.lv v = false) : q_C g M_Lens_same [.ref x, .int v, .int u] (sz, T, I, R, J) 1000 14000 (q_Xi [2] (c_sp x sz T I R J (nI 1, 0, S))) := by
  have hL := hC.1.1
  refine q_C.of (ls0 := [some (.ref x), some (.int v), some (.int u)]) (by decide) rfl (by decide) (Nat.le_of_ble_eq_true rfl) rfl ?_
  refine q_aload_n d_Lens_same_0 rfl rfl ?_
  refine q_iload_n d_Lens_same_1 rfl rfl ?_
  refine q_callV (M2 := M_Lens_needHandle) d_Lens_same_2 ⟨(Nat.le_of_ble_eq_true rfl), (Nat.le_of_ble_eq_true rfl), w_747, w_1, ⟨by decide, by decide⟩, show _ = some 1 by decide +kernel⟩ w_744 w_746 (ci := 10) rfl s_18 hL.1 rfl (Nat.le_of_ble_eq_true rfl) (by omega) (by omega) (c_needHandle_no hC hb) (fun v h' z => ?_) (fun z9 h' z => ?_)
  · cases z.1
  · obtain ⟨e9, rfl⟩ := z
    cases e9
    exact q_VX.out (by decide) (by omega) (by omega) (c_xi_no hC rfl)

theorem c_Lens_same_no2 (hw : wf S) (hC : relC S x sz T I R) {i : Nat} {u : Int32} (hb : k_ish S.lv (nI i) = true) (hb2 : k_ish S.lv u = false) : q_C g M_Lens_same [.ref x, .int (nI i), .int u] (sz, T, I, R, J) 1000 14000 (q_Xi [2] (c_sp x sz T I R J (nI 1, 0, S))) := by
  have hL := hC.1.1
  refine q_C.of (ls0 := [some (.ref x), some (.int (nI i)), some (.int u)]) (by decide) rfl (by decide) (Nat.le_of_ble_eq_true rfl) rfl ?_
  refine q_aload_n d_Lens_same_0 rfl rfl ?_
  refine q_iload_n d_Lens_same_1 rfl rfl ?_
  refine q_callVv (M2 := M_Lens_needHandle) d_Lens_same_2 ⟨(Nat.le_of_ble_eq_true rfl), (Nat.le_of_ble_eq_true rfl), w_747, w_1, ⟨by decide, by decide⟩, show _ = some 1 by decide +kernel⟩ w_744 w_746 (ci := 10) rfl s_18 hL.1 rfl (Nat.le_of_ble_eq_true rfl) (by omega) (by omega) (c_needHandle_ok hC hb) ?_
  rintro _ rfl
  refine q_aload_n d_Lens_same_5 rfl rfl ?_
  refine q_iload_n d_Lens_same_6 rfl rfl ?_
  refine q_callV (M2 := M_Lens_needHandle) d_Lens_same_7 ⟨(Nat.le_of_ble_eq_true rfl), (Nat.le_of_ble_eq_true rfl), w_747, w_1, ⟨by decide, by decide⟩, show _ = some 1 by decide +kernel⟩ w_744 w_746 (ci := 10) rfl s_18 hL.1 rfl (Nat.le_of_ble_eq_true rfl) (by omega) (by omega) (c_needHandle_no hC hb2) (fun v h' z => ?_) (fun z9 h' z => ?_)
  · cases z.1
  · obtain ⟨e9, rfl⟩ := z
    cases e9
    exact q_VX.out (by decide) (by omega) (by omega) (c_xi_no hC rfl)
theorem c_Lens_same (hw : wf S) (hC : relC S x sz T I R) {i i2 : Nat} {c c2 : KR} (hi : i < 16) (hc : S.rs i = some c) (hb : k_ish S.lv (nI i) = true) (hi2 : i2 < 16) (hc2 : S.rs i2 = some c2) (hb2 : k_ish S.lv (nI i2) = true) : q_C g M_Lens_same [.ref x, .int (nI i), .int (nI i2)] (sz, T, I, R, J) 1000 14000 (q_Xi [2] (c_sp x sz T I R J (0, p_b (decide (c.ver = c2.ver ∧ c.val = c2.val)), S))) := by
  obtain ⟨r, s, w, L, e1, e2, e3, e4, e5, e6, e7, e8, e9, e10, e11⟩ := relC.of hw hC hi hc
  obtain ⟨r2, s2, w2, L2, f1, f2, f3, f4, f5, f6, f7, f8, f9, f10, f11⟩ := relC.of hw hC hi2 hc2
  have hL := hC.1.1
  have hr0 := (r_T0 e7).1
  have hr1 := (e7.1.2 2 _ _ _ rfl).1
  have hr2 := (r_T0 e7).2.1
  have hq0 := (r_T0 f7).1
  have hq1 := (f7.1.2 2 _ _ _ rfl).1
  have hs1 := e10.1.1.1
  have h24 := e2.1.1
  refine q_C.of (ls0 := [some (.ref x), some (.int (nI i)), some (.int (nI i2))]) (by decide) rfl (by decide) (Nat.le_of_ble_eq_true rfl) rfl ?_
  refine q_aload_n d_Lens_same_0 rfl rfl ?_
  refine q_iload_n d_Lens_same_1 rfl rfl ?_
  refine q_callVv (M2 := M_Lens_needHandle) d_Lens_same_2 ⟨(Nat.le_of_ble_eq_true rfl), (Nat.le_of_ble_eq_true rfl), w_747, w_1, ⟨by decide, by decide⟩, show _ = some 1 by decide +kernel⟩ w_744 w_746 (ci := 10) rfl s_18 hL.1 rfl (Nat.le_of_ble_eq_true rfl) (by omega) (by omega) (c_needHandle_ok hC hb) ?_
  rintro _ rfl
  refine q_aload_n d_Lens_same_5 rfl rfl ?_
  refine q_iload_n d_Lens_same_6 rfl rfl ?_
  refine q_callVv (M2 := M_Lens_needHandle) d_Lens_same_7 ⟨(Nat.le_of_ble_eq_true rfl), (Nat.le_of_ble_eq_true rfl), w_747, w_1, ⟨by decide, by decide⟩, show _ = some 1 by decide +kernel⟩ w_744 w_746 (ci := 10) rfl s_18 hL.1 rfl (Nat.le_of_ble_eq_true rfl) (by omega) (by omega) (c_needHandle_ok hC hb2) ?_
  rintro _ rfl
  refine q_aload_n d_Lens_same_10 rfl rfl ?_
  refine q_getR (ci := 10) (fk := 2) d_Lens_same_11 rfl (Nat.le_of_ble_eq_true rfl) w_274 (fun _ _ => rfl) hL.1 (hL.2 2 _ _ _ rfl).1 ?_
  refine q_iload_n d_Lens_same_14 rfl rfl ?_
  refine q_aaldR (kd := _) d_Lens_same_15 rfl (Nat.le_of_ble_eq_true rfl) (Nat.le_of_ble_eq_true rfl) (hL.2 2 _ _ _ rfl).2 (by first | assumption | exact vp_in_nI (by omega) (by omega)) (by first | assumption | rfl | (simp (disch := omega) only [q_upT_self, q_upT_ne, q_upR_self, q_upR_nea, q_upR_nk, q_upT_at, *]; done) | (simp (disch := omega) only [q_upT_self, q_upT_ne, q_upR_self, q_upR_nea, q_upR_nk, q_upT_at, *]; rfl)) ?_
  refine q_getI (ci := 5) (fk := 1) d_Lens_same_16 rfl (Nat.le_of_ble_eq_true rfl) w_195 (fun _ _ => rfl) (by first | assumption | rfl | (simp (disch := omega) only [q_upT_self, q_upT_ne, q_upR_self, q_upR_nea, q_upR_nk, q_upT_at, *]; done) | (simp (disch := omega) only [q_upT_self, q_upT_ne, q_upR_self, q_upR_nea, q_upR_nk, q_upT_at, *]; rfl)) ?_
  rw [e8.1]
  refine q_aload_n d_Lens_same_19 rfl rfl ?_
  refine q_getR (ci := 10) (fk := 2) d_Lens_same_20 rfl (Nat.le_of_ble_eq_true rfl) w_274 (fun _ _ => rfl) hL.1 (hL.2 2 _ _ _ rfl).1 ?_
  refine q_iload_n d_Lens_same_23 rfl rfl ?_
  refine q_aaldR (kd := _) d_Lens_same_24 rfl (Nat.le_of_ble_eq_true rfl) (Nat.le_of_ble_eq_true rfl) (hL.2 2 _ _ _ rfl).2 (by first | assumption | exact vp_in_nI (by omega) (by omega)) (by first | assumption | rfl | (simp (disch := omega) only [q_upT_self, q_upT_ne, q_upR_self, q_upR_nea, q_upR_nk, q_upT_at, *]; done) | (simp (disch := omega) only [q_upT_self, q_upT_ne, q_upR_self, q_upR_nea, q_upR_nk, q_upT_at, *]; rfl)) ?_
  refine q_getI (ci := 5) (fk := 1) d_Lens_same_25 rfl (Nat.le_of_ble_eq_true rfl) w_195 (fun _ _ => rfl) (by first | assumption | rfl | (simp (disch := omega) only [q_upT_self, q_upT_ne, q_upR_self, q_upR_nea, q_upR_nk, q_upT_at, *]; done) | (simp (disch := omega) only [q_upT_self, q_upT_ne, q_upR_self, q_upR_nea, q_upR_nk, q_upT_at, *]; rfl)) ?_
  rw [f8.1]
  refine q_icmp_ne (tgt := 67) d_Lens_same_28 rfl (fun hc => ?_) (fun hc => ?_)
  · have h9 : ¬ c.ver = c2.ver := fun z => hc (by rw [z])
    refine q_iconst (v := nI 0) d_Lens_same_67 (by decide) ?_
    refine q_zret d_Lens_same_68 rfl (by first | exact Or.inl rfl | exact Or.inr rfl | assumption) (by omega) (by omega) ?_
    rw [show (decide (c.ver = c2.ver ∧ c.val = c2.val)) = false from decide_eq_false (fun z => h9 z.1)]
    exact c_xi_is hC _
  · have h9 : c.ver = c2.ver := by
      have := hc
      exact (nI_eq (by omega) (by omega)).mp this
    rw [← h9] at f1
    obtain rfl : L = L2 := Option.some.inj (e1.symm.trans f1)
    refine q_aload_n d_Lens_same_31 rfl rfl ?_
    refine q_getR (ci := 10) (fk := 2) d_Lens_same_32 rfl (Nat.le_of_ble_eq_true rfl) w_274 (fun _ _ => rfl) hL.1 (hL.2 2 _ _ _ rfl).1 ?_
    refine q_iload_n d_Lens_same_35 rfl rfl ?_
    refine q_aaldR (kd := _) d_Lens_same_36 rfl (Nat.le_of_ble_eq_true rfl) (Nat.le_of_ble_eq_true rfl) (hL.2 2 _ _ _ rfl).2 (by first | assumption | exact vp_in_nI (by omega) (by omega)) (by first | assumption | rfl | (simp (disch := omega) only [q_upT_self, q_upT_ne, q_upR_self, q_upR_nea, q_upR_nk, q_upT_at, *]; done) | (simp (disch := omega) only [q_upT_self, q_upT_ne, q_upR_self, q_upR_nea, q_upR_nk, q_upT_at, *]; rfl)) ?_
    refine q_getR (ci := 5) (fk := 2) d_Lens_same_37 rfl (Nat.le_of_ble_eq_true rfl) w_198 (fun _ _ => rfl) (by first | assumption | rfl | (simp (disch := omega) only [q_upT_self, q_upT_ne, q_upR_self, q_upR_nea, q_upR_nk, q_upT_at, *]; done) | (simp (disch := omega) only [q_upT_self, q_upT_ne, q_upR_self, q_upR_nea, q_upR_nk, q_upT_at, *]; rfl)) (by first | assumption | rfl | (simp (disch := omega) only [q_upT_self, q_upT_ne, q_upR_self, q_upR_nea, q_upR_nk, q_upT_at, *]; done) | (simp (disch := omega) only [q_upT_self, q_upT_ne, q_upR_self, q_upR_nea, q_upR_nk, q_upT_at, *]; rfl)) ?_
    refine q_aload_n d_Lens_same_40 rfl rfl ?_
    refine q_getR (ci := 10) (fk := 2) d_Lens_same_41 rfl (Nat.le_of_ble_eq_true rfl) w_274 (fun _ _ => rfl) hL.1 (hL.2 2 _ _ _ rfl).1 ?_
    refine q_iload_n d_Lens_same_44 rfl rfl ?_
    refine q_aaldR (kd := _) d_Lens_same_45 rfl (Nat.le_of_ble_eq_true rfl) (Nat.le_of_ble_eq_true rfl) (hL.2 2 _ _ _ rfl).2 (by first | assumption | exact vp_in_nI (by omega) (by omega)) (by first | assumption | rfl | (simp (disch := omega) only [q_upT_self, q_upT_ne, q_upR_self, q_upR_nea, q_upR_nk, q_upT_at, *]; done) | (simp (disch := omega) only [q_upT_self, q_upT_ne, q_upR_self, q_upR_nea, q_upR_nk, q_upT_at, *]; rfl)) ?_
    refine q_getR (ci := 5) (fk := 2) d_Lens_same_46 rfl (Nat.le_of_ble_eq_true rfl) w_198 (fun _ _ => rfl) (by first | assumption | rfl | (simp (disch := omega) only [q_upT_self, q_upT_ne, q_upR_self, q_upR_nea, q_upR_nk, q_upT_at, *]; done) | (simp (disch := omega) only [q_upT_self, q_upT_ne, q_upR_self, q_upR_nea, q_upR_nk, q_upT_at, *]; rfl)) (by first | assumption | rfl | (simp (disch := omega) only [q_upT_self, q_upT_ne, q_upR_self, q_upR_nea, q_upR_nk, q_upT_at, *]; done) | (simp (disch := omega) only [q_upT_self, q_upT_ne, q_upR_self, q_upR_nea, q_upR_nk, q_upT_at, *]; rfl)) ?_
    refine q_aload_n d_Lens_same_49 rfl rfl ?_
    refine q_iload_n d_Lens_same_50 rfl rfl ?_
    refine q_callVr (M2 := M_Lens_schemaOf) d_Lens_same_51 ⟨(Nat.le_of_ble_eq_true rfl), (Nat.le_of_ble_eq_true rfl), w_781, w_1, ⟨by decide, by decide⟩, show _ = some 1 by decide +kernel⟩ w_778 w_780 (ci := 10) rfl s_20 hL.1 rfl (Nat.le_of_ble_eq_true rfl) (by omega) (by omega) (c_Lens_schemaOf hL hC.1.2.1 hi e6 hr0 e8.1 e3 e9) ?_
    rintro _ _ ⟨rfl, rfl⟩
    refine q_getI (ci := 6) (fk := 1) d_Lens_same_54 rfl (Nat.le_of_ble_eq_true rfl) w_101 (fun _ _ => rfl) (by first | assumption | rfl | (simp (disch := omega) only [q_upT_self, q_upT_ne, q_upR_self, q_upR_nea, q_upR_nk, q_upT_at, *]; done) | (simp (disch := omega) only [q_upT_self, q_upT_ne, q_upR_self, q_upR_nea, q_upR_nk, q_upT_at, *]; rfl)) ?_
    rw [e10.2.1]
    have hu : ∀ j, j < L.length → k_rw (I (r + 1 + 1)) (j * 7) ((c.val[j]?).getD []) := fun j hj => by
      have : c.val[j]? = some c.val[j] := List.getElem?_eq_getElem (by omega)
      rw [this]; exact e8.2.1 j _ this
    have hv : ∀ j, j < L.length → k_rw (I (r2 + 1 + 1)) (j * 7) ((c2.val[j]?).getD []) := fun j hj => by
      have : c2.val[j]? = some c2.val[j] := List.getElem?_eq_getElem (by omega)
      rw [this]; exact f8.2.1 j _ this
    have hag : k_ag (fun j => (c.val[j]?).getD []) (fun j => (c2.val[j]?).getD []) 0 L.length = decide (c.ver = c2.ver ∧ c.val = c2.val) := by
      by_cases hz : c.val = c2.val
      · rw [decide_eq_true (show c.ver = c2.ver ∧ c.val = c2.val from ⟨h9, hz⟩), k_ag_iff]
        intro q hq hq2
        show (c.val[q]?).getD [] = (c2.val[q]?).getD []
        rw [hz]
      · rw [decide_eq_false (fun z => hz z.2), ← Bool.not_eq_true, k_ag_iff]
        intro h8
        refine hz (List.ext_getElem? fun q => ?_)
        by_cases hq : q < L.length
        · have h7 := h8 q (by omega) (by omega)
          have q1 : c.val[q]? = some c.val[q] := List.getElem?_eq_getElem (by omega)
          have q2 : c2.val[q]? = some c2.val[q] := List.getElem?_eq_getElem (by omega)
          have h7' : (c.val[q]?).getD [] = (c2.val[q]?).getD [] := h7
          rw [q1, q2] at h7' ⊢
          exact congrArg some h7'
        · rw [List.getElem?_eq_none (by omega), List.getElem?_eq_none (by omega)]
    refine q_callVi (M2 := M_Cells_agree) d_Lens_same_57 ⟨(Nat.le_of_ble_eq_true rfl), (Nat.le_of_ble_eq_true rfl), w_860, w_7, ⟨by decide, by decide⟩, show _ = some 2 by decide +kernel⟩ w_857 w_858 (ci := 1) rfl w_859 (by first | assumption | rfl | (simp (disch := omega) only [q_upT_self, q_upT_ne, q_upR_self, q_upR_nea, q_upR_nk, q_upT_at, *]; done) | (simp (disch := omega) only [q_upT_self, q_upT_ne, q_upR_self, q_upR_nea, q_upR_nk, q_upT_at, *]; rfl)) rfl (Nat.le_of_ble_eq_true rfl) (by omega) (by omega) (c_Cells_agree e7.2.1 f7.2.1 (by decide) (by decide) (by omega) (by omega) hu hv) ?_
    rintro _ _ ⟨rfl, rfl⟩
    rw [hag]
    cases hd : decide (c.ver = c2.ver ∧ c.val = c2.val) with
    | false =>
      refine q_if_eq (tgt := 67) d_Lens_same_60 rfl (fun hc => ?_) (fun hc => ?_)
      · refine q_iconst (v := nI 0) d_Lens_same_67 (by decide) ?_
        refine q_zret d_Lens_same_68 rfl (by first | exact Or.inl rfl | exact Or.inr rfl | assumption) (by omega) (by omega) ?_
        exact c_xi_is hC _
      · exact absurd rfl hc
    | true =>
      refine q_if_eq (tgt := 67) d_Lens_same_60 rfl (fun hc => ?_) (fun hc => ?_)
      · exact absurd hc (by decide)
      · refine q_iconst (v := nI 1) d_Lens_same_63 (by decide) ?_
        refine q_goto (tgt := 68) d_Lens_same_64 rfl ?_
        refine q_zret d_Lens_same_68 rfl (by first | exact Or.inl rfl | exact Or.inr rfl | assumption) (by omega) (by omega) ?_
        exact c_xi_is hC _
theorem c_Lens_count_no (hC : relC S x sz T I R) {v : Int32} (hv : k_bel 4 v = false) : q_C g M_Lens_count [.ref x, .int v] (sz, T, I, R, J) 1000 14000 (q_Xi [1] (c_sp x sz T I R J (nI 1, 0, S))) := by
  have hL := hC.1.1
  refine q_C.of (ls0 := [some (.ref x), some (.int v)]) (by decide) rfl (by decide) (Nat.le_of_ble_eq_true rfl) rfl ?_
  refine q_iload_n d_Lens_count_0 rfl rfl ?_
  refine q_tableOut (tgt := 75) d_Lens_count_1 ?_ (by omega) ?_
  · rw [k_bel] at hv
    by_cases h0 : 0 ≤ v
    · rw [decide_eq_true h0, Bool.true_and, decide_eq_false_iff_not, Int32.not_lt, Int32.le_iff_toInt_le] at hv
      have h4 : (nI 4).toInt = 4 := nI_toInt (by decide)
      right
      omega
    · left
      rw [Int32.le_iff_toInt_le] at h0
      have h4 : (0 : Int32).toInt = 0 := by decide
      omega
  · refine q_throw (x := 1) d_Lens_count_75 d_Lens_count_78 d_Lens_count_79 d_Lens_count_82 (by decide +kernel) x_nmf (Nat.le_of_ble_eq_true rfl) (Nat.le_of_ble_eq_true rfl) (Nat.le_of_ble_eq_true rfl) w_396 w_16 x_at1 rfl (Nat.le_of_ble_eq_true rfl) (by omega) (by omega) ?_
    exact c_xi_no hC rfl
/-- what count answers -/
def a_cnt (S : KA) (n : Nat) : Int32 := if n = 0 then nI S.vs.length else if n = 1 then nI S.ss.length else if n = 2 then nI (k_lvn S.lv 0 16) else if S.op = true then nI S.dp.length else -1
theorem c_Lens_count (hC : relC S x sz T I R) {n : Nat} (hn : n < 4) : q_C g M_Lens_count [.ref x, .int (nI n)] (sz, T, I, R, J) 1000 14000 (q_Xi [1] (c_sp x sz T I R J (0, a_cnt S n, S))) := by
  have hL := hC.1.1
  have hV1 := hC.1.2.1.1
  have hD1 := hC.1.2.2.1.1
  have hn2 : (nI n).toInt = n := nI_toInt (by omega)
  refine q_C.of (ls0 := [some (.ref x), some (.int (nI n))]) (by decide) rfl (by decide) (Nat.le_of_ble_eq_true rfl) rfl ?_
  refine q_iload_n d_Lens_count_0 rfl rfl ?_
  rcases (by omega : n = 0 ∨ n = 1 ∨ n = 2 ∨ n = 3) with rfl | rfl | rfl | rfl
  · refine q_tableIn (tgt := 32) (off := 31) d_Lens_count_1 (by rw [hn2]; decide) (by rw [hn2]; decide) (by rw [hn2]; rfl) (by omega) ?_
    refine q_aload_n d_Lens_count_32 rfl rfl ?_
    refine q_getR (ci := 10) (fk := 0) d_Lens_count_33 rfl (Nat.le_of_ble_eq_true rfl) w_272 (fun _ _ => rfl) hL.1 (hL.2 0 _ _ _ rfl).1 ?_
    refine q_getI (ci := 9) (fk := 1) d_Lens_count_36 rfl (Nat.le_of_ble_eq_true rfl) w_112 (fun _ _ => rfl) (by first | assumption | rfl | (simp (disch := omega) only [q_upT_self, q_upT_ne, q_upR_self, q_upR_nea, q_upR_nk, q_upT_at, *]; done) | (simp (disch := omega) only [q_upT_self, q_upT_ne, q_upR_self, q_upR_nea, q_upR_nk, q_upT_at, *]; rfl)) ?_
    rw [hC.2.1.1]
    refine q_iret d_Lens_count_39 rfl (by omega) (by omega) ?_
    exact c_xi_is hC _
  · refine q_tableIn (tgt := 40) (off := 39) d_Lens_count_1 (by rw [hn2]; decide) (by rw [hn2]; decide) (by rw [hn2]; rfl) (by omega) ?_
    refine q_aload_n d_Lens_count_40 rfl rfl ?_
    refine q_getR (ci := 10) (fk := 0) d_Lens_count_41 rfl (Nat.le_of_ble_eq_true rfl) w_272 (fun _ _ => rfl) hL.1 (hL.2 0 _ _ _ rfl).1 ?_
    refine q_getI (ci := 9) (fk := 3) d_Lens_count_44 rfl (Nat.le_of_ble_eq_true rfl) w_116 (fun _ _ => rfl) (by first | assumption | rfl | (simp (disch := omega) only [q_upT_self, q_upT_ne, q_upR_self, q_upR_nea, q_upR_nk, q_upT_at, *]; done) | (simp (disch := omega) only [q_upT_self, q_upT_ne, q_upR_self, q_upR_nea, q_upR_nk, q_upT_at, *]; rfl)) ?_
    rw [hC.2.2.1.1]
    refine q_iret d_Lens_count_47 rfl (by omega) (by omega) ?_
    exact c_xi_is hC _
  · refine q_tableIn (tgt := 48) (off := 47) d_Lens_count_1 (by rw [hn2]; decide) (by rw [hn2]; decide) (by rw [hn2]; rfl) (by omega) ?_
    refine q_aload_n d_Lens_count_48 rfl rfl ?_
    refine q_callVi (M2 := M_Lens_liveRecords) d_Lens_count_49 ⟨(Nat.le_of_ble_eq_true rfl), (Nat.le_of_ble_eq_true rfl), w_698, w_1, ⟨by decide, by decide⟩, show _ = some 0 by decide +kernel⟩ w_695 w_697 (ci := 10) rfl s_14 hL.1 rfl (Nat.le_of_ble_eq_true rfl) (by omega) (by omega) (c_Lens_liveRecords hL hC.hs) ?_
    rintro _ _ ⟨rfl, rfl⟩
    refine q_iret d_Lens_count_52 rfl (by omega) (by omega) ?_
    exact c_xi_is hC _
  · refine q_tableIn (tgt := 53) (off := 52) d_Lens_count_1 (by rw [hn2]; decide) (by rw [hn2]; decide) (by rw [hn2]; rfl) (by omega) ?_
    obtain ⟨d1, D, w, d2, d3⟩ := hC.2.2.2.1
    refine q_aload_n d_Lens_count_53 rfl rfl ?_
    refine q_getR (ci := 10) (fk := 1) d_Lens_count_54 rfl (Nat.le_of_ble_eq_true rfl) w_273 (fun _ _ => rfl) hL.1 (hL.2 1 _ _ _ rfl).1 ?_
    refine q_getI (ci := 2) (fk := 5) d_Lens_count_57 rfl (Nat.le_of_ble_eq_true rfl) w_157 (fun _ _ => rfl) (by first | assumption | rfl | (simp (disch := omega) only [q_upT_self, q_upT_ne, q_upR_self, q_upR_nea, q_upR_nk, q_upT_at, *]; done) | (simp (disch := omega) only [q_upT_self, q_upT_ne, q_upR_self, q_upR_nea, q_upR_nk, q_upT_at, *]; rfl)) ?_
    rw [d1]
    cases ho : S.op with
    | false =>
      refine q_if_eq (tgt := 73) d_Lens_count_60 rfl (fun hc => ?_) (fun hc => ?_)
      · refine q_iconst (v := (-1)) d_Lens_count_73 (by decide) ?_
        refine q_iret d_Lens_count_74 rfl (by omega) (by omega) ?_
        have : a_cnt S 3 = -1 := by unfold a_cnt; rw [ho]; rfl
        rw [this]
        exact c_xi_is hC _
      · exact absurd rfl hc
    | true =>
      refine q_if_eq (tgt := 73) d_Lens_count_60 rfl (fun hc => ?_) (fun hc => ?_)
      · exact absurd hc (by decide)
      · refine q_aload_n d_Lens_count_63 rfl rfl ?_
        refine q_getR (ci := 10) (fk := 1) d_Lens_count_64 rfl (Nat.le_of_ble_eq_true rfl) w_273 (fun _ _ => rfl) hL.1 (hL.2 1 _ _ _ rfl).1 ?_
        refine q_getI (ci := 2) (fk := 2) d_Lens_count_67 rfl (Nat.le_of_ble_eq_true rfl) w_150 (fun _ _ => rfl) (by first | assumption | rfl | (simp (disch := omega) only [q_upT_self, q_upT_ne, q_upR_self, q_upR_nea, q_upR_nk, q_upT_at, *]; done) | (simp (disch := omega) only [q_upT_self, q_upT_ne, q_upR_self, q_upR_nea, q_upR_nk, q_upT_at, *]; rfl)) ?_
        rw [(d3 ho).2.1]
        refine q_goto (tgt := 74) d_Lens_count_70 rfl ?_
        refine q_iret d_Lens_count_74 rfl (by omega) (by omega) ?_
        have : a_cnt S 3 = nI S.dp.length := by unfold a_cnt; rw [ho]; rfl
        rw [this]
        exact c_xi_is hC _
end CPub4
