/-! more of them -/
section CPub2
variable {g : q_G} {sz x : Nat} {T : q_T} {I : q_I} {R : q_R} {J : q_J} {S : KA}
/-- how many things are kept -/
def a_kn (K : Nat → KK) : Nat → Nat → Nat
  | _, 0 => 0
  | i, j + 1 => (if (K i).1 = 0 then 0 else 1) + a_kn K (i + 1) j
theorem k_cc0 (n : Nat) : k_cc n = 0 ↔ n = 0 := by
  unfold k_cc
  by_cases h : n = 0
  · rw [if_pos h]; exact ⟨fun _ => h, fun _ => rfl⟩
  · rw [if_neg h]
    by_cases h2 : n = 2
    · rw [if_pos h2]; exact ⟨fun z => absurd z (by decide), fun z => absurd z h⟩
    · rw [if_neg h2]; exact ⟨fun z => absurd z (by decide), fun z => absurd z h⟩
theorem k_ckn_kn {f : Int32 → Int32} {K : Nat → KK} (h : ∀ k, k < 128 → f (nI k) = k_cc (K k).1) : ∀ (j i : Nat), i + j = 128 → k_ckn f i j = a_kn K i j
  | 0, i, _ => rfl
  | j + 1, i, hij => by
    rw [k_ckn, a_kn, k_ckn_kn h j (i + 1) (by omega), h i (by omega)]
    by_cases hz : (K i).1 = 0
    · rw [if_pos hz, if_pos ((k_cc0 _).mpr hz)]
    · rw [if_neg hz, if_neg (fun z => hz ((k_cc0 _).mp z))]
theorem c_Lens_kept (hw : wf S) (hC : relC S x sz T I R) {i : Nat} {c : KR} (hi : i < 16) (hc : S.rs i = some c) (hb : k_ish S.lv (nI i) = true) : q_C g M_Lens_kept [.ref x, .int (nI i)] (sz, T, I, R, J) 1000 14000 (q_Xi [2] (c_sp x sz T I R J (0, nI (a_kn c.kp 0 128), S))) := by
  obtain ⟨r, s, w, L, e1, e2, e3, e4, e5, e6, e7, e8, e9, e10, e11⟩ := relC.of hw hC hi hc
  have hL := hC.1.1
  have hr0 := (r_T0 e7).1
  refine q_C.of (ls0 := [some (.ref x), some (.int (nI i))]) (by decide) rfl (by decide) (Nat.le_of_ble_eq_true rfl) rfl ?_
  refine q_aload_n d_Lens_kept_0 rfl rfl ?_
  refine q_iload_n d_Lens_kept_1 rfl rfl ?_
  refine q_callVv (M2 := M_Lens_needHandle) d_Lens_kept_2 ⟨(Nat.le_of_ble_eq_true rfl), (Nat.le_of_ble_eq_true rfl), w_747, w_1, ⟨by decide, by decide⟩, show _ = some 1 by decide +kernel⟩ w_744 w_746 (ci := 10) rfl s_18 hL.1 rfl (Nat.le_of_ble_eq_true rfl) (by omega) (by omega) (c_needHandle_ok hC hb) ?_
  rintro _ rfl
  refine q_aload_n d_Lens_kept_5 rfl rfl ?_
  refine q_getR (ci := 10) (fk := 2) d_Lens_kept_6 rfl (Nat.le_of_ble_eq_true rfl) w_274 (fun _ _ => rfl) hL.1 (hL.2 2 _ _ _ rfl).1 ?_
  refine q_iload_n d_Lens_kept_9 rfl rfl ?_
  refine q_aaldR (kd := _) d_Lens_kept_10 rfl (Nat.le_of_ble_eq_true rfl) (Nat.le_of_ble_eq_true rfl) (hL.2 2 _ _ _ rfl).2 (by first | assumption | exact vp_in_nI (by omega) (by omega)) (by first | assumption | rfl | (simp (disch := omega) only [q_upT_self, q_upT_ne, q_upR_self, q_upR_nea, q_upR_nk, q_upT_at, *]; done) | (simp (disch := omega) only [q_upT_self, q_upT_ne, q_upR_self, q_upR_nea, q_upR_nk, q_upT_at, *]; rfl)) ?_
  refine q_callVi (M2 := M_Row_countKept) d_Lens_kept_11 ⟨(Nat.le_of_ble_eq_true rfl), (Nat.le_of_ble_eq_true rfl), w_849, w_6, ⟨by decide, by decide⟩, show _ = some 0 by decide +kernel⟩ w_846 w_847 (ci := 5) rfl w_848 (by first | assumption | rfl | (simp (disch := omega) only [q_upT_self, q_upT_ne, q_upR_self, q_upR_nea, q_upR_nk, q_upT_at, *]; done) | (simp (disch := omega) only [q_upT_self, q_upT_ne, q_upR_self, q_upR_nea, q_upR_nk, q_upT_at, *]; rfl)) rfl (Nat.le_of_ble_eq_true rfl) (by omega) (by omega) (c_Row_countKept e7) ?_
  rintro _ _ ⟨rfl, rfl⟩
  rw [k_ckn_kn (fun k hk => (e8.2.2 k hk).1) 128 0 rfl]
  refine q_iret d_Lens_kept_14 rfl (by omega) (by omega) ?_
  exact c_xi_is hC _
theorem c_Lens_kept_no (hC : relC S x sz T I R) {v : Int32} (hb : k_ish S.lv v = false) : q_C g M_Lens_kept [.ref x, .int v] (sz, T, I, R, J) 1000 14000 (q_Xi [2] (c_sp x sz T I R J (nI 1, 0, S))) := by
  have hL := hC.1.1
  refine q_C.of (ls0 := [some (.ref x), some (.int v)]) (by decide) rfl (by decide) (Nat.le_of_ble_eq_true rfl) rfl ?_
  refine q_aload_n d_Lens_kept_0 rfl rfl ?_
  refine q_iload_n d_Lens_kept_1 rfl rfl ?_
  refine q_callV (M2 := M_Lens_needHandle) d_Lens_kept_2 ⟨(Nat.le_of_ble_eq_true rfl), (Nat.le_of_ble_eq_true rfl), w_747, w_1, ⟨by decide, by decide⟩, show _ = some 1 by decide +kernel⟩ w_744 w_746 (ci := 10) rfl s_18 hL.1 rfl (Nat.le_of_ble_eq_true rfl) (by omega) (by omega) (c_needHandle_no hC hb) (fun v h' z => ?_) (fun z9 h' z => ?_)
  · cases z.1
  · obtain ⟨e9, rfl⟩ := z
    cases e9
    exact q_VX.out (by decide) (by omega) (by omega) (c_xi_no hC rfl)
theorem c_Lens_drop (hw : wf S) (hC : relC S x sz T I R) {i : Nat} {c : KR} (hi : i < 16) (hc : S.rs i = some c) (hb : k_ish S.lv (nI i) = true) : q_C g M_Lens_drop [.ref x, .int (nI i)] (sz, T, I, R, J) 1000 14000 (q_Xv [2] (c_spv x sz T I R J (0, 0, S.setR i none))) := by
  obtain ⟨r, s, w, L, e1, e2, e3, e4, e5, e6, e7, e8, e9, e10, e11⟩ := relC.of hw hC hi hc
  have hL := hC.1.1
  have hr0 := (r_T0 e7).1
  refine q_C.of (ls0 := [some (.ref x), some (.int (nI i))]) (by decide) rfl (by decide) (Nat.le_of_ble_eq_true rfl) rfl ?_
  refine q_aload_n d_Lens_drop_0 rfl rfl ?_
  refine q_iload_n d_Lens_drop_1 rfl rfl ?_
  refine q_callVv (M2 := M_Lens_needHandle) d_Lens_drop_2 ⟨(Nat.le_of_ble_eq_true rfl), (Nat.le_of_ble_eq_true rfl), w_747, w_1, ⟨by decide, by decide⟩, show _ = some 1 by decide +kernel⟩ w_744 w_746 (ci := 10) rfl s_18 hL.1 rfl (Nat.le_of_ble_eq_true rfl) (by omega) (by omega) (c_needHandle_ok hC hb) ?_
  rintro _ rfl
  refine q_aload_n d_Lens_drop_5 rfl rfl ?_
  refine q_getR (ci := 10) (fk := 2) d_Lens_drop_6 rfl (Nat.le_of_ble_eq_true rfl) w_274 (fun _ _ => rfl) hL.1 (hL.2 2 _ _ _ rfl).1 ?_
  refine q_iload_n d_Lens_drop_9 rfl rfl ?_
  refine q_aaldR (kd := _) d_Lens_drop_10 rfl (Nat.le_of_ble_eq_true rfl) (Nat.le_of_ble_eq_true rfl) (hL.2 2 _ _ _ rfl).2 (by first | assumption | exact vp_in_nI (by omega) (by omega)) (by first | assumption | rfl | (simp (disch := omega) only [q_upT_self, q_upT_ne, q_upR_self, q_upR_nea, q_upR_nk, q_upT_at, *]; done) | (simp (disch := omega) only [q_upT_self, q_upT_ne, q_upR_self, q_upR_nea, q_upR_nk, q_upT_at, *]; rfl)) ?_
  refine q_iconst (v := nI 0) d_Lens_drop_11 (by decide) ?_
  refine q_putI (ci := 5) (fk := 0) d_Lens_drop_12 rfl (Nat.le_of_ble_eq_true rfl) w_192 (Or.inl rfl) (fun _ _ => rfl) (by first | rfl | decide | assumption) (by first | rfl | decide | assumption) (by first | assumption | rfl | (simp (disch := omega) only [q_upT_self, q_upT_ne, q_upR_self, q_upR_nea, q_upR_nk, q_upT_at, *]; done) | (simp (disch := omega) only [q_upT_self, q_upT_ne, q_upR_self, q_upR_nea, q_upR_nk, q_upT_at, *]; rfl)) ?_
  refine q_vret d_Lens_drop_15 rfl (by omega) (by omega) ?_
  obtain ⟨h1, h2⟩ := hC.row (o := none) (I' := q_upI I r (nI 0) (nI 0)) hi e6 (fun b hb => by funext j; rw [q_upI_nea (by omega)]) (by rw [q_upI_self]; rfl) (fun c hc => by cases hc)
  exact Or.inl ⟨rfl, rfl, fun _ => rfl, _, _, _, _, rfl, h2, h1⟩
theorem c_Lens_drop_no (hC : relC S x sz T I R) {v : Int32} (hb : k_ish S.lv v = false) : q_C g M_Lens_drop [.ref x, .int v] (sz, T, I, R, J) 1000 14000 (q_Xv [2] (c_spv x sz T I R J (nI 1, 0, S))) := by
  have hL := hC.1.1
  refine q_C.of (ls0 := [some (.ref x), some (.int v)]) (by decide) rfl (by decide) (Nat.le_of_ble_eq_true rfl) rfl ?_
  refine q_aload_n d_Lens_drop_0 rfl rfl ?_
  refine q_iload_n d_Lens_drop_1 rfl rfl ?_
  refine q_callV (M2 := M_Lens_needHandle) d_Lens_drop_2 ⟨(Nat.le_of_ble_eq_true rfl), (Nat.le_of_ble_eq_true rfl), w_747, w_1, ⟨by decide, by decide⟩, show _ = some 1 by decide +kernel⟩ w_744 w_746 (ci := 10) rfl s_18 hL.1 rfl (Nat.le_of_ble_eq_true rfl) (by omega) (by omega) (c_needHandle_no hC hb) (fun v h' z => ?_) (fun z9 h' z => ?_)
  · cases z.1
  · obtain ⟨e9, rfl⟩ := z
    cases e9
    exact q_VX.out (by decide) (by omega) (by omega) (c_xv_no hC rfl)
theorem c_Lens_get_no (hC : relC S x sz T I R) {v p : Int32} (hb : k_ish S.lv v = false) : q_C g M_Lens_get [.ref x, .int v, .int p] (sz, T, I, R, J) 1000 14000 (q_Xi [2, 1] (c_sp x sz T I R J (nI 1, 0, S))) := by
  have hL := hC.1.1
  refine q_C.of (ls0 := [some (.ref x), some (.int v), some (.int p)]) (by decide) rfl (by decide) (Nat.le_of_ble_eq_true rfl) rfl ?_
  refine q_aload_n d_Lens_get_0 rfl rfl ?_
  refine q_iload_n d_Lens_get_1 rfl rfl ?_
  refine q_callV (M2 := M_Lens_needHandle) d_Lens_get_2 ⟨(Nat.le_of_ble_eq_true rfl), (Nat.le_of_ble_eq_true rfl), w_747, w_1, ⟨by decide, by decide⟩, show _ = some 1 by decide +kernel⟩ w_744 w_746 (ci := 10) rfl s_18 hL.1 rfl (Nat.le_of_ble_eq_true rfl) (by omega) (by omega) (c_needHandle_no hC hb) (fun v h' z => ?_) (fun z9 h' z => ?_)
  · cases z.1
  · obtain ⟨e9, rfl⟩ := z
    cases e9
    exact q_VX.out (by decide) (by omega) (by omega) (c_xi_no hC rfl)
theorem c_Lens_get_no2 (hw : wf S) (hC : relC S x sz T I R) {i : Nat} {c : KR} {L : List KF} {p : Int32} (hi : i < 16) (hc : S.rs i = some c) (hb : k_ish S.lv (nI i) = true) (hV : S.vs[c.ver]? = some L) (hp : a_pl L p 0 = none) : q_C g M_Lens_get [.ref x, .int (nI i), .int p] (sz, T, I, R, J) 1000 14000 (q_Xi [2, 1] (c_sp x sz T I R J (nI 2, 0, S))) := by
  obtain ⟨r, s, w, L2, e1, e2, e3, e4, e5, e6, e7, e8, e9, e10, e11⟩ := relC.of hw hC hi hc
  obtain rfl : L = L2 := Option.some.inj (hV.symm.trans e1)
  have hL := hC.1.1
  have hr0 := (r_T0 e7).1
  have hr1 := (e7.1.2 2 _ _ _ rfl).1
  refine q_C.of (ls0 := [some (.ref x), some (.int (nI i)), some (.int p)]) (by decide) rfl (by decide) (Nat.le_of_ble_eq_true rfl) rfl ?_
  refine q_aload_n d_Lens_get_0 rfl rfl ?_
  refine q_iload_n d_Lens_get_1 rfl rfl ?_
  refine q_callVv (M2 := M_Lens_needHandle) d_Lens_get_2 ⟨(Nat.le_of_ble_eq_true rfl), (Nat.le_of_ble_eq_true rfl), w_747, w_1, ⟨by decide, by decide⟩, show _ = some 1 by decide +kernel⟩ w_744 w_746 (ci := 10) rfl s_18 hL.1 rfl (Nat.le_of_ble_eq_true rfl) (by omega) (by omega) (c_needHandle_ok hC hb) ?_
  rintro _ rfl
  refine q_aload_n d_Lens_get_5 rfl rfl ?_
  refine q_getR (ci := 10) (fk := 2) d_Lens_get_6 rfl (Nat.le_of_ble_eq_true rfl) w_274 (fun _ _ => rfl) hL.1 (hL.2 2 _ _ _ rfl).1 ?_
  refine q_iload_n d_Lens_get_9 rfl rfl ?_
  refine q_aaldR (kd := _) d_Lens_get_10 rfl (Nat.le_of_ble_eq_true rfl) (Nat.le_of_ble_eq_true rfl) (hL.2 2 _ _ _ rfl).2 (by first | assumption | exact vp_in_nI (by omega) (by omega)) (by first | assumption | rfl | (simp (disch := omega) only [q_upT_self, q_upT_ne, q_upR_self, q_upR_nea, q_upR_nk, q_upT_at, *]; done) | (simp (disch := omega) only [q_upT_self, q_upT_ne, q_upR_self, q_upR_nea, q_upR_nk, q_upT_at, *]; rfl)) ?_
  refine q_getR (ci := 5) (fk := 2) d_Lens_get_11 rfl (Nat.le_of_ble_eq_true rfl) w_198 (fun _ _ => rfl) (by first | assumption | rfl | (simp (disch := omega) only [q_upT_self, q_upT_ne, q_upR_self, q_upR_nea, q_upR_nk, q_upT_at, *]; done) | (simp (disch := omega) only [q_upT_self, q_upT_ne, q_upR_self, q_upR_nea, q_upR_nk, q_upT_at, *]; rfl)) (by first | assumption | rfl | (simp (disch := omega) only [q_upT_self, q_upT_ne, q_upR_self, q_upR_nea, q_upR_nk, q_upT_at, *]; done) | (simp (disch := omega) only [q_upT_self, q_upT_ne, q_upR_self, q_upR_nea, q_upR_nk, q_upT_at, *]; rfl)) ?_
  refine q_aload_n d_Lens_get_14 rfl rfl ?_
  refine q_iload_n d_Lens_get_15 rfl rfl ?_
  refine q_iload_n d_Lens_get_16 rfl rfl ?_
  refine q_iconst (v := nI 0) d_Lens_get_17 (by decide) ?_
  refine q_callV (M2 := M_Lens_placeOf) d_Lens_get_18 ⟨(Nat.le_of_ble_eq_true rfl), (Nat.le_of_ble_eq_true rfl), w_777, w_1, ⟨by decide, by decide⟩, show _ = some 3 by decide +kernel⟩ w_774 w_776 (ci := 10) rfl s_19 hL.1 rfl (Nat.le_of_ble_eq_true rfl) (by omega) (by omega) (c_placeOf_no hC hi e6 hr0 e8.1 e3 e9 e10 e2.1.2.1 hp) (fun v h' z => ?_) (fun z9 h' z => ?_)
  · cases z.1
  · obtain ⟨e9, rfl⟩ := z
    cases e9
    exact q_VX.out (by decide) (by omega) (by omega) (c_xi_no hC rfl)
theorem c_Lens_get (hw : wf S) (hC : relC S x sz T I R) {i k : Nat} {c : KR} {L : List KF} {p v : Int32} (hi : i < 16) (hc : S.rs i = some c) (hb : k_ish S.lv (nI i) = true) (hV : S.vs[c.ver]? = some L) (hp : a_pl L p 0 = some k) (hv : c.val[k]? = some [v]) : q_C g M_Lens_get [.ref x, .int (nI i), .int p] (sz, T, I, R, J) 1000 14000 (q_Xi [2, 1] (c_sp x sz T I R J (0, v, S))) := by
  obtain ⟨r, s, w, L2, e1, e2, e3, e4, e5, e6, e7, e8, e9, e10, e11⟩ := relC.of hw hC hi hc
  obtain rfl : L = L2 := Option.some.inj (hV.symm.trans e1)
  have hL := hC.1.1
  have hr0 := (r_T0 e7).1
  have hr1 := (e7.1.2 2 _ _ _ rfl).1
  have hr2 := (r_T0 e7).2.1
  have hk : k < 24 := by have := (List.getElem?_eq_some_iff.mp hv).1; have := e2.1.1; omega
  refine q_C.of (ls0 := [some (.ref x), some (.int (nI i)), some (.int p)]) (by decide) rfl (by decide) (Nat.le_of_ble_eq_true rfl) rfl ?_
  refine q_aload_n d_Lens_get_0 rfl rfl ?_
  refine q_iload_n d_Lens_get_1 rfl rfl ?_
  refine q_callVv (M2 := M_Lens_needHandle) d_Lens_get_2 ⟨(Nat.le_of_ble_eq_true rfl), (Nat.le_of_ble_eq_true rfl), w_747, w_1, ⟨by decide, by decide⟩, show _ = some 1 by decide +kernel⟩ w_744 w_746 (ci := 10) rfl s_18 hL.1 rfl (Nat.le_of_ble_eq_true rfl) (by omega) (by omega) (c_needHandle_ok hC hb) ?_
  rintro _ rfl
  refine q_aload_n d_Lens_get_5 rfl rfl ?_
  refine q_getR (ci := 10) (fk := 2) d_Lens_get_6 rfl (Nat.le_of_ble_eq_true rfl) w_274 (fun _ _ => rfl) hL.1 (hL.2 2 _ _ _ rfl).1 ?_
  refine q_iload_n d_Lens_get_9 rfl rfl ?_
  refine q_aaldR (kd := _) d_Lens_get_10 rfl (Nat.le_of_ble_eq_true rfl) (Nat.le_of_ble_eq_true rfl) (hL.2 2 _ _ _ rfl).2 (by first | assumption | exact vp_in_nI (by omega) (by omega)) (by first | assumption | rfl | (simp (disch := omega) only [q_upT_self, q_upT_ne, q_upR_self, q_upR_nea, q_upR_nk, q_upT_at, *]; done) | (simp (disch := omega) only [q_upT_self, q_upT_ne, q_upR_self, q_upR_nea, q_upR_nk, q_upT_at, *]; rfl)) ?_
  refine q_getR (ci := 5) (fk := 2) d_Lens_get_11 rfl (Nat.le_of_ble_eq_true rfl) w_198 (fun _ _ => rfl) (by first | assumption | rfl | (simp (disch := omega) only [q_upT_self, q_upT_ne, q_upR_self, q_upR_nea, q_upR_nk, q_upT_at, *]; done) | (simp (disch := omega) only [q_upT_self, q_upT_ne, q_upR_self, q_upR_nea, q_upR_nk, q_upT_at, *]; rfl)) (by first | assumption | rfl | (simp (disch := omega) only [q_upT_self, q_upT_ne, q_upR_self, q_upR_nea, q_upR_nk, q_upT_at, *]; done) | (simp (disch := omega) only [q_upT_self, q_upT_ne, q_upR_self, q_upR_nea, q_upR_nk, q_upT_at, *]; rfl)) ?_
  refine q_aload_n d_Lens_get_14 rfl rfl ?_
  refine q_iload_n d_Lens_get_15 rfl rfl ?_
  refine q_iload_n d_Lens_get_16 rfl rfl ?_
  refine q_iconst (v := nI 0) d_Lens_get_17 (by decide) ?_
  refine q_callVi (M2 := M_Lens_placeOf) d_Lens_get_18 ⟨(Nat.le_of_ble_eq_true rfl), (Nat.le_of_ble_eq_true rfl), w_777, w_1, ⟨by decide, by decide⟩, show _ = some 3 by decide +kernel⟩ w_774 w_776 (ci := 10) rfl s_19 hL.1 rfl (Nat.le_of_ble_eq_true rfl) (by omega) (by omega) (c_placeOf_ok hC hi e6 hr0 e8.1 e3 e9 e10 e2.1.2.1 hp) ?_
  rintro _ _ ⟨rfl, rfl⟩
  refine q_iconst (v := nI 0) d_Lens_get_21 (by decide) ?_
  refine q_callVi (M2 := M_Cells_read) d_Lens_get_22 ⟨(Nat.le_of_ble_eq_true rfl), (Nat.le_of_ble_eq_true rfl), w_817, w_7, ⟨by decide, by decide⟩, show _ = some 2 by decide +kernel⟩ w_814 w_815 (ci := 1) rfl w_816 (by first | assumption | rfl | (simp (disch := omega) only [q_upT_self, q_upT_ne, q_upR_self, q_upR_nea, q_upR_nk, q_upT_at, *]; done) | (simp (disch := omega) only [q_upT_self, q_upT_ne, q_upR_self, q_upR_nea, q_upR_nk, q_upT_at, *]; rfl)) rfl (Nat.le_of_ble_eq_true rfl) (by omega) (by omega) (c_Cells_read (i := 0) e7.2.1 (by decide) (by omega)) ?_
  rintro _ _ ⟨rfl, rfl⟩
  have hv2 := (e8.2.1 k _ hv).2.2 0 v rfl
  rw [show r + 1 + 1 = r + 2 from rfl, hv2]
  refine q_iret d_Lens_get_25 rfl (by omega) (by omega) ?_
  exact c_xi_is hC _
theorem c_Lens_size_no (hC : relC S x sz T I R) {v p : Int32} (hb : k_ish S.lv v = false) : q_C g M_Lens_size [.ref x, .int v, .int p] (sz, T, I, R, J) 1000 14000 (q_Xi [2, 1] (c_sp x sz T I R J (nI 1, 0, S))) := by
  have hL := hC.1.1
  refine q_C.of (ls0 := [some (.ref x), some (.int v), some (.int p)]) (by decide) rfl (by decide) (Nat.le_of_ble_eq_true rfl) rfl ?_
  refine q_aload_n d_Lens_size_0 rfl rfl ?_
  refine q_iload_n d_Lens_size_1 rfl rfl ?_
  refine q_callV (M2 := M_Lens_needHandle) d_Lens_size_2 ⟨(Nat.le_of_ble_eq_true rfl), (Nat.le_of_ble_eq_true rfl), w_747, w_1, ⟨by decide, by decide⟩, show _ = some 1 by decide +kernel⟩ w_744 w_746 (ci := 10) rfl s_18 hL.1 rfl (Nat.le_of_ble_eq_true rfl) (by omega) (by omega) (c_needHandle_no hC hb) (fun v h' z => ?_) (fun z9 h' z => ?_)
  · cases z.1
  · obtain ⟨e9, rfl⟩ := z
    cases e9
    exact q_VX.out (by decide) (by omega) (by omega) (c_xi_no hC rfl)
theorem c_Lens_size_no2 (hw : wf S) (hC : relC S x sz T I R) {i : Nat} {c : KR} {L : List KF} {p : Int32} (hi : i < 16) (hc : S.rs i = some c) (hb : k_ish S.lv (nI i) = true) (hV : S.vs[c.ver]? = some L) (hp : a_pl L p 1 = none) : q_C g M_Lens_size [.ref x, .int (nI i), .int p] (sz, T, I, R, J) 1000 14000 (q_Xi [2, 1] (c_sp x sz T I R J (nI 2, 0, S))) := by
  obtain ⟨r, s, w, L2, e1, e2, e3, e4, e5, e6, e7, e8, e9, e10, e11⟩ := relC.of hw hC hi hc
  obtain rfl : L = L2 := Option.some.inj (hV.symm.trans e1)
  have hL := hC.1.1
  have hr0 := (r_T0 e7).1
  have hr1 := (e7.1.2 2 _ _ _ rfl).1
  refine q_C.of (ls0 := [some (.ref x), some (.int (nI i)), some (.int p)]) (by decide) rfl (by decide) (Nat.le_of_ble_eq_true rfl) rfl ?_
  refine q_aload_n d_Lens_size_0 rfl rfl ?_
  refine q_iload_n d_Lens_size_1 rfl rfl ?_
  refine q_callVv (M2 := M_Lens_needHandle) d_Lens_size_2 ⟨(Nat.le_of_ble_eq_true rfl), (Nat.le_of_ble_eq_true rfl), w_747, w_1, ⟨by decide, by decide⟩, show _ = some 1 by decide +kernel⟩ w_744 w_746 (ci := 10) rfl s_18 hL.1 rfl (Nat.le_of_ble_eq_true rfl) (by omega) (by omega) (c_needHandle_ok hC hb) ?_
  rintro _ rfl
  refine q_aload_n d_Lens_size_5 rfl rfl ?_
  refine q_getR (ci := 10) (fk := 2) d_Lens_size_6 rfl (Nat.le_of_ble_eq_true rfl) w_274 (fun _ _ => rfl) hL.1 (hL.2 2 _ _ _ rfl).1 ?_
  refine q_iload_n d_Lens_size_9 rfl rfl ?_
  refine q_aaldR (kd := _) d_Lens_size_10 rfl (Nat.le_of_ble_eq_true rfl) (Nat.le_of_ble_eq_true rfl) (hL.2 2 _ _ _ rfl).2 (by first | assumption | exact vp_in_nI (by omega) (by omega)) (by first | assumption | rfl | (simp (disch := omega) only [q_upT_self, q_upT_ne, q_upR_self, q_upR_nea, q_upR_nk, q_upT_at, *]; done) | (simp (disch := omega) only [q_upT_self, q_upT_ne, q_upR_self, q_upR_nea, q_upR_nk, q_upT_at, *]; rfl)) ?_
  refine q_getR (ci := 5) (fk := 2) d_Lens_size_11 rfl (Nat.le_of_ble_eq_true rfl) w_198 (fun _ _ => rfl) (by first | assumption | rfl | (simp (disch := omega) only [q_upT_self, q_upT_ne, q_upR_self, q_upR_nea, q_upR_nk, q_upT_at, *]; done) | (simp (disch := omega) only [q_upT_self, q_upT_ne, q_upR_self, q_upR_nea, q_upR_nk, q_upT_at, *]; rfl)) (by first | assumption | rfl | (simp (disch := omega) only [q_upT_self, q_upT_ne, q_upR_self, q_upR_nea, q_upR_nk, q_upT_at, *]; done) | (simp (disch := omega) only [q_upT_self, q_upT_ne, q_upR_self, q_upR_nea, q_upR_nk, q_upT_at, *]; rfl)) ?_
  refine q_aload_n d_Lens_size_14 rfl rfl ?_
  refine q_iload_n d_Lens_size_15 rfl rfl ?_
  refine q_iload_n d_Lens_size_16 rfl rfl ?_
  refine q_iconst (v := nI 1) d_Lens_size_17 (by decide) ?_
  refine q_callV (M2 := M_Lens_placeOf) d_Lens_size_18 ⟨(Nat.le_of_ble_eq_true rfl), (Nat.le_of_ble_eq_true rfl), w_777, w_1, ⟨by decide, by decide⟩, show _ = some 3 by decide +kernel⟩ w_774 w_776 (ci := 10) rfl s_19 hL.1 rfl (Nat.le_of_ble_eq_true rfl) (by omega) (by omega) (c_placeOf_no (so := nI 1) hC hi e6 hr0 e8.1 e3 e9 e10 e2.1.2.1 hp) (fun v h' z => ?_) (fun z9 h' z => ?_)
  · cases z.1
  · obtain ⟨e9, rfl⟩ := z
    cases e9
    exact q_VX.out (by decide) (by omega) (by omega) (c_xi_no hC rfl)
theorem c_Lens_size (hw : wf S) (hC : relC S x sz T I R) {i k : Nat} {c : KR} {L : List KF} {p : Int32} {v : List Int32} (hi : i < 16) (hc : S.rs i = some c) (hb : k_ish S.lv (nI i) = true) (hV : S.vs[c.ver]? = some L) (hp : a_pl L p 1 = some k) (hv : c.val[k]? = some v) : q_C g M_Lens_size [.ref x, .int (nI i), .int p] (sz, T, I, R, J) 1000 14000 (q_Xi [2, 1] (c_sp x sz T I R J (0, nI v.length, S))) := by
  obtain ⟨r, s, w, L2, e1, e2, e3, e4, e5, e6, e7, e8, e9, e10, e11⟩ := relC.of hw hC hi hc
  obtain rfl : L = L2 := Option.some.inj (hV.symm.trans e1)
  have hL := hC.1.1
  have hr0 := (r_T0 e7).1
  have hr1 := (e7.1.2 2 _ _ _ rfl).1
  have hr2 := (r_T0 e7).2.1
  have hk : k < 24 := by have := (List.getElem?_eq_some_iff.mp hv).1; have := e2.1.1; omega
  refine q_C.of (ls0 := [some (.ref x), some (.int (nI i)), some (.int p)]) (by decide) rfl (by decide) (Nat.le_of_ble_eq_true rfl) rfl ?_
  refine q_aload_n d_Lens_size_0 rfl rfl ?_
  refine q_iload_n d_Lens_size_1 rfl rfl ?_
  refine q_callVv (M2 := M_Lens_needHandle) d_Lens_size_2 ⟨(Nat.le_of_ble_eq_true rfl), (Nat.le_of_ble_eq_true rfl), w_747, w_1, ⟨by decide, by decide⟩, show _ = some 1 by decide +kernel⟩ w_744 w_746 (ci := 10) rfl s_18 hL.1 rfl (Nat.le_of_ble_eq_true rfl) (by omega) (by omega) (c_needHandle_ok hC hb) ?_
  rintro _ rfl
  refine q_aload_n d_Lens_size_5 rfl rfl ?_
  refine q_getR (ci := 10) (fk := 2) d_Lens_size_6 rfl (Nat.le_of_ble_eq_true rfl) w_274 (fun _ _ => rfl) hL.1 (hL.2 2 _ _ _ rfl).1 ?_
  refine q_iload_n d_Lens_size_9 rfl rfl ?_
  refine q_aaldR (kd := _) d_Lens_size_10 rfl (Nat.le_of_ble_eq_true rfl) (Nat.le_of_ble_eq_true rfl) (hL.2 2 _ _ _ rfl).2 (by first | assumption | exact vp_in_nI (by omega) (by omega)) (by first | assumption | rfl | (simp (disch := omega) only [q_upT_self, q_upT_ne, q_upR_self, q_upR_nea, q_upR_nk, q_upT_at, *]; done) | (simp (disch := omega) only [q_upT_self, q_upT_ne, q_upR_self, q_upR_nea, q_upR_nk, q_upT_at, *]; rfl)) ?_
  refine q_getR (ci := 5) (fk := 2) d_Lens_size_11 rfl (Nat.le_of_ble_eq_true rfl) w_198 (fun _ _ => rfl) (by first | assumption | rfl | (simp (disch := omega) only [q_upT_self, q_upT_ne, q_upR_self, q_upR_nea, q_upR_nk, q_upT_at, *]; done) | (simp (disch := omega) only [q_upT_self, q_upT_ne, q_upR_self, q_upR_nea, q_upR_nk, q_upT_at, *]; rfl)) (by first | assumption | rfl | (simp (disch := omega) only [q_upT_self, q_upT_ne, q_upR_self, q_upR_nea, q_upR_nk, q_upT_at, *]; done) | (simp (disch := omega) only [q_upT_self, q_upT_ne, q_upR_self, q_upR_nea, q_upR_nk, q_upT_at, *]; rfl)) ?_
  refine q_aload_n d_Lens_size_14 rfl rfl ?_
  refine q_iload_n d_Lens_size_15 rfl rfl ?_
  refine q_iload_n d_Lens_size_16 rfl rfl ?_
  refine q_iconst (v := nI 1) d_Lens_size_17 (by decide) ?_
  refine q_callVi (M2 := M_Lens_placeOf) d_Lens_size_18 ⟨(Nat.le_of_ble_eq_true rfl), (Nat.le_of_ble_eq_true rfl), w_777, w_1, ⟨by decide, by decide⟩, show _ = some 3 by decide +kernel⟩ w_774 w_776 (ci := 10) rfl s_19 hL.1 rfl (Nat.le_of_ble_eq_true rfl) (by omega) (by omega) (c_placeOf_ok (so := nI 1) hC hi e6 hr0 e8.1 e3 e9 e10 e2.1.2.1 hp) ?_
  rintro _ _ ⟨rfl, rfl⟩
  refine q_callVi (M2 := M_Cells_lengthOf) d_Lens_size_21 ⟨(Nat.le_of_ble_eq_true rfl), (Nat.le_of_ble_eq_true rfl), w_794, w_7, ⟨by decide, by decide⟩, show _ = some 1 by decide +kernel⟩ w_791 w_792 (ci := 1) rfl w_793 (by first | assumption | rfl | (simp (disch := omega) only [q_upT_self, q_upT_ne, q_upR_self, q_upR_nea, q_upR_nk, q_upT_at, *]; done) | (simp (disch := omega) only [q_upT_self, q_upT_ne, q_upR_self, q_upR_nea, q_upR_nk, q_upT_at, *]; rfl)) rfl (Nat.le_of_ble_eq_true rfl) (by omega) (by omega) (c_Cells_lengthOf e7.2.1 (by decide) (by omega)) ?_
  rintro _ _ ⟨rfl, rfl⟩
  rw [show r + 1 + 1 = r + 2 from rfl, (e8.2.1 k _ hv).2.1]
  refine q_iret d_Lens_size_24 rfl (by omega) (by omega) ?_
  exact c_xi_is hC _
end CPub2
