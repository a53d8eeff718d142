/-! the rest of them -/
section CPub3
variable {g : q_G} {sz x : Nat} {T : q_T} {I : q_I} {R : q_R} {J : q_J} {S : KA}
/-- one value is another -/
def KR.setV (c : KR) (k : Nat) (v : List Int32) : KR := (c.ver, c.val.set k v, c.kp)
theorem k_rec.val {r k : Nat} {c : KR} {I' : q_I} {v : List Int32} (h : k_rec r c I) (hk : k < c.val.length) (h24 : c.val.length ≤ 24) (hI : ∀ b, b ≠ r + 2 → I' b = I b) (hv : k_rw (I' (r + 2)) (k * 7) v) (ho : ∀ j, j < 2 ^ 31 → j < k * 7 ∨ k * 7 + 7 ≤ j → I' (r + 2) (nI j) = I (r + 2) (nI j)) : k_rec r (c.setV k v) I' := by
  obtain ⟨h1, h2, h3⟩ := h
  refine ⟨by rw [hI r (by omega)]; exact h1, fun i u hu => ?_, ?_⟩
  · have hu2 : (c.val.set k v)[i]? = some u := hu
    rw [List.getElem?_set] at hu2
    by_cases hik : k = i
    · rw [if_pos hik, if_pos hk] at hu2
      cases hu2
      subst hik
      exact hv
    · rw [if_neg hik] at hu2
      have hi := (List.getElem?_eq_some_iff.mp hu2).1
      exact (h2 i u hu2).cong (fun j j1 j2 => ho j (by omega) (by omega))
  · rw [hI (r + 3) (by omega), hI (r + 5) (by omega), hI (r + 7) (by omega)]
    exact h3
/-- a value of a living record is another -/
theorem relC.val (hw : wf S) (h : relC S x sz T I R) {i k r : Nat} {c : KR} {I' : q_I} {v : List Int32} (hi : i < 16) (hr : R (x + 60) (nI i) = some r) (hc : k_rec r c I) (hl : I r (nI 0) = 1) (hk : k < c.val.length) (h24 : c.val.length ≤ 24) (hI : ∀ b, b ≠ r + 2 → I' b = I b) (hv : k_rw (I' (r + 2)) (k * 7) v) (ho : ∀ j, j < 2 ^ 31 → j < k * 7 ∨ k * 7 + 7 ≤ j → I' (r + 2) (nI j) = I (r + 2) (nI j)) : relC (S.setR i (some (c.setV k v))) x sz T I' R ∧ c_fr x sz T I R sz T I' R :=
  h.row hi hr (fun b hb => hI b (by omega)) (by rw [hI r (by omega), hl]; rfl) (fun c2 hc2 => by cases hc2; exact hc.val hk h24 hI hv ho)

theorem c_Lens_item_no (hC : relC S x sz T I R) {v p n : Int32} (hb : k_ish S.lv v = false) : q_C g M_Lens_item [.ref x, .int v, .int p, .int n] (sz, T, I, R, J) 1000 14000 (q_Xi [2, 1] (c_sp x sz T I R J (nI 1, 0, S))) := by
  have hL := hC.1.1
  refine q_C.of (ls0 := [some (.ref x), some (.int v), some (.int p), some (.int n), none]) (by decide) rfl (by decide) (Nat.le_of_ble_eq_true rfl) rfl ?_
  refine q_aload_n d_Lens_item_0 rfl rfl ?_
  refine q_iload_n d_Lens_item_1 rfl rfl ?_
  refine q_callV (M2 := M_Lens_needHandle) d_Lens_item_2 ⟨(Nat.le_of_ble_eq_true rfl), (Nat.le_of_ble_eq_true rfl), w_747, w_1, ⟨by decide, by decide⟩, show _ = some 1 by decide +kernel⟩ w_744 w_746 (ci := 10) rfl s_18 hL.1 rfl (Nat.le_of_ble_eq_true rfl) (by omega) (by omega) (c_needHandle_no hC hb) (fun v h' z => ?_) (fun z9 h' z => ?_)
  · cases z.1
  · obtain ⟨e9, rfl⟩ := z
    cases e9
    exact q_VX.out (by decide) (by omega) (by omega) (c_xi_no hC rfl)

theorem c_Lens_item_no2 (hw : wf S) (hC : relC S x sz T I R) {i : Nat} {c : KR} {L : List KF} {p n : Int32} (hi : i < 16) (hc : S.rs i = some c) (hb : k_ish S.lv (nI i) = true) (hV : S.vs[c.ver]? = some L) (hp : a_pl L p 1 = none) : q_C g M_Lens_item [.ref x, .int (nI i), .int p, .int n] (sz, T, I, R, J) 1000 14000 (q_Xi [2, 1] (c_sp x sz T I R J (nI 2, 0, S))) := by
  obtain ⟨r, s, w, L2, e1, e2, e3, e4, e5, e6, e7, e8, e9, e10, e11⟩ := relC.of hw hC hi hc
  obtain rfl : L = L2 := Option.some.inj (hV.symm.trans e1)
  have hL := hC.1.1
  have hr0 := (r_T0 e7).1
  have hr1 := (e7.1.2 2 _ _ _ rfl).1
  have hr2 := (r_T0 e7).2.1
  refine q_C.of (ls0 := [some (.ref x), some (.int (nI i)), some (.int p), some (.int n), none]) (by decide) rfl (by decide) (Nat.le_of_ble_eq_true rfl) rfl ?_
  refine q_aload_n d_Lens_item_0 rfl rfl ?_
  refine q_iload_n d_Lens_item_1 rfl rfl ?_
  refine q_callVv (M2 := M_Lens_needHandle) d_Lens_item_2 ⟨(Nat.le_of_ble_eq_true rfl), (Nat.le_of_ble_eq_true rfl), w_747, w_1, ⟨by decide, by decide⟩, show _ = some 1 by decide +kernel⟩ w_744 w_746 (ci := 10) rfl s_18 hL.1 rfl (Nat.le_of_ble_eq_true rfl) (by omega) (by omega) (c_needHandle_ok hC hb) ?_
  rintro _ rfl
  refine q_aload_n d_Lens_item_5 rfl rfl ?_
  refine q_iload_n d_Lens_item_6 rfl rfl ?_
  refine q_iload_n d_Lens_item_7 rfl rfl ?_
  refine q_iconst (v := nI 1) d_Lens_item_8 (by decide) ?_
  refine q_callV (M2 := M_Lens_placeOf) d_Lens_item_9 ⟨(Nat.le_of_ble_eq_true rfl), (Nat.le_of_ble_eq_true rfl), w_777, w_1, ⟨by decide, by decide⟩, show _ = some 3 by decide +kernel⟩ w_774 w_776 (ci := 10) rfl s_19 hL.1 rfl (Nat.le_of_ble_eq_true rfl) (by omega) (by omega) (c_placeOf_no (so := nI 1) hC hi e6 hr0 e8.1 e3 e9 e10 e2.1.2.1 hp) (fun v h' z => ?_) (fun z9 h' z => ?_)
  · cases z.1
  · obtain ⟨e9, rfl⟩ := z
    cases e9
    exact q_VX.out (by decide) (by omega) (by omega) (c_xi_no hC rfl)

theorem c_Lens_item_no3 (hw : wf S) (hC : relC S x sz T I R) {i k : Nat} {c : KR} {L : List KF} {p n : Int32} (hi : i < 16) (hc : S.rs i = some c) (hb : k_ish S.lv (nI i) = true) (hV : S.vs[c.ver]? = some L) (hp : a_pl L p 1 = some k) {v : List Int32} (hv : c.val[k]? = some v) (hn : n < 0 ∨ nI v.length ≤ n) : q_C g M_Lens_item [.ref x, .int (nI i), .int p, .int n] (sz, T, I, R, J) 1000 14000 (q_Xi [2, 1] (c_sp x sz T I R J (nI 2, 0, S))) := by
  obtain ⟨r, s, w, L2, e1, e2, e3, e4, e5, e6, e7, e8, e9, e10, e11⟩ := relC.of hw hC hi hc
  obtain rfl : L = L2 := Option.some.inj (hV.symm.trans e1)
  have hL := hC.1.1
  have hr0 := (r_T0 e7).1
  have hr1 := (e7.1.2 2 _ _ _ rfl).1
  have hr2 := (r_T0 e7).2.1
  have hk : k < 24 := by have := (List.getElem?_eq_some_iff.mp hv).1; have := e2.1.1; omega
  have hw1 := e8.2.1 k _ hv
  have hw6 := hw1.1
  refine q_C.of (ls0 := [some (.ref x), some (.int (nI i)), some (.int p), some (.int n), none]) (by decide) rfl (by decide) (Nat.le_of_ble_eq_true rfl) rfl ?_
  refine q_aload_n d_Lens_item_0 rfl rfl ?_
  refine q_iload_n d_Lens_item_1 rfl rfl ?_
  refine q_callVv (M2 := M_Lens_needHandle) d_Lens_item_2 ⟨(Nat.le_of_ble_eq_true rfl), (Nat.le_of_ble_eq_true rfl), w_747, w_1, ⟨by decide, by decide⟩, show _ = some 1 by decide +kernel⟩ w_744 w_746 (ci := 10) rfl s_18 hL.1 rfl (Nat.le_of_ble_eq_true rfl) (by omega) (by omega) (c_needHandle_ok hC hb) ?_
  rintro _ rfl
  refine q_aload_n d_Lens_item_5 rfl rfl ?_
  refine q_iload_n d_Lens_item_6 rfl rfl ?_
  refine q_iload_n d_Lens_item_7 rfl rfl ?_
  refine q_iconst (v := nI 1) d_Lens_item_8 (by decide) ?_
  refine q_callVi (M2 := M_Lens_placeOf) d_Lens_item_9 ⟨(Nat.le_of_ble_eq_true rfl), (Nat.le_of_ble_eq_true rfl), w_777, w_1, ⟨by decide, by decide⟩, show _ = some 3 by decide +kernel⟩ w_774 w_776 (ci := 10) rfl s_19 hL.1 rfl (Nat.le_of_ble_eq_true rfl) (by omega) (by omega) (c_placeOf_ok (so := nI 1) hC hi e6 hr0 e8.1 e3 e9 e10 e2.1.2.1 hp) ?_
  rintro _ _ ⟨rfl, rfl⟩
  refine q_istore d_Lens_item_12 (Nat.le_of_ble_eq_true rfl) (by first | exact q_ok0 | exact q_okI rfl | exact q_okR rfl | exact q_okN rfl) rfl ?_
  refine q_iload_n d_Lens_item_14 rfl rfl ?_
  refine q_if_lt (tgt := 36) d_Lens_item_15 rfl (fun hc => ?_) (fun hc => ?_)
  · refine q_throw (x := 1) d_Lens_item_36 d_Lens_item_39 d_Lens_item_40 d_Lens_item_43 (by decide +kernel) x_nmf (Nat.le_of_ble_eq_true rfl) (Nat.le_of_ble_eq_true rfl) (Nat.le_of_ble_eq_true rfl) w_396 w_16 x_at1 rfl (Nat.le_of_ble_eq_true rfl) (by omega) (by omega) ?_
    exact c_xi_no hC rfl
  · refine q_iload_n d_Lens_item_18 rfl rfl ?_
    refine q_aload_n d_Lens_item_19 rfl rfl ?_
    refine q_getR (ci := 10) (fk := 2) d_Lens_item_20 rfl (Nat.le_of_ble_eq_true rfl) w_274 (fun _ _ => rfl) hL.1 (hL.2 2 _ _ _ rfl).1 ?_
    refine q_iload_n d_Lens_item_23 rfl rfl ?_
    refine q_aaldR (kd := _) d_Lens_item_24 rfl (Nat.le_of_ble_eq_true rfl) (Nat.le_of_ble_eq_true rfl) (hL.2 2 _ _ _ rfl).2 (by first | assumption | exact vp_in_nI (by omega) (by omega)) (by first | assumption | rfl | (simp (disch := omega) only [q_upT_self, q_upT_ne, q_upR_self, q_upR_nea, q_upR_nk, q_upT_at, *]; done) | (simp (disch := omega) only [q_upT_self, q_upT_ne, q_upR_self, q_upR_nea, q_upR_nk, q_upT_at, *]; rfl)) ?_
    refine q_getR (ci := 5) (fk := 2) d_Lens_item_25 rfl (Nat.le_of_ble_eq_true rfl) w_198 (fun _ _ => rfl) (by first | assumption | rfl | (simp (disch := omega) only [q_upT_self, q_upT_ne, q_upR_self, q_upR_nea, q_upR_nk, q_upT_at, *]; done) | (simp (disch := omega) only [q_upT_self, q_upT_ne, q_upR_self, q_upR_nea, q_upR_nk, q_upT_at, *]; rfl)) (by first | assumption | rfl | (simp (disch := omega) only [q_upT_self, q_upT_ne, q_upR_self, q_upR_nea, q_upR_nk, q_upT_at, *]; done) | (simp (disch := omega) only [q_upT_self, q_upT_ne, q_upR_self, q_upR_nea, q_upR_nk, q_upT_at, *]; rfl)) ?_
    refine q_iload d_Lens_item_28 rfl ?_
    refine q_callVi (M2 := M_Cells_lengthOf) d_Lens_item_30 ⟨(Nat.le_of_ble_eq_true rfl), (Nat.le_of_ble_eq_true rfl), w_794, w_7, ⟨by decide, by decide⟩, show _ = some 1 by decide +kernel⟩ w_791 w_792 (ci := 1) rfl w_793 (by first | assumption | rfl | (simp (disch := omega) only [q_upT_self, q_upT_ne, q_upR_self, q_upR_nea, q_upR_nk, q_upT_at, *]; done) | (simp (disch := omega) only [q_upT_self, q_upT_ne, q_upR_self, q_upR_nea, q_upR_nk, q_upT_at, *]; rfl)) rfl (Nat.le_of_ble_eq_true rfl) (by omega) (by omega) (c_Cells_lengthOf e7.2.1 (by decide) (by omega)) ?_
    rintro _ _ ⟨rfl, rfl⟩
    rw [show r + 1 + 1 = r + 2 from rfl, hw1.2.1]
    have h9 := hc
    refine q_icmp_lt (tgt := 44) d_Lens_item_33 rfl (fun hc => ?_) (fun hc => ?_)
    · rcases hn with hn | hn
      · exact absurd hn h9
      · exact absurd hc (Int32.not_lt.mpr hn)
    · refine q_throw (x := 1) d_Lens_item_36 d_Lens_item_39 d_Lens_item_40 d_Lens_item_43 (by decide +kernel) x_nmf (Nat.le_of_ble_eq_true rfl) (Nat.le_of_ble_eq_true rfl) (Nat.le_of_ble_eq_true rfl) w_396 w_16 x_at1 rfl (Nat.le_of_ble_eq_true rfl) (by omega) (by omega) ?_
      exact c_xi_no hC rfl

theorem c_Lens_item (hw : wf S) (hC : relC S x sz T I R) {i k : Nat} {c : KR} {L : List KF} {p : Int32} (hi : i < 16) (hc : S.rs i = some c) (hb : k_ish S.lv (nI i) = true) (hV : S.vs[c.ver]? = some L) (hp : a_pl L p 1 = some k) {v : List Int32} (hv : c.val[k]? = some v) {n : Nat} {y : Int32} (hn : v[n]? = some y) : q_C g M_Lens_item [.ref x, .int (nI i), .int p, .int (nI n)] (sz, T, I, R, J) 1000 14000 (q_Xi [2, 1] (c_sp x sz T I R J (0, y, S))) := by
  obtain ⟨r, s, w, L2, e1, e2, e3, e4, e5, e6, e7, e8, e9, e10, e11⟩ := relC.of hw hC hi hc
  obtain rfl : L = L2 := Option.some.inj (hV.symm.trans e1)
  have hL := hC.1.1
  have hr0 := (r_T0 e7).1
  have hr1 := (e7.1.2 2 _ _ _ rfl).1
  have hr2 := (r_T0 e7).2.1
  have hk : k < 24 := by have := (List.getElem?_eq_some_iff.mp hv).1; have := e2.1.1; omega
  have hw1 := e8.2.1 k _ hv
  have hw6 := hw1.1
  have hn6 := (List.getElem?_eq_some_iff.mp hn).1
  refine q_C.of (ls0 := [some (.ref x), some (.int (nI i)), some (.int p), some (.int (nI n)), none]) (by decide) rfl (by decide) (Nat.le_of_ble_eq_true rfl) rfl ?_
  refine q_aload_n d_Lens_item_0 rfl rfl ?_
  refine q_iload_n d_Lens_item_1 rfl rfl ?_
  refine q_callVv (M2 := M_Lens_needHandle) d_Lens_item_2 ⟨(Nat.le_of_ble_eq_true rfl), (Nat.le_of_ble_eq_true rfl), w_747, w_1, ⟨by decide, by decide⟩, show _ = some 1 by decide +kernel⟩ w_744 w_746 (ci := 10) rfl s_18 hL.1 rfl (Nat.le_of_ble_eq_true rfl) (by omega) (by omega) (c_needHandle_ok hC hb) ?_
  rintro _ rfl
  refine q_aload_n d_Lens_item_5 rfl rfl ?_
  refine q_iload_n d_Lens_item_6 rfl rfl ?_
  refine q_iload_n d_Lens_item_7 rfl rfl ?_
  refine q_iconst (v := nI 1) d_Lens_item_8 (by decide) ?_
  refine q_callVi (M2 := M_Lens_placeOf) d_Lens_item_9 ⟨(Nat.le_of_ble_eq_true rfl), (Nat.le_of_ble_eq_true rfl), w_777, w_1, ⟨by decide, by decide⟩, show _ = some 3 by decide +kernel⟩ w_774 w_776 (ci := 10) rfl s_19 hL.1 rfl (Nat.le_of_ble_eq_true rfl) (by omega) (by omega) (c_placeOf_ok (so := nI 1) hC hi e6 hr0 e8.1 e3 e9 e10 e2.1.2.1 hp) ?_
  rintro _ _ ⟨rfl, rfl⟩
  refine q_istore d_Lens_item_12 (Nat.le_of_ble_eq_true rfl) (by first | exact q_ok0 | exact q_okI rfl | exact q_okR rfl | exact q_okN rfl) rfl ?_
  refine q_iload_n d_Lens_item_14 rfl rfl ?_
  refine q_if_lt (tgt := 36) d_Lens_item_15 rfl (fun hc => ?_) (fun hc => ?_)
  · exact absurd hc (nI_pos (by omega))
  · refine q_iload_n d_Lens_item_18 rfl rfl ?_
    refine q_aload_n d_Lens_item_19 rfl rfl ?_
    refine q_getR (ci := 10) (fk := 2) d_Lens_item_20 rfl (Nat.le_of_ble_eq_true rfl) w_274 (fun _ _ => rfl) hL.1 (hL.2 2 _ _ _ rfl).1 ?_
    refine q_iload_n d_Lens_item_23 rfl rfl ?_
    refine q_aaldR (kd := _) d_Lens_item_24 rfl (Nat.le_of_ble_eq_true rfl) (Nat.le_of_ble_eq_true rfl) (hL.2 2 _ _ _ rfl).2 (by first | assumption | exact vp_in_nI (by omega) (by omega)) (by first | assumption | rfl | (simp (disch := omega) only [q_upT_self, q_upT_ne, q_upR_self, q_upR_nea, q_upR_nk, q_upT_at, *]; done) | (simp (disch := omega) only [q_upT_self, q_upT_ne, q_upR_self, q_upR_nea, q_upR_nk, q_upT_at, *]; rfl)) ?_
    refine q_getR (ci := 5) (fk := 2) d_Lens_item_25 rfl (Nat.le_of_ble_eq_true rfl) w_198 (fun _ _ => rfl) (by first | assumption | rfl | (simp (disch := omega) only [q_upT_self, q_upT_ne, q_upR_self, q_upR_nea, q_upR_nk, q_upT_at, *]; done) | (simp (disch := omega) only [q_upT_self, q_upT_ne, q_upR_self, q_upR_nea, q_upR_nk, q_upT_at, *]; rfl)) (by first | assumption | rfl | (simp (disch := omega) only [q_upT_self, q_upT_ne, q_upR_self, q_upR_nea, q_upR_nk, q_upT_at, *]; done) | (simp (disch := omega) only [q_upT_self, q_upT_ne, q_upR_self, q_upR_nea, q_upR_nk, q_upT_at, *]; rfl)) ?_
    refine q_iload d_Lens_item_28 rfl ?_
    refine q_callVi (M2 := M_Cells_lengthOf) d_Lens_item_30 ⟨(Nat.le_of_ble_eq_true rfl), (Nat.le_of_ble_eq_true rfl), w_794, w_7, ⟨by decide, by decide⟩, show _ = some 1 by decide +kernel⟩ w_791 w_792 (ci := 1) rfl w_793 (by first | assumption | rfl | (simp (disch := omega) only [q_upT_self, q_upT_ne, q_upR_self, q_upR_nea, q_upR_nk, q_upT_at, *]; done) | (simp (disch := omega) only [q_upT_self, q_upT_ne, q_upR_self, q_upR_nea, q_upR_nk, q_upT_at, *]; rfl)) rfl (Nat.le_of_ble_eq_true rfl) (by omega) (by omega) (c_Cells_lengthOf e7.2.1 (by decide) (by omega)) ?_
    rintro _ _ ⟨rfl, rfl⟩
    rw [show r + 1 + 1 = r + 2 from rfl, hw1.2.1]
    refine q_icmp_lt (tgt := 44) d_Lens_item_33 rfl (fun hc => ?_) (fun hc => ?_)
    · refine q_aload_n d_Lens_item_44 rfl rfl ?_
      refine q_getR (ci := 10) (fk := 2) d_Lens_item_45 rfl (Nat.le_of_ble_eq_true rfl) w_274 (fun _ _ => rfl) hL.1 (hL.2 2 _ _ _ rfl).1 ?_
      refine q_iload_n d_Lens_item_48 rfl rfl ?_
      refine q_aaldR (kd := _) d_Lens_item_49 rfl (Nat.le_of_ble_eq_true rfl) (Nat.le_of_ble_eq_true rfl) (hL.2 2 _ _ _ rfl).2 (by first | assumption | exact vp_in_nI (by omega) (by omega)) (by first | assumption | rfl | (simp (disch := omega) only [q_upT_self, q_upT_ne, q_upR_self, q_upR_nea, q_upR_nk, q_upT_at, *]; done) | (simp (disch := omega) only [q_upT_self, q_upT_ne, q_upR_self, q_upR_nea, q_upR_nk, q_upT_at, *]; rfl)) ?_
      refine q_getR (ci := 5) (fk := 2) d_Lens_item_50 rfl (Nat.le_of_ble_eq_true rfl) w_198 (fun _ _ => rfl) (by first | assumption | rfl | (simp (disch := omega) only [q_upT_self, q_upT_ne, q_upR_self, q_upR_nea, q_upR_nk, q_upT_at, *]; done) | (simp (disch := omega) only [q_upT_self, q_upT_ne, q_upR_self, q_upR_nea, q_upR_nk, q_upT_at, *]; rfl)) (by first | assumption | rfl | (simp (disch := omega) only [q_upT_self, q_upT_ne, q_upR_self, q_upR_nea, q_upR_nk, q_upT_at, *]; done) | (simp (disch := omega) only [q_upT_self, q_upT_ne, q_upR_self, q_upR_nea, q_upR_nk, q_upT_at, *]; rfl)) ?_
      refine q_iload d_Lens_item_53 rfl ?_
      refine q_iload_n d_Lens_item_55 rfl rfl ?_
      refine q_callVi (M2 := M_Cells_read) d_Lens_item_56 ⟨(Nat.le_of_ble_eq_true rfl), (Nat.le_of_ble_eq_true rfl), w_817, w_7, ⟨by decide, by decide⟩, show _ = some 2 by decide +kernel⟩ w_814 w_815 (ci := 1) rfl w_816 (by first | assumption | rfl | (simp (disch := omega) only [q_upT_self, q_upT_ne, q_upR_self, q_upR_nea, q_upR_nk, q_upT_at, *]; done) | (simp (disch := omega) only [q_upT_self, q_upT_ne, q_upR_self, q_upR_nea, q_upR_nk, q_upT_at, *]; rfl)) rfl (Nat.le_of_ble_eq_true rfl) (by omega) (by omega) (c_Cells_read (i := n) e7.2.1 (by decide) (by omega)) ?_
      rintro _ _ ⟨rfl, rfl⟩
      rw [show r + 1 + 1 = r + 2 from rfl, hw1.2.2 n y hn]
      refine q_iret d_Lens_item_59 rfl (by omega) (by omega) ?_
      exact c_xi_is hC _
    · exact absurd (nI_lt hn6 (by omega)) hc

theorem c_Lens_set_no (hC : relC S x sz T I R) {v p n : Int32} (hb : k_ish S.lv v = false) : q_C g M_Lens_set [.ref x, .int v, .int p, .int n] (sz, T, I, R, J) 1000 14000 (q_Xv [2, 1] (c_spv x sz T I R J (nI 1, 0, S))) := by
  have hL := hC.1.1
  refine q_C.of (ls0 := [some (.ref x), some (.int v), some (.int p), some (.int n), none]) (by decide) rfl (by decide) (Nat.le_of_ble_eq_true rfl) rfl ?_
  refine q_aload_n d_Lens_set_0 rfl rfl ?_
  refine q_iload_n d_Lens_set_1 rfl rfl ?_
  refine q_callV (M2 := M_Lens_needHandle) d_Lens_set_2 ⟨(Nat.le_of_ble_eq_true rfl), (Nat.le_of_ble_eq_true rfl), w_747, w_1, ⟨by decide, by decide⟩, show _ = some 1 by decide +kernel⟩ w_744 w_746 (ci := 10) rfl s_18 hL.1 rfl (Nat.le_of_ble_eq_true rfl) (by omega) (by omega) (c_needHandle_no hC hb) (fun v h' z => ?_) (fun z9 h' z => ?_)
  · cases z.1
  · obtain ⟨e9, rfl⟩ := z
    cases e9
    exact q_VX.out (by decide) (by omega) (by omega) (c_xv_no hC rfl)

theorem c_Lens_set_no2 (hw : wf S) (hC : relC S x sz T I R) {i : Nat} {c : KR} {L : List KF} {p n : Int32} (hi : i < 16) (hc : S.rs i = some c) (hb : k_ish S.lv (nI i) = true) (hV : S.vs[c.ver]? = some L) (hp : a_pl L p 0 = none) : q_C g M_Lens_set [.ref x, .int (nI i), .int p, .int n] (sz, T, I, R, J) 1000 14000 (q_Xv [2, 1] (c_spv x sz T I R J (nI 2, 0, S))) := by
  obtain ⟨r, s, w, L2, e1, e2, e3, e4, e5, e6, e7, e8, e9, e10, e11⟩ := relC.of hw hC hi hc
  obtain rfl : L = L2 := Option.some.inj (hV.symm.trans e1)
  have hL := hC.1.1
  have hr0 := (r_T0 e7).1
  have hr1 := (e7.1.2 2 _ _ _ rfl).1
  have hr2 := (r_T0 e7).2.1
  refine q_C.of (ls0 := [some (.ref x), some (.int (nI i)), some (.int p), some (.int n), none]) (by decide) rfl (by decide) (Nat.le_of_ble_eq_true rfl) rfl ?_
  refine q_aload_n d_Lens_set_0 rfl rfl ?_
  refine q_iload_n d_Lens_set_1 rfl rfl ?_
  refine q_callVv (M2 := M_Lens_needHandle) d_Lens_set_2 ⟨(Nat.le_of_ble_eq_true rfl), (Nat.le_of_ble_eq_true rfl), w_747, w_1, ⟨by decide, by decide⟩, show _ = some 1 by decide +kernel⟩ w_744 w_746 (ci := 10) rfl s_18 hL.1 rfl (Nat.le_of_ble_eq_true rfl) (by omega) (by omega) (c_needHandle_ok hC hb) ?_
  rintro _ rfl
  refine q_aload_n d_Lens_set_5 rfl rfl ?_
  refine q_iload_n d_Lens_set_6 rfl rfl ?_
  refine q_iload_n d_Lens_set_7 rfl rfl ?_
  refine q_iconst (v := nI 0) d_Lens_set_8 (by decide) ?_
  refine q_callV (M2 := M_Lens_placeOf) d_Lens_set_9 ⟨(Nat.le_of_ble_eq_true rfl), (Nat.le_of_ble_eq_true rfl), w_777, w_1, ⟨by decide, by decide⟩, show _ = some 3 by decide +kernel⟩ w_774 w_776 (ci := 10) rfl s_19 hL.1 rfl (Nat.le_of_ble_eq_true rfl) (by omega) (by omega) (c_placeOf_no (so := nI 0) hC hi e6 hr0 e8.1 e3 e9 e10 e2.1.2.1 hp) (fun v h' z => ?_) (fun z9 h' z => ?_)
  · cases z.1
  · obtain ⟨e9, rfl⟩ := z
    cases e9
    exact q_VX.out (by decide) (by omega) (by omega) (c_xv_no hC rfl)

theorem c_Lens_set_no3 (hw : wf S) (hC : relC S x sz T I R) {i k : Nat} {c : KR} {L : List KF} {p n : Int32} (hi : i < 16) (hc : S.rs i = some c) (hb : k_ish S.lv (nI i) = true) (hV : S.vs[c.ver]? = some L) (hp : a_pl L p 0 = some k) {f : KF} (hf : L[k]? = some f) (hn : (decide (f.2.2.1 ≤ n) && decide (n ≤ f.2.2.2.1)) = false) : q_C g M_Lens_set [.ref x, .int (nI i), .int p, .int n] (sz, T, I, R, J) 1000 14000 (q_Xv [2, 1] (c_spv x sz T I R J (nI 2, 0, S))) := by
  obtain ⟨r, s, w, L2, e1, e2, e3, e4, e5, e6, e7, e8, e9, e10, e11⟩ := relC.of hw hC hi hc
  obtain rfl : L = L2 := Option.some.inj (hV.symm.trans e1)
  have hL := hC.1.1
  have hr0 := (r_T0 e7).1
  have hr1 := (e7.1.2 2 _ _ _ rfl).1
  have hr2 := (r_T0 e7).2.1
  obtain ⟨g1, g2, g3, g4⟩ := e10.at hf
  have hs1 := e10.1.1.1
  have hs2 := (e10.1.1.2 0 _ _ _ rfl).1
  have hs3 := (e10.1.1.2 0 _ _ _ rfl).2
  refine q_C.of (ls0 := [some (.ref x), some (.int (nI i)), some (.int p), some (.int n), none]) (by decide) rfl (by decide) (Nat.le_of_ble_eq_true rfl) rfl ?_
  refine q_aload_n d_Lens_set_0 rfl rfl ?_
  refine q_iload_n d_Lens_set_1 rfl rfl ?_
  refine q_callVv (M2 := M_Lens_needHandle) d_Lens_set_2 ⟨(Nat.le_of_ble_eq_true rfl), (Nat.le_of_ble_eq_true rfl), w_747, w_1, ⟨by decide, by decide⟩, show _ = some 1 by decide +kernel⟩ w_744 w_746 (ci := 10) rfl s_18 hL.1 rfl (Nat.le_of_ble_eq_true rfl) (by omega) (by omega) (c_needHandle_ok hC hb) ?_
  rintro _ rfl
  refine q_aload_n d_Lens_set_5 rfl rfl ?_
  refine q_iload_n d_Lens_set_6 rfl rfl ?_
  refine q_iload_n d_Lens_set_7 rfl rfl ?_
  refine q_iconst (v := nI 0) d_Lens_set_8 (by decide) ?_
  refine q_callVi (M2 := M_Lens_placeOf) d_Lens_set_9 ⟨(Nat.le_of_ble_eq_true rfl), (Nat.le_of_ble_eq_true rfl), w_777, w_1, ⟨by decide, by decide⟩, show _ = some 3 by decide +kernel⟩ w_774 w_776 (ci := 10) rfl s_19 hL.1 rfl (Nat.le_of_ble_eq_true rfl) (by omega) (by omega) (c_placeOf_ok (so := nI 0) hC hi e6 hr0 e8.1 e3 e9 e10 e2.1.2.1 hp) ?_
  rintro _ _ ⟨rfl, rfl⟩
  refine q_istore d_Lens_set_12 (Nat.le_of_ble_eq_true rfl) (by first | exact q_ok0 | exact q_okI rfl | exact q_okR rfl | exact q_okN rfl) rfl ?_
  refine q_aload_n d_Lens_set_14 rfl rfl ?_
  refine q_iload_n d_Lens_set_15 rfl rfl ?_
  refine q_callVr (M2 := M_Lens_schemaOf) d_Lens_set_16 ⟨(Nat.le_of_ble_eq_true rfl), (Nat.le_of_ble_eq_true rfl), w_781, w_1, ⟨by decide, by decide⟩, show _ = some 1 by decide +kernel⟩ w_778 w_780 (ci := 10) rfl s_20 hL.1 rfl (Nat.le_of_ble_eq_true rfl) (by omega) (by omega) (c_Lens_schemaOf hL hC.1.2.1 hi e6 hr0 e8.1 e3 e9) ?_
  rintro _ _ ⟨rfl, rfl⟩
  refine q_getR (ci := 6) (fk := 0) d_Lens_set_19 rfl (Nat.le_of_ble_eq_true rfl) w_97 (fun _ _ => rfl) (by first | assumption | rfl | (simp (disch := omega) only [q_upT_self, q_upT_ne, q_upR_self, q_upR_nea, q_upR_nk, q_upT_at, *]; done) | (simp (disch := omega) only [q_upT_self, q_upT_ne, q_upR_self, q_upR_nea, q_upR_nk, q_upT_at, *]; rfl)) (by first | assumption | rfl | (simp (disch := omega) only [q_upT_self, q_upT_ne, q_upR_self, q_upR_nea, q_upR_nk, q_upT_at, *]; done) | (simp (disch := omega) only [q_upT_self, q_upT_ne, q_upR_self, q_upR_nea, q_upR_nk, q_upT_at, *]; rfl)) ?_
  refine q_iload d_Lens_set_22 rfl ?_
  refine q_aaldR (kd := _) d_Lens_set_24 rfl (Nat.le_of_ble_eq_true rfl) (Nat.le_of_ble_eq_true rfl) (by first | assumption | rfl | (simp (disch := omega) only [q_upT_self, q_upT_ne, q_upR_self, q_upR_nea, q_upR_nk, q_upT_at, *]; done) | (simp (disch := omega) only [q_upT_self, q_upT_ne, q_upR_self, q_upR_nea, q_upR_nk, q_upT_at, *]; rfl)) (by first | assumption | exact vp_in_nI (by omega) (by omega)) (by first | assumption | rfl | (simp (disch := omega) only [q_upT_self, q_upT_ne, q_upR_self, q_upR_nea, q_upR_nk, q_upT_at, *]; done) | (simp (disch := omega) only [q_upT_self, q_upT_ne, q_upR_self, q_upR_nea, q_upR_nk, q_upT_at, *]; rfl)) ?_
  refine q_iload_n d_Lens_set_25 rfl rfl ?_
  refine q_callVi (M2 := M_Field_admits) d_Lens_set_26 ⟨(Nat.le_of_ble_eq_true rfl), (Nat.le_of_ble_eq_true rfl), w_599, w_4, ⟨by decide, by decide⟩, show _ = some 1 by decide +kernel⟩ w_782 w_597 (ci := 3) rfl w_598 (by first | assumption | rfl | (simp (disch := omega) only [q_upT_self, q_upT_ne, q_upR_self, q_upR_nea, q_upR_nk, q_upT_at, *]; done) | (simp (disch := omega) only [q_upT_self, q_upT_ne, q_upR_self, q_upR_nea, q_upR_nk, q_upT_at, *]; rfl)) rfl (Nat.le_of_ble_eq_true rfl) (by omega) (by omega) (c_Field_admits g3 g4 n) ?_
  rintro _ _ ⟨rfl, rfl⟩
  rw [hn]
  refine q_if_ne (tgt := 40) d_Lens_set_29 rfl (fun hc => ?_) (fun hc => ?_)
  · exact absurd rfl hc
  · refine q_throw (x := 1) d_Lens_set_32 d_Lens_set_35 d_Lens_set_36 d_Lens_set_39 (by decide +kernel) x_nmf (Nat.le_of_ble_eq_true rfl) (Nat.le_of_ble_eq_true rfl) (Nat.le_of_ble_eq_true rfl) w_396 w_16 x_at1 rfl (Nat.le_of_ble_eq_true rfl) (by omega) (by omega) ?_
    exact c_xv_no hC rfl

theorem c_Lens_set (hw : wf S) (hC : relC S x sz T I R) {i k : Nat} {c : KR} {L : List KF} {p n : Int32} (hi : i < 16) (hc : S.rs i = some c) (hb : k_ish S.lv (nI i) = true) (hV : S.vs[c.ver]? = some L) (hp : a_pl L p 0 = some k) {f : KF} {v : List Int32} (hv : c.val[k]? = some v) (hf : L[k]? = some f) (hn : (decide (f.2.2.1 ≤ n) && decide (n ≤ f.2.2.2.1)) = true) : q_C g M_Lens_set [.ref x, .int (nI i), .int p, .int n] (sz, T, I, R, J) 1000 14000 (q_Xv [2, 1] (c_spv x sz T I R J (0, 0, S.setR i (some (c.setV k [n]))))) := by
  obtain ⟨r, s, w, L2, e1, e2, e3, e4, e5, e6, e7, e8, e9, e10, e11⟩ := relC.of hw hC hi hc
  obtain rfl : L = L2 := Option.some.inj (hV.symm.trans e1)
  have hL := hC.1.1
  have hr0 := (r_T0 e7).1
  have hr1 := (e7.1.2 2 _ _ _ rfl).1
  have hr2 := (r_T0 e7).2.1
  have hk : k < 24 := by have := (List.getElem?_eq_some_iff.mp hv).1; have := e2.1.1; omega
  have hw1 := e8.2.1 k _ hv
  have hw6 := hw1.1
  obtain ⟨g1, g2, g3, g4⟩ := e10.at hf
  have hs1 := e10.1.1.1
  have hs2 := (e10.1.1.2 0 _ _ _ rfl).1
  have hs3 := (e10.1.1.2 0 _ _ _ rfl).2
  refine q_C.of (ls0 := [some (.ref x), some (.int (nI i)), some (.int p), some (.int n), none]) (by decide) rfl (by decide) (Nat.le_of_ble_eq_true rfl) rfl ?_
  refine q_aload_n d_Lens_set_0 rfl rfl ?_
  refine q_iload_n d_Lens_set_1 rfl rfl ?_
  refine q_callVv (M2 := M_Lens_needHandle) d_Lens_set_2 ⟨(Nat.le_of_ble_eq_true rfl), (Nat.le_of_ble_eq_true rfl), w_747, w_1, ⟨by decide, by decide⟩, show _ = some 1 by decide +kernel⟩ w_744 w_746 (ci := 10) rfl s_18 hL.1 rfl (Nat.le_of_ble_eq_true rfl) (by omega) (by omega) (c_needHandle_ok hC hb) ?_
  rintro _ rfl
  refine q_aload_n d_Lens_set_5 rfl rfl ?_
  refine q_iload_n d_Lens_set_6 rfl rfl ?_
  refine q_iload_n d_Lens_set_7 rfl rfl ?_
  refine q_iconst (v := nI 0) d_Lens_set_8 (by decide) ?_
  refine q_callVi (M2 := M_Lens_placeOf) d_Lens_set_9 ⟨(Nat.le_of_ble_eq_true rfl), (Nat.le_of_ble_eq_true rfl), w_777, w_1, ⟨by decide, by decide⟩, show _ = some 3 by decide +kernel⟩ w_774 w_776 (ci := 10) rfl s_19 hL.1 rfl (Nat.le_of_ble_eq_true rfl) (by omega) (by omega) (c_placeOf_ok (so := nI 0) hC hi e6 hr0 e8.1 e3 e9 e10 e2.1.2.1 hp) ?_
  rintro _ _ ⟨rfl, rfl⟩
  refine q_istore d_Lens_set_12 (Nat.le_of_ble_eq_true rfl) (by first | exact q_ok0 | exact q_okI rfl | exact q_okR rfl | exact q_okN rfl) rfl ?_
  refine q_aload_n d_Lens_set_14 rfl rfl ?_
  refine q_iload_n d_Lens_set_15 rfl rfl ?_
  refine q_callVr (M2 := M_Lens_schemaOf) d_Lens_set_16 ⟨(Nat.le_of_ble_eq_true rfl), (Nat.le_of_ble_eq_true rfl), w_781, w_1, ⟨by decide, by decide⟩, show _ = some 1 by decide +kernel⟩ w_778 w_780 (ci := 10) rfl s_20 hL.1 rfl (Nat.le_of_ble_eq_true rfl) (by omega) (by omega) (c_Lens_schemaOf hL hC.1.2.1 hi e6 hr0 e8.1 e3 e9) ?_
  rintro _ _ ⟨rfl, rfl⟩
  refine q_getR (ci := 6) (fk := 0) d_Lens_set_19 rfl (Nat.le_of_ble_eq_true rfl) w_97 (fun _ _ => rfl) (by first | assumption | rfl | (simp (disch := omega) only [q_upT_self, q_upT_ne, q_upR_self, q_upR_nea, q_upR_nk, q_upT_at, *]; done) | (simp (disch := omega) only [q_upT_self, q_upT_ne, q_upR_self, q_upR_nea, q_upR_nk, q_upT_at, *]; rfl)) (by first | assumption | rfl | (simp (disch := omega) only [q_upT_self, q_upT_ne, q_upR_self, q_upR_nea, q_upR_nk, q_upT_at, *]; done) | (simp (disch := omega) only [q_upT_self, q_upT_ne, q_upR_self, q_upR_nea, q_upR_nk, q_upT_at, *]; rfl)) ?_
  refine q_iload d_Lens_set_22 rfl ?_
  refine q_aaldR (kd := _) d_Lens_set_24 rfl (Nat.le_of_ble_eq_true rfl) (Nat.le_of_ble_eq_true rfl) (by first | assumption | rfl | (simp (disch := omega) only [q_upT_self, q_upT_ne, q_upR_self, q_upR_nea, q_upR_nk, q_upT_at, *]; done) | (simp (disch := omega) only [q_upT_self, q_upT_ne, q_upR_self, q_upR_nea, q_upR_nk, q_upT_at, *]; rfl)) (by first | assumption | exact vp_in_nI (by omega) (by omega)) (by first | assumption | rfl | (simp (disch := omega) only [q_upT_self, q_upT_ne, q_upR_self, q_upR_nea, q_upR_nk, q_upT_at, *]; done) | (simp (disch := omega) only [q_upT_self, q_upT_ne, q_upR_self, q_upR_nea, q_upR_nk, q_upT_at, *]; rfl)) ?_
  refine q_iload_n d_Lens_set_25 rfl rfl ?_
  refine q_callVi (M2 := M_Field_admits) d_Lens_set_26 ⟨(Nat.le_of_ble_eq_true rfl), (Nat.le_of_ble_eq_true rfl), w_599, w_4, ⟨by decide, by decide⟩, show _ = some 1 by decide +kernel⟩ w_782 w_597 (ci := 3) rfl w_598 (by first | assumption | rfl | (simp (disch := omega) only [q_upT_self, q_upT_ne, q_upR_self, q_upR_nea, q_upR_nk, q_upT_at, *]; done) | (simp (disch := omega) only [q_upT_self, q_upT_ne, q_upR_self, q_upR_nea, q_upR_nk, q_upT_at, *]; rfl)) rfl (Nat.le_of_ble_eq_true rfl) (by omega) (by omega) (c_Field_admits g3 g4 n) ?_
  rintro _ _ ⟨rfl, rfl⟩
  rw [hn]
  refine q_if_ne (tgt := 40) d_Lens_set_29 rfl (fun hc => ?_) (fun hc => ?_)
  · refine q_aload_n d_Lens_set_40 rfl rfl ?_
    refine q_getR (ci := 10) (fk := 2) d_Lens_set_41 rfl (Nat.le_of_ble_eq_true rfl) w_274 (fun _ _ => rfl) hL.1 (hL.2 2 _ _ _ rfl).1 ?_
    refine q_iload_n d_Lens_set_44 rfl rfl ?_
    refine q_aaldR (kd := _) d_Lens_set_45 rfl (Nat.le_of_ble_eq_true rfl) (Nat.le_of_ble_eq_true rfl) (hL.2 2 _ _ _ rfl).2 (by first | assumption | exact vp_in_nI (by omega) (by omega)) (by first | assumption | rfl | (simp (disch := omega) only [q_upT_self, q_upT_ne, q_upR_self, q_upR_nea, q_upR_nk, q_upT_at, *]; done) | (simp (disch := omega) only [q_upT_self, q_upT_ne, q_upR_self, q_upR_nea, q_upR_nk, q_upT_at, *]; rfl)) ?_
    refine q_getR (ci := 5) (fk := 2) d_Lens_set_46 rfl (Nat.le_of_ble_eq_true rfl) w_198 (fun _ _ => rfl) (by first | assumption | rfl | (simp (disch := omega) only [q_upT_self, q_upT_ne, q_upR_self, q_upR_nea, q_upR_nk, q_upT_at, *]; done) | (simp (disch := omega) only [q_upT_self, q_upT_ne, q_upR_self, q_upR_nea, q_upR_nk, q_upT_at, *]; rfl)) (by first | assumption | rfl | (simp (disch := omega) only [q_upT_self, q_upT_ne, q_upR_self, q_upR_nea, q_upR_nk, q_upT_at, *]; done) | (simp (disch := omega) only [q_upT_self, q_upT_ne, q_upR_self, q_upR_nea, q_upR_nk, q_upT_at, *]; rfl)) ?_
    refine q_iload d_Lens_set_49 rfl ?_
    refine q_iload_n d_Lens_set_51 rfl rfl ?_
    refine q_callVv (M2 := M_Cells_writeNumber) d_Lens_set_52 ⟨(Nat.le_of_ble_eq_true rfl), (Nat.le_of_ble_eq_true rfl), w_732, w_7, ⟨by decide, by decide⟩, show _ = some 2 by decide +kernel⟩ w_783 w_730 (ci := 1) rfl w_731 (by first | assumption | rfl | (simp (disch := omega) only [q_upT_self, q_upT_ne, q_upR_self, q_upR_nea, q_upR_nk, q_upT_at, *]; done) | (simp (disch := omega) only [q_upT_self, q_upT_ne, q_upR_self, q_upR_nea, q_upR_nk, q_upT_at, *]; rfl)) rfl (Nat.le_of_ble_eq_true rfl) (by omega) (by omega) (c_Cells_writeNumber e7.2.1 (by decide) (by omega) n) ?_
    rintro _ rfl
    refine q_vret d_Lens_set_55 rfl (by omega) (by omega) ?_
    have hk2 := (List.getElem?_eq_some_iff.mp hv).1
    obtain ⟨h1, h2⟩ := hC.val hw (k := k) (v := [n]) (I' := k_wn I (r + 1 + 1) (k * 7) n) hi e6 e8 e11 hk2 (by rw [e4]; exact e2.1.1) (fun b hb => by funext j; unfold k_wn; rw [q_upI_nea hb, q_upI_nea hb]) (k_rw_wn I (r + 2) (k * 7) n (by omega)) (fun j hj hj2 => by unfold k_wn; rw [q_upI_nk (by omega), q_upI_nk (by omega)])
    exact Or.inl ⟨rfl, rfl, fun _ => rfl, _, _, _, _, rfl, h2, h1⟩
  · exact absurd hc (by decide)

theorem c_Lens_cut_no (hC : relC S x sz T I R) {v p n : Int32} (hb : k_ish S.lv v = false) : q_C g M_Lens_cut [.ref x, .int v, .int p, .int n] (sz, T, I, R, J) 1000 14000 (q_Xv [2, 1] (c_spv x sz T I R J (nI 1, 0, S))) := by
  have hL := hC.1.1
  refine q_C.of (ls0 := [some (.ref x), some (.int v), some (.int p), some (.int n), none]) (by decide) rfl (by decide) (Nat.le_of_ble_eq_true rfl) rfl ?_
  refine q_aload_n d_Lens_cut_0 rfl rfl ?_
  refine q_iload_n d_Lens_cut_1 rfl rfl ?_
  refine q_callV (M2 := M_Lens_needHandle) d_Lens_cut_2 ⟨(Nat.le_of_ble_eq_true rfl), (Nat.le_of_ble_eq_true rfl), w_747, w_1, ⟨by decide, by decide⟩, show _ = some 1 by decide +kernel⟩ w_744 w_746 (ci := 10) rfl s_18 hL.1 rfl (Nat.le_of_ble_eq_true rfl) (by omega) (by omega) (c_needHandle_no hC hb) (fun v h' z => ?_) (fun z9 h' z => ?_)
  · cases z.1
  · obtain ⟨e9, rfl⟩ := z
    cases e9
    exact q_VX.out (by decide) (by omega) (by omega) (c_xv_no hC rfl)

theorem c_Lens_cut_no2 (hw : wf S) (hC : relC S x sz T I R) {i : Nat} {c : KR} {L : List KF} {p n : Int32} (hi : i < 16) (hc : S.rs i = some c) (hb : k_ish S.lv (nI i) = true) (hV : S.vs[c.ver]? = some L) (hp : a_pl L p 1 = none) : q_C g M_Lens_cut [.ref x, .int (nI i), .int p, .int n] (sz, T, I, R, J) 1000 14000 (q_Xv [2, 1] (c_spv x sz T I R J (nI 2, 0, S))) := by
  obtain ⟨r, s, w, L2, e1, e2, e3, e4, e5, e6, e7, e8, e9, e10, e11⟩ := relC.of hw hC hi hc
  obtain rfl : L = L2 := Option.some.inj (hV.symm.trans e1)
  have hL := hC.1.1
  have hr0 := (r_T0 e7).1
  have hr1 := (e7.1.2 2 _ _ _ rfl).1
  have hr2 := (r_T0 e7).2.1
  refine q_C.of (ls0 := [some (.ref x), some (.int (nI i)), some (.int p), some (.int n), none]) (by decide) rfl (by decide) (Nat.le_of_ble_eq_true rfl) rfl ?_
  refine q_aload_n d_Lens_cut_0 rfl rfl ?_
  refine q_iload_n d_Lens_cut_1 rfl rfl ?_
  refine q_callVv (M2 := M_Lens_needHandle) d_Lens_cut_2 ⟨(Nat.le_of_ble_eq_true rfl), (Nat.le_of_ble_eq_true rfl), w_747, w_1, ⟨by decide, by decide⟩, show _ = some 1 by decide +kernel⟩ w_744 w_746 (ci := 10) rfl s_18 hL.1 rfl (Nat.le_of_ble_eq_true rfl) (by omega) (by omega) (c_needHandle_ok hC hb) ?_
  rintro _ rfl
  refine q_aload_n d_Lens_cut_5 rfl rfl ?_
  refine q_iload_n d_Lens_cut_6 rfl rfl ?_
  refine q_iload_n d_Lens_cut_7 rfl rfl ?_
  refine q_iconst (v := nI 1) d_Lens_cut_8 (by decide) ?_
  refine q_callV (M2 := M_Lens_placeOf) d_Lens_cut_9 ⟨(Nat.le_of_ble_eq_true rfl), (Nat.le_of_ble_eq_true rfl), w_777, w_1, ⟨by decide, by decide⟩, show _ = some 3 by decide +kernel⟩ w_774 w_776 (ci := 10) rfl s_19 hL.1 rfl (Nat.le_of_ble_eq_true rfl) (by omega) (by omega) (c_placeOf_no (so := nI 1) hC hi e6 hr0 e8.1 e3 e9 e10 e2.1.2.1 hp) (fun v h' z => ?_) (fun z9 h' z => ?_)
  · cases z.1
  · obtain ⟨e9, rfl⟩ := z
    cases e9
    exact q_VX.out (by decide) (by omega) (by omega) (c_xv_no hC rfl)

theorem c_Lens_cut_no3 (hw : wf S) (hC : relC S x sz T I R) {i k : Nat} {c : KR} {L : List KF} {p n : Int32} (hi : i < 16) (hc : S.rs i = some c) (hb : k_ish S.lv (nI i) = true) (hV : S.vs[c.ver]? = some L) (hp : a_pl L p 1 = some k) {v : List Int32} (hv : c.val[k]? = some v) (hn : n < 0 ∨ nI v.length < n) : q_C g M_Lens_cut [.ref x, .int (nI i), .int p, .int n] (sz, T, I, R, J) 1000 14000 (q_Xv [2, 1] (c_spv x sz T I R J (nI 2, 0, S))) := by
  obtain ⟨r, s, w, L2, e1, e2, e3, e4, e5, e6, e7, e8, e9, e10, e11⟩ := relC.of hw hC hi hc
  obtain rfl : L = L2 := Option.some.inj (hV.symm.trans e1)
  have hL := hC.1.1
  have hr0 := (r_T0 e7).1
  have hr1 := (e7.1.2 2 _ _ _ rfl).1
  have hr2 := (r_T0 e7).2.1
  have hk : k < 24 := by have := (List.getElem?_eq_some_iff.mp hv).1; have := e2.1.1; omega
  have hw1 := e8.2.1 k _ hv
  have hw6 := hw1.1
  refine q_C.of (ls0 := [some (.ref x), some (.int (nI i)), some (.int p), some (.int n), none]) (by decide) rfl (by decide) (Nat.le_of_ble_eq_true rfl) rfl ?_
  refine q_aload_n d_Lens_cut_0 rfl rfl ?_
  refine q_iload_n d_Lens_cut_1 rfl rfl ?_
  refine q_callVv (M2 := M_Lens_needHandle) d_Lens_cut_2 ⟨(Nat.le_of_ble_eq_true rfl), (Nat.le_of_ble_eq_true rfl), w_747, w_1, ⟨by decide, by decide⟩, show _ = some 1 by decide +kernel⟩ w_744 w_746 (ci := 10) rfl s_18 hL.1 rfl (Nat.le_of_ble_eq_true rfl) (by omega) (by omega) (c_needHandle_ok hC hb) ?_
  rintro _ rfl
  refine q_aload_n d_Lens_cut_5 rfl rfl ?_
  refine q_iload_n d_Lens_cut_6 rfl rfl ?_
  refine q_iload_n d_Lens_cut_7 rfl rfl ?_
  refine q_iconst (v := nI 1) d_Lens_cut_8 (by decide) ?_
  refine q_callVi (M2 := M_Lens_placeOf) d_Lens_cut_9 ⟨(Nat.le_of_ble_eq_true rfl), (Nat.le_of_ble_eq_true rfl), w_777, w_1, ⟨by decide, by decide⟩, show _ = some 3 by decide +kernel⟩ w_774 w_776 (ci := 10) rfl s_19 hL.1 rfl (Nat.le_of_ble_eq_true rfl) (by omega) (by omega) (c_placeOf_ok (so := nI 1) hC hi e6 hr0 e8.1 e3 e9 e10 e2.1.2.1 hp) ?_
  rintro _ _ ⟨rfl, rfl⟩
  refine q_istore d_Lens_cut_12 (Nat.le_of_ble_eq_true rfl) (by first | exact q_ok0 | exact q_okI rfl | exact q_okR rfl | exact q_okN rfl) rfl ?_
  refine q_iload_n d_Lens_cut_14 rfl rfl ?_
  refine q_if_lt (tgt := 36) d_Lens_cut_15 rfl (fun hc => ?_) (fun hc => ?_)
  · refine q_throw (x := 1) d_Lens_cut_36 d_Lens_cut_39 d_Lens_cut_40 d_Lens_cut_43 (by decide +kernel) x_nmf (Nat.le_of_ble_eq_true rfl) (Nat.le_of_ble_eq_true rfl) (Nat.le_of_ble_eq_true rfl) w_396 w_16 x_at1 rfl (Nat.le_of_ble_eq_true rfl) (by omega) (by omega) ?_
    exact c_xv_no hC rfl
  · refine q_iload_n d_Lens_cut_18 rfl rfl ?_
    refine q_aload_n d_Lens_cut_19 rfl rfl ?_
    refine q_getR (ci := 10) (fk := 2) d_Lens_cut_20 rfl (Nat.le_of_ble_eq_true rfl) w_274 (fun _ _ => rfl) hL.1 (hL.2 2 _ _ _ rfl).1 ?_
    refine q_iload_n d_Lens_cut_23 rfl rfl ?_
    refine q_aaldR (kd := _) d_Lens_cut_24 rfl (Nat.le_of_ble_eq_true rfl) (Nat.le_of_ble_eq_true rfl) (hL.2 2 _ _ _ rfl).2 (by first | assumption | exact vp_in_nI (by omega) (by omega)) (by first | assumption | rfl | (simp (disch := omega) only [q_upT_self, q_upT_ne, q_upR_self, q_upR_nea, q_upR_nk, q_upT_at, *]; done) | (simp (disch := omega) only [q_upT_self, q_upT_ne, q_upR_self, q_upR_nea, q_upR_nk, q_upT_at, *]; rfl)) ?_
    refine q_getR (ci := 5) (fk := 2) d_Lens_cut_25 rfl (Nat.le_of_ble_eq_true rfl) w_198 (fun _ _ => rfl) (by first | assumption | rfl | (simp (disch := omega) only [q_upT_self, q_upT_ne, q_upR_self, q_upR_nea, q_upR_nk, q_upT_at, *]; done) | (simp (disch := omega) only [q_upT_self, q_upT_ne, q_upR_self, q_upR_nea, q_upR_nk, q_upT_at, *]; rfl)) (by first | assumption | rfl | (simp (disch := omega) only [q_upT_self, q_upT_ne, q_upR_self, q_upR_nea, q_upR_nk, q_upT_at, *]; done) | (simp (disch := omega) only [q_upT_self, q_upT_ne, q_upR_self, q_upR_nea, q_upR_nk, q_upT_at, *]; rfl)) ?_
    refine q_iload d_Lens_cut_28 rfl ?_
    refine q_callVi (M2 := M_Cells_lengthOf) d_Lens_cut_30 ⟨(Nat.le_of_ble_eq_true rfl), (Nat.le_of_ble_eq_true rfl), w_794, w_7, ⟨by decide, by decide⟩, show _ = some 1 by decide +kernel⟩ w_791 w_792 (ci := 1) rfl w_793 (by first | assumption | rfl | (simp (disch := omega) only [q_upT_self, q_upT_ne, q_upR_self, q_upR_nea, q_upR_nk, q_upT_at, *]; done) | (simp (disch := omega) only [q_upT_self, q_upT_ne, q_upR_self, q_upR_nea, q_upR_nk, q_upT_at, *]; rfl)) rfl (Nat.le_of_ble_eq_true rfl) (by omega) (by omega) (c_Cells_lengthOf e7.2.1 (by decide) (by omega)) ?_
    rintro _ _ ⟨rfl, rfl⟩
    rw [show r + 1 + 1 = r + 2 from rfl, hw1.2.1]
    have h9 := hc
    refine q_icmp_le (tgt := 44) d_Lens_cut_33 rfl (fun hc => ?_) (fun hc => ?_)
    · rcases hn with hn | hn
      · exact absurd hn h9
      · exact absurd hc (Int32.not_le.mpr hn)
    · refine q_throw (x := 1) d_Lens_cut_36 d_Lens_cut_39 d_Lens_cut_40 d_Lens_cut_43 (by decide +kernel) x_nmf (Nat.le_of_ble_eq_true rfl) (Nat.le_of_ble_eq_true rfl) (Nat.le_of_ble_eq_true rfl) w_396 w_16 x_at1 rfl (Nat.le_of_ble_eq_true rfl) (by omega) (by omega) ?_
      exact c_xv_no hC rfl

theorem c_Lens_cut (hw : wf S) (hC : relC S x sz T I R) {i k : Nat} {c : KR} {L : List KF} {p : Int32} (hi : i < 16) (hc : S.rs i = some c) (hb : k_ish S.lv (nI i) = true) (hV : S.vs[c.ver]? = some L) (hp : a_pl L p 1 = some k) {v : List Int32} (hv : c.val[k]? = some v) {n : Nat} (hn : n ≤ v.length) : q_C g M_Lens_cut [.ref x, .int (nI i), .int p, .int (nI n)] (sz, T, I, R, J) 1000 14000 (q_Xv [2, 1] (c_spv x sz T I R J (0, 0, S.setR i (some (c.setV k (v.take n)))))) := by
  obtain ⟨r, s, w, L2, e1, e2, e3, e4, e5, e6, e7, e8, e9, e10, e11⟩ := relC.of hw hC hi hc
  obtain rfl : L = L2 := Option.some.inj (hV.symm.trans e1)
  have hL := hC.1.1
  have hr0 := (r_T0 e7).1
  have hr1 := (e7.1.2 2 _ _ _ rfl).1
  have hr2 := (r_T0 e7).2.1
  have hk : k < 24 := by have := (List.getElem?_eq_some_iff.mp hv).1; have := e2.1.1; omega
  have hw1 := e8.2.1 k _ hv
  have hw6 := hw1.1
  refine q_C.of (ls0 := [some (.ref x), some (.int (nI i)), some (.int p), some (.int (nI n)), none]) (by decide) rfl (by decide) (Nat.le_of_ble_eq_true rfl) rfl ?_
  refine q_aload_n d_Lens_cut_0 rfl rfl ?_
  refine q_iload_n d_Lens_cut_1 rfl rfl ?_
  refine q_callVv (M2 := M_Lens_needHandle) d_Lens_cut_2 ⟨(Nat.le_of_ble_eq_true rfl), (Nat.le_of_ble_eq_true rfl), w_747, w_1, ⟨by decide, by decide⟩, show _ = some 1 by decide +kernel⟩ w_744 w_746 (ci := 10) rfl s_18 hL.1 rfl (Nat.le_of_ble_eq_true rfl) (by omega) (by omega) (c_needHandle_ok hC hb) ?_
  rintro _ rfl
  refine q_aload_n d_Lens_cut_5 rfl rfl ?_
  refine q_iload_n d_Lens_cut_6 rfl rfl ?_
  refine q_iload_n d_Lens_cut_7 rfl rfl ?_
  refine q_iconst (v := nI 1) d_Lens_cut_8 (by decide) ?_
  refine q_callVi (M2 := M_Lens_placeOf) d_Lens_cut_9 ⟨(Nat.le_of_ble_eq_true rfl), (Nat.le_of_ble_eq_true rfl), w_777, w_1, ⟨by decide, by decide⟩, show _ = some 3 by decide +kernel⟩ w_774 w_776 (ci := 10) rfl s_19 hL.1 rfl (Nat.le_of_ble_eq_true rfl) (by omega) (by omega) (c_placeOf_ok (so := nI 1) hC hi e6 hr0 e8.1 e3 e9 e10 e2.1.2.1 hp) ?_
  rintro _ _ ⟨rfl, rfl⟩
  refine q_istore d_Lens_cut_12 (Nat.le_of_ble_eq_true rfl) (by first | exact q_ok0 | exact q_okI rfl | exact q_okR rfl | exact q_okN rfl) rfl ?_
  refine q_iload_n d_Lens_cut_14 rfl rfl ?_
  refine q_if_lt (tgt := 36) d_Lens_cut_15 rfl (fun hc => ?_) (fun hc => ?_)
  · exact absurd hc (nI_pos (by omega))
  · refine q_iload_n d_Lens_cut_18 rfl rfl ?_
    refine q_aload_n d_Lens_cut_19 rfl rfl ?_
    refine q_getR (ci := 10) (fk := 2) d_Lens_cut_20 rfl (Nat.le_of_ble_eq_true rfl) w_274 (fun _ _ => rfl) hL.1 (hL.2 2 _ _ _ rfl).1 ?_
    refine q_iload_n d_Lens_cut_23 rfl rfl ?_
    refine q_aaldR (kd := _) d_Lens_cut_24 rfl (Nat.le_of_ble_eq_true rfl) (Nat.le_of_ble_eq_true rfl) (hL.2 2 _ _ _ rfl).2 (by first | assumption | exact vp_in_nI (by omega) (by omega)) (by first | assumption | rfl | (simp (disch := omega) only [q_upT_self, q_upT_ne, q_upR_self, q_upR_nea, q_upR_nk, q_upT_at, *]; done) | (simp (disch := omega) only [q_upT_self, q_upT_ne, q_upR_self, q_upR_nea, q_upR_nk, q_upT_at, *]; rfl)) ?_
    refine q_getR (ci := 5) (fk := 2) d_Lens_cut_25 rfl (Nat.le_of_ble_eq_true rfl) w_198 (fun _ _ => rfl) (by first | assumption | rfl | (simp (disch := omega) only [q_upT_self, q_upT_ne, q_upR_self, q_upR_nea, q_upR_nk, q_upT_at, *]; done) | (simp (disch := omega) only [q_upT_self, q_upT_ne, q_upR_self, q_upR_nea, q_upR_nk, q_upT_at, *]; rfl)) (by first | assumption | rfl | (simp (disch := omega) only [q_upT_self, q_upT_ne, q_upR_self, q_upR_nea, q_upR_nk, q_upT_at, *]; done) | (simp (disch := omega) only [q_upT_self, q_upT_ne, q_upR_self, q_upR_nea, q_upR_nk, q_upT_at, *]; rfl)) ?_
    refine q_iload d_Lens_cut_28 rfl ?_
    refine q_callVi (M2 := M_Cells_lengthOf) d_Lens_cut_30 ⟨(Nat.le_of_ble_eq_true rfl), (Nat.le_of_ble_eq_true rfl), w_794, w_7, ⟨by decide, by decide⟩, show _ = some 1 by decide +kernel⟩ w_791 w_792 (ci := 1) rfl w_793 (by first | assumption | rfl | (simp (disch := omega) only [q_upT_self, q_upT_ne, q_upR_self, q_upR_nea, q_upR_nk, q_upT_at, *]; done) | (simp (disch := omega) only [q_upT_self, q_upT_ne, q_upR_self, q_upR_nea, q_upR_nk, q_upT_at, *]; rfl)) rfl (Nat.le_of_ble_eq_true rfl) (by omega) (by omega) (c_Cells_lengthOf e7.2.1 (by decide) (by omega)) ?_
    rintro _ _ ⟨rfl, rfl⟩
    rw [show r + 1 + 1 = r + 2 from rfl, hw1.2.1]
    refine q_icmp_le (tgt := 44) d_Lens_cut_33 rfl (fun hc => ?_) (fun hc => ?_)
    · refine q_aload_n d_Lens_cut_44 rfl rfl ?_
      refine q_getR (ci := 10) (fk := 2) d_Lens_cut_45 rfl (Nat.le_of_ble_eq_true rfl) w_274 (fun _ _ => rfl) hL.1 (hL.2 2 _ _ _ rfl).1 ?_
      refine q_iload_n d_Lens_cut_48 rfl rfl ?_
      refine q_aaldR (kd := _) d_Lens_cut_49 rfl (Nat.le_of_ble_eq_true rfl) (Nat.le_of_ble_eq_true rfl) (hL.2 2 _ _ _ rfl).2 (by first | assumption | exact vp_in_nI (by omega) (by omega)) (by first | assumption | rfl | (simp (disch := omega) only [q_upT_self, q_upT_ne, q_upR_self, q_upR_nea, q_upR_nk, q_upT_at, *]; done) | (simp (disch := omega) only [q_upT_self, q_upT_ne, q_upR_self, q_upR_nea, q_upR_nk, q_upT_at, *]; rfl)) ?_
      refine q_getR (ci := 5) (fk := 2) d_Lens_cut_50 rfl (Nat.le_of_ble_eq_true rfl) w_198 (fun _ _ => rfl) (by first | assumption | rfl | (simp (disch := omega) only [q_upT_self, q_upT_ne, q_upR_self, q_upR_nea, q_upR_nk, q_upT_at, *]; done) | (simp (disch := omega) only [q_upT_self, q_upT_ne, q_upR_self, q_upR_nea, q_upR_nk, q_upT_at, *]; rfl)) (by first | assumption | rfl | (simp (disch := omega) only [q_upT_self, q_upT_ne, q_upR_self, q_upR_nea, q_upR_nk, q_upT_at, *]; done) | (simp (disch := omega) only [q_upT_self, q_upT_ne, q_upR_self, q_upR_nea, q_upR_nk, q_upT_at, *]; rfl)) ?_
      refine q_iload d_Lens_cut_53 rfl ?_
      refine q_iload_n d_Lens_cut_55 rfl rfl ?_
      refine q_callVv (M2 := M_Cells_resize) d_Lens_cut_56 ⟨(Nat.le_of_ble_eq_true rfl), (Nat.le_of_ble_eq_true rfl), w_736, w_7, ⟨by decide, by decide⟩, show _ = some 2 by decide +kernel⟩ w_795 w_734 (ci := 1) rfl w_735 (by first | assumption | rfl | (simp (disch := omega) only [q_upT_self, q_upT_ne, q_upR_self, q_upR_nea, q_upR_nk, q_upT_at, *]; done) | (simp (disch := omega) only [q_upT_self, q_upT_ne, q_upR_self, q_upR_nea, q_upR_nk, q_upT_at, *]; rfl)) rfl (Nat.le_of_ble_eq_true rfl) (by omega) (by omega) (c_Cells_resize e7.2.1 (by decide) (by omega) (nI n)) ?_
      rintro _ rfl
      refine q_vret d_Lens_cut_59 rfl (by omega) (by omega) ?_
      have hk2 := (List.getElem?_eq_some_iff.mp hv).1
      have hlen : (v.take n).length = n := by rw [List.length_take]; omega
      obtain ⟨h1, h2⟩ := hC.val hw (k := k) (v := v.take n) (I' := q_upI I (r + 1 + 1) (nI (k * 7)) (nI n)) hi e6 e8 e11 hk2 (by rw [e4]; exact e2.1.1) (fun b hb => by funext j; rw [q_upI_nea hb]) ⟨by omega, by rw [q_upI_self, hlen], fun q y hy => (by
        have hq := (List.getElem?_eq_some_iff.mp hy).1
        rw [List.getElem?_take_of_lt (by omega)] at hy
        rw [q_upI_nk (by omega)]
        exact hw1.2.2 q y hy)⟩ (fun j hj hj2 => by rw [q_upI_nk (by omega)])
      exact Or.inl ⟨rfl, rfl, fun _ => rfl, _, _, _, _, rfl, h2, h1⟩
    · exact absurd (by rw [nI_leI (by omega) (by omega)]; exact hn) hc

end CPub3
