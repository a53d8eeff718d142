/-! record and copy, the object's side -/
section RecC
variable {g : q_G} {sz x : Nat} {T : q_T} {I : q_I} {R : q_R} {J : q_J} {S : KA}
theorem k_fr_some {lv : Nat → Bool} : ∀ {j i h : Nat}, k_fr lv i j = some h → i ≤ h ∧ h < i + j ∧ lv h = false
  | 0, i, h, hh => by cases hh
  | j + 1, i, h, hh => by
    unfold k_fr at hh
    cases hl : lv i with
    | true =>
      rw [hl, if_pos rfl] at hh
      obtain ⟨a, b, c⟩ := k_fr_some hh
      exact ⟨by omega, by omega, c⟩
    | false =>
      rw [hl, if_neg (by decide)] at hh
      cases hh
      exact ⟨Nat.le_refl _, by omega, hl⟩
def KA.setB (S : KA) : KA := (S.vs, S.ss, true, S.op, S.df, S.dp, S.dD, S.dn, S.rs)
theorem relC.setB (h : relC S x sz T I R) : relC S.setB x sz T (q_upI I x (nI 6) (nI 1)) R ∧ c_fr x sz T I R sz T (q_upI I x (nI 6) (nI 1)) R := by
  obtain ⟨d1, D, wd, d2, d3⟩ := h.2.2.2.1
  have e : ∀ b, b ≠ x → q_upI I x (nI 6) (nI 1) b = I b := fun b hb => by funext i; rw [q_upI_nea hb]
  refine h.draft (S' := S.setB) (Nat.le_refl _) (fun _ _ z => z) h.2.2.2.2.2.2.2 (fun b b1 b2 b3 => e b b2) (fun _ _ _ _ => rfl) rfl rfl rfl (by rw [q_upI_self]; rfl) ⟨by rw [e (x + 32) (by omega)]; exact d1, D, wd, d2.cong (fun b b1 b2 => e b (by omega)), fun z => ?_⟩
  rw [e (x + 32) (by omega)]
  obtain ⟨a1, a2, a3, a4, a5, a6⟩ := d3 z
  refine ⟨a1, a2, a3, a4, a5, fun j q hq => ?_⟩
  obtain ⟨p, p1, p2, p3⟩ := a6 j q hq
  exact ⟨p, p1, p2, p3.cong (e p (by omega))⟩
/-- a new record -/
def a_new (v : Nat) (L : List KF) : KR := (v, L.map (fun f => k_dfl f.2.1 f.2.2.1 f.2.2.2.1), fun _ => (0, [], []))
theorem c_Lens_record_no (hC : relC S x sz T I R) {v : Int32} (hb : k_bel S.vs.length v = false) : q_C g M_Lens_record [.ref x, .int v] (sz, T, I, R, J) 1000 14000 (q_Xi [2, 3] (c_sp x sz T I R J (nI 1, 0, S))) := by
  have hL := hC.1.1
  refine q_C.of (ls0 := [some (.ref x), some (.int v), none]) (by decide) rfl (by decide) (Nat.le_of_ble_eq_true rfl) rfl ?_
  refine q_aload_n d_Lens_record_0 rfl rfl ?_
  refine q_iload_n d_Lens_record_1 rfl rfl ?_
  refine q_callV (M2 := M_Lens_needVersion) d_Lens_record_2 ⟨(Nat.le_of_ble_eq_true rfl), (Nat.le_of_ble_eq_true rfl), w_430, w_1, ⟨by decide, by decide⟩, show _ = some 1 by decide +kernel⟩ w_427 w_429 (ci := 10) rfl s_3 hL.1 rfl (Nat.le_of_ble_eq_true rfl) (by omega) (by omega) (c_needVersion_no hC hb) (fun v h' z => ?_) (fun z9 h' z => ?_)
  · cases z.1
  · obtain ⟨e9, rfl⟩ := z
    cases e9
    exact q_VX.out (by decide) (by omega) (by omega) (c_xi_no hC rfl)
theorem c_Lens_record_no2 (hC : relC S x sz T I R) {v : Int32} (hb : k_bel S.vs.length v = true) (hf : k_fr S.lv 0 16 = none) : q_C g M_Lens_record [.ref x, .int v] (sz, T, I, R, J) 1000 14000 (q_Xi [2, 3] (c_sp x sz T I R J (nI 2, 0, S))) := by
  have hL := hC.1.1
  refine q_C.of (ls0 := [some (.ref x), some (.int v), none]) (by decide) rfl (by decide) (Nat.le_of_ble_eq_true rfl) rfl ?_
  refine q_aload_n d_Lens_record_0 rfl rfl ?_
  refine q_iload_n d_Lens_record_1 rfl rfl ?_
  refine q_callVv (M2 := M_Lens_needVersion) d_Lens_record_2 ⟨(Nat.le_of_ble_eq_true rfl), (Nat.le_of_ble_eq_true rfl), w_430, w_1, ⟨by decide, by decide⟩, show _ = some 1 by decide +kernel⟩ w_427 w_429 (ci := 10) rfl s_3 hL.1 rfl (Nat.le_of_ble_eq_true rfl) (by omega) (by omega) (c_needVersion_ok hC hb) ?_
  rintro _ rfl
  refine q_aload_n d_Lens_record_5 rfl rfl ?_
  refine q_callVi (M2 := M_Lens_freeHandle) d_Lens_record_6 ⟨(Nat.le_of_ble_eq_true rfl), (Nat.le_of_ble_eq_true rfl), w_713, w_1, ⟨by decide, by decide⟩, show _ = some 0 by decide +kernel⟩ w_710 w_712 (ci := 10) rfl s_16 hL.1 rfl (Nat.le_of_ble_eq_true rfl) (by omega) (by omega) (c_Lens_freeHandle hL hC.hs) ?_
  rintro _ _ ⟨rfl, rfl⟩
  rw [hf]
  refine q_istore_n d_Lens_record_9 rfl (Nat.le_of_ble_eq_true rfl) (by first | exact q_ok0 | exact q_okI rfl | exact q_okR rfl | exact q_okN rfl) rfl ?_
  refine q_iload_n d_Lens_record_10 rfl rfl ?_
  refine q_iconst (v := (-1)) d_Lens_record_11 (by decide) ?_
  refine q_icmp_ne (tgt := 23) d_Lens_record_12 rfl (fun hc => ?_) (fun hc => ?_)
  · exact absurd rfl hc
  · refine q_throw (x := 3) d_Lens_record_15 d_Lens_record_18 d_Lens_record_19 d_Lens_record_22 (by decide +kernel) x_nmf (Nat.le_of_ble_eq_true rfl) (Nat.le_of_ble_eq_true rfl) (Nat.le_of_ble_eq_true rfl) w_612 w_20 x_at3 rfl (Nat.le_of_ble_eq_true rfl) (by omega) (by omega) ?_
    exact c_xi_no hC rfl
theorem c_Lens_record (hw : wf S) (hC : relC S x sz T I R) {v h : Nat} {L : List KF} (hv : S.vs[v]? = some L) (hf : k_fr S.lv 0 16 = some h) : q_C g M_Lens_record [.ref x, .int (nI v)] (sz, T, I, R, J) 1000 14000 (q_Xi [2, 3] (c_sp x sz T I R J (0, nI h, S.setB.setR h (some (a_new v L))))) := by
  have hL := hC.1.1
  have hvl := (List.getElem?_eq_some_iff.mp hv).1
  have hv8 := hw.1.2.1
  obtain ⟨f1, f2, f3⟩ := k_fr_some hf
  have h16 : h < 16 := by omega
  have hn : S.setB.rs h = none := by
    have : (S.rs h).isSome = false := f3
    cases hr : S.rs h with
    | none => exact hr
    | some c => rw [hr] at this; cases this
  obtain ⟨hC1, hF1⟩ := hC.setB
  refine q_C.of (ls0 := [some (.ref x), some (.int (nI v)), none]) (by decide) rfl (by decide) (Nat.le_of_ble_eq_true rfl) rfl ?_
  refine q_aload_n d_Lens_record_0 rfl rfl ?_
  refine q_iload_n d_Lens_record_1 rfl rfl ?_
  refine q_callVv (M2 := M_Lens_needVersion) d_Lens_record_2 ⟨(Nat.le_of_ble_eq_true rfl), (Nat.le_of_ble_eq_true rfl), w_430, w_1, ⟨by decide, by decide⟩, show _ = some 1 by decide +kernel⟩ w_427 w_429 (ci := 10) rfl s_3 hL.1 rfl (Nat.le_of_ble_eq_true rfl) (by omega) (by omega) (c_needVersion_ok hC (k_bel_nI (by omega) hvl)) ?_
  rintro _ rfl
  refine q_aload_n d_Lens_record_5 rfl rfl ?_
  refine q_callVi (M2 := M_Lens_freeHandle) d_Lens_record_6 ⟨(Nat.le_of_ble_eq_true rfl), (Nat.le_of_ble_eq_true rfl), w_713, w_1, ⟨by decide, by decide⟩, show _ = some 0 by decide +kernel⟩ w_710 w_712 (ci := 10) rfl s_16 hL.1 rfl (Nat.le_of_ble_eq_true rfl) (by omega) (by omega) (c_Lens_freeHandle hL hC.hs) ?_
  rintro _ _ ⟨rfl, rfl⟩
  rw [hf, show p_idx (some h) = nI h from rfl]
  refine q_istore_n d_Lens_record_9 rfl (Nat.le_of_ble_eq_true rfl) (by first | exact q_ok0 | exact q_okI rfl | exact q_okR rfl | exact q_okN rfl) rfl ?_
  refine q_iload_n d_Lens_record_10 rfl rfl ?_
  refine q_iconst (v := (-1)) d_Lens_record_11 (by decide) ?_
  refine q_icmp_ne (tgt := 23) d_Lens_record_12 rfl (fun hc => ?_) (fun hc => ?_)
  rotate_left
  · exact absurd hc (nI_m1 (by omega))
  refine q_aload_n d_Lens_record_23 rfl rfl ?_
  refine q_iconst (v := nI 1) d_Lens_record_24 (by decide) ?_
  refine q_putI (ci := 10) (fk := 6) d_Lens_record_25 rfl (Nat.le_of_ble_eq_true rfl) w_278 (Or.inl rfl) (fun _ _ => rfl) (by first | rfl | decide | assumption) (by first | rfl | decide | assumption) hL.1 ?_
  refine q_aload_n d_Lens_record_28 rfl rfl ?_
  refine q_iload_n d_Lens_record_29 rfl rfl ?_
  refine q_callVr (M2 := M_Lens_rowFor) d_Lens_record_30 ⟨(Nat.le_of_ble_eq_true rfl), (Nat.le_of_ble_eq_true rfl), w_717, w_1, ⟨by decide, by decide⟩, show _ = some 1 by decide +kernel⟩ w_714 w_716 (ci := 10) rfl s_17 hL.1 rfl (Nat.le_of_ble_eq_true rfl) (by omega) (by omega) (c_Lens_rowFor hC1 h16 hn) ?_
  rintro _ _ ⟨r, sz1, T1, R1, rfl, rfl, b1, b2, b3, b4, b5⟩
  have hL := b2.1
  have hV1 := b2.2.1.1
  have hV2 := (b2.2.1.2 0 _ _ _ rfl).1
  have hV3 := (b2.2.1.2 0 _ _ _ rfl).2
  obtain ⟨s, w, a1, a2, a3, a4⟩ := b3.2 v L hv
  have hr0 := (r_T0 b1).1
  refine q_iload_n d_Lens_record_33 rfl rfl ?_
  refine q_aload_n d_Lens_record_34 rfl rfl ?_
  refine q_getR (ci := 10) (fk := 0) d_Lens_record_35 rfl (Nat.le_of_ble_eq_true rfl) w_272 (fun _ _ => rfl) hL.1 (hL.2 0 _ _ _ rfl).1 ?_
  refine q_getR (ci := 9) (fk := 0) d_Lens_record_38 rfl (Nat.le_of_ble_eq_true rfl) w_110 (fun _ _ => rfl) (by first | assumption | rfl | (simp (disch := omega) only [q_upT_self, q_upT_ne, q_upR_self, q_upR_nea, q_upR_nk, q_upT_at, *]; done) | (simp (disch := omega) only [q_upT_self, q_upT_ne, q_upR_self, q_upR_nea, q_upR_nk, q_upT_at, *]; rfl)) (by first | assumption | rfl | (simp (disch := omega) only [q_upT_self, q_upT_ne, q_upR_self, q_upR_nea, q_upR_nk, q_upT_at, *]; done) | (simp (disch := omega) only [q_upT_self, q_upT_ne, q_upR_self, q_upR_nea, q_upR_nk, q_upT_at, *]; rfl)) ?_
  refine q_iload_n d_Lens_record_41 rfl rfl ?_
  refine q_aaldR (kd := _) d_Lens_record_42 rfl (Nat.le_of_ble_eq_true rfl) (Nat.le_of_ble_eq_true rfl) (by first | assumption | rfl | (simp (disch := omega) only [q_upT_self, q_upT_ne, q_upR_self, q_upR_nea, q_upR_nk, q_upT_at, *]; done) | (simp (disch := omega) only [q_upT_self, q_upT_ne, q_upR_self, q_upR_nea, q_upR_nk, q_upT_at, *]; rfl)) (by first | assumption | exact vp_in_nI (by omega) (by omega)) (by first | assumption | rfl | (simp (disch := omega) only [q_upT_self, q_upT_ne, q_upR_self, q_upR_nea, q_upR_nk, q_upT_at, *]; done) | (simp (disch := omega) only [q_upT_self, q_upT_ne, q_upR_self, q_upR_nea, q_upR_nk, q_upT_at, *]; rfl)) ?_
  refine q_callVv (M2 := M_Row_makeDefault) d_Lens_record_43 ⟨(Nat.le_of_ble_eq_true rfl), (Nat.le_of_ble_eq_true rfl), w_721, w_6, ⟨by decide, by decide⟩, show _ = some 2 by decide +kernel⟩ w_718 w_719 (ci := 5) rfl w_720 (by first | assumption | rfl | (simp (disch := omega) only [q_upT_self, q_upT_ne, q_upR_self, q_upR_nea, q_upR_nk, q_upT_at, *]; done) | (simp (disch := omega) only [q_upT_self, q_upT_ne, q_upR_self, q_upR_nea, q_upR_nk, q_upT_at, *]; rfl)) rfl (Nat.le_of_ble_eq_true rfl) (by omega) (by omega) (c_Row_makeDefault b1 a4 (nI v)) ?_
  rintro _ ⟨I2, rfl, i1, i2, i3, i4, i5⟩
  refine q_iload_n d_Lens_record_46 rfl rfl ?_
  refine q_iret d_Lens_record_47 rfl (by omega) (by omega) ?_
  obtain ⟨h1, h2⟩ := b5 I2 (some (a_new v L)) (fun b hb => i1 b (by omega) (by omega) (by omega)) i2 (fun c hc => by
    cases hc
    refine ⟨i3, fun i u hu => ?_, fun k hk => ⟨i5 k hk, fun z => absurd rfl z, fun z => absurd z (by show ¬ 2 ≤ 0; omega)⟩⟩
    have hu2 : (L.map (fun f => k_dfl f.2.1 f.2.2.1 f.2.2.2.1))[i]? = some u := hu
    rw [List.getElem?_map] at hu2
    cases hLi : L[i]? with
    | none => rw [hLi] at hu2; cases hu2
    | some f =>
      rw [hLi] at hu2
      cases hu2
      exact i4 i f hLi)
  exact Or.inl ⟨_, rfl, rfl, fun _ => rfl, _, _, _, _, rfl, hF1.trans h2, h1⟩
theorem c_Lens_copy_no (hC : relC S x sz T I R) {v : Int32} (hb : k_ish S.lv v = false) : q_C g M_Lens_copy [.ref x, .int v] (sz, T, I, R, J) 1000 14000 (q_Xi [2, 3] (c_sp x sz T I R J (nI 1, 0, S))) := by
  have hL := hC.1.1
  refine q_C.of (ls0 := [some (.ref x), some (.int v), none]) (by decide) rfl (by decide) (Nat.le_of_ble_eq_true rfl) rfl ?_
  refine q_aload_n d_Lens_copy_0 rfl rfl ?_
  refine q_iload_n d_Lens_copy_1 rfl rfl ?_
  refine q_callV (M2 := M_Lens_needHandle) d_Lens_copy_2 ⟨(Nat.le_of_ble_eq_true rfl), (Nat.le_of_ble_eq_true rfl), w_747, w_1, ⟨by decide, by decide⟩, show _ = some 1 by decide +kernel⟩ w_744 w_746 (ci := 10) rfl s_18 hL.1 rfl (Nat.le_of_ble_eq_true rfl) (by omega) (by omega) (c_needHandle_no hC hb) (fun v h' z => ?_) (fun z9 h' z => ?_)
  · cases z.1
  · obtain ⟨e9, rfl⟩ := z
    cases e9
    exact q_VX.out (by decide) (by omega) (by omega) (c_xi_no hC rfl)
theorem c_Lens_copy_no2 (hC : relC S x sz T I R) {v : Int32} (hb : k_ish S.lv v = true) (hf : k_fr S.lv 0 16 = none) : q_C g M_Lens_copy [.ref x, .int v] (sz, T, I, R, J) 1000 14000 (q_Xi [2, 3] (c_sp x sz T I R J (nI 2, 0, S))) := by
  have hL := hC.1.1
  refine q_C.of (ls0 := [some (.ref x), some (.int v), none]) (by decide) rfl (by decide) (Nat.le_of_ble_eq_true rfl) rfl ?_
  refine q_aload_n d_Lens_copy_0 rfl rfl ?_
  refine q_iload_n d_Lens_copy_1 rfl rfl ?_
  refine q_callVv (M2 := M_Lens_needHandle) d_Lens_copy_2 ⟨(Nat.le_of_ble_eq_true rfl), (Nat.le_of_ble_eq_true rfl), w_747, w_1, ⟨by decide, by decide⟩, show _ = some 1 by decide +kernel⟩ w_744 w_746 (ci := 10) rfl s_18 hL.1 rfl (Nat.le_of_ble_eq_true rfl) (by omega) (by omega) (c_needHandle_ok hC hb) ?_
  rintro _ rfl
  refine q_aload_n d_Lens_copy_5 rfl rfl ?_
  refine q_callVi (M2 := M_Lens_freeHandle) d_Lens_copy_6 ⟨(Nat.le_of_ble_eq_true rfl), (Nat.le_of_ble_eq_true rfl), w_713, w_1, ⟨by decide, by decide⟩, show _ = some 0 by decide +kernel⟩ w_710 w_712 (ci := 10) rfl s_16 hL.1 rfl (Nat.le_of_ble_eq_true rfl) (by omega) (by omega) (c_Lens_freeHandle hL hC.hs) ?_
  rintro _ _ ⟨rfl, rfl⟩
  rw [hf]
  refine q_istore_n d_Lens_copy_9 rfl (Nat.le_of_ble_eq_true rfl) (by first | exact q_ok0 | exact q_okI rfl | exact q_okR rfl | exact q_okN rfl) rfl ?_
  refine q_iload_n d_Lens_copy_10 rfl rfl ?_
  refine q_iconst (v := (-1)) d_Lens_copy_11 (by decide) ?_
  refine q_icmp_ne (tgt := 23) d_Lens_copy_12 rfl (fun hc => ?_) (fun hc => ?_)
  · exact absurd rfl hc
  · refine q_throw (x := 3) d_Lens_copy_15 d_Lens_copy_18 d_Lens_copy_19 d_Lens_copy_22 (by decide +kernel) x_nmf (Nat.le_of_ble_eq_true rfl) (Nat.le_of_ble_eq_true rfl) (Nat.le_of_ble_eq_true rfl) w_612 w_20 x_at3 rfl (Nat.le_of_ble_eq_true rfl) (by omega) (by omega) ?_
    exact c_xi_no hC rfl
theorem c_Lens_copy (hw : wf S) (hC : relC S x sz T I R) {i h : Nat} {c : KR} (hi : i < 16) (hc : S.rs i = some c) (hb : k_ish S.lv (nI i) = true) (hf : k_fr S.lv 0 16 = some h) : q_C g M_Lens_copy [.ref x, .int (nI i)] (sz, T, I, R, J) 1000 14000 (q_Xi [2, 3] (c_sp x sz T I R J (0, nI h, S.setR h (some c)))) := by
  have hL := hC.1.1
  obtain ⟨q, s, w, L, e1, e2, e3, e4, e5, e6, e7, e8, e9, e10, e11⟩ := relC.of hw hC hi hc
  obtain ⟨f1, f2, f3⟩ := k_fr_some hf
  have h16 : h < 16 := by omega
  have h24 := e2.1.1
  have hn : S.rs h = none := by
    have : (S.rs h).isSome = false := f3
    cases hr : S.rs h with
    | none => rfl
    | some c => rw [hr] at this; cases this
  have hih : i ≠ h := fun z => by rw [z, hn] at hc; cases hc
  refine q_C.of (ls0 := [some (.ref x), some (.int (nI i)), none]) (by decide) rfl (by decide) (Nat.le_of_ble_eq_true rfl) rfl ?_
  refine q_aload_n d_Lens_copy_0 rfl rfl ?_
  refine q_iload_n d_Lens_copy_1 rfl rfl ?_
  refine q_callVv (M2 := M_Lens_needHandle) d_Lens_copy_2 ⟨(Nat.le_of_ble_eq_true rfl), (Nat.le_of_ble_eq_true rfl), w_747, w_1, ⟨by decide, by decide⟩, show _ = some 1 by decide +kernel⟩ w_744 w_746 (ci := 10) rfl s_18 hL.1 rfl (Nat.le_of_ble_eq_true rfl) (by omega) (by omega) (c_needHandle_ok hC hb) ?_
  rintro _ rfl
  refine q_aload_n d_Lens_copy_5 rfl rfl ?_
  refine q_callVi (M2 := M_Lens_freeHandle) d_Lens_copy_6 ⟨(Nat.le_of_ble_eq_true rfl), (Nat.le_of_ble_eq_true rfl), w_713, w_1, ⟨by decide, by decide⟩, show _ = some 0 by decide +kernel⟩ w_710 w_712 (ci := 10) rfl s_16 hL.1 rfl (Nat.le_of_ble_eq_true rfl) (by omega) (by omega) (c_Lens_freeHandle hL hC.hs) ?_
  rintro _ _ ⟨rfl, rfl⟩
  rw [hf, show p_idx (some h) = nI h from rfl]
  refine q_istore_n d_Lens_copy_9 rfl (Nat.le_of_ble_eq_true rfl) (by first | exact q_ok0 | exact q_okI rfl | exact q_okR rfl | exact q_okN rfl) rfl ?_
  refine q_iload_n d_Lens_copy_10 rfl rfl ?_
  refine q_iconst (v := (-1)) d_Lens_copy_11 (by decide) ?_
  refine q_icmp_ne (tgt := 23) d_Lens_copy_12 rfl (fun hc => ?_) (fun hc => ?_)
  rotate_left
  · exact absurd hc (nI_m1 (by omega))
  refine q_aload_n d_Lens_copy_23 rfl rfl ?_
  refine q_iload_n d_Lens_copy_24 rfl rfl ?_
  refine q_callVr (M2 := M_Lens_rowFor) d_Lens_copy_25 ⟨(Nat.le_of_ble_eq_true rfl), (Nat.le_of_ble_eq_true rfl), w_717, w_1, ⟨by decide, by decide⟩, show _ = some 1 by decide +kernel⟩ w_714 w_716 (ci := 10) rfl s_17 hL.1 rfl (Nat.le_of_ble_eq_true rfl) (by omega) (by omega) (c_Lens_rowFor hC h16 hn) ?_
  rintro _ _ ⟨r, sz1, T1, R1, rfl, rfl, b1, b2, b3, b4, b5⟩
  obtain ⟨g1, g2, g3⟩ := b4 i q hi hih e6
  have hL := b2.1
  have hr0 := (r_T0 b1).1
  refine q_aload_n d_Lens_copy_28 rfl rfl ?_
  refine q_getR (ci := 10) (fk := 2) d_Lens_copy_29 rfl (Nat.le_of_ble_eq_true rfl) w_274 (fun _ _ => rfl) hL.1 (hL.2 2 _ _ _ rfl).1 ?_
  refine q_iload_n d_Lens_copy_32 rfl rfl ?_
  refine q_aaldR (kd := _) d_Lens_copy_33 rfl (Nat.le_of_ble_eq_true rfl) (Nat.le_of_ble_eq_true rfl) (hL.2 2 _ _ _ rfl).2 (by first | assumption | exact vp_in_nI (by omega) (by omega)) (by first | assumption | rfl | (simp (disch := omega) only [q_upT_self, q_upT_ne, q_upR_self, q_upR_nea, q_upR_nk, q_upT_at, *]; done) | (simp (disch := omega) only [q_upT_self, q_upT_ne, q_upR_self, q_upR_nea, q_upR_nk, q_upT_at, *]; rfl)) ?_
  refine q_callVv (M2 := M_Row_makeLike) d_Lens_copy_34 ⟨(Nat.le_of_ble_eq_true rfl), (Nat.le_of_ble_eq_true rfl), w_751, w_6, ⟨by decide, by decide⟩, show _ = some 1 by decide +kernel⟩ w_748 w_749 (ci := 5) rfl w_750 (by first | assumption | rfl | (simp (disch := omega) only [q_upT_self, q_upT_ne, q_upR_self, q_upR_nea, q_upR_nk, q_upT_at, *]; done) | (simp (disch := omega) only [q_upT_self, q_upT_ne, q_upR_self, q_upR_nea, q_upR_nk, q_upT_at, *]; rfl)) rfl (Nat.le_of_ble_eq_true rfl) (by omega) (by omega) (c_Row_makeLike b1 g2 (fun z => g3 z.symm) e11) ?_
  rintro _ ⟨I2, rfl, i1, i2, i3, i4, i5, i6, i7⟩
  refine q_iload_n d_Lens_copy_37 rfl rfl ?_
  refine q_iret d_Lens_copy_38 rfl (by omega) (by omega) ?_
  obtain ⟨h1, h2⟩ := b5 I2 (some c) (fun b hb => i1 b (by omega) (by omega) (by omega) (by omega) (by omega)) i2 (fun c2 hc2 => by
    cases hc2
    obtain ⟨k1, k2, k3⟩ := e8
    refine ⟨by rw [i3]; exact k1, fun j u hu => (k2 j u hu).cong (fun a a1 a2 => ?_), fun k hk => ?_⟩
    · have := (List.getElem?_eq_some_iff.mp hu).1
      exact i4 a (by omega)
    · obtain ⟨l1, l2, l3⟩ := k3 k hk
      exact ⟨by rw [i5 k hk]; exact l1, fun z => (l2 z).cong (fun a a1 a2 => i6 a (by omega)), fun z => (l3 z).cong (fun a a1 a2 => i7 a (by omega))⟩)
  exact Or.inl ⟨_, rfl, rfl, fun _ => rfl, _, _, _, _, rfl, h2, h1⟩
end RecC
