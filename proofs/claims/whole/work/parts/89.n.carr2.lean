/-! translate: the carrier, unwrap to pass -/
section Carr2
variable {g : q_G} {sz c r po : Nat} {T : q_T} {I : q_I} {R : q_R} {J : q_J} {p : KP} {P : Nat → Prop} {X : KV}
theorem c_sl.set {V : Nat → List Int32} {s : Nat} {v : List Int32} {I' : q_I} (h : c_sl c P V I) (hw : w_at (c + 2) s v I I') : c_sl c P (k_ud V s v) I' := (h.put hw).imp fun _ z => Or.inl z
theorem c_Carrier_unwrap {k : Nat} (h : c_cr c r po p T I R) (hX : c_xx c r P X I) (hP : P p.sl) (hk : k < 128) : q_Cv g M_Carrier_unwrap [.ref c, .ref po, .ref r, .int (nI k)] (sz, T, I, R, J) 0 0 (c_xp c r sz T I R J P (t_unw p k X)) := by
  have hn := h.ne
  have hh := h
  obtain ⟨h1, h2, h3, h4, h5, h6⟩ := h
  obtain ⟨t0, t1, t2, t3, t4, t5, t6, t7⟩ := r_T0 h3
  have hL := h1
  have tp := h4.1
  have r3 := (h3.1.2 3 _ _ _ rfl).1
  have r4 := (h3.1.2 4 _ _ _ rfl).1
  have r5 := (h3.1.2 5 _ _ _ rfl).1
  have hc1 := h2.1
  have psl := h4.2.2.1
  have hV := hX.1 p.sl h5 hP
  have hl6 := hV.1
  have lw : I (c + 1 + 1) (nI (p.sl * 7)) = nI (X.1 p.sl).length := hV.2.1
  refine q_C.of (ls0 := [some (.ref c), some (.ref po), some (.ref r), some (.int (nI k)), none]) (by decide) rfl (by decide) (Nat.le_of_ble_eq_true rfl) rfl ?_
  refine q_aload_n d_Carrier_unwrap_0 rfl rfl ?_
  refine q_getR (ci := 0) (fk := 0) d_Carrier_unwrap_1 rfl (Nat.le_of_ble_eq_true rfl) w_226 (fun _ _ => rfl) hL.1 (hL.2 0 _ _ _ rfl).1 ?_
  refine q_aload_n d_Carrier_unwrap_4 rfl rfl ?_
  refine q_getI (ci := 4) (fk := 1) d_Carrier_unwrap_5 rfl (Nat.le_of_ble_eq_true rfl) w_495 (fun _ _ => rfl) (by first | assumption | rfl | (simp (disch := omega) only [q_upT_self, q_upT_ne, q_upR_self, q_upR_nea, q_upR_nk, s_T_lo, s_T_hi, s_R_ne, *]; done) | (simp (disch := omega) only [q_upT_self, q_upT_ne, q_upR_self, q_upR_nea, q_upR_nk, s_T_lo, s_T_hi, s_R_ne, *]; rfl)) ?_
  rw [psl]
  refine q_callVi (M2 := M_Cells_lengthOf) d_Carrier_unwrap_8 ⟨(Nat.le_of_ble_eq_true rfl), (Nat.le_of_ble_eq_true rfl), w_794, w_7, ⟨by decide, by decide⟩, show _ = some 1 by decide +kernel⟩ w_940 w_792 (ci := 1) rfl w_793 (by first | assumption | rfl | (simp (disch := omega) only [q_upT_self, q_upT_ne, q_upR_self, q_upR_nea, q_upR_nk, s_T_lo, s_T_hi, s_R_ne, *]; done) | (simp (disch := omega) only [q_upT_self, q_upT_ne, q_upR_self, q_upR_nea, q_upR_nk, s_T_lo, s_T_hi, s_R_ne, *]; rfl)) rfl (Nat.le_of_ble_eq_true rfl) (by omega) (by omega) (c_Cells_lengthOf h2 (by omega) (by omega)) ?_
  rintro _ _ ⟨rfl, rfl⟩
  rw [lw]
  have next : ∀ (b : Bool) (mcc msc : Nat), mcc = 0 → msc = 0 → b = decide ((X.1 p.sl).length = 1) → q_V g M_Carrier_unwrap 0 0 mcc msc (sz, T, I, R, J) (fun o h' => o = .inl none ∧ c_xp c r sz T I R J P (t_unw p k X) h') 25 [some (.ref c), some (.ref po), some (.ref r), some (.int (nI k)), some (.int (nI (X.1 p.sl).length))] [.int (p_b b), .ref c] := by
    intro b mcc msc m1 m2 hb
    subst m1 m2
    refine q_aload_n d_Carrier_unwrap_25 rfl rfl ?_
    refine q_aload_n d_Carrier_unwrap_26 rfl rfl ?_
    refine q_iload_n d_Carrier_unwrap_27 rfl rfl ?_
    refine q_callVv (M2 := M_Carrier_keepUnless) d_Carrier_unwrap_28 ⟨(Nat.le_of_ble_eq_true rfl), (Nat.le_of_ble_eq_true rfl), w_934, w_8, ⟨by decide, by decide⟩, show _ = some 4 by decide +kernel⟩ w_931 w_933 (ci := 0) rfl s_29 hL.1 rfl (Nat.le_of_ble_eq_true rfl) (by omega) (by omega) (c_Carrier_keepUnless hh hX hP hk) ?_
    rintro _ ⟨I1, rfl, j1, j2⟩
    have h' := hh.cong j1
    have ps1 : I1 po (nI 1) = nI p.sl := h'.2.2.2.1.2.2.1
    have hV1 := j2.1 p.sl h5 hP
    have e : (if b = true then k_n0 else (1, X.1 p.sl, [])) = (if (X.1 p.sl).length = 1 then k_n0 else (1, X.1 p.sl, [])) := by
      rw [hb]
      by_cases z : (X.1 p.sl).length = 1
      · rw [if_pos (decide_eq_true z), if_pos z]
      · rw [if_neg (by rw [decide_eq_false z]; decide), if_neg z]
    rw [e] at j2
    have fin : ∀ (x : Int32) (mcc msc : Nat), mcc = 0 → msc = 0 → x = (X.1 p.sl).headD (p_near p.lo p.hi) → q_V g M_Carrier_unwrap 0 0 mcc msc (sz, T, I1, R, J) (fun o h' => o = .inl none ∧ c_xp c r sz T I R J P (t_unw p k X) h') 63 [some (.ref c), some (.ref po), some (.ref r), some (.int (nI k)), some (.int (nI (X.1 p.sl).length))] [.int x, .int (nI p.sl), .ref (c + 1)] := by
      intro x mcc msc m1 m2 hx
      subst m1 m2
      refine q_callVv (M2 := M_Cells_writeNumber) d_Carrier_unwrap_63 ⟨(Nat.le_of_ble_eq_true rfl), (Nat.le_of_ble_eq_true rfl), w_732, w_7, ⟨by decide, by decide⟩, show _ = some 2 by decide +kernel⟩ w_947 w_730 (ci := 1) rfl w_731 (by first | assumption | rfl | (simp (disch := omega) only [q_upT_self, q_upT_ne, q_upR_self, q_upR_nea, q_upR_nk, s_T_lo, s_T_hi, s_R_ne, *]; done) | (simp (disch := omega) only [q_upT_self, q_upT_ne, q_upR_self, q_upR_nea, q_upR_nk, s_T_lo, s_T_hi, s_R_ne, *]; rfl)) rfl (Nat.le_of_ble_eq_true rfl) (by omega) (by omega) (c_Cells_writeNumber h2 (by omega) (by omega) x) ?_
      rintro _ rfl
      have hw2 : w_at (c + 2) p.sl [x] I1 (k_wn I1 (c + 2) (p.sl * 7) x) := w_at.wn x (by omega)
      refine q_vret d_Carrier_unwrap_66 rfl (by omega) (by omega) ?_
      refine ⟨rfl, _, rfl, j1.trans (hw2.xf (r := r)), ?_, ?_⟩
      · unfold t_unw
        rw [← hx]
        exact j2.1.set hw2
      · exact j2.2.cong (hw2.1 _ (by omega)) (hw2.1 _ (by omega)) (hw2.1 _ (by omega))
    refine q_aload_n d_Carrier_unwrap_31 rfl rfl ?_
    refine q_getR (ci := 0) (fk := 0) d_Carrier_unwrap_32 rfl (Nat.le_of_ble_eq_true rfl) w_226 (fun _ _ => rfl) hL.1 (hL.2 0 _ _ _ rfl).1 ?_
    refine q_aload_n d_Carrier_unwrap_35 rfl rfl ?_
    refine q_getI (ci := 4) (fk := 1) d_Carrier_unwrap_36 rfl (Nat.le_of_ble_eq_true rfl) w_495 (fun _ _ => rfl) (by first | assumption | rfl | (simp (disch := omega) only [q_upT_self, q_upT_ne, q_upR_self, q_upR_nea, q_upR_nk, s_T_lo, s_T_hi, s_R_ne, *]; done) | (simp (disch := omega) only [q_upT_self, q_upT_ne, q_upR_self, q_upR_nea, q_upR_nk, s_T_lo, s_T_hi, s_R_ne, *]; rfl)) ?_
    rw [ps1]
    by_cases hl : 0 < (X.1 p.sl).length
    · refine q_iload d_Carrier_unwrap_39 rfl ?_
      refine q_if_le (tgt := 59) d_Carrier_unwrap_41 rfl (fun hc => ?_) (fun hc => ?_)
      · exact absurd hc (nI_nle hl (by omega))
      refine q_aload_n d_Carrier_unwrap_44 rfl rfl ?_
      refine q_getR (ci := 0) (fk := 0) d_Carrier_unwrap_45 rfl (Nat.le_of_ble_eq_true rfl) w_226 (fun _ _ => rfl) hL.1 (hL.2 0 _ _ _ rfl).1 ?_
      refine q_aload_n d_Carrier_unwrap_48 rfl rfl ?_
      refine q_getI (ci := 4) (fk := 1) d_Carrier_unwrap_49 rfl (Nat.le_of_ble_eq_true rfl) w_495 (fun _ _ => rfl) (by first | assumption | rfl | (simp (disch := omega) only [q_upT_self, q_upT_ne, q_upR_self, q_upR_nea, q_upR_nk, s_T_lo, s_T_hi, s_R_ne, *]; done) | (simp (disch := omega) only [q_upT_self, q_upT_ne, q_upR_self, q_upR_nea, q_upR_nk, s_T_lo, s_T_hi, s_R_ne, *]; rfl)) ?_
      rw [ps1]
      refine q_iconst (v := nI 0) d_Carrier_unwrap_52 (by decide) ?_
      refine q_callVi (M2 := M_Cells_read) d_Carrier_unwrap_53 ⟨(Nat.le_of_ble_eq_true rfl), (Nat.le_of_ble_eq_true rfl), w_817, w_7, ⟨by decide, by decide⟩, show _ = some 2 by decide +kernel⟩ w_939 w_815 (ci := 1) rfl w_816 (by first | assumption | rfl | (simp (disch := omega) only [q_upT_self, q_upT_ne, q_upR_self, q_upR_nea, q_upR_nk, s_T_lo, s_T_hi, s_R_ne, *]; done) | (simp (disch := omega) only [q_upT_self, q_upT_ne, q_upR_self, q_upR_nea, q_upR_nk, s_T_lo, s_T_hi, s_R_ne, *]; rfl)) rfl (Nat.le_of_ble_eq_true rfl) (by omega) (by omega) (c_Cells_read (i := 0) h2 (by omega) (by omega)) ?_
      rintro _ _ ⟨rfl, rfl⟩
      refine q_goto (tgt := 63) d_Carrier_unwrap_56 rfl ?_
      exact fin _ _ _ rfl rfl (k_hd hV1 hl _)
    · have h0 : X.1 p.sl = [] := List.length_eq_zero_iff.mp (by omega)
      refine q_iload d_Carrier_unwrap_39 rfl ?_
      refine q_if_le (tgt := 59) d_Carrier_unwrap_41 rfl (fun hc => ?_) (fun hc => ?_)
      rotate_left
      · exact absurd (by rw [h0]; exact Int32.le_refl _) hc
      refine q_aload_n d_Carrier_unwrap_59 rfl rfl ?_
      refine q_callVi (M2 := M_Primitive_defaultNumber) d_Carrier_unwrap_60 ⟨(Nat.le_of_ble_eq_true rfl), (Nat.le_of_ble_eq_true rfl), w_945, w_18, ⟨by decide, by decide⟩, show _ = some 0 by decide +kernel⟩ w_942 w_943 (ci := 4) rfl w_944 (by first | assumption | rfl | (simp (disch := omega) only [q_upT_self, q_upT_ne, q_upR_self, q_upR_nea, q_upR_nk, s_T_lo, s_T_hi, s_R_ne, *]; done) | (simp (disch := omega) only [q_upT_self, q_upT_ne, q_upR_self, q_upR_nea, q_upR_nk, s_T_lo, s_T_hi, s_R_ne, *]; rfl)) rfl (Nat.le_of_ble_eq_true rfl) (by omega) (by omega) (c_Primitive_defaultNumber h'.2.2.2.1) ?_
      rintro _ _ ⟨rfl, rfl⟩
      exact fin _ _ _ rfl rfl (by rw [h0]; rfl)
  by_cases h1 : (X.1 p.sl).length = 1
  · refine q_istore d_Carrier_unwrap_11 (Nat.le_of_ble_eq_true rfl) (by first | exact q_ok0 | exact q_okI rfl | exact q_okR rfl | exact q_okN rfl) rfl ?_
    refine q_aload_n d_Carrier_unwrap_13 rfl rfl ?_
    refine q_iload d_Carrier_unwrap_14 rfl ?_
    refine q_iconst (v := nI 1) d_Carrier_unwrap_16 (by decide) ?_
    refine q_icmp_ne (tgt := 24) d_Carrier_unwrap_17 rfl (fun hc => ?_) (fun hc => ?_)
    · exact absurd (by rw [h1]) hc
    refine q_iconst (v := nI 1) d_Carrier_unwrap_20 (by decide) ?_
    refine q_goto (tgt := 25) d_Carrier_unwrap_21 rfl ?_
    exact next true _ _ rfl rfl (decide_eq_true h1).symm
  · refine q_istore d_Carrier_unwrap_11 (Nat.le_of_ble_eq_true rfl) (by first | exact q_ok0 | exact q_okI rfl | exact q_okR rfl | exact q_okN rfl) rfl ?_
    refine q_aload_n d_Carrier_unwrap_13 rfl rfl ?_
    refine q_iload d_Carrier_unwrap_14 rfl ?_
    refine q_iconst (v := nI 1) d_Carrier_unwrap_16 (by decide) ?_
    refine q_icmp_ne (tgt := 24) d_Carrier_unwrap_17 rfl (fun hc => ?_) (fun hc => ?_)
    rotate_left
    · exact absurd ((nI_eq (by omega) (by omega)).mp (show nI (X.1 p.sl).length = nI 1 by have := hc; simpa using this)) h1
    refine q_iconst (v := nI 0) d_Carrier_unwrap_24 (by decide) ?_
    exact next false _ _ rfl rfl (decide_eq_false h1).symm
theorem c_Carrier_split (h : c_cr c r po p T I R) (hX : c_xx c r P X I) (hP : P p.sl) (h5k : p.kind = 5) (h1l : (X.1 p.sl).length = 1) (ha : 0 < p.a.toInt) : q_Ci g M_Carrier_split [.ref c, .ref po] (sz, T, I, R, J) 0 0 (fun v h' => v = 1 ∧ c_xp c r sz T I R J (fun t => P t ∨ t = p.rs) (t_spl p X) h') := by
  have hn := h.ne
  have hh := h
  obtain ⟨h1, h2, h3, h4, h5, h6⟩ := h
  obtain ⟨t0, t1, t2, t3, t4, t5, t6, t7⟩ := r_T0 h3
  have hL := h1
  have tp := h4.1
  have r3 := (h3.1.2 3 _ _ _ rfl).1
  have r4 := (h3.1.2 4 _ _ _ rfl).1
  have r5 := (h3.1.2 5 _ _ _ rfl).1
  have hc1 := h2.1
  have psl := h4.2.2.1
  have hV := hX.1 p.sl h5 hP
  have hrs := h6 h5k
  have pa := h4.2.2.2.2.2.2.1 (by omega) (by omega)
  have prs := h4.2.2.2.2.2.2.2.2 h5k
  obtain ⟨x, hx⟩ : ∃ x, x = (X.1 p.sl).headD 0 := ⟨_, rfl⟩
  refine q_C.of (ls0 := [some (.ref c), some (.ref po), none]) (by decide) rfl (by decide) (Nat.le_of_ble_eq_true rfl) rfl ?_
  refine q_aload_n d_Carrier_split_0 rfl rfl ?_
  refine q_getR (ci := 0) (fk := 0) d_Carrier_split_1 rfl (Nat.le_of_ble_eq_true rfl) w_226 (fun _ _ => rfl) hL.1 (hL.2 0 _ _ _ rfl).1 ?_
  refine q_aload_n d_Carrier_split_4 rfl rfl ?_
  refine q_getI (ci := 4) (fk := 1) d_Carrier_split_5 rfl (Nat.le_of_ble_eq_true rfl) w_495 (fun _ _ => rfl) (by first | assumption | rfl | (simp (disch := omega) only [q_upT_self, q_upT_ne, q_upR_self, q_upR_nea, q_upR_nk, s_T_lo, s_T_hi, s_R_ne, *]; done) | (simp (disch := omega) only [q_upT_self, q_upT_ne, q_upR_self, q_upR_nea, q_upR_nk, s_T_lo, s_T_hi, s_R_ne, *]; rfl)) ?_
  rw [psl]
  refine q_iconst (v := nI 0) d_Carrier_split_8 (by decide) ?_
  refine q_callVi (M2 := M_Cells_read) d_Carrier_split_9 ⟨(Nat.le_of_ble_eq_true rfl), (Nat.le_of_ble_eq_true rfl), w_817, w_7, ⟨by decide, by decide⟩, show _ = some 2 by decide +kernel⟩ w_939 w_815 (ci := 1) rfl w_816 (by first | assumption | rfl | (simp (disch := omega) only [q_upT_self, q_upT_ne, q_upR_self, q_upR_nea, q_upR_nk, s_T_lo, s_T_hi, s_R_ne, *]; done) | (simp (disch := omega) only [q_upT_self, q_upT_ne, q_upR_self, q_upR_nea, q_upR_nk, s_T_lo, s_T_hi, s_R_ne, *]; rfl)) rfl (Nat.le_of_ble_eq_true rfl) (by omega) (by omega) (c_Cells_read (i := 0) h2 (by omega) (by omega)) ?_
  rintro _ _ ⟨rfl, rfl⟩
  rw [show I (c + 1 + 1) (nI (p.sl * 7 + 1 + 0)) = x by rw [hx]; exact k_hd hV (by omega) 0]
  refine q_istore_n d_Carrier_split_12 rfl (Nat.le_of_ble_eq_true rfl) (by first | exact q_ok0 | exact q_okI rfl | exact q_okR rfl | exact q_okN rfl) rfl ?_
  refine q_aload_n d_Carrier_split_13 rfl rfl ?_
  refine q_getR (ci := 0) (fk := 0) d_Carrier_split_14 rfl (Nat.le_of_ble_eq_true rfl) w_226 (fun _ _ => rfl) hL.1 (hL.2 0 _ _ _ rfl).1 ?_
  refine q_aload_n d_Carrier_split_17 rfl rfl ?_
  refine q_getI (ci := 4) (fk := 1) d_Carrier_split_18 rfl (Nat.le_of_ble_eq_true rfl) w_495 (fun _ _ => rfl) (by first | assumption | rfl | (simp (disch := omega) only [q_upT_self, q_upT_ne, q_upR_self, q_upR_nea, q_upR_nk, s_T_lo, s_T_hi, s_R_ne, *]; done) | (simp (disch := omega) only [q_upT_self, q_upT_ne, q_upR_self, q_upR_nea, q_upR_nk, s_T_lo, s_T_hi, s_R_ne, *]; rfl)) ?_
  rw [psl]
  refine q_iload_n d_Carrier_split_21 rfl rfl ?_
  refine q_aload_n d_Carrier_split_22 rfl rfl ?_
  refine q_getI (ci := 4) (fk := 5) d_Carrier_split_23 rfl (Nat.le_of_ble_eq_true rfl) w_507 (fun _ _ => rfl) (by first | assumption | rfl | (simp (disch := omega) only [q_upT_self, q_upT_ne, q_upR_self, q_upR_nea, q_upR_nk, s_T_lo, s_T_hi, s_R_ne, *]; done) | (simp (disch := omega) only [q_upT_self, q_upT_ne, q_upR_self, q_upR_nea, q_upR_nk, s_T_lo, s_T_hi, s_R_ne, *]; rfl)) ?_
  rw [pa]
  refine q_callSi (M2 := M_Math_floorDiv_I) d_Carrier_split_26 ⟨(Nat.le_of_ble_eq_true rfl), (Nat.le_of_ble_eq_true rfl), w_584, w_19, ⟨by decide, by decide⟩, show _ = some 2 by decide +kernel⟩ w_956 w_583 rfl (Nat.le_of_ble_eq_true rfl) (by omega) (by omega) (c_Math_floorDiv_I (fun z => by rw [z] at ha; exact absurd ha (by decide))) ?_
  rintro _ _ ⟨rfl, rfl⟩
  rw [z_divI ha]
  refine q_callVv (M2 := M_Cells_writeNumber) d_Carrier_split_29 ⟨(Nat.le_of_ble_eq_true rfl), (Nat.le_of_ble_eq_true rfl), w_732, w_7, ⟨by decide, by decide⟩, show _ = some 2 by decide +kernel⟩ w_947 w_730 (ci := 1) rfl w_731 (by first | assumption | rfl | (simp (disch := omega) only [q_upT_self, q_upT_ne, q_upR_self, q_upR_nea, q_upR_nk, s_T_lo, s_T_hi, s_R_ne, *]; done) | (simp (disch := omega) only [q_upT_self, q_upT_ne, q_upR_self, q_upR_nea, q_upR_nk, s_T_lo, s_T_hi, s_R_ne, *]; rfl)) rfl (Nat.le_of_ble_eq_true rfl) (by omega) (by omega) (c_Cells_writeNumber h2 (by omega) (by omega) _) ?_
  rintro _ rfl
  have hw1 : w_at (c + 2) p.sl [z_div x p.a] I (k_wn I (c + 2) (p.sl * 7) (z_div x p.a)) := w_at.wn _ (by omega)
  obtain ⟨I1, hI1⟩ : ∃ I1, I1 = k_wn I (c + 2) (p.sl * 7) (z_div x p.a) := ⟨_, rfl⟩
  rw [← hI1] at hw1
  rw [show k_wn I (c + 1 + 1) (p.sl * 7) (z_div x p.a) = I1 from hI1.symm]
  have e1 : I1 po = I po := hw1.1 po hn.2.2.2.2.1
  refine q_aload_n d_Carrier_split_32 rfl rfl ?_
  refine q_getR (ci := 0) (fk := 0) d_Carrier_split_33 rfl (Nat.le_of_ble_eq_true rfl) w_226 (fun _ _ => rfl) hL.1 (hL.2 0 _ _ _ rfl).1 ?_
  refine q_aload_n d_Carrier_split_36 rfl rfl ?_
  refine q_getI (ci := 4) (fk := 7) d_Carrier_split_37 rfl (Nat.le_of_ble_eq_true rfl) w_511 (fun _ _ => rfl) (by first | assumption | rfl | (simp (disch := omega) only [q_upT_self, q_upT_ne, q_upR_self, q_upR_nea, q_upR_nk, s_T_lo, s_T_hi, s_R_ne, *]; done) | (simp (disch := omega) only [q_upT_self, q_upT_ne, q_upR_self, q_upR_nea, q_upR_nk, s_T_lo, s_T_hi, s_R_ne, *]; rfl)) ?_
  rw [e1, prs]
  refine q_iload_n d_Carrier_split_40 rfl rfl ?_
  refine q_aload_n d_Carrier_split_41 rfl rfl ?_
  refine q_getI (ci := 4) (fk := 5) d_Carrier_split_42 rfl (Nat.le_of_ble_eq_true rfl) w_507 (fun _ _ => rfl) (by first | assumption | rfl | (simp (disch := omega) only [q_upT_self, q_upT_ne, q_upR_self, q_upR_nea, q_upR_nk, s_T_lo, s_T_hi, s_R_ne, *]; done) | (simp (disch := omega) only [q_upT_self, q_upT_ne, q_upR_self, q_upR_nea, q_upR_nk, s_T_lo, s_T_hi, s_R_ne, *]; rfl)) ?_
  rw [e1, pa]
  refine q_callSi (M2 := M_Math_floorMod_I) d_Carrier_split_45 ⟨(Nat.le_of_ble_eq_true rfl), (Nat.le_of_ble_eq_true rfl), w_959, w_19, ⟨by decide, by decide⟩, show _ = some 2 by decide +kernel⟩ w_957 w_958 rfl (Nat.le_of_ble_eq_true rfl) (by omega) (by omega) (c_Math_floorMod_I ha) ?_
  rintro _ _ ⟨rfl, rfl⟩
  refine q_callVv (M2 := M_Cells_writeNumber) d_Carrier_split_48 ⟨(Nat.le_of_ble_eq_true rfl), (Nat.le_of_ble_eq_true rfl), w_732, w_7, ⟨by decide, by decide⟩, show _ = some 2 by decide +kernel⟩ w_947 w_730 (ci := 1) rfl w_731 (by first | assumption | rfl | (simp (disch := omega) only [q_upT_self, q_upT_ne, q_upR_self, q_upR_nea, q_upR_nk, s_T_lo, s_T_hi, s_R_ne, *]; done) | (simp (disch := omega) only [q_upT_self, q_upT_ne, q_upR_self, q_upR_nea, q_upR_nk, s_T_lo, s_T_hi, s_R_ne, *]; rfl)) rfl (Nat.le_of_ble_eq_true rfl) (by omega) (by omega) (c_Cells_writeNumber h2 (by omega) (by omega) _) ?_
  rintro _ rfl
  have hw2 : w_at (c + 2) p.rs [z_mod x p.a] I1 (k_wn I1 (c + 2) (p.rs * 7) (z_mod x p.a)) := w_at.wn _ (by omega)
  refine q_iconst (v := nI 1) d_Carrier_split_51 (by decide) ?_
  refine q_zret d_Carrier_split_52 rfl (by first | exact Or.inl rfl | exact Or.inr rfl | assumption) (by omega) (by omega) ?_
  refine ⟨_, rfl, rfl, _, rfl, (hw1.xf (r := r)).trans (hw2.xf (r := r)), ?_, ?_⟩
  · unfold t_spl
    rw [← hx]
    exact (hX.1.set hw1).put hw2
  · have hk1 := hX.2.cong (hw1.1 _ (by omega)) (hw1.1 _ (by omega)) (hw1.1 _ (by omega))
    exact hk1.cong (hw2.1 _ (by omega)) (hw2.1 _ (by omega)) (hw2.1 _ (by omega))
theorem z_whl (x a y : Int32) : (x.toInt64 * a.toInt64 + y.toInt64).toInt = x.toInt * a.toInt + y.toInt := by
  have h1 := z_bd x
  have h2 := z_bd a
  have h3 := z_bd y
  have h4 := z_prod (A := 2147483648) (B := 2147483648) (by omega) (x := x.toInt) (y := a.toInt) (by omega) (by omega) (by omega) (by omega)
  have h5 : (2147483648 : Int) * 2147483648 = 4611686018427387904 := by decide
  rw [h5] at h4
  rw [Int64.toInt_add, z_mul, z_i64, k_bm (by omega) (by omega)]
theorem c_Carrier_join (h : c_cr c r po p T I R) (hX : c_xx c r P X I) (hP : P p.sl) (hPr : P p.rs) (h5k : p.kind = 5) (h1l : (X.1 p.sl).length = 1) (h1r : (X.1 p.rs).length = 1) : q_Ci g M_Carrier_join [.ref c, .ref po] (sz, T, I, R, J) 0 0 (fun v h' => (v = 1 ∧ (t_joi p X).2.2 = X.2.2 ∧ c_xp c r sz T I R J P (t_joi p X) h') ∨ (v = 0 ∧ (t_joi p X).2.2 = true ∧ h' = (sz, T, I, R, J))) := by
  have hn := h.ne
  have hh := h
  obtain ⟨h1, h2, h3, h4, h5, h6⟩ := h
  obtain ⟨t0, t1, t2, t3, t4, t5, t6, t7⟩ := r_T0 h3
  have hL := h1
  have tp := h4.1
  have r3 := (h3.1.2 3 _ _ _ rfl).1
  have r4 := (h3.1.2 4 _ _ _ rfl).1
  have r5 := (h3.1.2 5 _ _ _ rfl).1
  have hc1 := h2.1
  have psl := h4.2.2.1
  have hV := hX.1 p.sl h5 hP
  have hrs := h6 h5k
  have hVr := hX.1 p.rs hrs hPr
  have pa := h4.2.2.2.2.2.2.1 (by omega) (by omega)
  have prs := h4.2.2.2.2.2.2.2.2 h5k
  obtain ⟨x, hx⟩ : ∃ x, x = (X.1 p.sl).headD 0 := ⟨_, rfl⟩
  obtain ⟨y, hy⟩ : ∃ y, y = (X.1 p.rs).headD 0 := ⟨_, rfl⟩
  have hz : (x.toInt64 * p.a.toInt64 + y.toInt64).toInt = a_whl p X := by rw [z_whl]; unfold a_whl; rw [hx, hy]
  refine q_C.of (ls0 := [some (.ref c), some (.ref po), none, none]) (by decide) rfl (by decide) (Nat.le_of_ble_eq_true rfl) rfl ?_
  refine q_aload_n d_Carrier_join_0 rfl rfl ?_
  refine q_getR (ci := 0) (fk := 0) d_Carrier_join_1 rfl (Nat.le_of_ble_eq_true rfl) w_226 (fun _ _ => rfl) hL.1 (hL.2 0 _ _ _ rfl).1 ?_
  refine q_aload_n d_Carrier_join_4 rfl rfl ?_
  refine q_getI (ci := 4) (fk := 1) d_Carrier_join_5 rfl (Nat.le_of_ble_eq_true rfl) w_495 (fun _ _ => rfl) (by first | assumption | rfl | (simp (disch := omega) only [q_upT_self, q_upT_ne, q_upR_self, q_upR_nea, q_upR_nk, s_T_lo, s_T_hi, s_R_ne, *]; done) | (simp (disch := omega) only [q_upT_self, q_upT_ne, q_upR_self, q_upR_nea, q_upR_nk, s_T_lo, s_T_hi, s_R_ne, *]; rfl)) ?_
  rw [psl]
  refine q_iconst (v := nI 0) d_Carrier_join_8 (by decide) ?_
  refine q_callVi (M2 := M_Cells_read) d_Carrier_join_9 ⟨(Nat.le_of_ble_eq_true rfl), (Nat.le_of_ble_eq_true rfl), w_817, w_7, ⟨by decide, by decide⟩, show _ = some 2 by decide +kernel⟩ w_939 w_815 (ci := 1) rfl w_816 (by first | assumption | rfl | (simp (disch := omega) only [q_upT_self, q_upT_ne, q_upR_self, q_upR_nea, q_upR_nk, s_T_lo, s_T_hi, s_R_ne, *]; done) | (simp (disch := omega) only [q_upT_self, q_upT_ne, q_upR_self, q_upR_nea, q_upR_nk, s_T_lo, s_T_hi, s_R_ne, *]; rfl)) rfl (Nat.le_of_ble_eq_true rfl) (by omega) (by omega) (c_Cells_read (i := 0) h2 (by omega) (by omega)) ?_
  rintro _ _ ⟨rfl, rfl⟩
  rw [show I (c + 1 + 1) (nI (p.sl * 7 + 1 + 0)) = x by rw [hx]; exact k_hd hV (by omega) 0]
  refine q_i2l d_Carrier_join_12 rfl ?_
  refine q_aload_n d_Carrier_join_13 rfl rfl ?_
  refine q_getI (ci := 4) (fk := 5) d_Carrier_join_14 rfl (Nat.le_of_ble_eq_true rfl) w_507 (fun _ _ => rfl) (by first | assumption | rfl | (simp (disch := omega) only [q_upT_self, q_upT_ne, q_upR_self, q_upR_nea, q_upR_nk, s_T_lo, s_T_hi, s_R_ne, *]; done) | (simp (disch := omega) only [q_upT_self, q_upT_ne, q_upR_self, q_upR_nea, q_upR_nk, s_T_lo, s_T_hi, s_R_ne, *]; rfl)) ?_
  rw [pa]
  refine q_i2l d_Carrier_join_17 rfl ?_
  refine q_lmul d_Carrier_join_18 ?_
  refine q_aload_n d_Carrier_join_19 rfl rfl ?_
  refine q_getR (ci := 0) (fk := 0) d_Carrier_join_20 rfl (Nat.le_of_ble_eq_true rfl) w_226 (fun _ _ => rfl) hL.1 (hL.2 0 _ _ _ rfl).1 ?_
  refine q_aload_n d_Carrier_join_23 rfl rfl ?_
  refine q_getI (ci := 4) (fk := 7) d_Carrier_join_24 rfl (Nat.le_of_ble_eq_true rfl) w_511 (fun _ _ => rfl) (by first | assumption | rfl | (simp (disch := omega) only [q_upT_self, q_upT_ne, q_upR_self, q_upR_nea, q_upR_nk, s_T_lo, s_T_hi, s_R_ne, *]; done) | (simp (disch := omega) only [q_upT_self, q_upT_ne, q_upR_self, q_upR_nea, q_upR_nk, s_T_lo, s_T_hi, s_R_ne, *]; rfl)) ?_
  rw [prs]
  refine q_iconst (v := nI 0) d_Carrier_join_27 (by decide) ?_
  refine q_callVi (M2 := M_Cells_read) d_Carrier_join_28 ⟨(Nat.le_of_ble_eq_true rfl), (Nat.le_of_ble_eq_true rfl), w_817, w_7, ⟨by decide, by decide⟩, show _ = some 2 by decide +kernel⟩ w_939 w_815 (ci := 1) rfl w_816 (by first | assumption | rfl | (simp (disch := omega) only [q_upT_self, q_upT_ne, q_upR_self, q_upR_nea, q_upR_nk, s_T_lo, s_T_hi, s_R_ne, *]; done) | (simp (disch := omega) only [q_upT_self, q_upT_ne, q_upR_self, q_upR_nea, q_upR_nk, s_T_lo, s_T_hi, s_R_ne, *]; rfl)) rfl (Nat.le_of_ble_eq_true rfl) (by omega) (by omega) (c_Cells_read (i := 0) h2 (by omega) (by omega)) ?_
  rintro _ _ ⟨rfl, rfl⟩
  rw [show I (c + 1 + 1) (nI (p.rs * 7 + 1 + 0)) = y by rw [hy]; exact k_hd hVr (by omega) 0]
  refine q_i2l d_Carrier_join_31 rfl ?_
  refine q_ladd d_Carrier_join_32 ?_
  refine q_lstore_n d_Carrier_join_33 rfl (Nat.le_of_ble_eq_true rfl) (by first | exact q_ok0 | exact q_okI rfl | exact q_okR rfl | exact q_okN rfl) rfl ?_
  refine q_aload_n d_Carrier_join_34 rfl rfl ?_
  refine q_lload_n d_Carrier_join_35 rfl rfl ?_
  refine q_callVi (M2 := M_Primitive_admits) d_Carrier_join_36 ⟨(Nat.le_of_ble_eq_true rfl), (Nat.le_of_ble_eq_true rfl), w_967, w_18, ⟨by decide, by decide⟩, show _ = some 1 by decide +kernel⟩ w_964 w_965 (ci := 4) rfl w_966 (by first | assumption | rfl | (simp (disch := omega) only [q_upT_self, q_upT_ne, q_upR_self, q_upR_nea, q_upR_nk, s_T_lo, s_T_hi, s_R_ne, *]; done) | (simp (disch := omega) only [q_upT_self, q_upT_ne, q_upR_self, q_upR_nea, q_upR_nk, s_T_lo, s_T_hi, s_R_ne, *]; rfl)) rfl (Nat.le_of_ble_eq_true rfl) (by omega) (by omega) (c_Primitive_admits h4 _) ?_
  rintro _ _ ⟨rfl, rfl⟩
  rw [hz]
  by_cases hin : p.lo.toInt ≤ a_whl p X ∧ a_whl p X ≤ p.hi.toInt
  · rw [decide_eq_true hin]
    refine q_if_ne (tgt := 44) d_Carrier_join_39 rfl (fun hc => ?_) (fun hc => ?_)
    rotate_left
    · exact absurd hc (by decide)
    refine q_aload_n d_Carrier_join_44 rfl rfl ?_
    refine q_getR (ci := 0) (fk := 0) d_Carrier_join_45 rfl (Nat.le_of_ble_eq_true rfl) w_226 (fun _ _ => rfl) hL.1 (hL.2 0 _ _ _ rfl).1 ?_
    refine q_aload_n d_Carrier_join_48 rfl rfl ?_
    refine q_getI (ci := 4) (fk := 1) d_Carrier_join_49 rfl (Nat.le_of_ble_eq_true rfl) w_495 (fun _ _ => rfl) (by first | assumption | rfl | (simp (disch := omega) only [q_upT_self, q_upT_ne, q_upR_self, q_upR_nea, q_upR_nk, s_T_lo, s_T_hi, s_R_ne, *]; done) | (simp (disch := omega) only [q_upT_self, q_upT_ne, q_upR_self, q_upR_nea, q_upR_nk, s_T_lo, s_T_hi, s_R_ne, *]; rfl)) ?_
    rw [psl]
    refine q_lload_n d_Carrier_join_52 rfl rfl ?_
    refine q_l2i d_Carrier_join_53 rfl ?_
    rw [z_l2i, hz]
    refine q_callVv (M2 := M_Cells_writeNumber) d_Carrier_join_54 ⟨(Nat.le_of_ble_eq_true rfl), (Nat.le_of_ble_eq_true rfl), w_732, w_7, ⟨by decide, by decide⟩, show _ = some 2 by decide +kernel⟩ w_947 w_730 (ci := 1) rfl w_731 (by first | assumption | rfl | (simp (disch := omega) only [q_upT_self, q_upT_ne, q_upR_self, q_upR_nea, q_upR_nk, s_T_lo, s_T_hi, s_R_ne, *]; done) | (simp (disch := omega) only [q_upT_self, q_upT_ne, q_upR_self, q_upR_nea, q_upR_nk, s_T_lo, s_T_hi, s_R_ne, *]; rfl)) rfl (Nat.le_of_ble_eq_true rfl) (by omega) (by omega) (c_Cells_writeNumber h2 (by omega) (by omega) _) ?_
    rintro _ rfl
    have hw1 : w_at (c + 2) p.sl [Int32.ofInt (a_whl p X)] I (k_wn I (c + 2) (p.sl * 7) (Int32.ofInt (a_whl p X))) := w_at.wn _ (by omega)
    refine q_iconst (v := nI 1) d_Carrier_join_57 (by decide) ?_
    refine q_zret d_Carrier_join_58 rfl (by first | exact Or.inl rfl | exact Or.inr rfl | assumption) (by omega) (by omega) ?_
    refine ⟨_, rfl, Or.inl ⟨rfl, ?_, _, rfl, hw1.xf, hX.1.set hw1, hX.2.cong (hw1.1 _ (by omega)) (hw1.1 _ (by omega)) (hw1.1 _ (by omega))⟩⟩
    show (X.2.2 || !decide (p.lo.toInt ≤ a_whl p X ∧ a_whl p X ≤ p.hi.toInt)) = X.2.2
    rw [decide_eq_true hin, Bool.not_true, Bool.or_false]
  · rw [decide_eq_false hin]
    refine q_if_ne (tgt := 44) d_Carrier_join_39 rfl (fun hc => ?_) (fun hc => ?_)
    · exact absurd rfl hc
    refine q_iconst (v := nI 0) d_Carrier_join_42 (by decide) ?_
    refine q_zret d_Carrier_join_43 rfl (by first | exact Or.inl rfl | exact Or.inr rfl | assumption) (by omega) (by omega) ?_
    refine ⟨_, rfl, Or.inr ⟨rfl, ?_, rfl⟩⟩
    show (X.2.2 || !decide (p.lo.toInt ≤ a_whl p X ∧ a_whl p X ≤ p.hi.toInt)) = true
    rw [decide_eq_false hin, Bool.not_false, Bool.or_true]
/-- numbers of SCALE and MAP -/
def p_ok (p : KP) : Prop := (p.kind = 6 → (nI 1 ≤ p.a ∧ p.a ≤ nI 1000) ∧ (nI 1 ≤ p.b ∧ p.b ≤ nI 1000)) ∧ (p.kind = 5 → 0 < p.a.toInt)
theorem c_Carrier_apply {fw : Bool} {s : Nat} {v : List Int32} (h : c_cr c r po p T I R) (hok : p_ok p) (h6k : 6 ≤ p.kind) (h8k : p.kind ≤ 8) (hs : s < 34) (hv : k_rw (I (c + 2)) (s * 7) v) (h1l : p.kind ≠ 8 → v.length = 1) : q_Cv g M_Carrier_apply [.ref c, .ref po, .int (nI s), .int (p_b fw)] (sz, T, I, R, J) 0 0 (fun h' => ∃ I' : q_I, h' = (sz, T, I', R, J) ∧ w_at (c + 2) s (a_ap p fw v) I I') := by
  have hn := h.ne
  have hh := h
  obtain ⟨h1, h2, h3, h4, h5, h6⟩ := h
  obtain ⟨t0, t1, t2, t3, t4, t5, t6, t7⟩ := r_T0 h3
  have hL := h1
  have tp := h4.1
  have r3 := (h3.1.2 3 _ _ _ rfl).1
  have r4 := (h3.1.2 4 _ _ _ rfl).1
  have r5 := (h3.1.2 5 _ _ _ rfl).1
  have hc1 := h2.1
  have psl := h4.2.2.1
  have pk := h4.2.1
  have same : a_ap p fw v = v → w_at (c + 2) s (a_ap p fw v) I I := fun e => ⟨fun _ _ => rfl, fun _ _ _ => rfl, by rw [e]; exact hv⟩
  have rd : p.kind ≠ 8 → I (c + 1 + 1) (nI (s * 7 + 1 + 0)) = v.headD 0 := fun z => k_hd hv (by rw [h1l z]; omega) 0
  refine q_C.of (ls0 := [some (.ref c), some (.ref po), some (.int (nI s)), some (.int (p_b fw)), none]) (by decide) rfl (by decide) (Nat.le_of_ble_eq_true rfl) rfl ?_
  refine q_aload_n d_Carrier_apply_0 rfl rfl ?_
  refine q_getI (ci := 4) (fk := 0) d_Carrier_apply_1 rfl (Nat.le_of_ble_eq_true rfl) w_491 (fun _ _ => rfl) (by first | assumption | rfl | (simp (disch := omega) only [q_upT_self, q_upT_ne, q_upR_self, q_upR_nea, q_upR_nk, s_T_lo, s_T_hi, s_R_ne, *]; done) | (simp (disch := omega) only [q_upT_self, q_upT_ne, q_upR_self, q_upR_nea, q_upR_nk, s_T_lo, s_T_hi, s_R_ne, *]; rfl)) ?_
  rw [pk]
  rcases (by omega : p.kind = 6 ∨ p.kind = 7 ∨ p.kind = 8) with hk | hk | hk
  · have e0 : a_ap p fw v = [if fw = true then z_scf p.a p.b (v.headD 0) else z_scb p.a p.b p.lo p.hi (v.headD 0)] := by unfold a_ap; rw [if_pos hk]
    obtain ⟨q1, q2⟩ := hok.1 hk
    have fin : ∀ (x : Int32) (l4 : Option Value) (mcc msc : Nat), mcc = 0 → msc = 0 → a_ap p fw v = [x] → q_V g M_Carrier_apply 0 0 mcc msc (sz, T, I, R, J) (fun o h' => o = .inl none ∧ ∃ I' : q_I, h' = (sz, T, I', R, J) ∧ w_at (c + 2) s (a_ap p fw v) I I') 44 [some (.ref c), some (.ref po), some (.int (nI s)), some (.int (p_b fw)), l4] [.int x, .int (nI s), .ref (c + 1)] := by
      intro x l4 mcc msc m1 m2 hx
      subst m1 m2
      refine q_callVv (M2 := M_Cells_writeNumber) d_Carrier_apply_44 ⟨(Nat.le_of_ble_eq_true rfl), (Nat.le_of_ble_eq_true rfl), w_732, w_7, ⟨by decide, by decide⟩, show _ = some 2 by decide +kernel⟩ w_947 w_730 (ci := 1) rfl w_731 (by first | assumption | rfl | (simp (disch := omega) only [q_upT_self, q_upT_ne, q_upR_self, q_upR_nea, q_upR_nk, s_T_lo, s_T_hi, s_R_ne, *]; done) | (simp (disch := omega) only [q_upT_self, q_upT_ne, q_upR_self, q_upR_nea, q_upR_nk, s_T_lo, s_T_hi, s_R_ne, *]; rfl)) rfl (Nat.le_of_ble_eq_true rfl) (by omega) (by omega) (c_Cells_writeNumber h2 (by omega) (by omega) x) ?_
      rintro _ rfl
      refine q_goto (tgt := 108) d_Carrier_apply_47 rfl ?_
      refine q_vret d_Carrier_apply_108 rfl (by omega) (by omega) ?_
      exact ⟨rfl, _, rfl, by rw [hx]; exact w_at.wn x (by omega)⟩
    rw [hk]
    refine q_bipush (v := nI 6) d_Carrier_apply_4 (by decide) ?_
    refine q_icmp_ne (tgt := 50) d_Carrier_apply_6 rfl (fun hc => ?_) (fun hc => ?_)
    · exact absurd rfl hc
    refine q_aload_n d_Carrier_apply_9 rfl rfl ?_
    refine q_getR (ci := 0) (fk := 0) d_Carrier_apply_10 rfl (Nat.le_of_ble_eq_true rfl) w_226 (fun _ _ => rfl) hL.1 (hL.2 0 _ _ _ rfl).1 ?_
    refine q_iload_n d_Carrier_apply_13 rfl rfl ?_
    refine q_iconst (v := nI 0) d_Carrier_apply_14 (by decide) ?_
    refine q_callVi (M2 := M_Cells_read) d_Carrier_apply_15 ⟨(Nat.le_of_ble_eq_true rfl), (Nat.le_of_ble_eq_true rfl), w_817, w_7, ⟨by decide, by decide⟩, show _ = some 2 by decide +kernel⟩ w_939 w_815 (ci := 1) rfl w_816 (by first | assumption | rfl | (simp (disch := omega) only [q_upT_self, q_upT_ne, q_upR_self, q_upR_nea, q_upR_nk, s_T_lo, s_T_hi, s_R_ne, *]; done) | (simp (disch := omega) only [q_upT_self, q_upT_ne, q_upR_self, q_upR_nea, q_upR_nk, s_T_lo, s_T_hi, s_R_ne, *]; rfl)) rfl (Nat.le_of_ble_eq_true rfl) (by omega) (by omega) (c_Cells_read (i := 0) h2 (by omega) (by omega)) ?_
    rintro _ _ ⟨rfl, rfl⟩
    rw [rd (by omega)]
    cases fw with
    | true =>
      refine q_istore d_Carrier_apply_18 (Nat.le_of_ble_eq_true rfl) (by first | exact q_ok0 | exact q_okI rfl | exact q_okR rfl | exact q_okN rfl) rfl ?_
      refine q_aload_n d_Carrier_apply_20 rfl rfl ?_
      refine q_getR (ci := 0) (fk := 0) d_Carrier_apply_21 rfl (Nat.le_of_ble_eq_true rfl) w_226 (fun _ _ => rfl) hL.1 (hL.2 0 _ _ _ rfl).1 ?_
      refine q_iload_n d_Carrier_apply_24 rfl rfl ?_
      refine q_iload_n d_Carrier_apply_25 rfl rfl ?_
      refine q_if_eq (tgt := 38) d_Carrier_apply_26 rfl (fun hc => ?_) (fun hc => ?_)
      · exact absurd hc (by decide)
      refine q_aload_n d_Carrier_apply_29 rfl rfl ?_
      refine q_iload d_Carrier_apply_30 rfl ?_
      refine q_callVi (M2 := M_Primitive_scaleForth) d_Carrier_apply_32 ⟨(Nat.le_of_ble_eq_true rfl), (Nat.le_of_ble_eq_true rfl), w_979, w_18, ⟨by decide, by decide⟩, show _ = some 1 by decide +kernel⟩ w_976 w_977 (ci := 4) rfl w_978 (by first | assumption | rfl | (simp (disch := omega) only [q_upT_self, q_upT_ne, q_upR_self, q_upR_nea, q_upR_nk, s_T_lo, s_T_hi, s_R_ne, *]; done) | (simp (disch := omega) only [q_upT_self, q_upT_ne, q_upR_self, q_upR_nea, q_upR_nk, s_T_lo, s_T_hi, s_R_ne, *]; rfl)) rfl (Nat.le_of_ble_eq_true rfl) (by omega) (by omega) (c_Primitive_scaleForth h4 hk q1 q2.1 _) ?_
      rintro _ _ ⟨rfl, rfl⟩
      refine q_goto (tgt := 44) d_Carrier_apply_35 rfl ?_
      exact fin _ _ _ _ rfl rfl e0
    | false =>
      refine q_istore d_Carrier_apply_18 (Nat.le_of_ble_eq_true rfl) (by first | exact q_ok0 | exact q_okI rfl | exact q_okR rfl | exact q_okN rfl) rfl ?_
      refine q_aload_n d_Carrier_apply_20 rfl rfl ?_
      refine q_getR (ci := 0) (fk := 0) d_Carrier_apply_21 rfl (Nat.le_of_ble_eq_true rfl) w_226 (fun _ _ => rfl) hL.1 (hL.2 0 _ _ _ rfl).1 ?_
      refine q_iload_n d_Carrier_apply_24 rfl rfl ?_
      refine q_iload_n d_Carrier_apply_25 rfl rfl ?_
      refine q_if_eq (tgt := 38) d_Carrier_apply_26 rfl (fun hc => ?_) (fun hc => ?_)
      rotate_left
      · exact absurd rfl hc
      refine q_aload_n d_Carrier_apply_38 rfl rfl ?_
      refine q_iload d_Carrier_apply_39 rfl ?_
      refine q_callVi (M2 := M_Primitive_scaleBack) d_Carrier_apply_41 ⟨(Nat.le_of_ble_eq_true rfl), (Nat.le_of_ble_eq_true rfl), w_984, w_18, ⟨by decide, by decide⟩, show _ = some 1 by decide +kernel⟩ w_981 w_982 (ci := 4) rfl w_983 (by first | assumption | rfl | (simp (disch := omega) only [q_upT_self, q_upT_ne, q_upR_self, q_upR_nea, q_upR_nk, s_T_lo, s_T_hi, s_R_ne, *]; done) | (simp (disch := omega) only [q_upT_self, q_upT_ne, q_upR_self, q_upR_nea, q_upR_nk, s_T_lo, s_T_hi, s_R_ne, *]; rfl)) rfl (Nat.le_of_ble_eq_true rfl) (by omega) (by omega) (c_Primitive_scaleBack h4 hk q2 q1.1 _) ?_
      rintro _ _ ⟨rfl, rfl⟩
      exact fin _ _ _ _ rfl rfl e0
  · rw [hk]
    refine q_bipush (v := nI 6) d_Carrier_apply_4 (by decide) ?_
    refine q_icmp_ne (tgt := 50) d_Carrier_apply_6 rfl (fun hc => ?_) (fun hc => ?_)
    rotate_left
    · exact absurd (show nI 7 = nI 6 by have := hc; exact this) (by decide)
    refine q_aload_n d_Carrier_apply_50 rfl rfl ?_
    refine q_getI (ci := 4) (fk := 0) d_Carrier_apply_51 rfl (Nat.le_of_ble_eq_true rfl) w_491 (fun _ _ => rfl) (by first | assumption | rfl | (simp (disch := omega) only [q_upT_self, q_upT_ne, q_upR_self, q_upR_nea, q_upR_nk, s_T_lo, s_T_hi, s_R_ne, *]; done) | (simp (disch := omega) only [q_upT_self, q_upT_ne, q_upR_self, q_upR_nea, q_upR_nk, s_T_lo, s_T_hi, s_R_ne, *]; rfl)) ?_
    rw [pk, hk]
    refine q_bipush (v := nI 7) d_Carrier_apply_54 (by decide) ?_
    refine q_icmp_ne (tgt := 87) d_Carrier_apply_56 rfl (fun hc => ?_) (fun hc => ?_)
    · exact absurd rfl hc
    cases fw with
    | true =>
      have e0 : a_ap p true v = [if v.headD 0 = p.a then p.b else v.headD 0] := by unfold a_ap; rw [if_neg (by omega), if_pos ⟨hk, rfl⟩]
      refine q_iload_n d_Carrier_apply_59 rfl rfl ?_
      refine q_if_eq (tgt := 87) d_Carrier_apply_60 rfl (fun hc => ?_) (fun hc => ?_)
      · exact absurd hc (by decide)
      refine q_aload_n d_Carrier_apply_63 rfl rfl ?_
      refine q_getR (ci := 0) (fk := 0) d_Carrier_apply_64 rfl (Nat.le_of_ble_eq_true rfl) w_226 (fun _ _ => rfl) hL.1 (hL.2 0 _ _ _ rfl).1 ?_
      refine q_iload_n d_Carrier_apply_67 rfl rfl ?_
      refine q_aload_n d_Carrier_apply_68 rfl rfl ?_
      refine q_aload_n d_Carrier_apply_69 rfl rfl ?_
      refine q_getR (ci := 0) (fk := 0) d_Carrier_apply_70 rfl (Nat.le_of_ble_eq_true rfl) w_226 (fun _ _ => rfl) hL.1 (hL.2 0 _ _ _ rfl).1 ?_
      refine q_iload_n d_Carrier_apply_73 rfl rfl ?_
      refine q_iconst (v := nI 0) d_Carrier_apply_74 (by decide) ?_
      refine q_callVi (M2 := M_Cells_read) d_Carrier_apply_75 ⟨(Nat.le_of_ble_eq_true rfl), (Nat.le_of_ble_eq_true rfl), w_817, w_7, ⟨by decide, by decide⟩, show _ = some 2 by decide +kernel⟩ w_939 w_815 (ci := 1) rfl w_816 (by first | assumption | rfl | (simp (disch := omega) only [q_upT_self, q_upT_ne, q_upR_self, q_upR_nea, q_upR_nk, s_T_lo, s_T_hi, s_R_ne, *]; done) | (simp (disch := omega) only [q_upT_self, q_upT_ne, q_upR_self, q_upR_nea, q_upR_nk, s_T_lo, s_T_hi, s_R_ne, *]; rfl)) rfl (Nat.le_of_ble_eq_true rfl) (by omega) (by omega) (c_Cells_read (i := 0) h2 (by omega) (by omega)) ?_
      rintro _ _ ⟨rfl, rfl⟩
      rw [rd (by omega)]
      refine q_callVi (M2 := M_Primitive_mapForth) d_Carrier_apply_78 ⟨(Nat.le_of_ble_eq_true rfl), (Nat.le_of_ble_eq_true rfl), w_994, w_18, ⟨by decide, by decide⟩, show _ = some 1 by decide +kernel⟩ w_991 w_992 (ci := 4) rfl w_993 (by first | assumption | rfl | (simp (disch := omega) only [q_upT_self, q_upT_ne, q_upR_self, q_upR_nea, q_upR_nk, s_T_lo, s_T_hi, s_R_ne, *]; done) | (simp (disch := omega) only [q_upT_self, q_upT_ne, q_upR_self, q_upR_nea, q_upR_nk, s_T_lo, s_T_hi, s_R_ne, *]; rfl)) rfl (Nat.le_of_ble_eq_true rfl) (by omega) (by omega) (c_Primitive_mapForth h4 hk _) ?_
      rintro _ _ ⟨rfl, rfl⟩
      refine q_callVv (M2 := M_Cells_writeNumber) d_Carrier_apply_81 ⟨(Nat.le_of_ble_eq_true rfl), (Nat.le_of_ble_eq_true rfl), w_732, w_7, ⟨by decide, by decide⟩, show _ = some 2 by decide +kernel⟩ w_947 w_730 (ci := 1) rfl w_731 (by first | assumption | rfl | (simp (disch := omega) only [q_upT_self, q_upT_ne, q_upR_self, q_upR_nea, q_upR_nk, s_T_lo, s_T_hi, s_R_ne, *]; done) | (simp (disch := omega) only [q_upT_self, q_upT_ne, q_upR_self, q_upR_nea, q_upR_nk, s_T_lo, s_T_hi, s_R_ne, *]; rfl)) rfl (Nat.le_of_ble_eq_true rfl) (by omega) (by omega) (c_Cells_writeNumber h2 (by omega) (by omega) _) ?_
      rintro _ rfl
      refine q_goto (tgt := 108) d_Carrier_apply_84 rfl ?_
      refine q_vret d_Carrier_apply_108 rfl (by omega) (by omega) ?_
      exact ⟨rfl, _, rfl, by rw [e0]; exact w_at.wn _ (by omega)⟩
    | false =>
      have e0 : a_ap p false v = v := by
        unfold a_ap
        rw [if_neg (by omega), if_neg (fun z => absurd z.2 (by decide)), if_neg (fun z => absurd z.2 (by decide))]
      refine q_iload_n d_Carrier_apply_59 rfl rfl ?_
      refine q_if_eq (tgt := 87) d_Carrier_apply_60 rfl (fun hc => ?_) (fun hc => ?_)
      rotate_left
      · exact absurd rfl hc
      refine q_aload_n d_Carrier_apply_87 rfl rfl ?_
      refine q_getI (ci := 4) (fk := 0) d_Carrier_apply_88 rfl (Nat.le_of_ble_eq_true rfl) w_491 (fun _ _ => rfl) (by first | assumption | rfl | (simp (disch := omega) only [q_upT_self, q_upT_ne, q_upR_self, q_upR_nea, q_upR_nk, s_T_lo, s_T_hi, s_R_ne, *]; done) | (simp (disch := omega) only [q_upT_self, q_upT_ne, q_upR_self, q_upR_nea, q_upR_nk, s_T_lo, s_T_hi, s_R_ne, *]; rfl)) ?_
      rw [pk, hk]
      refine q_bipush (v := nI 8) d_Carrier_apply_91 (by decide) ?_
      refine q_icmp_ne (tgt := 108) d_Carrier_apply_93 rfl (fun hc => ?_) (fun hc => ?_)
      rotate_left
      · exact absurd (show nI 7 = nI 8 by have := hc; exact this) (by decide)
      refine q_vret d_Carrier_apply_108 rfl (by omega) (by omega) ?_
      exact ⟨rfl, _, rfl, same e0⟩
  · rw [hk]
    refine q_bipush (v := nI 6) d_Carrier_apply_4 (by decide) ?_
    refine q_icmp_ne (tgt := 50) d_Carrier_apply_6 rfl (fun hc => ?_) (fun hc => ?_)
    rotate_left
    · exact absurd (show nI 8 = nI 6 by have := hc; exact this) (by decide)
    refine q_aload_n d_Carrier_apply_50 rfl rfl ?_
    refine q_getI (ci := 4) (fk := 0) d_Carrier_apply_51 rfl (Nat.le_of_ble_eq_true rfl) w_491 (fun _ _ => rfl) (by first | assumption | rfl | (simp (disch := omega) only [q_upT_self, q_upT_ne, q_upR_self, q_upR_nea, q_upR_nk, s_T_lo, s_T_hi, s_R_ne, *]; done) | (simp (disch := omega) only [q_upT_self, q_upT_ne, q_upR_self, q_upR_nea, q_upR_nk, s_T_lo, s_T_hi, s_R_ne, *]; rfl)) ?_
    rw [pk, hk]
    refine q_bipush (v := nI 7) d_Carrier_apply_54 (by decide) ?_
    refine q_icmp_ne (tgt := 87) d_Carrier_apply_56 rfl (fun hc => ?_) (fun hc => ?_)
    rotate_left
    · exact absurd (show nI 8 = nI 7 by have := hc; exact this) (by decide)
    refine q_aload_n d_Carrier_apply_87 rfl rfl ?_
    refine q_getI (ci := 4) (fk := 0) d_Carrier_apply_88 rfl (Nat.le_of_ble_eq_true rfl) w_491 (fun _ _ => rfl) (by first | assumption | rfl | (simp (disch := omega) only [q_upT_self, q_upT_ne, q_upR_self, q_upR_nea, q_upR_nk, s_T_lo, s_T_hi, s_R_ne, *]; done) | (simp (disch := omega) only [q_upT_self, q_upT_ne, q_upR_self, q_upR_nea, q_upR_nk, s_T_lo, s_T_hi, s_R_ne, *]; rfl)) ?_
    rw [pk, hk]
    refine q_bipush (v := nI 8) d_Carrier_apply_91 (by decide) ?_
    refine q_icmp_ne (tgt := 108) d_Carrier_apply_93 rfl (fun hc => ?_) (fun hc => ?_)
    · exact absurd rfl hc
    cases fw with
    | true =>
      have e0 : a_ap p true v = k_sort v := by
        unfold a_ap
        rw [if_neg (by omega), if_neg (fun z => by omega), if_pos ⟨hk, rfl⟩]
      refine q_iload_n d_Carrier_apply_96 rfl rfl ?_
      refine q_if_eq (tgt := 108) d_Carrier_apply_97 rfl (fun hc => ?_) (fun hc => ?_)
      · exact absurd hc (by decide)
      refine q_aload_n d_Carrier_apply_100 rfl rfl ?_
      refine q_getR (ci := 0) (fk := 0) d_Carrier_apply_101 rfl (Nat.le_of_ble_eq_true rfl) w_226 (fun _ _ => rfl) hL.1 (hL.2 0 _ _ _ rfl).1 ?_
      refine q_iload_n d_Carrier_apply_104 rfl rfl ?_
      refine q_callVv (M2 := M_Cells_arrange) d_Carrier_apply_105 ⟨(Nat.le_of_ble_eq_true rfl), (Nat.le_of_ble_eq_true rfl), w_998, w_7, ⟨by decide, by decide⟩, show _ = some 1 by decide +kernel⟩ w_995 w_996 (ci := 1) rfl w_997 (by first | assumption | rfl | (simp (disch := omega) only [q_upT_self, q_upT_ne, q_upR_self, q_upR_nea, q_upR_nk, s_T_lo, s_T_hi, s_R_ne, *]; done) | (simp (disch := omega) only [q_upT_self, q_upT_ne, q_upR_self, q_upR_nea, q_upR_nk, s_T_lo, s_T_hi, s_R_ne, *]; rfl)) rfl (Nat.le_of_ble_eq_true rfl) (by omega) (by omega) (c_Cells_arrange h2 (by omega) (by omega) hv) ?_
      rintro _ ⟨I1, rfl, i1, i2, i3⟩
      refine q_vret d_Carrier_apply_108 rfl (by omega) (by omega) ?_
      exact ⟨rfl, _, rfl, by rw [e0]; exact ⟨i1, i2, i3⟩⟩
    | false =>
      have e0 : a_ap p false v = v := by
        unfold a_ap
        rw [if_neg (by omega), if_neg (fun z => absurd z.2 (by decide)), if_neg (fun z => absurd z.2 (by decide))]
      refine q_iload_n d_Carrier_apply_96 rfl rfl ?_
      refine q_if_eq (tgt := 108) d_Carrier_apply_97 rfl (fun hc => ?_) (fun hc => ?_)
      rotate_left
      · exact absurd rfl hc
      refine q_vret d_Carrier_apply_108 rfl (by omega) (by omega) ?_
      exact ⟨rfl, _, rfl, same e0⟩
theorem a_ap_len {fw : Bool} {v : List Int32} (h : p.kind ≠ 8) (hv : v.length = 1) : (a_ap p fw v).length = 1 := by
  unfold a_ap
  split
  · rfl
  · split
    · rfl
    · split
      · rename_i z; exact absurd z.1 h
      · exact hv
set_option maxHeartbeats 1000000 in
theorem c_Carrier_change {k : Nat} {fw : Bool} (h : c_cr c r po p T I R) (hok : p_ok p) (h6k : 6 ≤ p.kind) (h8k : p.kind ≤ 8) (hX : c_xx c r P X I) (hP : P p.sl) (hk : k < 128) (h1l : p.kind ≠ 8 → (X.1 p.sl).length = 1) (hK : (X.2.1 k).1 = 0 ∨ (X.2.1 k).1 = 2 ∨ (X.2.1 k).1 = 3) : q_Cv g M_Carrier_change [.ref c, .ref po, .ref r, .int (nI k), .int (p_b fw)] (sz, T, I, R, J) 0 0 (c_xp c r sz T I R J P (t_chg fw p k X)) := by
  have hn := h.ne
  have hh := h
  obtain ⟨h1, h2, h3, h4, h5, h6⟩ := h
  obtain ⟨t0, t1, t2, t3, t4, t5, t6, t7⟩ := r_T0 h3
  have hL := h1
  have tp := h4.1
  have r3 := (h3.1.2 3 _ _ _ rfl).1
  have r4 := (h3.1.2 4 _ _ _ rfl).1
  have r5 := (h3.1.2 5 _ _ _ rfl).1
  have hc1 := h2.1
  have psl := h4.2.2.1
  obtain ⟨k1, k2, k3⟩ := hX.2 k hk
  have hV := hX.1 p.sl h5 hP
  obtain ⟨I0, hI0⟩ : ∃ I0, I0 = q_upI I (r + 3) (nI k) (nI 0) := ⟨_, rfl⟩
  have o0 : ∀ b, b ≠ r + 3 → I0 b = I b := fun b hb => by rw [hI0]; funext i; rw [q_upI_nea hb]
  have x0 : c_xf c r I I0 := fun b b1 b2 b3 b4 => o0 b b2
  have hh0 := hh.cong x0
  have ps0 : I0 po (nI 1) = nI p.sl := hh0.2.2.2.1.2.2.1
  have hs0 : c_sl c P X.1 I0 := hX.1.cong (o0 _ (by omega))
  have hk0 : c_kp r (k_ud X.2.1 k k_n0) I0 := hX.2.zero (by rw [hI0, q_upI_self]; rfl) (fun j _ hj => by rw [hI0, q_upI_nk (by omega)]) (o0 _ (by omega)) (o0 _ (by omega))
  have k20 : (X.2.1 k).1 ≠ 0 → k_rw (I0 (r + 5)) (k * 7) (X.2.1 k).2.1 := fun z => by rw [o0 _ (by omega)]; exact k2 z
  obtain ⟨cur, hcur⟩ : ∃ cur, cur = X.1 p.sl := ⟨_, rfl⟩
  obtain ⟨mk, hmk⟩ : ∃ mk, mk = a_ap p fw cur := ⟨_, rfl⟩
  have fin : ∀ (b : Bool) (l5 : Int32) (mcc msc : Nat), mcc = 0 → msc = 0 → (b = true ↔ (X.2.1 k).1 = (if fw = true then 3 else 2) ∧ X.1 p.sl = (X.2.1 k).2.2) → q_V g M_Carrier_change 0 0 mcc msc (sz, T, I, R, J) (fun o h' => o = .inl none ∧ c_xp c r sz T I R J P (t_chg fw p k X) h') 47 [some (.ref c), some (.ref po), some (.ref r), some (.int (nI k)), some (.int (p_b fw)), some (.int l5), none] [.int (p_b b)] := by
    intro b l5 mcc msc m1 m2 hb
    subst m1 m2
    cases b with
    | true =>
      have hb2 := hb.mp rfl
      refine q_istore d_Carrier_change_47 (Nat.le_of_ble_eq_true rfl) (by first | exact q_ok0 | exact q_okI rfl | exact q_okR rfl | exact q_okN rfl) rfl ?_
      refine q_aload_n d_Carrier_change_49 rfl rfl ?_
      refine q_getR (ci := 5) (fk := 3) d_Carrier_change_50 rfl (Nat.le_of_ble_eq_true rfl) w_200 (fun _ _ => rfl) (by first | assumption | rfl | (simp (disch := omega) only [q_upT_self, q_upT_ne, q_upR_self, q_upR_nea, q_upR_nk, s_T_lo, s_T_hi, s_R_ne, *]; done) | (simp (disch := omega) only [q_upT_self, q_upT_ne, q_upR_self, q_upR_nea, q_upR_nk, s_T_lo, s_T_hi, s_R_ne, *]; rfl)) (by first | assumption | rfl | (simp (disch := omega) only [q_upT_self, q_upT_ne, q_upR_self, q_upR_nea, q_upR_nk, s_T_lo, s_T_hi, s_R_ne, *]; done) | (simp (disch := omega) only [q_upT_self, q_upT_ne, q_upR_self, q_upR_nea, q_upR_nk, s_T_lo, s_T_hi, s_R_ne, *]; rfl)) ?_
      refine q_iload_n d_Carrier_change_53 rfl rfl ?_
      refine q_iconst (v := nI 0) d_Carrier_change_54 (by decide) ?_
      refine q_iast d_Carrier_change_55 (by first | assumption | rfl | (simp (disch := omega) only [q_upT_self, q_upT_ne, q_upR_self, q_upR_nea, q_upR_nk, s_T_lo, s_T_hi, s_R_ne, *]; done) | (simp (disch := omega) only [q_upT_self, q_upT_ne, q_upR_self, q_upR_nea, q_upR_nk, s_T_lo, s_T_hi, s_R_ne, *]; rfl)) (by first | assumption | exact vp_in_nI (by omega) (by omega)) ?_
      rw [← hI0]
      refine q_iload d_Carrier_change_56 rfl ?_
      refine q_if_eq (tgt := 78) d_Carrier_change_58 rfl (fun hc => ?_) (fun hc => ?_)
      · exact absurd hc (by decide)
      have hk9 : (X.2.1 k).1 ≠ 0 := by rw [hb2.1]; cases fw <;> decide
      refine q_aload_n d_Carrier_change_61 rfl rfl ?_
      refine q_getR (ci := 0) (fk := 0) d_Carrier_change_62 rfl (Nat.le_of_ble_eq_true rfl) w_226 (fun _ _ => rfl) hL.1 (hL.2 0 _ _ _ rfl).1 ?_
      refine q_aload_n d_Carrier_change_65 rfl rfl ?_
      refine q_getI (ci := 4) (fk := 1) d_Carrier_change_66 rfl (Nat.le_of_ble_eq_true rfl) w_495 (fun _ _ => rfl) (by first | assumption | rfl | (simp (disch := omega) only [q_upT_self, q_upT_ne, q_upR_self, q_upR_nea, q_upR_nk, s_T_lo, s_T_hi, s_R_ne, *]; done) | (simp (disch := omega) only [q_upT_self, q_upT_ne, q_upR_self, q_upR_nea, q_upR_nk, s_T_lo, s_T_hi, s_R_ne, *]; rfl)) ?_
      rw [ps0]
      refine q_aload_n d_Carrier_change_69 rfl rfl ?_
      refine q_getR (ci := 5) (fk := 4) d_Carrier_change_70 rfl (Nat.le_of_ble_eq_true rfl) w_202 (fun _ _ => rfl) (by first | assumption | rfl | (simp (disch := omega) only [q_upT_self, q_upT_ne, q_upR_self, q_upR_nea, q_upR_nk, s_T_lo, s_T_hi, s_R_ne, *]; done) | (simp (disch := omega) only [q_upT_self, q_upT_ne, q_upR_self, q_upR_nea, q_upR_nk, s_T_lo, s_T_hi, s_R_ne, *]; rfl)) (by first | assumption | rfl | (simp (disch := omega) only [q_upT_self, q_upT_ne, q_upR_self, q_upR_nea, q_upR_nk, s_T_lo, s_T_hi, s_R_ne, *]; done) | (simp (disch := omega) only [q_upT_self, q_upT_ne, q_upR_self, q_upR_nea, q_upR_nk, s_T_lo, s_T_hi, s_R_ne, *]; rfl)) ?_
      refine q_iload_n d_Carrier_change_73 rfl rfl ?_
      refine q_callVv (M2 := M_Cells_take) d_Carrier_change_74 ⟨(Nat.le_of_ble_eq_true rfl), (Nat.le_of_ble_eq_true rfl), w_920, w_7, ⟨by decide, by decide⟩, show _ = some 3 by decide +kernel⟩ w_917 w_918 (ci := 1) rfl w_919 (by first | assumption | rfl | (simp (disch := omega) only [q_upT_self, q_upT_ne, q_upR_self, q_upR_nea, q_upR_nk, s_T_lo, s_T_hi, s_R_ne, *]; done) | (simp (disch := omega) only [q_upT_self, q_upT_ne, q_upR_self, q_upR_nea, q_upR_nk, s_T_lo, s_T_hi, s_R_ne, *]; rfl)) rfl (Nat.le_of_ble_eq_true rfl) (by omega) (by omega) (c_Cells_take (N := 238) (N2 := 896) h2 h3.2.2.1 (by omega) (by omega) (by omega) (by omega)) ?_
      rintro _ rfl
      have hw1 : w_at (c + 2) p.sl (X.2.1 k).2.1 I0 (k_acp I0 (r + 5) (k * 7) (c + 2) (p.sl * 7) 7) := w_at.tk (k20 hk9) (by omega)
      refine q_vret d_Carrier_change_77 rfl (by omega) (by omega) ?_
      refine ⟨rfl, _, rfl, x0.trans hw1.xf, ?_⟩
      unfold t_chg
      rw [if_pos hb2]
      exact ⟨hs0.set hw1, hk0.cong (hw1.1 _ (by omega)) (hw1.1 _ (by omega)) (hw1.1 _ (by omega))⟩
    | false =>
      have hb2 : ¬ ((X.2.1 k).1 = (if fw = true then 3 else 2) ∧ X.1 p.sl = (X.2.1 k).2.2) := fun z => absurd (hb.mpr z) (by decide)
      refine q_istore d_Carrier_change_47 (Nat.le_of_ble_eq_true rfl) (by first | exact q_ok0 | exact q_okI rfl | exact q_okR rfl | exact q_okN rfl) rfl ?_
      refine q_aload_n d_Carrier_change_49 rfl rfl ?_
      refine q_getR (ci := 5) (fk := 3) d_Carrier_change_50 rfl (Nat.le_of_ble_eq_true rfl) w_200 (fun _ _ => rfl) (by first | assumption | rfl | (simp (disch := omega) only [q_upT_self, q_upT_ne, q_upR_self, q_upR_nea, q_upR_nk, s_T_lo, s_T_hi, s_R_ne, *]; done) | (simp (disch := omega) only [q_upT_self, q_upT_ne, q_upR_self, q_upR_nea, q_upR_nk, s_T_lo, s_T_hi, s_R_ne, *]; rfl)) (by first | assumption | rfl | (simp (disch := omega) only [q_upT_self, q_upT_ne, q_upR_self, q_upR_nea, q_upR_nk, s_T_lo, s_T_hi, s_R_ne, *]; done) | (simp (disch := omega) only [q_upT_self, q_upT_ne, q_upR_self, q_upR_nea, q_upR_nk, s_T_lo, s_T_hi, s_R_ne, *]; rfl)) ?_
      refine q_iload_n d_Carrier_change_53 rfl rfl ?_
      refine q_iconst (v := nI 0) d_Carrier_change_54 (by decide) ?_
      refine q_iast d_Carrier_change_55 (by first | assumption | rfl | (simp (disch := omega) only [q_upT_self, q_upT_ne, q_upR_self, q_upR_nea, q_upR_nk, s_T_lo, s_T_hi, s_R_ne, *]; done) | (simp (disch := omega) only [q_upT_self, q_upT_ne, q_upR_self, q_upR_nea, q_upR_nk, s_T_lo, s_T_hi, s_R_ne, *]; rfl)) (by first | assumption | exact vp_in_nI (by omega) (by omega)) ?_
      rw [← hI0]
      refine q_iload d_Carrier_change_56 rfl ?_
      refine q_if_eq (tgt := 78) d_Carrier_change_58 rfl (fun hc => ?_) (fun hc => ?_)
      rotate_left
      · exact absurd rfl hc
      refine q_aload_n d_Carrier_change_78 rfl rfl ?_
      refine q_getR (ci := 0) (fk := 0) d_Carrier_change_79 rfl (Nat.le_of_ble_eq_true rfl) w_226 (fun _ _ => rfl) hL.1 (hL.2 0 _ _ _ rfl).1 ?_
      refine q_bipush (v := nI 32) d_Carrier_change_82 (by decide) ?_
      refine q_aload_n d_Carrier_change_84 rfl rfl ?_
      refine q_getR (ci := 0) (fk := 0) d_Carrier_change_85 rfl (Nat.le_of_ble_eq_true rfl) w_226 (fun _ _ => rfl) hL.1 (hL.2 0 _ _ _ rfl).1 ?_
      refine q_aload_n d_Carrier_change_88 rfl rfl ?_
      refine q_getI (ci := 4) (fk := 1) d_Carrier_change_89 rfl (Nat.le_of_ble_eq_true rfl) w_495 (fun _ _ => rfl) (by first | assumption | rfl | (simp (disch := omega) only [q_upT_self, q_upT_ne, q_upR_self, q_upR_nea, q_upR_nk, s_T_lo, s_T_hi, s_R_ne, *]; done) | (simp (disch := omega) only [q_upT_self, q_upT_ne, q_upR_self, q_upR_nea, q_upR_nk, s_T_lo, s_T_hi, s_R_ne, *]; rfl)) ?_
      rw [ps0]
      refine q_callVv (M2 := M_Cells_take) d_Carrier_change_92 ⟨(Nat.le_of_ble_eq_true rfl), (Nat.le_of_ble_eq_true rfl), w_920, w_7, ⟨by decide, by decide⟩, show _ = some 3 by decide +kernel⟩ w_917 w_918 (ci := 1) rfl w_919 (by first | assumption | rfl | (simp (disch := omega) only [q_upT_self, q_upT_ne, q_upR_self, q_upR_nea, q_upR_nk, s_T_lo, s_T_hi, s_R_ne, *]; done) | (simp (disch := omega) only [q_upT_self, q_upT_ne, q_upR_self, q_upR_nea, q_upR_nk, s_T_lo, s_T_hi, s_R_ne, *]; rfl)) rfl (Nat.le_of_ble_eq_true rfl) (by omega) (by omega) (c_Cells_take (k := 32) (N := 238) (N2 := 238) h2 h2 (by omega) (by omega) (by omega) (by omega)) ?_
      rintro _ rfl
      obtain ⟨I1, hI1⟩ : ∃ I1, I1 = k_acp I0 (c + 2) (p.sl * 7) (c + 2) (32 * 7) 7 := ⟨_, rfl⟩
      have hw1 : w_at (c + 2) 32 cur I0 I1 := by rw [hI1, hcur]; exact w_at.tk (hs0 p.sl h5 hP) (by omega)
      rw [show k_acp I0 (c + 1 + 1) (p.sl * 7) (c + 1 + 1) (32 * 7) 7 = I1 from hI1.symm]
      have x1 := x0.trans (hw1.xf (r := r))
      have hh1 := hh.cong x1
      have ps1 : I1 po (nI 1) = nI p.sl := hh1.2.2.2.1.2.2.1
      have v1 : k_rw (I1 (c + 2)) (p.sl * 7) cur := by rw [hcur]; exact hw1.keep (by omega) (by omega) (hs0 p.sl h5 hP)
      refine q_aload_n d_Carrier_change_95 rfl rfl ?_
      refine q_aload_n d_Carrier_change_96 rfl rfl ?_
      refine q_aload_n d_Carrier_change_97 rfl rfl ?_
      refine q_getI (ci := 4) (fk := 1) d_Carrier_change_98 rfl (Nat.le_of_ble_eq_true rfl) w_495 (fun _ _ => rfl) (by first | assumption | rfl | (simp (disch := omega) only [q_upT_self, q_upT_ne, q_upR_self, q_upR_nea, q_upR_nk, s_T_lo, s_T_hi, s_R_ne, *]; done) | (simp (disch := omega) only [q_upT_self, q_upT_ne, q_upR_self, q_upR_nea, q_upR_nk, s_T_lo, s_T_hi, s_R_ne, *]; rfl)) ?_
      rw [ps1]
      refine q_iload d_Carrier_change_101 rfl ?_
      refine q_callVv (M2 := M_Carrier_apply) d_Carrier_change_103 ⟨(Nat.le_of_ble_eq_true rfl), (Nat.le_of_ble_eq_true rfl), w_975, w_8, ⟨by decide, by decide⟩, show _ = some 3 by decide +kernel⟩ w_972 w_974 (ci := 0) rfl s_35 hL.1 rfl (Nat.le_of_ble_eq_true rfl) (by omega) (by omega) (c_Carrier_apply hh1 hok h6k h8k (by omega) v1 (fun z => by rw [hcur]; exact h1l z)) ?_
      rintro _ ⟨I2, rfl, hw2⟩
      rw [← hmk] at hw2
      have x2 := x1.trans (hw2.xf (r := r))
      have hh2 := hh.cong x2
      have ps2 : I2 po (nI 1) = nI p.sl := hh2.2.2.2.1.2.2.1
      refine q_aload_n d_Carrier_change_106 rfl rfl ?_
      refine q_getR (ci := 0) (fk := 0) d_Carrier_change_107 rfl (Nat.le_of_ble_eq_true rfl) w_226 (fun _ _ => rfl) hL.1 (hL.2 0 _ _ _ rfl).1 ?_
      refine q_bipush (v := nI 33) d_Carrier_change_110 (by decide) ?_
      refine q_aload_n d_Carrier_change_112 rfl rfl ?_
      refine q_getR (ci := 0) (fk := 0) d_Carrier_change_113 rfl (Nat.le_of_ble_eq_true rfl) w_226 (fun _ _ => rfl) hL.1 (hL.2 0 _ _ _ rfl).1 ?_
      refine q_aload_n d_Carrier_change_116 rfl rfl ?_
      refine q_getI (ci := 4) (fk := 1) d_Carrier_change_117 rfl (Nat.le_of_ble_eq_true rfl) w_495 (fun _ _ => rfl) (by first | assumption | rfl | (simp (disch := omega) only [q_upT_self, q_upT_ne, q_upR_self, q_upR_nea, q_upR_nk, s_T_lo, s_T_hi, s_R_ne, *]; done) | (simp (disch := omega) only [q_upT_self, q_upT_ne, q_upR_self, q_upR_nea, q_upR_nk, s_T_lo, s_T_hi, s_R_ne, *]; rfl)) ?_
      rw [ps2]
      refine q_callVv (M2 := M_Cells_take) d_Carrier_change_120 ⟨(Nat.le_of_ble_eq_true rfl), (Nat.le_of_ble_eq_true rfl), w_920, w_7, ⟨by decide, by decide⟩, show _ = some 3 by decide +kernel⟩ w_917 w_918 (ci := 1) rfl w_919 (by first | assumption | rfl | (simp (disch := omega) only [q_upT_self, q_upT_ne, q_upR_self, q_upR_nea, q_upR_nk, s_T_lo, s_T_hi, s_R_ne, *]; done) | (simp (disch := omega) only [q_upT_self, q_upT_ne, q_upR_self, q_upR_nea, q_upR_nk, s_T_lo, s_T_hi, s_R_ne, *]; rfl)) rfl (Nat.le_of_ble_eq_true rfl) (by omega) (by omega) (c_Cells_take (k := 33) (N := 238) (N2 := 238) h2 h2 (by omega) (by omega) (by omega) (by omega)) ?_
      rintro _ rfl
      obtain ⟨I3, hI3⟩ : ∃ I3, I3 = k_acp I2 (c + 2) (p.sl * 7) (c + 2) (33 * 7) 7 := ⟨_, rfl⟩
      have hw3 : w_at (c + 2) 33 mk I2 I3 := by rw [hI3]; exact w_at.tk hw2.2.2 (by omega)
      rw [show k_acp I2 (c + 1 + 1) (p.sl * 7) (c + 1 + 1) (33 * 7) 7 = I3 from hI3.symm]
      have x3 := x2.trans (hw3.xf (r := r))
      have hh3 := hh.cong x3
      have after : ∀ mcc msc : Nat, mcc = 0 → msc = 0 → q_V g M_Carrier_change 0 0 mcc msc (sz, T, I3, R, J) (fun o h' => o = .inl none ∧ c_xp c r sz T I R J P (t_chg fw p k X) h') 137 [some (.ref c), some (.ref po), some (.ref r), some (.int (nI k)), some (.int (p_b fw)), some (.int l5), some (.int (p_b false))] [.int (p_b (!fw)), .int (nI 33), .ref po, .ref c] := by
        intro mcc msc m1 m2
        subst m1 m2
        refine q_callVv (M2 := M_Carrier_apply) d_Carrier_change_137 ⟨(Nat.le_of_ble_eq_true rfl), (Nat.le_of_ble_eq_true rfl), w_975, w_8, ⟨by decide, by decide⟩, show _ = some 3 by decide +kernel⟩ w_972 w_974 (ci := 0) rfl s_35 hL.1 rfl (Nat.le_of_ble_eq_true rfl) (by omega) (by omega) (c_Carrier_apply (fw := !fw) (s := 33) hh3 hok h6k h8k (by omega) hw3.2.2 (fun z => by rw [hmk]; exact a_ap_len z (by rw [hcur]; exact h1l z))) ?_
        rintro _ ⟨I4, rfl, hw4⟩
        have x4 := x3.trans (hw4.xf (r := r))
        have hh4 := hh.cong x4
        have ps4 : I4 po (nI 1) = nI p.sl := hh4.2.2.2.1.2.2.1
        have cu4 : k_rw (I4 (c + 2)) (32 * 7) cur := hw4.keep (by omega) (by omega) (hw3.keep (by omega) (by omega) (hw2.keep (by omega) (by omega) hw1.2.2))
        have mk4 : k_rw (I4 (c + 2)) (p.sl * 7) mk := hw4.keep (by omega) (by omega) (hw3.keep (by omega) (by omega) hw2.2.2)
        have hs4 : c_sl c P (k_ud X.1 p.sl mk) I4 := fun s hs hPs => by
          by_cases hsp : s = p.sl
          · rw [hsp, k_ud_self]; exact mk4
          · rw [k_ud_ne hsp]
            exact hw4.keep (by omega) (by omega) (hw3.keep (by omega) (by omega) (hw2.keep hsp (by omega) (hw1.keep (by omega) (by omega) (hs0 s hs hPs))))
        have e4 : ∀ b, b ≠ c + 2 → I4 b = I0 b := fun b hb => by rw [hw4.1 b hb, hw3.1 b hb, hw2.1 b hb, hw1.1 b hb]
        refine q_aload_n d_Carrier_change_140 rfl rfl ?_
        refine q_getR (ci := 0) (fk := 0) d_Carrier_change_141 rfl (Nat.le_of_ble_eq_true rfl) w_226 (fun _ _ => rfl) hL.1 (hL.2 0 _ _ _ rfl).1 ?_
        refine q_bipush (v := nI 33) d_Carrier_change_144 (by decide) ?_
        refine q_aload_n d_Carrier_change_146 rfl rfl ?_
        refine q_getR (ci := 0) (fk := 0) d_Carrier_change_147 rfl (Nat.le_of_ble_eq_true rfl) w_226 (fun _ _ => rfl) hL.1 (hL.2 0 _ _ _ rfl).1 ?_
        refine q_bipush (v := nI 32) d_Carrier_change_150 (by decide) ?_
        refine q_callVi (M2 := M_Cells_matches) d_Carrier_change_152 ⟨(Nat.le_of_ble_eq_true rfl), (Nat.le_of_ble_eq_true rfl), w_864, w_7, ⟨by decide, by decide⟩, show _ = some 3 by decide +kernel⟩ w_930 w_862 (ci := 1) rfl w_863 (by first | assumption | rfl | (simp (disch := omega) only [q_upT_self, q_upT_ne, q_upR_self, q_upR_nea, q_upR_nk, s_T_lo, s_T_hi, s_R_ne, *]; done) | (simp (disch := omega) only [q_upT_self, q_upT_ne, q_upR_self, q_upR_nea, q_upR_nk, s_T_lo, s_T_hi, s_R_ne, *]; rfl)) rfl (Nat.le_of_ble_eq_true rfl) (by omega) (by omega) (c_Cells_matches (k := 33) (k2 := 32) h2 h2 (by omega) (by omega) (by omega) (by omega) hw4.2.2 cu4) ?_
        rintro _ _ ⟨rfl, rfl⟩
        by_cases hag : a_ap p (!fw) mk = cur
        · rw [decide_eq_true hag]
          refine q_if_ne (tgt := 204) d_Carrier_change_155 rfl (fun hc => ?_) (fun hc => ?_)
          rotate_left
          · exact absurd hc (by decide)
          refine q_vret d_Carrier_change_204 rfl (by omega) (by omega) ?_
          refine ⟨rfl, I4, rfl, x4, ?_⟩
          unfold t_chg
          rw [if_neg hb2, ← hcur, ← hmk, if_pos hag]
          exact ⟨hs4, hk0.cong (e4 _ (by omega)) (e4 _ (by omega)) (e4 _ (by omega))⟩
        · rw [decide_eq_false hag]
          refine q_if_ne (tgt := 204) d_Carrier_change_155 rfl (fun hc => ?_) (fun hc => ?_)
          · exact absurd rfl hc
          have keep : ∀ (q : Nat) (mcc msc : Nat), mcc = 0 → msc = 0 → nI q = k_cc (if fw = true then 2 else 3) → q_V g M_Carrier_change 0 0 mcc msc (sz, T, I4, R, J) (fun o h' => o = .inl none ∧ c_xp c r sz T I R J P (t_chg fw p k X) h') 173 [some (.ref c), some (.ref po), some (.ref r), some (.int (nI k)), some (.int (p_b fw)), some (.int l5), some (.int (p_b false))] [.int (nI q), .int (nI k), .ref (r + 3)] := by
            intro q mcc msc m1 m2 hq
            subst m1 m2
            refine q_iast d_Carrier_change_173 (by first | assumption | rfl | (simp (disch := omega) only [q_upT_self, q_upT_ne, q_upR_self, q_upR_nea, q_upR_nk, s_T_lo, s_T_hi, s_R_ne, *]; done) | (simp (disch := omega) only [q_upT_self, q_upT_ne, q_upR_self, q_upR_nea, q_upR_nk, s_T_lo, s_T_hi, s_R_ne, *]; rfl)) (by first | assumption | exact vp_in_nI (by omega) (by omega)) ?_
            obtain ⟨I5, hI5⟩ : ∃ I5, I5 = q_upI I4 (r + 3) (nI k) (nI q) := ⟨_, rfl⟩
            have o5 : ∀ b, b ≠ r + 3 → I5 b = I4 b := fun b hb => by rw [hI5]; funext i; rw [q_upI_nea hb]
            rw [← hI5]
            refine q_aload_n d_Carrier_change_174 rfl rfl ?_
            refine q_getR (ci := 5) (fk := 4) d_Carrier_change_175 rfl (Nat.le_of_ble_eq_true rfl) w_202 (fun _ _ => rfl) (by first | assumption | rfl | (simp (disch := omega) only [q_upT_self, q_upT_ne, q_upR_self, q_upR_nea, q_upR_nk, s_T_lo, s_T_hi, s_R_ne, *]; done) | (simp (disch := omega) only [q_upT_self, q_upT_ne, q_upR_self, q_upR_nea, q_upR_nk, s_T_lo, s_T_hi, s_R_ne, *]; rfl)) (by first | assumption | rfl | (simp (disch := omega) only [q_upT_self, q_upT_ne, q_upR_self, q_upR_nea, q_upR_nk, s_T_lo, s_T_hi, s_R_ne, *]; done) | (simp (disch := omega) only [q_upT_self, q_upT_ne, q_upR_self, q_upR_nea, q_upR_nk, s_T_lo, s_T_hi, s_R_ne, *]; rfl)) ?_
            refine q_iload_n d_Carrier_change_178 rfl rfl ?_
            refine q_aload_n d_Carrier_change_179 rfl rfl ?_
            refine q_getR (ci := 0) (fk := 0) d_Carrier_change_180 rfl (Nat.le_of_ble_eq_true rfl) w_226 (fun _ _ => rfl) hL.1 (hL.2 0 _ _ _ rfl).1 ?_
            refine q_bipush (v := nI 32) d_Carrier_change_183 (by decide) ?_
            refine q_callVv (M2 := M_Cells_take) d_Carrier_change_185 ⟨(Nat.le_of_ble_eq_true rfl), (Nat.le_of_ble_eq_true rfl), w_920, w_7, ⟨by decide, by decide⟩, show _ = some 3 by decide +kernel⟩ w_917 w_918 (ci := 1) rfl w_919 (by first | assumption | rfl | (simp (disch := omega) only [q_upT_self, q_upT_ne, q_upR_self, q_upR_nea, q_upR_nk, s_T_lo, s_T_hi, s_R_ne, *]; done) | (simp (disch := omega) only [q_upT_self, q_upT_ne, q_upR_self, q_upR_nea, q_upR_nk, s_T_lo, s_T_hi, s_R_ne, *]; rfl)) rfl (Nat.le_of_ble_eq_true rfl) (by omega) (by omega) (c_Cells_take (k2 := 32) (N := 896) (N2 := 238) h3.2.2.1 h2 (by omega) (by omega) (by omega) (by omega)) ?_
            rintro _ rfl
            obtain ⟨I6, hI6⟩ : ∃ I6, I6 = k_acp I5 (c + 2) (32 * 7) (r + 5) (k * 7) 7 := ⟨_, rfl⟩
            have hw6 : w_at (r + 5) k cur I5 I6 := by rw [hI6]; exact w_at.tk (by rw [o5 (c + 2) (by omega)]; exact cu4) (by omega)
            rw [show k_acp I5 (c + 1 + 1) (32 * 7) (r + 4 + 1) (k * 7) 7 = I6 from hI6.symm]
            have ps6 : I6 po (nI 1) = nI p.sl := by rw [hw6.1 po (by omega), o5 po (by omega)]; exact ps4
            refine q_aload_n d_Carrier_change_188 rfl rfl ?_
            refine q_getR (ci := 5) (fk := 5) d_Carrier_change_189 rfl (Nat.le_of_ble_eq_true rfl) w_204 (fun _ _ => rfl) (by first | assumption | rfl | (simp (disch := omega) only [q_upT_self, q_upT_ne, q_upR_self, q_upR_nea, q_upR_nk, s_T_lo, s_T_hi, s_R_ne, *]; done) | (simp (disch := omega) only [q_upT_self, q_upT_ne, q_upR_self, q_upR_nea, q_upR_nk, s_T_lo, s_T_hi, s_R_ne, *]; rfl)) (by first | assumption | rfl | (simp (disch := omega) only [q_upT_self, q_upT_ne, q_upR_self, q_upR_nea, q_upR_nk, s_T_lo, s_T_hi, s_R_ne, *]; done) | (simp (disch := omega) only [q_upT_self, q_upT_ne, q_upR_self, q_upR_nea, q_upR_nk, s_T_lo, s_T_hi, s_R_ne, *]; rfl)) ?_
            refine q_iload_n d_Carrier_change_192 rfl rfl ?_
            refine q_aload_n d_Carrier_change_193 rfl rfl ?_
            refine q_getR (ci := 0) (fk := 0) d_Carrier_change_194 rfl (Nat.le_of_ble_eq_true rfl) w_226 (fun _ _ => rfl) hL.1 (hL.2 0 _ _ _ rfl).1 ?_
            refine q_aload_n d_Carrier_change_197 rfl rfl ?_
            refine q_getI (ci := 4) (fk := 1) d_Carrier_change_198 rfl (Nat.le_of_ble_eq_true rfl) w_495 (fun _ _ => rfl) (by first | assumption | rfl | (simp (disch := omega) only [q_upT_self, q_upT_ne, q_upR_self, q_upR_nea, q_upR_nk, s_T_lo, s_T_hi, s_R_ne, *]; done) | (simp (disch := omega) only [q_upT_self, q_upT_ne, q_upR_self, q_upR_nea, q_upR_nk, s_T_lo, s_T_hi, s_R_ne, *]; rfl)) ?_
            rw [ps6]
            refine q_callVv (M2 := M_Cells_take) d_Carrier_change_201 ⟨(Nat.le_of_ble_eq_true rfl), (Nat.le_of_ble_eq_true rfl), w_920, w_7, ⟨by decide, by decide⟩, show _ = some 3 by decide +kernel⟩ w_917 w_918 (ci := 1) rfl w_919 (by first | assumption | rfl | (simp (disch := omega) only [q_upT_self, q_upT_ne, q_upR_self, q_upR_nea, q_upR_nk, s_T_lo, s_T_hi, s_R_ne, *]; done) | (simp (disch := omega) only [q_upT_self, q_upT_ne, q_upR_self, q_upR_nea, q_upR_nk, s_T_lo, s_T_hi, s_R_ne, *]; rfl)) rfl (Nat.le_of_ble_eq_true rfl) (by omega) (by omega) (c_Cells_take (N := 896) (N2 := 238) h3.2.2.2 h2 (by omega) (by omega) (by omega) (by omega)) ?_
            rintro _ rfl
            have hw7 : w_at (r + 7) k mk I6 (k_acp I6 (c + 2) (p.sl * 7) (r + 7) (k * 7) 7) := w_at.tk (by rw [hw6.1 (c + 2) (by omega), o5 (c + 2) (by omega)]; exact mk4) (by omega)
            obtain ⟨I7, hI7⟩ : ∃ I7, I7 = k_acp I6 (c + 2) (p.sl * 7) (r + 7) (k * 7) 7 := ⟨_, rfl⟩
            rw [← hI7] at hw7
            rw [show k_acp I6 (c + 1 + 1) (p.sl * 7) (r + 6 + 1) (k * 7) 7 = I7 from hI7.symm]
            refine q_vret d_Carrier_change_204 rfl (by omega) (by omega) ?_
            refine ⟨rfl, I7, rfl, fun b b1 b2 b3 b4 => ?_, ?_⟩
            · rw [hw7.1 b b4, hw6.1 b b3, o5 b b2]; exact x4 b b1 b2 b3 b4
            · unfold t_chg
              rw [if_neg hb2, ← hcur, ← hmk, if_neg hag]
              refine ⟨hs4.cong (by rw [hw7.1 _ (by omega), hw6.1 _ (by omega), o5 _ (by omega)]), ?_⟩
              have hz : ∀ j, j < 128 → j ≠ k → I7 (r + 3) (nI j) = I (r + 3) (nI j) := fun j hj hjk => by
                rw [hw7.1 _ (by omega), hw6.1 _ (by omega), hI5, q_upI_nk (by omega), e4 _ (by omega), hI0, q_upI_nk (by omega)]
              refine hX.2.put ⟨?_, fun _ => ?_, fun _ => hw7.2.2⟩ hz (fun j hj hj2 => ?_) (fun j hj hj2 => ?_)
              · rw [hw7.1 _ (by omega), hw6.1 _ (by omega), hI5, q_upI_self]; exact hq
              · rw [hw7.1 _ (by omega)]; exact hw6.2.2
              · rw [hw7.1 _ (by omega), hw6.2.1 j hj hj2, o5 _ (by omega), e4 _ (by omega), o0 _ (by omega)]
              · rw [hw7.2.1 j hj hj2, hw6.1 _ (by omega), o5 _ (by omega), e4 _ (by omega), o0 _ (by omega)]
          cases fw with
          | true =>
            refine q_aload_n d_Carrier_change_158 rfl rfl ?_
            refine q_getR (ci := 5) (fk := 3) d_Carrier_change_159 rfl (Nat.le_of_ble_eq_true rfl) w_200 (fun _ _ => rfl) (by first | assumption | rfl | (simp (disch := omega) only [q_upT_self, q_upT_ne, q_upR_self, q_upR_nea, q_upR_nk, s_T_lo, s_T_hi, s_R_ne, *]; done) | (simp (disch := omega) only [q_upT_self, q_upT_ne, q_upR_self, q_upR_nea, q_upR_nk, s_T_lo, s_T_hi, s_R_ne, *]; rfl)) (by first | assumption | rfl | (simp (disch := omega) only [q_upT_self, q_upT_ne, q_upR_self, q_upR_nea, q_upR_nk, s_T_lo, s_T_hi, s_R_ne, *]; done) | (simp (disch := omega) only [q_upT_self, q_upT_ne, q_upR_self, q_upR_nea, q_upR_nk, s_T_lo, s_T_hi, s_R_ne, *]; rfl)) ?_
            refine q_iload_n d_Carrier_change_162 rfl rfl ?_
            refine q_iload d_Carrier_change_163 rfl ?_
            refine q_if_eq (tgt := 172) d_Carrier_change_165 rfl (fun hc => ?_) (fun hc => ?_)
            · exact absurd hc (by decide)
            refine q_iconst (v := nI 1) d_Carrier_change_168 (by decide) ?_
            refine q_goto (tgt := 173) d_Carrier_change_169 rfl ?_
            exact keep 1 _ _ rfl rfl rfl
          | false =>
            refine q_aload_n d_Carrier_change_158 rfl rfl ?_
            refine q_getR (ci := 5) (fk := 3) d_Carrier_change_159 rfl (Nat.le_of_ble_eq_true rfl) w_200 (fun _ _ => rfl) (by first | assumption | rfl | (simp (disch := omega) only [q_upT_self, q_upT_ne, q_upR_self, q_upR_nea, q_upR_nk, s_T_lo, s_T_hi, s_R_ne, *]; done) | (simp (disch := omega) only [q_upT_self, q_upT_ne, q_upR_self, q_upR_nea, q_upR_nk, s_T_lo, s_T_hi, s_R_ne, *]; rfl)) (by first | assumption | rfl | (simp (disch := omega) only [q_upT_self, q_upT_ne, q_upR_self, q_upR_nea, q_upR_nk, s_T_lo, s_T_hi, s_R_ne, *]; done) | (simp (disch := omega) only [q_upT_self, q_upT_ne, q_upR_self, q_upR_nea, q_upR_nk, s_T_lo, s_T_hi, s_R_ne, *]; rfl)) ?_
            refine q_iload_n d_Carrier_change_162 rfl rfl ?_
            refine q_iload d_Carrier_change_163 rfl ?_
            refine q_if_eq (tgt := 172) d_Carrier_change_165 rfl (fun hc => ?_) (fun hc => ?_)
            rotate_left
            · exact absurd rfl hc
            refine q_iconst (v := nI 2) d_Carrier_change_172 (by decide) ?_
            exact keep 2 _ _ rfl rfl rfl
      cases fw with
      | true =>
        refine q_aload_n d_Carrier_change_123 rfl rfl ?_
        refine q_aload_n d_Carrier_change_124 rfl rfl ?_
        refine q_bipush (v := nI 33) d_Carrier_change_125 (by decide) ?_
        refine q_iload d_Carrier_change_127 rfl ?_
        refine q_if_ne (tgt := 136) d_Carrier_change_129 rfl (fun hc => ?_) (fun hc => ?_)
        rotate_left
        · exact absurd hc (by decide)
        refine q_iconst (v := nI 0) d_Carrier_change_136 (by decide) ?_
        exact after _ _ rfl rfl
      | false =>
        refine q_aload_n d_Carrier_change_123 rfl rfl ?_
        refine q_aload_n d_Carrier_change_124 rfl rfl ?_
        refine q_bipush (v := nI 33) d_Carrier_change_125 (by decide) ?_
        refine q_iload d_Carrier_change_127 rfl ?_
        refine q_if_ne (tgt := 136) d_Carrier_change_129 rfl (fun hc => ?_) (fun hc => ?_)
        · exact absurd rfl hc
        refine q_iconst (v := nI 1) d_Carrier_change_132 (by decide) ?_
        refine q_goto (tgt := 137) d_Carrier_change_133 rfl ?_
        exact after _ _ rfl rfl
  have cmp : ∀ (q : Nat) (mcc msc : Nat), mcc = 0 → msc = 0 → q < 3 → (k_cc (X.2.1 k).1 = nI q ↔ (X.2.1 k).1 = (if fw = true then 3 else 2)) → q_V g M_Carrier_change 0 0 mcc msc (sz, T, I, R, J) (fun o h' => o = .inl none ∧ c_xp c r sz T I R J P (t_chg fw p k X) h') 10 [some (.ref c), some (.ref po), some (.ref r), some (.int (nI k)), some (.int (p_b fw)), none, none] [.int (nI q)] := by
    intro q mcc msc m1 m2 hq hqq
    subst m1 m2
    refine q_istore d_Carrier_change_10 (Nat.le_of_ble_eq_true rfl) (by first | exact q_ok0 | exact q_okI rfl | exact q_okR rfl | exact q_okN rfl) rfl ?_
    refine q_aload_n d_Carrier_change_12 rfl rfl ?_
    refine q_getR (ci := 5) (fk := 3) d_Carrier_change_13 rfl (Nat.le_of_ble_eq_true rfl) w_200 (fun _ _ => rfl) (by first | assumption | rfl | (simp (disch := omega) only [q_upT_self, q_upT_ne, q_upR_self, q_upR_nea, q_upR_nk, s_T_lo, s_T_hi, s_R_ne, *]; done) | (simp (disch := omega) only [q_upT_self, q_upT_ne, q_upR_self, q_upR_nea, q_upR_nk, s_T_lo, s_T_hi, s_R_ne, *]; rfl)) (by first | assumption | rfl | (simp (disch := omega) only [q_upT_self, q_upT_ne, q_upR_self, q_upR_nea, q_upR_nk, s_T_lo, s_T_hi, s_R_ne, *]; done) | (simp (disch := omega) only [q_upT_self, q_upT_ne, q_upR_self, q_upR_nea, q_upR_nk, s_T_lo, s_T_hi, s_R_ne, *]; rfl)) ?_
    refine q_iload_n d_Carrier_change_16 rfl rfl ?_
    refine q_iald d_Carrier_change_17 (by first | assumption | rfl | (simp (disch := omega) only [q_upT_self, q_upT_ne, q_upR_self, q_upR_nea, q_upR_nk, s_T_lo, s_T_hi, s_R_ne, *]; done) | (simp (disch := omega) only [q_upT_self, q_upT_ne, q_upR_self, q_upR_nea, q_upR_nk, s_T_lo, s_T_hi, s_R_ne, *]; rfl)) (by first | assumption | exact vp_in_nI (by omega) (by omega)) ?_
    rw [k1]
    refine q_iload d_Carrier_change_18 rfl ?_
    refine q_icmp_ne (tgt := 46) d_Carrier_change_20 rfl (fun hc => ?_) (fun hc => ?_)
    · refine q_iconst (v := nI 0) d_Carrier_change_46 (by decide) ?_
      exact fin false _ _ _ rfl rfl ⟨fun z => absurd z (by decide), fun z => absurd (hqq.mpr z.1) hc⟩
    have hkq := hqq.mp (by have := hc; simpa using this)
    have h2k : 2 ≤ (X.2.1 k).1 := by rw [hkq]; cases fw <;> decide
    refine q_aload_n d_Carrier_change_23 rfl rfl ?_
    refine q_getR (ci := 0) (fk := 0) d_Carrier_change_24 rfl (Nat.le_of_ble_eq_true rfl) w_226 (fun _ _ => rfl) hL.1 (hL.2 0 _ _ _ rfl).1 ?_
    refine q_aload_n d_Carrier_change_27 rfl rfl ?_
    refine q_getI (ci := 4) (fk := 1) d_Carrier_change_28 rfl (Nat.le_of_ble_eq_true rfl) w_495 (fun _ _ => rfl) (by first | assumption | rfl | (simp (disch := omega) only [q_upT_self, q_upT_ne, q_upR_self, q_upR_nea, q_upR_nk, s_T_lo, s_T_hi, s_R_ne, *]; done) | (simp (disch := omega) only [q_upT_self, q_upT_ne, q_upR_self, q_upR_nea, q_upR_nk, s_T_lo, s_T_hi, s_R_ne, *]; rfl)) ?_
    rw [psl]
    refine q_aload_n d_Carrier_change_31 rfl rfl ?_
    refine q_getR (ci := 5) (fk := 5) d_Carrier_change_32 rfl (Nat.le_of_ble_eq_true rfl) w_204 (fun _ _ => rfl) (by first | assumption | rfl | (simp (disch := omega) only [q_upT_self, q_upT_ne, q_upR_self, q_upR_nea, q_upR_nk, s_T_lo, s_T_hi, s_R_ne, *]; done) | (simp (disch := omega) only [q_upT_self, q_upT_ne, q_upR_self, q_upR_nea, q_upR_nk, s_T_lo, s_T_hi, s_R_ne, *]; rfl)) (by first | assumption | rfl | (simp (disch := omega) only [q_upT_self, q_upT_ne, q_upR_self, q_upR_nea, q_upR_nk, s_T_lo, s_T_hi, s_R_ne, *]; done) | (simp (disch := omega) only [q_upT_self, q_upT_ne, q_upR_self, q_upR_nea, q_upR_nk, s_T_lo, s_T_hi, s_R_ne, *]; rfl)) ?_
    refine q_iload_n d_Carrier_change_35 rfl rfl ?_
    refine q_callVi (M2 := M_Cells_matches) d_Carrier_change_36 ⟨(Nat.le_of_ble_eq_true rfl), (Nat.le_of_ble_eq_true rfl), w_864, w_7, ⟨by decide, by decide⟩, show _ = some 3 by decide +kernel⟩ w_930 w_862 (ci := 1) rfl w_863 (by first | assumption | rfl | (simp (disch := omega) only [q_upT_self, q_upT_ne, q_upR_self, q_upR_nea, q_upR_nk, s_T_lo, s_T_hi, s_R_ne, *]; done) | (simp (disch := omega) only [q_upT_self, q_upT_ne, q_upR_self, q_upR_nea, q_upR_nk, s_T_lo, s_T_hi, s_R_ne, *]; rfl)) rfl (Nat.le_of_ble_eq_true rfl) (by omega) (by omega) (c_Cells_matches (N := 238) (N2 := 896) h2 h3.2.2.2 (by omega) (by omega) (by omega) (by omega) hV (k3 h2k)) ?_
    rintro _ _ ⟨rfl, rfl⟩
    by_cases hm : X.1 p.sl = (X.2.1 k).2.2
    · rw [decide_eq_true hm]
      refine q_if_eq (tgt := 46) d_Carrier_change_39 rfl (fun hc => ?_) (fun hc => ?_)
      · exact absurd hc (by decide)
      refine q_iconst (v := nI 1) d_Carrier_change_42 (by decide) ?_
      refine q_goto (tgt := 47) d_Carrier_change_43 rfl ?_
      exact fin true _ _ _ rfl rfl ⟨fun _ => ⟨hkq, hm⟩, fun _ => rfl⟩
    · rw [decide_eq_false hm]
      refine q_if_eq (tgt := 46) d_Carrier_change_39 rfl (fun hc => ?_) (fun hc => ?_)
      rotate_left
      · exact absurd rfl hc
      refine q_iconst (v := nI 0) d_Carrier_change_46 (by decide) ?_
      exact fin false _ _ _ rfl rfl ⟨fun z => absurd z (by decide), fun z => absurd z.2 hm⟩
  refine q_C.of (ls0 := [some (.ref c), some (.ref po), some (.ref r), some (.int (nI k)), some (.int (p_b fw)), none, none]) (by decide) rfl (by decide) (Nat.le_of_ble_eq_true rfl) rfl ?_
  cases fw with
  | true =>
    refine q_iload d_Carrier_change_0 rfl ?_
    refine q_if_eq (tgt := 9) d_Carrier_change_2 rfl (fun hc => ?_) (fun hc => ?_)
    · exact absurd hc (by decide)
    refine q_iconst (v := nI 2) d_Carrier_change_5 (by decide) ?_
    refine q_goto (tgt := 10) d_Carrier_change_6 rfl ?_
    refine cmp 2 _ _ rfl rfl (by omega) ?_
    rcases hK with z | z | z <;> rw [z] <;> decide
  | false =>
    refine q_iload d_Carrier_change_0 rfl ?_
    refine q_if_eq (tgt := 9) d_Carrier_change_2 rfl (fun hc => ?_) (fun hc => ?_)
    rotate_left
    · exact absurd rfl hc
    refine q_iconst (v := nI 1) d_Carrier_change_9 (by decide) ?_
    refine cmp 1 _ _ rfl rfl (by omega) ?_
    rcases hK with z | z | z <;> rw [z] <;> decide
end Carr2
