/-! clash: what the class's primitives make of terms -/
section TPass
variable {g : q_G} {sz te po : Nat} {T : q_T} {I : q_I} {R : q_R} {J : q_J} {tb : List KT} {p : KP} {t u : KT} {D : List KF} {Z : KZ}
theorem o_tb.k (h : o_tb te tb I) (ht : t ∈ tb) : I (te + 4) (nI (tb.idxOf t)) = nI (z_k t) := (h.at ht).1
theorem o_tb.x (h : o_tb te tb I) (ht : t ∈ tb) (hk : z_k t ≤ 2) : I (te + 5) (nI (tb.idxOf t)) = z_x t := by rw [(h.at ht).2.1]; unfold z_e1; rw [if_pos hk]
theorem o_tb.c1 (h : o_tb te tb I) (ht : t ∈ tb) (hk : 3 ≤ z_k t) : z_c1 t ∈ tb ∧ I (te + 5) (nI (tb.idxOf t)) = nI (tb.idxOf (z_c1 t)) := ⟨(h.2.1.2 t ht).2.1 hk, by rw [(h.at ht).2.1]; unfold z_e1; rw [if_neg (by omega)]⟩
theorem o_tb.c2 (h : o_tb te tb I) (ht : t ∈ tb) (hk : z_k t = 7) : z_c2 t ∈ tb ∧ I (te + 6) (nI (tb.idxOf t)) = nI (tb.idxOf (z_c2 t)) := ⟨(h.2.1.2 t ht).2.2 hk, by rw [(h.at ht).2.2.1]; unfold z_e2; rw [if_pos hk]⟩
theorem o_tb.ke (h : o_tb te tb I) (ht : t ∈ tb) {n : Nat} (hn : n ≤ 11) : nI (z_k t) = nI n ↔ z_k t = n := nI_eq (by have := (h.2.1.2 t ht).1.1; omega) (by omega)
theorem c_Terms_defaultTerm (hL : q_L 8 t_Terms te T R) (h : o_tb te tb I) (hlen : tb.length < 152) (hp : k_prm po p T I) (h2 : p.so ≠ 2) : q_Ci g M_Terms_defaultTerm [.ref te, .ref po] (sz, T, I, R, J) 0 0 (o_rt te tb (z_dft p) 1 sz T I R J) := by
  have tp := hp.1
  refine q_C.of (ls0 := [some (.ref te), some (.ref po)]) (by decide) rfl (by decide) (Nat.le_of_ble_eq_true rfl) rfl ?_
  refine q_aload_n d_Terms_defaultTerm_0 rfl rfl ?_
  refine q_getI (ci := 4) (fk := 2) d_Terms_defaultTerm_1 rfl (Nat.le_of_ble_eq_true rfl) w_498 (fun _ _ => rfl) (by first | assumption | rfl | (simp (disch := omega) only [q_upT_self, q_upT_ne, q_upR_self, q_upR_nea, q_upR_nk, s_T_lo, s_T_hi, s_R_ne, *]; done) | (simp (disch := omega) only [q_upT_self, q_upT_ne, q_upR_self, q_upR_nea, q_upR_nk, s_T_lo, s_T_hi, s_R_ne, *]; rfl)) ?_
  rw [hp.2.2.2.1]
  refine q_iconst (v := nI 2) d_Terms_defaultTerm_4 (by decide) ?_
  refine q_icmp_ne (tgt := 10) d_Terms_defaultTerm_5 rfl (fun hc => ?_) (fun hc => ?_)
  rotate_left
  · exact absurd hc h2
  refine q_aload_n d_Terms_defaultTerm_10 rfl rfl ?_
  refine q_getI (ci := 4) (fk := 2) d_Terms_defaultTerm_11 rfl (Nat.le_of_ble_eq_true rfl) w_498 (fun _ _ => rfl) (by first | assumption | rfl | (simp (disch := omega) only [q_upT_self, q_upT_ne, q_upR_self, q_upR_nea, q_upR_nk, s_T_lo, s_T_hi, s_R_ne, *]; done) | (simp (disch := omega) only [q_upT_self, q_upT_ne, q_upR_self, q_upR_nea, q_upR_nk, s_T_lo, s_T_hi, s_R_ne, *]; rfl)) ?_
  rw [hp.2.2.2.1]
  refine q_iconst (v := nI 1) d_Terms_defaultTerm_14 (by decide) ?_
  refine q_icmp_ne (tgt := 27) d_Terms_defaultTerm_15 rfl (fun hc => ?_) (fun hc => ?_)
  · have hcx : ¬ p.so = 1 := hc
    have ed : z_dft p = z_lf 1 (p_near p.lo p.hi) := by unfold z_dft; rw [if_neg hcx]
    rw [ed]
    refine q_aload_n d_Terms_defaultTerm_27 rfl rfl ?_
    refine q_iconst (v := nI 1) d_Terms_defaultTerm_28 (by decide) ?_
    refine q_aload_n d_Terms_defaultTerm_29 rfl rfl ?_
    refine q_callVi (M2 := M_Primitive_defaultNumber) d_Terms_defaultTerm_30 ⟨(Nat.le_of_ble_eq_true rfl), (Nat.le_of_ble_eq_true rfl), w_945, w_18, ⟨by decide, by decide⟩, show _ = some 0 by decide +kernel⟩ w_1064 w_943 (ci := 4) rfl w_944 (by first | assumption | rfl | (simp (disch := omega) only [q_upT_self, q_upT_ne, q_upR_self, q_upR_nea, q_upR_nk, s_T_lo, s_T_hi, s_R_ne, *]; done) | (simp (disch := omega) only [q_upT_self, q_upT_ne, q_upR_self, q_upR_nea, q_upR_nk, s_T_lo, s_T_hi, s_R_ne, *]; rfl)) rfl (Nat.le_of_ble_eq_true rfl) (by omega) (by omega) (c_Primitive_defaultNumber hp) ?_
    rintro _ _ ⟨rfl, rfl⟩
    refine q_callVi (M2 := M_Terms_simple) d_Terms_defaultTerm_33 ⟨(Nat.le_of_ble_eq_true rfl), (Nat.le_of_ble_eq_true rfl), w_1047, w_9, ⟨by decide, by decide⟩, show _ = some 2 by decide +kernel⟩ w_1044 w_1046 (ci := 8) rfl s_37 hL.1 rfl (Nat.le_of_ble_eq_true rfl) (by omega) (by omega) (c_simple_lf hL h hlen (by omega) _) ?_
    rintro r h' hr
    refine q_iret d_Terms_defaultTerm_36 rfl (by omega) (by omega) ?_
    exact ⟨_, rfl, hr⟩
  · have hcx : p.so = 1 := hc
    have ed : z_dft p = z_lf 2 0 := by unfold z_dft; rw [if_pos hcx]
    rw [ed]
    refine q_aload_n d_Terms_defaultTerm_18 rfl rfl ?_
    refine q_iconst (v := nI 2) d_Terms_defaultTerm_19 (by decide) ?_
    refine q_iconst (v := nI 0) d_Terms_defaultTerm_20 (by decide) ?_
    refine q_callVi (M2 := M_Terms_simple) d_Terms_defaultTerm_21 ⟨(Nat.le_of_ble_eq_true rfl), (Nat.le_of_ble_eq_true rfl), w_1047, w_9, ⟨by decide, by decide⟩, show _ = some 2 by decide +kernel⟩ w_1044 w_1046 (ci := 8) rfl s_37 hL.1 rfl (Nat.le_of_ble_eq_true rfl) (by omega) (by omega) (c_simple_lf hL h hlen (by omega) _) ?_
    rintro r h' hr
    refine q_goto (tgt := 36) d_Terms_defaultTerm_24 rfl ?_
    refine q_iret d_Terms_defaultTerm_36 rfl (by omega) (by omega) ?_
    exact ⟨_, rfl, hr⟩
theorem c_Terms_defaultTerm_no (hL : q_L 8 t_Terms te T R) (hp : k_prm po p T I) (h2 : p.so = 2) : q_Ci g M_Terms_defaultTerm [.ref te, .ref po] (sz, T, I, R, J) 0 0 (fun r h' => r = -1 ∧ h' = (sz, T, I, R, J)) := by
  have tp := hp.1
  refine q_C.of (ls0 := [some (.ref te), some (.ref po)]) (by decide) rfl (by decide) (Nat.le_of_ble_eq_true rfl) rfl ?_
  refine q_aload_n d_Terms_defaultTerm_0 rfl rfl ?_
  refine q_getI (ci := 4) (fk := 2) d_Terms_defaultTerm_1 rfl (Nat.le_of_ble_eq_true rfl) w_498 (fun _ _ => rfl) (by first | assumption | rfl | (simp (disch := omega) only [q_upT_self, q_upT_ne, q_upR_self, q_upR_nea, q_upR_nk, s_T_lo, s_T_hi, s_R_ne, *]; done) | (simp (disch := omega) only [q_upT_self, q_upT_ne, q_upR_self, q_upR_nea, q_upR_nk, s_T_lo, s_T_hi, s_R_ne, *]; rfl)) ?_
  rw [hp.2.2.2.1, h2]
  refine q_iconst (v := nI 2) d_Terms_defaultTerm_4 (by decide) ?_
  refine q_icmp_ne (tgt := 10) d_Terms_defaultTerm_5 rfl (fun hc => ?_) (fun hc => ?_)
  · exact absurd rfl hc
  refine q_iconst (v := (-1)) d_Terms_defaultTerm_8 (by decide) ?_
  refine q_iret d_Terms_defaultTerm_9 rfl (by omega) (by omega) ?_
  exact ⟨_, rfl, rfl, rfl⟩
theorem c_Terms_unwrap (hL : q_L 8 t_Terms te T R) (h : o_tb te tb I) (hlen : tb.length < 152) (hp : k_prm po p T I) (ht : t ∈ tb) : q_Ci g M_Terms_unwrap [.ref te, .ref po, .int (nI (tb.idxOf t))] (sz, T, I, R, J) 0 0 (o_rt te tb (z_unw p t) 1 sz T I R J) := by
  have tp := hp.1
  have hix := z_ix_lt ht
  have hk := h.k ht
  refine q_C.of (ls0 := [some (.ref te), some (.ref po), some (.int (nI (tb.idxOf t)))]) (by decide) rfl (by decide) (Nat.le_of_ble_eq_true rfl) rfl ?_
  refine q_aload_n d_Terms_unwrap_0 rfl rfl ?_
  refine q_getR (ci := 8) (fk := 3) d_Terms_unwrap_1 rfl (Nat.le_of_ble_eq_true rfl) w_241 (fun _ _ => rfl) hL.1 (hL.2 3 _ _ _ rfl).1 ?_
  refine q_iload_n d_Terms_unwrap_4 rfl rfl ?_
  refine q_iald d_Terms_unwrap_5 (hL.2 3 _ _ _ rfl).2 (by first | assumption | exact vp_in_nI (by omega) (by omega)) ?_
  rw [hk]
  refine q_iconst (v := nI 3) d_Terms_unwrap_6 (by decide) ?_
  refine q_icmp_ne (tgt := 17) d_Terms_unwrap_7 rfl (fun hc => ?_) (fun hc => ?_)
  · have h3 : ¬ z_k t = 3 := fun z => hc (by rw [z])
    refine q_aload_n d_Terms_unwrap_17 rfl rfl ?_
    refine q_getR (ci := 8) (fk := 3) d_Terms_unwrap_18 rfl (Nat.le_of_ble_eq_true rfl) w_241 (fun _ _ => rfl) hL.1 (hL.2 3 _ _ _ rfl).1 ?_
    refine q_iload_n d_Terms_unwrap_21 rfl rfl ?_
    refine q_iald d_Terms_unwrap_22 (hL.2 3 _ _ _ rfl).2 (by first | assumption | exact vp_in_nI (by omega) (by omega)) ?_
    rw [hk]
    refine q_iconst (v := nI 2) d_Terms_unwrap_23 (by decide) ?_
    refine q_icmp_ne (tgt := 39) d_Terms_unwrap_24 rfl (fun hc => ?_) (fun hc => ?_)
    · have h2 : ¬ z_k t = 2 := fun z => hc (by rw [z])
      rw [show z_unw p t = z_u1 4 t 0 0 0 0 by unfold z_unw; rw [if_neg h3, if_neg h2]]
      refine q_aload_n d_Terms_unwrap_39 rfl rfl ?_
      refine q_iconst (v := nI 4) d_Terms_unwrap_40 (by decide) ?_
      refine q_iload_n d_Terms_unwrap_41 rfl rfl ?_
      refine q_callVi (M2 := M_Terms_simple) d_Terms_unwrap_42 ⟨(Nat.le_of_ble_eq_true rfl), (Nat.le_of_ble_eq_true rfl), w_1047, w_9, ⟨by decide, by decide⟩, show _ = some 2 by decide +kernel⟩ w_1044 w_1046 (ci := 8) rfl s_37 hL.1 rfl (Nat.le_of_ble_eq_true rfl) (by omega) (by omega) (c_simple_u1 hL h hlen (by omega) (by omega) (by omega) ht) ?_
      rintro r h' hr
      refine q_iret d_Terms_unwrap_45 rfl (by omega) (by omega) ?_
      exact ⟨_, rfl, hr⟩
    · have h2 : z_k t = 2 := (h.ke ht (by omega)).mp hc
      rw [show z_unw p t = z_lf 1 (p_near p.lo p.hi) by unfold z_unw; rw [if_neg h3, if_pos h2]]
      refine q_aload_n d_Terms_unwrap_27 rfl rfl ?_
      refine q_iconst (v := nI 1) d_Terms_unwrap_28 (by decide) ?_
      refine q_aload_n d_Terms_unwrap_29 rfl rfl ?_
      refine q_callVi (M2 := M_Primitive_defaultNumber) d_Terms_unwrap_30 ⟨(Nat.le_of_ble_eq_true rfl), (Nat.le_of_ble_eq_true rfl), w_945, w_18, ⟨by decide, by decide⟩, show _ = some 0 by decide +kernel⟩ w_1064 w_943 (ci := 4) rfl w_944 (by first | assumption | rfl | (simp (disch := omega) only [q_upT_self, q_upT_ne, q_upR_self, q_upR_nea, q_upR_nk, s_T_lo, s_T_hi, s_R_ne, *]; done) | (simp (disch := omega) only [q_upT_self, q_upT_ne, q_upR_self, q_upR_nea, q_upR_nk, s_T_lo, s_T_hi, s_R_ne, *]; rfl)) rfl (Nat.le_of_ble_eq_true rfl) (by omega) (by omega) (c_Primitive_defaultNumber hp) ?_
      rintro _ _ ⟨rfl, rfl⟩
      refine q_callVi (M2 := M_Terms_simple) d_Terms_unwrap_33 ⟨(Nat.le_of_ble_eq_true rfl), (Nat.le_of_ble_eq_true rfl), w_1047, w_9, ⟨by decide, by decide⟩, show _ = some 2 by decide +kernel⟩ w_1044 w_1046 (ci := 8) rfl s_37 hL.1 rfl (Nat.le_of_ble_eq_true rfl) (by omega) (by omega) (c_simple_lf hL h hlen (by omega) _) ?_
      rintro r h' hr
      refine q_goto (tgt := 45) d_Terms_unwrap_36 rfl ?_
      refine q_iret d_Terms_unwrap_45 rfl (by omega) (by omega) ?_
      exact ⟨_, rfl, hr⟩
  · have h3 : z_k t = 3 := (h.ke ht (by omega)).mp hc
    obtain ⟨c1, c2⟩ := h.c1 ht (by omega)
    rw [show z_unw p t = z_c1 t by unfold z_unw; rw [if_pos h3]]
    refine q_aload_n d_Terms_unwrap_10 rfl rfl ?_
    refine q_getR (ci := 8) (fk := 4) d_Terms_unwrap_11 rfl (Nat.le_of_ble_eq_true rfl) w_242 (fun _ _ => rfl) hL.1 (hL.2 4 _ _ _ rfl).1 ?_
    refine q_iload_n d_Terms_unwrap_14 rfl rfl ?_
    refine q_iald d_Terms_unwrap_15 (hL.2 4 _ _ _ rfl).2 (by first | assumption | exact vp_in_nI (by omega) (by omega)) ?_
    rw [c2]
    refine q_iret d_Terms_unwrap_16 rfl (by omega) (by omega) ?_
    exact ⟨_, rfl, o_rt.old h c1⟩
theorem c_Terms_join (hL : q_L 8 t_Terms te T R) (h : o_tb te tb I) (hlen : tb.length < 152) (hp : k_prm po p T I) (h5 : p.kind = 5) (ht : t ∈ tb) (hu : u ∈ tb) : q_Ci g M_Terms_join [.ref te, .ref po, .int (nI (tb.idxOf t)), .int (nI (tb.idxOf u))] (sz, T, I, R, J) 0 0 (o_rt te tb (z_jn p t u) 1 sz T I R J) := by
  have tp := hp.1
  have hix := z_ix_lt ht
  have hiu := z_ix_lt hu
  have hk := h.k ht
  have hku := h.k hu
  have pa := hp.2.2.2.2.2.2.1 (by omega) (by omega)
  have at1 := (h.at ht).2.2.2.1
  have au1 := (h.at hu).2.2.2.1
  have nn : ¬ (z_k t = 1 ∧ z_k u = 1) → ∀ (mcc msc : Nat), mcc = 0 → msc = 0 → q_V g M_Terms_join 0 0 mcc msc (sz, T, I, R, J) (fun o h' => ∃ r : Int32, o = .inl (some (.int r)) ∧ o_rt te tb (z_jn p t u) 1 sz T I R J r h') 44 [some (.ref te), some (.ref po), some (.int (nI (tb.idxOf t))), some (.int (nI (tb.idxOf u))), none] [] := by
    intro hno mcc msc m1 m2
    subst m1 m2
    have no : ¬ (z_k t = 5 ∧ z_k u = 6 ∧ (z_c1 t == z_c1 u) = true ∧ z_a t = p.a ∧ z_a u = p.a) → ∀ (mcc msc : Nat), mcc = 0 → msc = 0 → q_V g M_Terms_join 0 0 mcc msc (sz, T, I, R, J) (fun o h' => ∃ r : Int32, o = .inl (some (.int r)) ∧ o_rt te tb (z_jn p t u) 1 sz T I R J r h') 110 [some (.ref te), some (.ref po), some (.int (nI (tb.idxOf t))), some (.int (nI (tb.idxOf u))), none] [] := by
      intro hn2 mcc msc m1 m2
      subst m1 m2
      have hin := c_Terms_intern (g := g) (sz := sz) (J := J) hL h hlen (z_ok_u2 t u p.a) (z_cl_u2 ht hu p.a)
      rw [show z_e1 tb (z_u2 t u p.a) = nI (tb.idxOf t) by unfold z_e1; rw [if_neg (show ¬ z_k (z_u2 t u p.a) ≤ 2 from (by show ¬ 7 ≤ 2; omega)), z_c1_u2], show z_e2 tb (z_u2 t u p.a) = nI (tb.idxOf u) by unfold z_e2; rw [if_pos (show z_k (z_u2 t u p.a) = 7 from rfl), z_c2_u2]] at hin
      rw [show z_jn p t u = z_u2 t u p.a by unfold z_jn; rw [if_neg hno, if_neg hn2]]
      refine q_iconst (v := nI 0) d_Terms_join_110 (by decide) ?_
      refine q_istore d_Terms_join_111 (Nat.le_of_ble_eq_true rfl) (by first | exact q_ok0 | exact q_okI rfl | exact q_okR rfl | exact q_okN rfl) rfl ?_
      refine q_iload d_Terms_join_113 rfl ?_
      refine q_if_eq (tgt := 127) d_Terms_join_115 rfl (fun hc => ?_) (fun hc => ?_)
      rotate_left
      · exact absurd rfl hc
      refine q_aload_n d_Terms_join_127 rfl rfl ?_
      refine q_bipush (v := nI 7) d_Terms_join_128 (by decide) ?_
      refine q_iload_n d_Terms_join_130 rfl rfl ?_
      refine q_iload_n d_Terms_join_131 rfl rfl ?_
      refine q_aload_n d_Terms_join_132 rfl rfl ?_
      refine q_getI (ci := 4) (fk := 5) d_Terms_join_133 rfl (Nat.le_of_ble_eq_true rfl) w_506 (fun _ _ => rfl) (by first | assumption | rfl | (simp (disch := omega) only [q_upT_self, q_upT_ne, q_upR_self, q_upR_nea, q_upR_nk, s_T_lo, s_T_hi, s_R_ne, *]; done) | (simp (disch := omega) only [q_upT_self, q_upT_ne, q_upR_self, q_upR_nea, q_upR_nk, s_T_lo, s_T_hi, s_R_ne, *]; rfl)) ?_
      rw [pa]
      refine q_iconst (v := nI 0) d_Terms_join_136 (by decide) ?_
      refine q_iconst (v := nI 0) d_Terms_join_137 (by decide) ?_
      refine q_iconst (v := nI 0) d_Terms_join_138 (by decide) ?_
      refine q_callVi (M2 := M_Terms_intern) d_Terms_join_139 ⟨(Nat.le_of_ble_eq_true rfl), (Nat.le_of_ble_eq_true rfl), w_1051, w_9, ⟨by decide, by decide⟩, show _ = some 7 by decide +kernel⟩ w_1048 w_1050 (ci := 8) rfl s_38 hL.1 rfl (Nat.le_of_ble_eq_true rfl) (by omega) (by omega) (hin) ?_
      rintro r h' hr
      refine q_iret d_Terms_join_142 rfl (by omega) (by omega) ?_
      exact ⟨_, rfl, hr⟩
    refine q_aload_n d_Terms_join_44 rfl rfl ?_
    refine q_getR (ci := 8) (fk := 3) d_Terms_join_45 rfl (Nat.le_of_ble_eq_true rfl) w_241 (fun _ _ => rfl) hL.1 (hL.2 3 _ _ _ rfl).1 ?_
    refine q_iload_n d_Terms_join_48 rfl rfl ?_
    refine q_iald d_Terms_join_49 (hL.2 3 _ _ _ rfl).2 (by first | assumption | exact vp_in_nI (by omega) (by omega)) ?_
    rw [hk]
    refine q_iconst (v := nI 5) d_Terms_join_50 (by decide) ?_
    refine q_icmp_ne (tgt := 110) d_Terms_join_51 rfl (fun hc => ?_) (fun hc => ?_)
    · exact no (fun z => hc (by rw [z.1])) _ _ rfl rfl
    have k5 : z_k t = 5 := (h.ke ht (by omega)).mp hc
    obtain ⟨c1, c2⟩ := h.c1 ht (by omega)
    refine q_aload_n d_Terms_join_54 rfl rfl ?_
    refine q_getR (ci := 8) (fk := 3) d_Terms_join_55 rfl (Nat.le_of_ble_eq_true rfl) w_241 (fun _ _ => rfl) hL.1 (hL.2 3 _ _ _ rfl).1 ?_
    refine q_iload_n d_Terms_join_58 rfl rfl ?_
    refine q_iald d_Terms_join_59 (hL.2 3 _ _ _ rfl).2 (by first | assumption | exact vp_in_nI (by omega) (by omega)) ?_
    rw [hku]
    refine q_bipush (v := nI 6) d_Terms_join_60 (by decide) ?_
    refine q_icmp_ne (tgt := 110) d_Terms_join_62 rfl (fun hc => ?_) (fun hc => ?_)
    · exact no (fun z => hc (by rw [z.2.1])) _ _ rfl rfl
    have k6 : z_k u = 6 := (h.ke hu (by omega)).mp hc
    obtain ⟨d1, d2⟩ := h.c1 hu (by omega)
    have i1 := z_ix_lt c1
    have i2 := z_ix_lt d1
    refine q_aload_n d_Terms_join_65 rfl rfl ?_
    refine q_getR (ci := 8) (fk := 4) d_Terms_join_66 rfl (Nat.le_of_ble_eq_true rfl) w_242 (fun _ _ => rfl) hL.1 (hL.2 4 _ _ _ rfl).1 ?_
    refine q_iload_n d_Terms_join_69 rfl rfl ?_
    refine q_iald d_Terms_join_70 (hL.2 4 _ _ _ rfl).2 (by first | assumption | exact vp_in_nI (by omega) (by omega)) ?_
    rw [c2]
    refine q_aload_n d_Terms_join_71 rfl rfl ?_
    refine q_getR (ci := 8) (fk := 4) d_Terms_join_72 rfl (Nat.le_of_ble_eq_true rfl) w_242 (fun _ _ => rfl) hL.1 (hL.2 4 _ _ _ rfl).1 ?_
    refine q_iload_n d_Terms_join_75 rfl rfl ?_
    refine q_iald d_Terms_join_76 (hL.2 4 _ _ _ rfl).2 (by first | assumption | exact vp_in_nI (by omega) (by omega)) ?_
    rw [d2]
    refine q_icmp_ne (tgt := 110) d_Terms_join_77 rfl (fun hc => ?_) (fun hc => ?_)
    · exact no (fun z => hc (by rw [eq_of_beq z.2.2.1])) _ _ rfl rfl
    have ec : z_c1 t = z_c1 u := z_ix_inj c1 d1 ((nI_eq (by omega) (by omega)).mp hc)
    refine q_aload_n d_Terms_join_80 rfl rfl ?_
    refine q_getR (ci := 8) (fk := 6) d_Terms_join_81 rfl (Nat.le_of_ble_eq_true rfl) w_244 (fun _ _ => rfl) hL.1 (hL.2 6 _ _ _ rfl).1 ?_
    refine q_iload_n d_Terms_join_84 rfl rfl ?_
    refine q_iald d_Terms_join_85 (hL.2 6 _ _ _ rfl).2 (by first | assumption | exact vp_in_nI (by omega) (by omega)) ?_
    rw [at1]
    refine q_aload_n d_Terms_join_86 rfl rfl ?_
    refine q_getI (ci := 4) (fk := 5) d_Terms_join_87 rfl (Nat.le_of_ble_eq_true rfl) w_506 (fun _ _ => rfl) (by first | assumption | rfl | (simp (disch := omega) only [q_upT_self, q_upT_ne, q_upR_self, q_upR_nea, q_upR_nk, s_T_lo, s_T_hi, s_R_ne, *]; done) | (simp (disch := omega) only [q_upT_self, q_upT_ne, q_upR_self, q_upR_nea, q_upR_nk, s_T_lo, s_T_hi, s_R_ne, *]; rfl)) ?_
    rw [pa]
    refine q_icmp_ne (tgt := 110) d_Terms_join_90 rfl (fun hc => ?_) (fun hc => ?_)
    · exact no (fun z => hc z.2.2.2.1) _ _ rfl rfl
    have ea := hc
    refine q_aload_n d_Terms_join_93 rfl rfl ?_
    refine q_getR (ci := 8) (fk := 6) d_Terms_join_94 rfl (Nat.le_of_ble_eq_true rfl) w_244 (fun _ _ => rfl) hL.1 (hL.2 6 _ _ _ rfl).1 ?_
    refine q_iload_n d_Terms_join_97 rfl rfl ?_
    refine q_iald d_Terms_join_98 (hL.2 6 _ _ _ rfl).2 (by first | assumption | exact vp_in_nI (by omega) (by omega)) ?_
    rw [au1]
    refine q_aload_n d_Terms_join_99 rfl rfl ?_
    refine q_getI (ci := 4) (fk := 5) d_Terms_join_100 rfl (Nat.le_of_ble_eq_true rfl) w_506 (fun _ _ => rfl) (by first | assumption | rfl | (simp (disch := omega) only [q_upT_self, q_upT_ne, q_upR_self, q_upR_nea, q_upR_nk, s_T_lo, s_T_hi, s_R_ne, *]; done) | (simp (disch := omega) only [q_upT_self, q_upT_ne, q_upR_self, q_upR_nea, q_upR_nk, s_T_lo, s_T_hi, s_R_ne, *]; rfl)) ?_
    rw [pa]
    refine q_icmp_ne (tgt := 110) d_Terms_join_103 rfl (fun hc => ?_) (fun hc => ?_)
    · exact no (fun z => hc z.2.2.2.2) _ _ rfl rfl
    have eb := hc
    rw [show z_jn p t u = z_c1 t by unfold z_jn; rw [if_neg hno, if_pos ⟨k5, k6, by rw [ec]; exact beq_self_eq_true _, ea, eb⟩]]
    refine q_iconst (v := nI 1) d_Terms_join_106 (by decide) ?_
    refine q_goto (tgt := 111) d_Terms_join_107 rfl ?_
    refine q_istore d_Terms_join_111 (Nat.le_of_ble_eq_true rfl) (by first | exact q_ok0 | exact q_okI rfl | exact q_okR rfl | exact q_okN rfl) rfl ?_
    refine q_iload d_Terms_join_113 rfl ?_
    refine q_if_eq (tgt := 127) d_Terms_join_115 rfl (fun hc => ?_) (fun hc => ?_)
    · exact absurd hc (by decide)
    refine q_aload_n d_Terms_join_118 rfl rfl ?_
    refine q_getR (ci := 8) (fk := 4) d_Terms_join_119 rfl (Nat.le_of_ble_eq_true rfl) w_242 (fun _ _ => rfl) hL.1 (hL.2 4 _ _ _ rfl).1 ?_
    refine q_iload_n d_Terms_join_122 rfl rfl ?_
    refine q_iald d_Terms_join_123 (hL.2 4 _ _ _ rfl).2 (by first | assumption | exact vp_in_nI (by omega) (by omega)) ?_
    rw [c2]
    refine q_goto (tgt := 142) d_Terms_join_124 rfl ?_
    refine q_iret d_Terms_join_142 rfl (by omega) (by omega) ?_
    exact ⟨_, rfl, o_rt.old h c1⟩
  refine q_C.of (ls0 := [some (.ref te), some (.ref po), some (.int (nI (tb.idxOf t))), some (.int (nI (tb.idxOf u))), none]) (by decide) rfl (by decide) (Nat.le_of_ble_eq_true rfl) rfl ?_
  refine q_aload_n d_Terms_join_0 rfl rfl ?_
  refine q_getR (ci := 8) (fk := 3) d_Terms_join_1 rfl (Nat.le_of_ble_eq_true rfl) w_241 (fun _ _ => rfl) hL.1 (hL.2 3 _ _ _ rfl).1 ?_
  refine q_iload_n d_Terms_join_4 rfl rfl ?_
  refine q_iald d_Terms_join_5 (hL.2 3 _ _ _ rfl).2 (by first | assumption | exact vp_in_nI (by omega) (by omega)) ?_
  rw [hk]
  refine q_iconst (v := nI 1) d_Terms_join_6 (by decide) ?_
  refine q_icmp_ne (tgt := 44) d_Terms_join_7 rfl (fun hc => ?_) (fun hc => ?_)
  · exact nn (fun z => hc (by rw [z.1])) _ _ rfl rfl
  have k1 : z_k t = 1 := (h.ke ht (by omega)).mp hc
  refine q_aload_n d_Terms_join_10 rfl rfl ?_
  refine q_getR (ci := 8) (fk := 3) d_Terms_join_11 rfl (Nat.le_of_ble_eq_true rfl) w_241 (fun _ _ => rfl) hL.1 (hL.2 3 _ _ _ rfl).1 ?_
  refine q_iload_n d_Terms_join_14 rfl rfl ?_
  refine q_iald d_Terms_join_15 (hL.2 3 _ _ _ rfl).2 (by first | assumption | exact vp_in_nI (by omega) (by omega)) ?_
  rw [hku]
  refine q_iconst (v := nI 1) d_Terms_join_16 (by decide) ?_
  refine q_icmp_ne (tgt := 44) d_Terms_join_17 rfl (fun hc => ?_) (fun hc => ?_)
  · exact nn (fun z => hc (by rw [z.2])) _ _ rfl rfl
  have k2 : z_k u = 1 := (h.ke hu (by omega)).mp hc
  rw [show z_jn p t u = z_lf 1 (z_x t * p.a + z_x u) by unfold z_jn; rw [if_pos ⟨k1, k2⟩]]
  refine q_aload_n d_Terms_join_20 rfl rfl ?_
  refine q_iconst (v := nI 1) d_Terms_join_21 (by decide) ?_
  refine q_aload_n d_Terms_join_22 rfl rfl ?_
  refine q_getR (ci := 8) (fk := 4) d_Terms_join_23 rfl (Nat.le_of_ble_eq_true rfl) w_242 (fun _ _ => rfl) hL.1 (hL.2 4 _ _ _ rfl).1 ?_
  refine q_iload_n d_Terms_join_26 rfl rfl ?_
  refine q_iald d_Terms_join_27 (hL.2 4 _ _ _ rfl).2 (by first | assumption | exact vp_in_nI (by omega) (by omega)) ?_
  rw [h.x ht (by omega)]
  refine q_aload_n d_Terms_join_28 rfl rfl ?_
  refine q_getI (ci := 4) (fk := 5) d_Terms_join_29 rfl (Nat.le_of_ble_eq_true rfl) w_506 (fun _ _ => rfl) (by first | assumption | rfl | (simp (disch := omega) only [q_upT_self, q_upT_ne, q_upR_self, q_upR_nea, q_upR_nk, s_T_lo, s_T_hi, s_R_ne, *]; done) | (simp (disch := omega) only [q_upT_self, q_upT_ne, q_upR_self, q_upR_nea, q_upR_nk, s_T_lo, s_T_hi, s_R_ne, *]; rfl)) ?_
  rw [pa]
  refine q_imul d_Terms_join_32 ?_
  refine q_aload_n d_Terms_join_33 rfl rfl ?_
  refine q_getR (ci := 8) (fk := 4) d_Terms_join_34 rfl (Nat.le_of_ble_eq_true rfl) w_242 (fun _ _ => rfl) hL.1 (hL.2 4 _ _ _ rfl).1 ?_
  refine q_iload_n d_Terms_join_37 rfl rfl ?_
  refine q_iald d_Terms_join_38 (hL.2 4 _ _ _ rfl).2 (by first | assumption | exact vp_in_nI (by omega) (by omega)) ?_
  rw [h.x hu (by omega)]
  refine q_iadd d_Terms_join_39 ?_
  refine q_callVi (M2 := M_Terms_simple) d_Terms_join_40 ⟨(Nat.le_of_ble_eq_true rfl), (Nat.le_of_ble_eq_true rfl), w_1047, w_9, ⟨by decide, by decide⟩, show _ = some 2 by decide +kernel⟩ w_1044 w_1046 (ci := 8) rfl s_37 hL.1 rfl (Nat.le_of_ble_eq_true rfl) (by omega) (by omega) (c_simple_lf hL h hlen (by omega) _) ?_
  rintro r h' hr
  refine q_iret d_Terms_join_43 rfl (by omega) (by omega) ?_
  exact ⟨_, rfl, hr⟩
theorem c_Terms_scaleForth (hL : q_L 8 t_Terms te T R) (h : o_tb te tb I) (hlen : tb.length < 152) (hp : k_prm po p T I) (h6 : p.kind = 6) (hok : p_ok p) (ht : t ∈ tb) : q_Ci g M_Terms_scaleForth [.ref te, .ref po, .int (nI (tb.idxOf t))] (sz, T, I, R, J) 0 0 (o_rt te tb (z_sf p t) 1 sz T I R J) := by
  have tp := hp.1
  have hix := z_ix_lt ht
  have hk := h.k ht
  have pa := hp.2.2.2.2.2.2.1 (by omega) (by omega)
  have pb := hp.2.2.2.2.2.2.2.1 (by omega) (by omega)
  refine q_C.of (ls0 := [some (.ref te), some (.ref po), some (.int (nI (tb.idxOf t)))]) (by decide) rfl (by decide) (Nat.le_of_ble_eq_true rfl) rfl ?_
  refine q_aload_n d_Terms_scaleForth_0 rfl rfl ?_
  refine q_getI (ci := 4) (fk := 5) d_Terms_scaleForth_1 rfl (Nat.le_of_ble_eq_true rfl) w_506 (fun _ _ => rfl) (by first | assumption | rfl | (simp (disch := omega) only [q_upT_self, q_upT_ne, q_upR_self, q_upR_nea, q_upR_nk, s_T_lo, s_T_hi, s_R_ne, *]; done) | (simp (disch := omega) only [q_upT_self, q_upT_ne, q_upR_self, q_upR_nea, q_upR_nk, s_T_lo, s_T_hi, s_R_ne, *]; rfl)) ?_
  rw [pa]
  refine q_aload_n d_Terms_scaleForth_4 rfl rfl ?_
  refine q_getI (ci := 4) (fk := 6) d_Terms_scaleForth_5 rfl (Nat.le_of_ble_eq_true rfl) w_509 (fun _ _ => rfl) (by first | assumption | rfl | (simp (disch := omega) only [q_upT_self, q_upT_ne, q_upR_self, q_upR_nea, q_upR_nk, s_T_lo, s_T_hi, s_R_ne, *]; done) | (simp (disch := omega) only [q_upT_self, q_upT_ne, q_upR_self, q_upR_nea, q_upR_nk, s_T_lo, s_T_hi, s_R_ne, *]; rfl)) ?_
  rw [pb]
  refine q_icmp_ne (tgt := 13) d_Terms_scaleForth_8 rfl (fun hc => ?_) (fun hc => ?_)
  · have hab := hc
    refine q_aload_n d_Terms_scaleForth_13 rfl rfl ?_
    refine q_getR (ci := 8) (fk := 3) d_Terms_scaleForth_14 rfl (Nat.le_of_ble_eq_true rfl) w_241 (fun _ _ => rfl) hL.1 (hL.2 3 _ _ _ rfl).1 ?_
    refine q_iload_n d_Terms_scaleForth_17 rfl rfl ?_
    refine q_iald d_Terms_scaleForth_18 (hL.2 3 _ _ _ rfl).2 (by first | assumption | exact vp_in_nI (by omega) (by omega)) ?_
    rw [hk]
    refine q_iconst (v := nI 1) d_Terms_scaleForth_19 (by decide) ?_
    refine q_icmp_ne (tgt := 41) d_Terms_scaleForth_20 rfl (fun hc => ?_) (fun hc => ?_)
    · have h1 : ¬ z_k t = 1 := fun z => hc (by rw [z])
      rw [show z_sf p t = z_u1 8 t p.a p.b 0 0 by unfold z_sf; rw [if_neg hab, if_neg h1]]
      refine q_aload_n d_Terms_scaleForth_41 rfl rfl ?_
      refine q_bipush (v := nI 8) d_Terms_scaleForth_42 (by decide) ?_
      refine q_iload_n d_Terms_scaleForth_44 rfl rfl ?_
      refine q_iconst (v := nI 0) d_Terms_scaleForth_45 (by decide) ?_
      refine q_aload_n d_Terms_scaleForth_46 rfl rfl ?_
      refine q_getI (ci := 4) (fk := 5) d_Terms_scaleForth_47 rfl (Nat.le_of_ble_eq_true rfl) w_506 (fun _ _ => rfl) (by first | assumption | rfl | (simp (disch := omega) only [q_upT_self, q_upT_ne, q_upR_self, q_upR_nea, q_upR_nk, s_T_lo, s_T_hi, s_R_ne, *]; done) | (simp (disch := omega) only [q_upT_self, q_upT_ne, q_upR_self, q_upR_nea, q_upR_nk, s_T_lo, s_T_hi, s_R_ne, *]; rfl)) ?_
      rw [pa]
      refine q_aload_n d_Terms_scaleForth_50 rfl rfl ?_
      refine q_getI (ci := 4) (fk := 6) d_Terms_scaleForth_51 rfl (Nat.le_of_ble_eq_true rfl) w_509 (fun _ _ => rfl) (by first | assumption | rfl | (simp (disch := omega) only [q_upT_self, q_upT_ne, q_upR_self, q_upR_nea, q_upR_nk, s_T_lo, s_T_hi, s_R_ne, *]; done) | (simp (disch := omega) only [q_upT_self, q_upT_ne, q_upR_self, q_upR_nea, q_upR_nk, s_T_lo, s_T_hi, s_R_ne, *]; rfl)) ?_
      rw [pb]
      refine q_iconst (v := nI 0) d_Terms_scaleForth_54 (by decide) ?_
      refine q_iconst (v := nI 0) d_Terms_scaleForth_55 (by decide) ?_
      refine q_callVi (M2 := M_Terms_intern) d_Terms_scaleForth_56 ⟨(Nat.le_of_ble_eq_true rfl), (Nat.le_of_ble_eq_true rfl), w_1051, w_9, ⟨by decide, by decide⟩, show _ = some 7 by decide +kernel⟩ w_1048 w_1050 (ci := 8) rfl s_38 hL.1 rfl (Nat.le_of_ble_eq_true rfl) (by omega) (by omega) (c_intern_u1 hL h hlen (by omega) (by omega) (by omega) ht _ _ _ _) ?_
      rintro r h' hr
      refine q_iret d_Terms_scaleForth_59 rfl (by omega) (by omega) ?_
      exact ⟨_, rfl, hr⟩
    · have h1 : z_k t = 1 := (h.ke ht (by omega)).mp hc
      rw [show z_sf p t = z_lf 1 (z_scf p.a p.b (z_x t)) by unfold z_sf; rw [if_neg hab, if_pos h1]]
      refine q_aload_n d_Terms_scaleForth_23 rfl rfl ?_
      refine q_iconst (v := nI 1) d_Terms_scaleForth_24 (by decide) ?_
      refine q_aload_n d_Terms_scaleForth_25 rfl rfl ?_
      refine q_aload_n d_Terms_scaleForth_26 rfl rfl ?_
      refine q_getR (ci := 8) (fk := 4) d_Terms_scaleForth_27 rfl (Nat.le_of_ble_eq_true rfl) w_242 (fun _ _ => rfl) hL.1 (hL.2 4 _ _ _ rfl).1 ?_
      refine q_iload_n d_Terms_scaleForth_30 rfl rfl ?_
      refine q_iald d_Terms_scaleForth_31 (hL.2 4 _ _ _ rfl).2 (by first | assumption | exact vp_in_nI (by omega) (by omega)) ?_
      rw [h.x ht (by omega)]
      refine q_callVi (M2 := M_Primitive_scaleForth) d_Terms_scaleForth_32 ⟨(Nat.le_of_ble_eq_true rfl), (Nat.le_of_ble_eq_true rfl), w_979, w_18, ⟨by decide, by decide⟩, show _ = some 1 by decide +kernel⟩ w_1075 w_977 (ci := 4) rfl w_978 (by first | assumption | rfl | (simp (disch := omega) only [q_upT_self, q_upT_ne, q_upR_self, q_upR_nea, q_upR_nk, s_T_lo, s_T_hi, s_R_ne, *]; done) | (simp (disch := omega) only [q_upT_self, q_upT_ne, q_upR_self, q_upR_nea, q_upR_nk, s_T_lo, s_T_hi, s_R_ne, *]; rfl)) rfl (Nat.le_of_ble_eq_true rfl) (by omega) (by omega) (c_Primitive_scaleForth hp h6 (hok.1 h6).1 (hok.1 h6).2.1 _) ?_
      rintro _ _ ⟨rfl, rfl⟩
      refine q_callVi (M2 := M_Terms_simple) d_Terms_scaleForth_35 ⟨(Nat.le_of_ble_eq_true rfl), (Nat.le_of_ble_eq_true rfl), w_1047, w_9, ⟨by decide, by decide⟩, show _ = some 2 by decide +kernel⟩ w_1044 w_1046 (ci := 8) rfl s_37 hL.1 rfl (Nat.le_of_ble_eq_true rfl) (by omega) (by omega) (c_simple_lf hL h hlen (by omega) _) ?_
      rintro r h' hr
      refine q_goto (tgt := 59) d_Terms_scaleForth_38 rfl ?_
      refine q_iret d_Terms_scaleForth_59 rfl (by omega) (by omega) ?_
      exact ⟨_, rfl, hr⟩
  · rw [show z_sf p t = t by unfold z_sf; rw [if_pos hc]]
    refine q_iload_n d_Terms_scaleForth_11 rfl rfl ?_
    refine q_iret d_Terms_scaleForth_12 rfl (by omega) (by omega) ?_
    exact ⟨_, rfl, o_rt.old h ht⟩
theorem c_Terms_scaleBack (hL : q_L 8 t_Terms te T R) (h : o_tb te tb I) (hlen : tb.length < 152) (hp : k_prm po p T I) (h6 : p.kind = 6) (hok : p_ok p) (ht : t ∈ tb) : q_Ci g M_Terms_scaleBack [.ref te, .ref po, .int (nI (tb.idxOf t))] (sz, T, I, R, J) 0 0 (o_rt te tb (z_sb p t) 1 sz T I R J) := by
  have tp := hp.1
  have hix := z_ix_lt ht
  have hk := h.k ht
  have pa := hp.2.2.2.2.2.2.1 (by omega) (by omega)
  have pb := hp.2.2.2.2.2.2.2.1 (by omega) (by omega)
  refine q_C.of (ls0 := [some (.ref te), some (.ref po), some (.int (nI (tb.idxOf t)))]) (by decide) rfl (by decide) (Nat.le_of_ble_eq_true rfl) rfl ?_
  refine q_aload_n d_Terms_scaleBack_0 rfl rfl ?_
  refine q_getI (ci := 4) (fk := 5) d_Terms_scaleBack_1 rfl (Nat.le_of_ble_eq_true rfl) w_506 (fun _ _ => rfl) (by first | assumption | rfl | (simp (disch := omega) only [q_upT_self, q_upT_ne, q_upR_self, q_upR_nea, q_upR_nk, s_T_lo, s_T_hi, s_R_ne, *]; done) | (simp (disch := omega) only [q_upT_self, q_upT_ne, q_upR_self, q_upR_nea, q_upR_nk, s_T_lo, s_T_hi, s_R_ne, *]; rfl)) ?_
  rw [pa]
  refine q_aload_n d_Terms_scaleBack_4 rfl rfl ?_
  refine q_getI (ci := 4) (fk := 6) d_Terms_scaleBack_5 rfl (Nat.le_of_ble_eq_true rfl) w_509 (fun _ _ => rfl) (by first | assumption | rfl | (simp (disch := omega) only [q_upT_self, q_upT_ne, q_upR_self, q_upR_nea, q_upR_nk, s_T_lo, s_T_hi, s_R_ne, *]; done) | (simp (disch := omega) only [q_upT_self, q_upT_ne, q_upR_self, q_upR_nea, q_upR_nk, s_T_lo, s_T_hi, s_R_ne, *]; rfl)) ?_
  rw [pb]
  refine q_icmp_ne (tgt := 13) d_Terms_scaleBack_8 rfl (fun hc => ?_) (fun hc => ?_)
  · have hab := hc
    refine q_aload_n d_Terms_scaleBack_13 rfl rfl ?_
    refine q_getR (ci := 8) (fk := 3) d_Terms_scaleBack_14 rfl (Nat.le_of_ble_eq_true rfl) w_241 (fun _ _ => rfl) hL.1 (hL.2 3 _ _ _ rfl).1 ?_
    refine q_iload_n d_Terms_scaleBack_17 rfl rfl ?_
    refine q_iald d_Terms_scaleBack_18 (hL.2 3 _ _ _ rfl).2 (by first | assumption | exact vp_in_nI (by omega) (by omega)) ?_
    rw [hk]
    refine q_iconst (v := nI 1) d_Terms_scaleBack_19 (by decide) ?_
    refine q_icmp_ne (tgt := 41) d_Terms_scaleBack_20 rfl (fun hc => ?_) (fun hc => ?_)
    · have h1 : ¬ z_k t = 1 := fun z => hc (by rw [z])
      rw [show z_sb p t = z_u1 9 t p.a p.b p.lo p.hi by unfold z_sb; rw [if_neg hab, if_neg h1]]
      refine q_aload_n d_Terms_scaleBack_41 rfl rfl ?_
      refine q_bipush (v := nI 9) d_Terms_scaleBack_42 (by decide) ?_
      refine q_iload_n d_Terms_scaleBack_44 rfl rfl ?_
      refine q_iconst (v := nI 0) d_Terms_scaleBack_45 (by decide) ?_
      refine q_aload_n d_Terms_scaleBack_46 rfl rfl ?_
      refine q_getI (ci := 4) (fk := 5) d_Terms_scaleBack_47 rfl (Nat.le_of_ble_eq_true rfl) w_506 (fun _ _ => rfl) (by first | assumption | rfl | (simp (disch := omega) only [q_upT_self, q_upT_ne, q_upR_self, q_upR_nea, q_upR_nk, s_T_lo, s_T_hi, s_R_ne, *]; done) | (simp (disch := omega) only [q_upT_self, q_upT_ne, q_upR_self, q_upR_nea, q_upR_nk, s_T_lo, s_T_hi, s_R_ne, *]; rfl)) ?_
      rw [pa]
      refine q_aload_n d_Terms_scaleBack_50 rfl rfl ?_
      refine q_getI (ci := 4) (fk := 6) d_Terms_scaleBack_51 rfl (Nat.le_of_ble_eq_true rfl) w_509 (fun _ _ => rfl) (by first | assumption | rfl | (simp (disch := omega) only [q_upT_self, q_upT_ne, q_upR_self, q_upR_nea, q_upR_nk, s_T_lo, s_T_hi, s_R_ne, *]; done) | (simp (disch := omega) only [q_upT_self, q_upT_ne, q_upR_self, q_upR_nea, q_upR_nk, s_T_lo, s_T_hi, s_R_ne, *]; rfl)) ?_
      rw [pb]
      refine q_aload_n d_Terms_scaleBack_54 rfl rfl ?_
      refine q_getI (ci := 4) (fk := 3) d_Terms_scaleBack_55 rfl (Nat.le_of_ble_eq_true rfl) w_501 (fun _ _ => rfl) (by first | assumption | rfl | (simp (disch := omega) only [q_upT_self, q_upT_ne, q_upR_self, q_upR_nea, q_upR_nk, s_T_lo, s_T_hi, s_R_ne, *]; done) | (simp (disch := omega) only [q_upT_self, q_upT_ne, q_upR_self, q_upR_nea, q_upR_nk, s_T_lo, s_T_hi, s_R_ne, *]; rfl)) ?_
      rw [hp.2.2.2.2.1]
      refine q_aload_n d_Terms_scaleBack_58 rfl rfl ?_
      refine q_getI (ci := 4) (fk := 4) d_Terms_scaleBack_59 rfl (Nat.le_of_ble_eq_true rfl) w_504 (fun _ _ => rfl) (by first | assumption | rfl | (simp (disch := omega) only [q_upT_self, q_upT_ne, q_upR_self, q_upR_nea, q_upR_nk, s_T_lo, s_T_hi, s_R_ne, *]; done) | (simp (disch := omega) only [q_upT_self, q_upT_ne, q_upR_self, q_upR_nea, q_upR_nk, s_T_lo, s_T_hi, s_R_ne, *]; rfl)) ?_
      rw [hp.2.2.2.2.2.1]
      refine q_callVi (M2 := M_Terms_intern) d_Terms_scaleBack_62 ⟨(Nat.le_of_ble_eq_true rfl), (Nat.le_of_ble_eq_true rfl), w_1051, w_9, ⟨by decide, by decide⟩, show _ = some 7 by decide +kernel⟩ w_1048 w_1050 (ci := 8) rfl s_38 hL.1 rfl (Nat.le_of_ble_eq_true rfl) (by omega) (by omega) (c_intern_u1 hL h hlen (by omega) (by omega) (by omega) ht _ _ _ _) ?_
      rintro r h' hr
      refine q_iret d_Terms_scaleBack_65 rfl (by omega) (by omega) ?_
      exact ⟨_, rfl, hr⟩
    · have h1 : z_k t = 1 := (h.ke ht (by omega)).mp hc
      rw [show z_sb p t = z_lf 1 (z_scb p.a p.b p.lo p.hi (z_x t)) by unfold z_sb; rw [if_neg hab, if_pos h1]]
      refine q_aload_n d_Terms_scaleBack_23 rfl rfl ?_
      refine q_iconst (v := nI 1) d_Terms_scaleBack_24 (by decide) ?_
      refine q_aload_n d_Terms_scaleBack_25 rfl rfl ?_
      refine q_aload_n d_Terms_scaleBack_26 rfl rfl ?_
      refine q_getR (ci := 8) (fk := 4) d_Terms_scaleBack_27 rfl (Nat.le_of_ble_eq_true rfl) w_242 (fun _ _ => rfl) hL.1 (hL.2 4 _ _ _ rfl).1 ?_
      refine q_iload_n d_Terms_scaleBack_30 rfl rfl ?_
      refine q_iald d_Terms_scaleBack_31 (hL.2 4 _ _ _ rfl).2 (by first | assumption | exact vp_in_nI (by omega) (by omega)) ?_
      rw [h.x ht (by omega)]
      refine q_callVi (M2 := M_Primitive_scaleBack) d_Terms_scaleBack_32 ⟨(Nat.le_of_ble_eq_true rfl), (Nat.le_of_ble_eq_true rfl), w_984, w_18, ⟨by decide, by decide⟩, show _ = some 1 by decide +kernel⟩ w_1093 w_982 (ci := 4) rfl w_983 (by first | assumption | rfl | (simp (disch := omega) only [q_upT_self, q_upT_ne, q_upR_self, q_upR_nea, q_upR_nk, s_T_lo, s_T_hi, s_R_ne, *]; done) | (simp (disch := omega) only [q_upT_self, q_upT_ne, q_upR_self, q_upR_nea, q_upR_nk, s_T_lo, s_T_hi, s_R_ne, *]; rfl)) rfl (Nat.le_of_ble_eq_true rfl) (by omega) (by omega) (c_Primitive_scaleBack hp h6 (hok.1 h6).2 (hok.1 h6).1.1 _) ?_
      rintro _ _ ⟨rfl, rfl⟩
      refine q_callVi (M2 := M_Terms_simple) d_Terms_scaleBack_35 ⟨(Nat.le_of_ble_eq_true rfl), (Nat.le_of_ble_eq_true rfl), w_1047, w_9, ⟨by decide, by decide⟩, show _ = some 2 by decide +kernel⟩ w_1044 w_1046 (ci := 8) rfl s_37 hL.1 rfl (Nat.le_of_ble_eq_true rfl) (by omega) (by omega) (c_simple_lf hL h hlen (by omega) _) ?_
      rintro r h' hr
      refine q_goto (tgt := 65) d_Terms_scaleBack_38 rfl ?_
      refine q_iret d_Terms_scaleBack_65 rfl (by omega) (by omega) ?_
      exact ⟨_, rfl, hr⟩
  · rw [show z_sb p t = t by unfold z_sb; rw [if_pos hc]]
    refine q_iload_n d_Terms_scaleBack_11 rfl rfl ?_
    refine q_iret d_Terms_scaleBack_12 rfl (by omega) (by omega) ?_
    exact ⟨_, rfl, o_rt.old h ht⟩
end TPass
