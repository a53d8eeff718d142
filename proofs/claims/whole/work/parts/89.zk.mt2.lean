/-! clash, by the reference: terms by slot, in mode 2 -/
section MT2
variable {g : q_G} {sz m : Nat} {T : q_T} {I : q_I} {R : q_R} {J : q_J} {tb : List KT} {t u : KT} {M : List KF} {Z : KZ} {p : KP}
theorem m_tb.k (h : m_tb m tb I) (ht : t ∈ tb) : I (m + 22) (nI (tb.idxOf t)) = nI (z_k t) := (h.at ht).1
theorem m_tb.x (h : m_tb m tb I) (ht : t ∈ tb) (hk : z_k t ≤ 2) : I (m + 23) (nI (5 * tb.idxOf t + 0)) = z_x t := by
  show I (m + 23) (nI (5 * tb.idxOf t)) = z_x t
  rw [(h.at ht).2.1]; unfold z_e1; rw [if_pos hk]
theorem m_tb.c1 (h : m_tb m tb I) (ht : t ∈ tb) (hk : 3 ≤ z_k t) : z_c1 t ∈ tb ∧ I (m + 23) (nI (5 * tb.idxOf t + 0)) = nI (tb.idxOf (z_c1 t)) := ⟨(h.2.1.2 t ht).2.1 hk, by show I (m + 23) (nI (5 * tb.idxOf t)) = nI (tb.idxOf (z_c1 t)); rw [(h.at ht).2.1]; unfold z_e1; rw [if_neg (by omega)]⟩
theorem m_tb.c2 (h : m_tb m tb I) (ht : t ∈ tb) (hk : z_k t = 7) : z_c2 t ∈ tb ∧ I (m + 23) (nI (5 * tb.idxOf t + 1)) = nI (tb.idxOf (z_c2 t)) := ⟨(h.2.1.2 t ht).2.2 hk, by rw [(h.at ht).2.2.1]; unfold z_r1; rw [if_pos hk]⟩
theorem m_tb.a1 (h : m_tb m tb I) (ht : t ∈ tb) (hk : z_k t ≠ 7) : I (m + 23) (nI (5 * tb.idxOf t + 1)) = z_a t := by rw [(h.at ht).2.2.1]; unfold z_r1; rw [if_neg hk]
theorem m_tb.a2 (h : m_tb m tb I) (ht : t ∈ tb) (hk : z_k t = 7) : I (m + 23) (nI (5 * tb.idxOf t + 2)) = z_a t := by rw [(h.at ht).2.2.2.1]; unfold z_r2; rw [if_pos hk]
theorem m_tb.ke (h : m_tb m tb I) (ht : t ∈ tb) {n : Nat} (hn : n ≤ 11) : nI (z_k t) = nI n ↔ z_k t = n := nI_eq (by have := (h.2.1.2 t ht).1.1; omega) (by omega)
theorem c_isNumber2 (hL : q_L 11 t_Model m T R) (h : m_tb m tb I) (hlen : tb.length ≤ 1024) (ht : t ∈ tb) : q_Ci g M_Model_isNumber [.ref m, .int (nI (tb.idxOf t))] (sz, T, I, R, J) 0 0 (fun r h' => r = p_b (decide (z_k t = 1)) ∧ h' = (sz, T, I, R, J)) := by
  have hix := z_ix_lt ht
  refine (c_Model_isNumber hL (by omega)).imp fun o h' z => ?_
  obtain ⟨r, e, z1, z2⟩ := z
  refine ⟨r, e, ?_, z2⟩
  rw [z1, h.k ht]
  congr 1
  exact decide_eq_decide.mpr (h.ke ht (n := 1) (by omega))
theorem c_known_u2 (hL : q_L 11 t_Model m T R) (h : m_tb m tb I) (hlen : tb.length < 1024) (ht : t ∈ tb) (hu : u ∈ tb) (a : Int32) : q_Ci g M_Model_known [.ref m, .int (nI 7), .int (nI (tb.idxOf t)), .int (nI (tb.idxOf u)), .int a, .int 0, .int 0] (sz, T, I, R, J) 0 0 (m_rt2 m tb (z_u2 t u a) 1 sz T I R J) := by
  have := c_Model_known (g := g) (sz := sz) (J := J) hL h hlen (z_ok_u2 t u a) (z_cl_u2 ht hu a)
  have k7 : z_k (z_u2 t u a) = 7 := rfl
  rw [show z_e1 tb (z_u2 t u a) = nI (tb.idxOf t) by unfold z_e1; rw [if_neg (by rw [k7]; decide), z_c1_u2], show z_r1 tb (z_u2 t u a) = nI (tb.idxOf u) by unfold z_r1; rw [if_pos k7, z_c2_u2], show z_r2 (z_u2 t u a) = a by unfold z_r2; rw [if_pos k7]; rfl] at this
  exact this
theorem c_Model_opened {k : Nat} {f : KF} (hL : q_L 11 t_Model m T R) (h : m_tb m tb I) (hlen : tb.length < 1024) (hM : k_mw m M I) (hf : M[k]? = some f) (hlo : f.2.2.1 = p.lo) (hhi : f.2.2.2.1 = p.hi) (ht : t ∈ tb) (hT : I (m + 19) (nI k) = nI (tb.idxOf t)) : q_Ci g M_Model_opened [.ref m, .int (nI k)] (sz, T, I, R, J) 0 0 (m_rt2 m tb (z_unw p t) 1 sz T I R J) := by
  have hkl := (List.getElem?_eq_some_iff.mp hf).1
  have h26 := hM.2.1
  obtain ⟨w1, w2, w3, w4⟩ := hM.2.2 k f hf
  rw [hlo] at w3
  rw [hhi] at w4
  have hix := z_ix_lt ht
  have ek := h.k ht
  refine q_C.of (ls0 := [some (.ref m), some (.int (nI k)), none]) (by decide) rfl (by decide) (Nat.le_of_ble_eq_true rfl) rfl ?_
  refine q_aload_n d_Model_opened_0 rfl rfl ?_
  refine q_getR (ci := 11) (fk := 24) d_Model_opened_1 rfl (Nat.le_of_ble_eq_true rfl) w_1128 (fun _ _ => rfl) hL.1 (hL.2 24 _ _ _ rfl).1 ?_
  refine q_iload_n d_Model_opened_4 rfl rfl ?_
  refine q_iald d_Model_opened_5 (hL.2 24 _ _ _ rfl).2 (by first | assumption | exact vp_in_nI (by omega) (by omega)) ?_
  rw [hT]
  refine q_istore_n d_Model_opened_6 rfl (Nat.le_of_ble_eq_true rfl) (by first | exact q_ok0 | exact q_okI rfl | exact q_okR rfl | exact q_okN rfl) rfl ?_
  refine q_aload_n d_Model_opened_7 rfl rfl ?_
  refine q_getR (ci := 11) (fk := 30) d_Model_opened_8 rfl (Nat.le_of_ble_eq_true rfl) w_1134 (fun _ _ => rfl) hL.1 (hL.2 30 _ _ _ rfl).1 ?_
  refine q_iload_n d_Model_opened_11 rfl rfl ?_
  refine q_iald d_Model_opened_12 (hL.2 30 _ _ _ rfl).2 (by first | assumption | exact vp_in_nI (by omega) (by omega)) ?_
  rw [ek]
  refine q_iconst (v := nI 3) d_Model_opened_13 (by decide) ?_
  refine q_icmp_ne (tgt := 26) d_Model_opened_14 rfl (fun hc => ?_) (fun hc => ?_)
  · have h3 : ¬ z_k t = 3 := fun z => hc (by rw [z])
    refine q_aload_n d_Model_opened_26 rfl rfl ?_
    refine q_getR (ci := 11) (fk := 30) d_Model_opened_27 rfl (Nat.le_of_ble_eq_true rfl) w_1134 (fun _ _ => rfl) hL.1 (hL.2 30 _ _ _ rfl).1 ?_
    refine q_iload_n d_Model_opened_30 rfl rfl ?_
    refine q_iald d_Model_opened_31 (hL.2 30 _ _ _ rfl).2 (by first | assumption | exact vp_in_nI (by omega) (by omega)) ?_
    rw [ek]
    refine q_iconst (v := nI 2) d_Model_opened_32 (by decide) ?_
    refine q_icmp_ne (tgt := 58) d_Model_opened_33 rfl (fun hc => ?_) (fun hc => ?_)
    · have h2 : ¬ z_k t = 2 := fun z => hc (by rw [z])
      rw [show z_unw p t = z_u1 4 t 0 0 0 0 by unfold z_unw; rw [if_neg h3, if_neg h2]]
      refine q_aload_n d_Model_opened_58 rfl rfl ?_
      refine q_iconst (v := nI 4) d_Model_opened_59 (by decide) ?_
      refine q_iload_n d_Model_opened_60 rfl rfl ?_
      refine q_iconst (v := nI 0) d_Model_opened_61 (by decide) ?_
      refine q_iconst (v := nI 0) d_Model_opened_62 (by decide) ?_
      refine q_iconst (v := nI 0) d_Model_opened_63 (by decide) ?_
      refine q_iconst (v := nI 0) d_Model_opened_64 (by decide) ?_
      refine q_callVi (M2 := M_Model_known) d_Model_opened_65 ⟨(Nat.le_of_ble_eq_true rfl), (Nat.le_of_ble_eq_true rfl), w_1248, w_10, ⟨by decide, by decide⟩, show _ = some 6 by decide +kernel⟩ w_1245 w_1247 (ci := 11) rfl s_50 hL.1 rfl (Nat.le_of_ble_eq_true rfl) (by omega) (by omega) (c_known_u1 hL h hlen (by omega) (by omega) (by omega) ht 0 0 0 0) ?_
      rintro r h' hr
      refine q_iret d_Model_opened_68 rfl (by omega) (by omega) ?_
      exact ⟨_, rfl, hr⟩
    · have h2 : z_k t = 2 := (h.ke ht (by omega)).mp hc
      rw [show z_unw p t = z_lf 1 (p_near p.lo p.hi) by unfold z_unw; rw [if_neg h3, if_pos h2]]
      refine q_aload_n d_Model_opened_36 rfl rfl ?_
      refine q_aload_n d_Model_opened_37 rfl rfl ?_
      refine q_getR (ci := 11) (fk := 21) d_Model_opened_38 rfl (Nat.le_of_ble_eq_true rfl) w_1125 (fun _ _ => rfl) hL.1 (hL.2 21 _ _ _ rfl).1 ?_
      refine q_iload_n d_Model_opened_41 rfl rfl ?_
      refine q_iald d_Model_opened_42 (hL.2 21 _ _ _ rfl).2 (by first | assumption | exact vp_in_nI (by omega) (by omega)) ?_
      rw [w3]
      refine q_aload_n d_Model_opened_43 rfl rfl ?_
      refine q_getR (ci := 11) (fk := 22) d_Model_opened_44 rfl (Nat.le_of_ble_eq_true rfl) w_1126 (fun _ _ => rfl) hL.1 (hL.2 22 _ _ _ rfl).1 ?_
      refine q_iload_n d_Model_opened_47 rfl rfl ?_
      refine q_iald d_Model_opened_48 (hL.2 22 _ _ _ rfl).2 (by first | assumption | exact vp_in_nI (by omega) (by omega)) ?_
      rw [w4]
      refine q_callSi (M2 := M_Model_nearest) d_Model_opened_49 ⟨(Nat.le_of_ble_eq_true rfl), (Nat.le_of_ble_eq_true rfl), w_1240, w_10, ⟨by decide, by decide⟩, show _ = some 2 by decide +kernel⟩ w_1238 w_1239 rfl (Nat.le_of_ble_eq_true rfl) (by omega) (by omega) (c_Model_nearest _ _) ?_
      rintro _ _ ⟨rfl, rfl⟩
      refine q_callVi (M2 := M_Model_number) d_Model_opened_52 ⟨(Nat.le_of_ble_eq_true rfl), (Nat.le_of_ble_eq_true rfl), w_1244, w_10, ⟨by decide, by decide⟩, show _ = some 1 by decide +kernel⟩ w_1241 w_1243 (ci := 11) rfl s_49 hL.1 rfl (Nat.le_of_ble_eq_true rfl) (by omega) (by omega) (c_Model_number hL h hlen _) ?_
      rintro r h' hr
      refine q_goto (tgt := 68) d_Model_opened_55 rfl ?_
      refine q_iret d_Model_opened_68 rfl (by omega) (by omega) ?_
      exact ⟨_, rfl, hr⟩
  · have h3 : z_k t = 3 := (h.ke ht (by omega)).mp hc
    obtain ⟨c1, c2⟩ := h.c1 ht (by omega)
    rw [show z_unw p t = z_c1 t by unfold z_unw; rw [if_pos h3]]
    refine q_aload_n d_Model_opened_17 rfl rfl ?_
    refine q_iload_n d_Model_opened_18 rfl rfl ?_
    refine q_iconst (v := nI 0) d_Model_opened_19 (by decide) ?_
    refine q_callVi (M2 := M_Model_argument) d_Model_opened_20 ⟨(Nat.le_of_ble_eq_true rfl), (Nat.le_of_ble_eq_true rfl), w_1355, w_10, ⟨by decide, by decide⟩, show _ = some 2 by decide +kernel⟩ w_1352 w_1354 (ci := 11) rfl s_68 hL.1 rfl (Nat.le_of_ble_eq_true rfl) (by omega) (by omega) (c_Model_argument hL (by omega)) ?_
    rintro _ _ ⟨rfl, rfl⟩
    rw [c2]
    refine q_goto (tgt := 68) d_Model_opened_23 rfl ?_
    refine q_iret d_Model_opened_68 rfl (by omega) (by omega) ?_
    exact ⟨_, rfl, m_rt2.old h c1⟩
/-- what a change makes of a term -/
def z_ch (fw : Bool) (p : KP) (t : KT) : KT := if p.kind = 6 then (if fw = true then z_sf p t else z_sb p t) else if fw = true then (if p.kind = 7 then z_mp p t else z_so t) else t
set_option maxHeartbeats 1000000 in
theorem c_Model_changed {fw : Bool} (hL : q_L 11 t_Model m T R) (h : m_tb m tb I) (hlen : tb.length < 1024) (hok : p_ok p) (h6 : 6 ≤ p.kind) (h8 : p.kind ≤ 8) (hlh : p.kind = 6 → p.lo ≤ p.hi) (ht : t ∈ tb) : q_Ci g M_Model_changed [.ref m, .int (nI (tb.idxOf t)), .int (nI p.kind), .int p.a, .int p.b, .int (p_b fw), .int p.lo, .int p.hi] (sz, T, I, R, J) 0 0 (m_rt2 m tb (z_ch fw p t) 1 sz T I R J) := by
  have hix := z_ix_lt ht
  have ek := h.k ht
  refine q_C.of (ls0 := [some (.ref m), some (.int (nI (tb.idxOf t))), some (.int (nI p.kind)), some (.int p.a), some (.int p.b), some (.int (p_b fw)), some (.int p.lo), some (.int p.hi), none, none]) (by decide) rfl (by decide) (Nat.le_of_ble_eq_true rfl) rfl ?_
  rcases (by omega : p.kind = 6 ∨ p.kind = 7 ∨ p.kind = 8) with hk | hk | hk
  · have kc : nI p.kind = nI 6 := by rw [hk]
    obtain ⟨⟨a1, a2⟩, b1, b2⟩ := hok.1 hk
    have ez : z_ch fw p t = if fw = true then z_sf p t else z_sb p t := by unfold z_ch; rw [if_pos hk]
    rw [ez]
    refine q_iload_n d_Model_changed_0 rfl rfl ?_
    refine q_bipush (v := nI 6) d_Model_changed_1 (by decide) ?_
    refine q_icmp_ne (tgt := 122) d_Model_changed_3 rfl (fun hc => ?_) (fun hc => ?_)
    · exact absurd kc hc
    refine q_iload_n d_Model_changed_6 rfl rfl ?_
    refine q_iload d_Model_changed_7 rfl ?_
    refine q_icmp_ne (tgt := 14) d_Model_changed_9 rfl (fun hc => ?_) (fun hc => ?_)
    rotate_left
    · have hab : p.a = p.b := hc
      rw [show (if fw = true then z_sf p t else z_sb p t) = t by unfold z_sf z_sb; rw [if_pos hab, if_pos hab]; split <;> rfl]
      refine q_iload_n d_Model_changed_12 rfl rfl ?_
      refine q_iret d_Model_changed_13 rfl (by omega) (by omega) ?_
      exact ⟨_, rfl, m_rt2.old h ht⟩
    have hab : ¬ p.a = p.b := hc
    refine q_aload_n d_Model_changed_14 rfl rfl ?_
    refine q_iload_n d_Model_changed_15 rfl rfl ?_
    refine q_callVi (M2 := M_Model_isNumber) d_Model_changed_16 ⟨(Nat.le_of_ble_eq_true rfl), (Nat.le_of_ble_eq_true rfl), w_1351, w_10, ⟨by decide, by decide⟩, show _ = some 1 by decide +kernel⟩ w_1348 w_1350 (ci := 11) rfl s_67 hL.1 rfl (Nat.le_of_ble_eq_true rfl) (by omega) (by omega) (c_isNumber2 hL h (by omega) ht) ?_
    rintro _ _ ⟨rfl, rfl⟩
    by_cases h1 : z_k t = 1
    · rw [decide_eq_true h1]
      have ex := h.x ht (by omega)
      refine q_if_eq (tgt := 32) d_Model_changed_19 rfl (fun hc => ?_) (fun hc => ?_)
      · exact absurd hc (by decide)
      refine q_aload_n d_Model_changed_22 rfl rfl ?_
      refine q_iload_n d_Model_changed_23 rfl rfl ?_
      refine q_iconst (v := nI 0) d_Model_changed_24 (by decide) ?_
      refine q_callVi (M2 := M_Model_argument) d_Model_changed_25 ⟨(Nat.le_of_ble_eq_true rfl), (Nat.le_of_ble_eq_true rfl), w_1355, w_10, ⟨by decide, by decide⟩, show _ = some 2 by decide +kernel⟩ w_1352 w_1354 (ci := 11) rfl s_68 hL.1 rfl (Nat.le_of_ble_eq_true rfl) (by omega) (by omega) (c_Model_argument hL (by omega)) ?_
      rintro _ _ ⟨rfl, rfl⟩
      rw [ex]
      refine q_i2l d_Model_changed_28 rfl ?_
      refine q_goto (tgt := 33) d_Model_changed_29 rfl ?_
      refine q_lstore d_Model_changed_33 (Nat.le_of_ble_eq_true rfl) (by first | exact q_ok0 | exact q_okI rfl | exact q_okR rfl | exact q_okN rfl) rfl ?_
      refine q_aload_n d_Model_changed_35 rfl rfl ?_
      refine q_iload_n d_Model_changed_36 rfl rfl ?_
      refine q_callVi (M2 := M_Model_isNumber) d_Model_changed_37 ⟨(Nat.le_of_ble_eq_true rfl), (Nat.le_of_ble_eq_true rfl), w_1351, w_10, ⟨by decide, by decide⟩, show _ = some 1 by decide +kernel⟩ w_1348 w_1350 (ci := 11) rfl s_67 hL.1 rfl (Nat.le_of_ble_eq_true rfl) (by omega) (by omega) (c_isNumber2 hL h (by omega) ht) ?_
      rintro _ _ ⟨rfl, rfl⟩
      rw [decide_eq_true h1]
      refine q_if_eq (tgt := 87) d_Model_changed_40 rfl (fun hc => ?_) (fun hc => ?_)
      · exact absurd hc (by decide)
      cases fw with
      | true =>
        rw [if_pos rfl, show z_sf p t = z_lf 1 (z_scf p.a p.b (z_x t)) by unfold z_sf; rw [if_neg hab, if_pos h1]]
        obtain ⟨z1, z2, z3⟩ := z_flrs (x := z_x t) ⟨a1, a2⟩ b1
        refine q_aload_n d_Model_changed_43 rfl rfl ?_
        refine q_iload d_Model_changed_44 rfl ?_
        refine q_if_eq (tgt := 64) d_Model_changed_46 rfl (fun hc => ?_) (fun hc => ?_)
        · exact absurd hc (by decide)
        refine q_iload_n d_Model_changed_49 rfl rfl ?_
        refine q_i2l d_Model_changed_50 rfl ?_
        refine q_lload d_Model_changed_51 rfl ?_
        refine q_lmul d_Model_changed_53 ?_
        refine q_iload d_Model_changed_54 rfl ?_
        refine q_i2l d_Model_changed_56 rfl ?_
        refine q_callSl (M2 := M_Model_floor) d_Model_changed_57 ⟨(Nat.le_of_ble_eq_true rfl), (Nat.le_of_ble_eq_true rfl), w_1344, w_10, ⟨by decide, by decide⟩, show _ = some 2 by decide +kernel⟩ w_1342 w_1343 rfl (Nat.le_of_ble_eq_true rfl) (by omega) (by omega) (c_Model_floor z3) ?_
        rintro _ _ ⟨rfl, rfl⟩
        refine q_l2i d_Model_changed_60 rfl ?_
        rw [z2]
        refine q_goto (tgt := 83) d_Model_changed_61 rfl ?_
        refine q_callVi (M2 := M_Model_number) d_Model_changed_83 ⟨(Nat.le_of_ble_eq_true rfl), (Nat.le_of_ble_eq_true rfl), w_1244, w_10, ⟨by decide, by decide⟩, show _ = some 1 by decide +kernel⟩ w_1241 w_1243 (ci := 11) rfl s_49 hL.1 rfl (Nat.le_of_ble_eq_true rfl) (by omega) (by omega) (c_Model_number hL h hlen _) ?_
        rintro r h' hr
        refine q_iret d_Model_changed_86 rfl (by omega) (by omega) ?_
        exact ⟨_, rfl, hr⟩
      | false =>
        rw [if_neg (by decide), show z_sb p t = z_lf 1 (z_scb p.a p.b p.lo p.hi (z_x t)) by unfold z_sb; rw [if_neg hab, if_pos h1]]
        obtain ⟨z1, z2, z3⟩ := z_flrs (x := z_x t) ⟨b1, b2⟩ a1
        refine q_aload_n d_Model_changed_43 rfl rfl ?_
        refine q_iload d_Model_changed_44 rfl ?_
        refine q_if_eq (tgt := 64) d_Model_changed_46 rfl (fun hc => ?_) (fun hc => ?_)
        rotate_left
        · exact absurd rfl hc
        refine q_iload d_Model_changed_64 rfl ?_
        refine q_i2l d_Model_changed_66 rfl ?_
        refine q_lload d_Model_changed_67 rfl ?_
        refine q_lmul d_Model_changed_69 ?_
        refine q_iload_n d_Model_changed_70 rfl rfl ?_
        refine q_i2l d_Model_changed_71 rfl ?_
        refine q_callSl (M2 := M_Model_floor) d_Model_changed_72 ⟨(Nat.le_of_ble_eq_true rfl), (Nat.le_of_ble_eq_true rfl), w_1344, w_10, ⟨by decide, by decide⟩, show _ = some 2 by decide +kernel⟩ w_1342 w_1343 rfl (Nat.le_of_ble_eq_true rfl) (by omega) (by omega) (c_Model_floor z3) ?_
        rintro _ _ ⟨rfl, rfl⟩
        refine q_iload d_Model_changed_75 rfl ?_
        refine q_iload d_Model_changed_77 rfl ?_
        refine q_callSl (M2 := M_Model_within) d_Model_changed_79 ⟨(Nat.le_of_ble_eq_true rfl), (Nat.le_of_ble_eq_true rfl), w_1366, w_10, ⟨by decide, by decide⟩, show _ = some 3 by decide +kernel⟩ w_1364 w_1365 rfl (Nat.le_of_ble_eq_true rfl) (by omega) (by omega) (c_Model_within _ _ _) ?_
        rintro w _ ⟨hw, rfl⟩
        have ew : w.toInt32 = z_scb p.a p.b p.lo p.hi (z_x t) := by
          rw [z_l2i, hw, z1]
          unfold z_scb
          have hle := Int32.le_iff_toInt_le.mp (hlh hk)
          congr 1
          generalize p.b.toInt * (z_x t).toInt / p.a.toInt = v
          omega
        refine q_l2i d_Model_changed_82 rfl ?_
        rw [ew]
        refine q_callVi (M2 := M_Model_number) d_Model_changed_83 ⟨(Nat.le_of_ble_eq_true rfl), (Nat.le_of_ble_eq_true rfl), w_1244, w_10, ⟨by decide, by decide⟩, show _ = some 1 by decide +kernel⟩ w_1241 w_1243 (ci := 11) rfl s_49 hL.1 rfl (Nat.le_of_ble_eq_true rfl) (by omega) (by omega) (c_Model_number hL h hlen _) ?_
        rintro r h' hr
        refine q_iret d_Model_changed_86 rfl (by omega) (by omega) ?_
        exact ⟨_, rfl, hr⟩
    · rw [decide_eq_false h1]
      refine q_if_eq (tgt := 32) d_Model_changed_19 rfl (fun hc => ?_) (fun hc => ?_)
      rotate_left
      · exact absurd rfl hc
      refine q_lconst (v := lN 0) d_Model_changed_32 (by decide) ?_
      refine q_lstore d_Model_changed_33 (Nat.le_of_ble_eq_true rfl) (by first | exact q_ok0 | exact q_okI rfl | exact q_okR rfl | exact q_okN rfl) rfl ?_
      refine q_aload_n d_Model_changed_35 rfl rfl ?_
      refine q_iload_n d_Model_changed_36 rfl rfl ?_
      refine q_callVi (M2 := M_Model_isNumber) d_Model_changed_37 ⟨(Nat.le_of_ble_eq_true rfl), (Nat.le_of_ble_eq_true rfl), w_1351, w_10, ⟨by decide, by decide⟩, show _ = some 1 by decide +kernel⟩ w_1348 w_1350 (ci := 11) rfl s_67 hL.1 rfl (Nat.le_of_ble_eq_true rfl) (by omega) (by omega) (c_isNumber2 hL h (by omega) ht) ?_
      rintro _ _ ⟨rfl, rfl⟩
      rw [decide_eq_false h1]
      refine q_if_eq (tgt := 87) d_Model_changed_40 rfl (fun hc => ?_) (fun hc => ?_)
      rotate_left
      · exact absurd rfl hc
      cases fw with
      | true =>
        rw [if_pos rfl, show z_sf p t = z_u1 8 t p.a p.b 0 0 by unfold z_sf; rw [if_neg hab, if_neg h1]]
        refine q_iload d_Model_changed_87 rfl ?_
        refine q_if_eq (tgt := 107) d_Model_changed_89 rfl (fun hc => ?_) (fun hc => ?_)
        · exact absurd hc (by decide)
        refine q_aload_n d_Model_changed_92 rfl rfl ?_
        refine q_bipush (v := nI 8) d_Model_changed_93 (by decide) ?_
        refine q_iload_n d_Model_changed_95 rfl rfl ?_
        refine q_iload_n d_Model_changed_96 rfl rfl ?_
        refine q_iload d_Model_changed_97 rfl ?_
        refine q_iconst (v := nI 0) d_Model_changed_99 (by decide) ?_
        refine q_iconst (v := nI 0) d_Model_changed_100 (by decide) ?_
        refine q_callVi (M2 := M_Model_known) d_Model_changed_101 ⟨(Nat.le_of_ble_eq_true rfl), (Nat.le_of_ble_eq_true rfl), w_1248, w_10, ⟨by decide, by decide⟩, show _ = some 6 by decide +kernel⟩ w_1245 w_1247 (ci := 11) rfl s_50 hL.1 rfl (Nat.le_of_ble_eq_true rfl) (by omega) (by omega) (c_known_u1 hL h hlen (by omega) (by omega) (by omega) ht p.a p.b 0 0) ?_
        rintro r h' hr
        refine q_goto (tgt := 121) d_Model_changed_104 rfl ?_
        refine q_iret d_Model_changed_121 rfl (by omega) (by omega) ?_
        exact ⟨_, rfl, hr⟩
      | false =>
        rw [if_neg (by decide), show z_sb p t = z_u1 9 t p.a p.b p.lo p.hi by unfold z_sb; rw [if_neg hab, if_neg h1]]
        refine q_iload d_Model_changed_87 rfl ?_
        refine q_if_eq (tgt := 107) d_Model_changed_89 rfl (fun hc => ?_) (fun hc => ?_)
        rotate_left
        · exact absurd rfl hc
        refine q_aload_n d_Model_changed_107 rfl rfl ?_
        refine q_bipush (v := nI 9) d_Model_changed_108 (by decide) ?_
        refine q_iload_n d_Model_changed_110 rfl rfl ?_
        refine q_iload_n d_Model_changed_111 rfl rfl ?_
        refine q_iload d_Model_changed_112 rfl ?_
        refine q_iload d_Model_changed_114 rfl ?_
        refine q_iload d_Model_changed_116 rfl ?_
        refine q_callVi (M2 := M_Model_known) d_Model_changed_118 ⟨(Nat.le_of_ble_eq_true rfl), (Nat.le_of_ble_eq_true rfl), w_1248, w_10, ⟨by decide, by decide⟩, show _ = some 6 by decide +kernel⟩ w_1245 w_1247 (ci := 11) rfl s_50 hL.1 rfl (Nat.le_of_ble_eq_true rfl) (by omega) (by omega) (c_known_u1 hL h hlen (by omega) (by omega) (by omega) ht p.a p.b p.lo p.hi) ?_
        rintro r h' hr
        refine q_iret d_Model_changed_121 rfl (by omega) (by omega) ?_
        exact ⟨_, rfl, hr⟩
  · have kc : nI p.kind = nI 7 := by rw [hk]
    have ez : z_ch fw p t = if fw = true then z_mp p t else t := by unfold z_ch; rw [if_neg (by omega), if_pos hk]
    rw [ez]
    refine q_iload_n d_Model_changed_0 rfl rfl ?_
    refine q_bipush (v := nI 6) d_Model_changed_1 (by decide) ?_
    refine q_icmp_ne (tgt := 122) d_Model_changed_3 rfl (fun hc => ?_) (fun hc => ?_)
    rotate_left
    · rw [kc] at hc; exact absurd hc (by decide)
    cases fw with
    | false =>
      rw [if_neg (by decide)]
      refine q_iload d_Model_changed_122 rfl ?_
      refine q_if_ne (tgt := 129) d_Model_changed_124 rfl (fun hc => ?_) (fun hc => ?_)
      · exact absurd rfl hc
      refine q_iload_n d_Model_changed_127 rfl rfl ?_
      refine q_iret d_Model_changed_128 rfl (by omega) (by omega) ?_
      exact ⟨_, rfl, m_rt2.old h ht⟩
    | true =>
      rw [if_pos rfl]
      refine q_iload d_Model_changed_122 rfl ?_
      refine q_if_ne (tgt := 129) d_Model_changed_124 rfl (fun hc => ?_) (fun hc => ?_)
      rotate_left
      · exact absurd hc (by decide)
      refine q_iload_n d_Model_changed_129 rfl rfl ?_
      refine q_bipush (v := nI 7) d_Model_changed_130 (by decide) ?_
      refine q_icmp_ne (tgt := 184) d_Model_changed_132 rfl (fun hc => ?_) (fun hc => ?_)
      · exact absurd kc hc
      refine q_aload_n d_Model_changed_135 rfl rfl ?_
      refine q_iload_n d_Model_changed_136 rfl rfl ?_
      refine q_callVi (M2 := M_Model_isNumber) d_Model_changed_137 ⟨(Nat.le_of_ble_eq_true rfl), (Nat.le_of_ble_eq_true rfl), w_1351, w_10, ⟨by decide, by decide⟩, show _ = some 1 by decide +kernel⟩ w_1348 w_1350 (ci := 11) rfl s_67 hL.1 rfl (Nat.le_of_ble_eq_true rfl) (by omega) (by omega) (c_isNumber2 hL h (by omega) ht) ?_
      rintro _ _ ⟨rfl, rfl⟩
      by_cases h1 : z_k t = 1
      · rw [decide_eq_true h1, show z_mp p t = z_lf 1 (if z_x t = p.a then p.b else z_x t) by unfold z_mp; rw [if_pos h1]]
        have ex := h.x ht (by omega)
        refine q_if_eq (tgt := 171) d_Model_changed_140 rfl (fun hc => ?_) (fun hc => ?_)
        · exact absurd hc (by decide)
        refine q_aload_n d_Model_changed_143 rfl rfl ?_
        refine q_aload_n d_Model_changed_144 rfl rfl ?_
        refine q_iload_n d_Model_changed_145 rfl rfl ?_
        refine q_iconst (v := nI 0) d_Model_changed_146 (by decide) ?_
        refine q_callVi (M2 := M_Model_argument) d_Model_changed_147 ⟨(Nat.le_of_ble_eq_true rfl), (Nat.le_of_ble_eq_true rfl), w_1355, w_10, ⟨by decide, by decide⟩, show _ = some 2 by decide +kernel⟩ w_1352 w_1354 (ci := 11) rfl s_68 hL.1 rfl (Nat.le_of_ble_eq_true rfl) (by omega) (by omega) (c_Model_argument hL (by omega)) ?_
        rintro _ _ ⟨rfl, rfl⟩
        rw [ex]
        refine q_iload_n d_Model_changed_150 rfl rfl ?_
        refine q_icmp_ne (tgt := 159) d_Model_changed_151 rfl (fun hc => ?_) (fun hc => ?_)
        · have hcx : ¬ z_x t = p.a := hc
          rw [if_neg hcx]
          refine q_aload_n d_Model_changed_159 rfl rfl ?_
          refine q_iload_n d_Model_changed_160 rfl rfl ?_
          refine q_iconst (v := nI 0) d_Model_changed_161 (by decide) ?_
          refine q_callVi (M2 := M_Model_argument) d_Model_changed_162 ⟨(Nat.le_of_ble_eq_true rfl), (Nat.le_of_ble_eq_true rfl), w_1355, w_10, ⟨by decide, by decide⟩, show _ = some 2 by decide +kernel⟩ w_1352 w_1354 (ci := 11) rfl s_68 hL.1 rfl (Nat.le_of_ble_eq_true rfl) (by omega) (by omega) (c_Model_argument hL (by omega)) ?_
          rintro _ _ ⟨rfl, rfl⟩
          rw [ex]
          refine q_callVi (M2 := M_Model_number) d_Model_changed_165 ⟨(Nat.le_of_ble_eq_true rfl), (Nat.le_of_ble_eq_true rfl), w_1244, w_10, ⟨by decide, by decide⟩, show _ = some 1 by decide +kernel⟩ w_1241 w_1243 (ci := 11) rfl s_49 hL.1 rfl (Nat.le_of_ble_eq_true rfl) (by omega) (by omega) (c_Model_number hL h hlen _) ?_
          rintro r h' hr
          refine q_goto (tgt := 183) d_Model_changed_168 rfl ?_
          refine q_iret d_Model_changed_183 rfl (by omega) (by omega) ?_
          exact ⟨_, rfl, hr⟩
        · have hcx : z_x t = p.a := hc
          rw [if_pos hcx]
          refine q_iload d_Model_changed_154 rfl ?_
          refine q_goto (tgt := 165) d_Model_changed_156 rfl ?_
          refine q_callVi (M2 := M_Model_number) d_Model_changed_165 ⟨(Nat.le_of_ble_eq_true rfl), (Nat.le_of_ble_eq_true rfl), w_1244, w_10, ⟨by decide, by decide⟩, show _ = some 1 by decide +kernel⟩ w_1241 w_1243 (ci := 11) rfl s_49 hL.1 rfl (Nat.le_of_ble_eq_true rfl) (by omega) (by omega) (c_Model_number hL h hlen _) ?_
          rintro r h' hr
          refine q_goto (tgt := 183) d_Model_changed_168 rfl ?_
          refine q_iret d_Model_changed_183 rfl (by omega) (by omega) ?_
          exact ⟨_, rfl, hr⟩
      · rw [decide_eq_false h1, show z_mp p t = z_u1 10 t p.a p.b 0 0 by unfold z_mp; rw [if_neg h1]]
        refine q_if_eq (tgt := 171) d_Model_changed_140 rfl (fun hc => ?_) (fun hc => ?_)
        rotate_left
        · exact absurd rfl hc
        refine q_aload_n d_Model_changed_171 rfl rfl ?_
        refine q_bipush (v := nI 10) d_Model_changed_172 (by decide) ?_
        refine q_iload_n d_Model_changed_174 rfl rfl ?_
        refine q_iload_n d_Model_changed_175 rfl rfl ?_
        refine q_iload d_Model_changed_176 rfl ?_
        refine q_iconst (v := nI 0) d_Model_changed_178 (by decide) ?_
        refine q_iconst (v := nI 0) d_Model_changed_179 (by decide) ?_
        refine q_callVi (M2 := M_Model_known) d_Model_changed_180 ⟨(Nat.le_of_ble_eq_true rfl), (Nat.le_of_ble_eq_true rfl), w_1248, w_10, ⟨by decide, by decide⟩, show _ = some 6 by decide +kernel⟩ w_1245 w_1247 (ci := 11) rfl s_50 hL.1 rfl (Nat.le_of_ble_eq_true rfl) (by omega) (by omega) (c_known_u1 hL h hlen (by omega) (by omega) (by omega) ht p.a p.b 0 0) ?_
        rintro r h' hr
        refine q_iret d_Model_changed_183 rfl (by omega) (by omega) ?_
        exact ⟨_, rfl, hr⟩
  · have kc : nI p.kind = nI 8 := by rw [hk]
    have ez : z_ch fw p t = if fw = true then z_so t else t := by unfold z_ch; rw [if_neg (by omega), if_neg (show ¬ p.kind = 7 by omega)]
    rw [ez]
    refine q_iload_n d_Model_changed_0 rfl rfl ?_
    refine q_bipush (v := nI 6) d_Model_changed_1 (by decide) ?_
    refine q_icmp_ne (tgt := 122) d_Model_changed_3 rfl (fun hc => ?_) (fun hc => ?_)
    rotate_left
    · rw [kc] at hc; exact absurd hc (by decide)
    cases fw with
    | false =>
      rw [if_neg (by decide)]
      refine q_iload d_Model_changed_122 rfl ?_
      refine q_if_ne (tgt := 129) d_Model_changed_124 rfl (fun hc => ?_) (fun hc => ?_)
      · exact absurd rfl hc
      refine q_iload_n d_Model_changed_127 rfl rfl ?_
      refine q_iret d_Model_changed_128 rfl (by omega) (by omega) ?_
      exact ⟨_, rfl, m_rt2.old h ht⟩
    | true =>
      rw [if_pos rfl]
      refine q_iload d_Model_changed_122 rfl ?_
      refine q_if_ne (tgt := 129) d_Model_changed_124 rfl (fun hc => ?_) (fun hc => ?_)
      rotate_left
      · exact absurd hc (by decide)
      refine q_iload_n d_Model_changed_129 rfl rfl ?_
      refine q_bipush (v := nI 7) d_Model_changed_130 (by decide) ?_
      refine q_icmp_ne (tgt := 184) d_Model_changed_132 rfl (fun hc => ?_) (fun hc => ?_)
      rotate_left
      · rw [kc] at hc; exact absurd hc (by decide)
      have same : z_k t = 2 ∨ z_k t = 3 ∨ z_k t = 11 → q_V g M_Model_changed 0 0 0 0 (sz, T, I, R, J) (fun o h' => ∃ r : Int32, o = .inl (some (.int r)) ∧ m_rt2 m tb (z_so t) 1 sz T I R J r h') 215 [some (.ref m), some (.int (nI (tb.idxOf t))), some (.int (nI p.kind)), some (.int p.a), some (.int p.b), some (.int (p_b true)), some (.int p.lo), some (.int p.hi), none, none] [] := by
        intro hz
        rw [show z_so t = t by unfold z_so; rw [if_pos hz]]
        refine q_iload_n d_Model_changed_215 rfl rfl ?_
        refine q_goto (tgt := 230) d_Model_changed_216 rfl ?_
        refine q_iret d_Model_changed_230 rfl (by omega) (by omega) ?_
        exact ⟨_, rfl, m_rt2.old h ht⟩
      refine q_aload_n d_Model_changed_184 rfl rfl ?_
      refine q_getR (ci := 11) (fk := 30) d_Model_changed_185 rfl (Nat.le_of_ble_eq_true rfl) w_1134 (fun _ _ => rfl) hL.1 (hL.2 30 _ _ _ rfl).1 ?_
      refine q_iload_n d_Model_changed_188 rfl rfl ?_
      refine q_iald d_Model_changed_189 (hL.2 30 _ _ _ rfl).2 (by first | assumption | exact vp_in_nI (by omega) (by omega)) ?_
      rw [ek]
      refine q_iconst (v := nI 2) d_Model_changed_190 (by decide) ?_
      refine q_icmp_eq (tgt := 215) d_Model_changed_191 rfl (fun hc => ?_) (fun hc => ?_)
      · exact same (Or.inl ((h.ke ht (by omega)).mp hc))
      have h2 : ¬ z_k t = 2 := fun z => hc (by rw [z])
      refine q_aload_n d_Model_changed_194 rfl rfl ?_
      refine q_getR (ci := 11) (fk := 30) d_Model_changed_195 rfl (Nat.le_of_ble_eq_true rfl) w_1134 (fun _ _ => rfl) hL.1 (hL.2 30 _ _ _ rfl).1 ?_
      refine q_iload_n d_Model_changed_198 rfl rfl ?_
      refine q_iald d_Model_changed_199 (hL.2 30 _ _ _ rfl).2 (by first | assumption | exact vp_in_nI (by omega) (by omega)) ?_
      rw [ek]
      refine q_iconst (v := nI 3) d_Model_changed_200 (by decide) ?_
      refine q_icmp_eq (tgt := 215) d_Model_changed_201 rfl (fun hc => ?_) (fun hc => ?_)
      · exact same (Or.inr (Or.inl ((h.ke ht (by omega)).mp hc)))
      have h3 : ¬ z_k t = 3 := fun z => hc (by rw [z])
      refine q_aload_n d_Model_changed_204 rfl rfl ?_
      refine q_getR (ci := 11) (fk := 30) d_Model_changed_205 rfl (Nat.le_of_ble_eq_true rfl) w_1134 (fun _ _ => rfl) hL.1 (hL.2 30 _ _ _ rfl).1 ?_
      refine q_iload_n d_Model_changed_208 rfl rfl ?_
      refine q_iald d_Model_changed_209 (hL.2 30 _ _ _ rfl).2 (by first | assumption | exact vp_in_nI (by omega) (by omega)) ?_
      rw [ek]
      refine q_bipush (v := nI 11) d_Model_changed_210 (by decide) ?_
      refine q_icmp_ne (tgt := 219) d_Model_changed_212 rfl (fun hc => ?_) (fun hc => ?_)
      rotate_left
      · exact same (Or.inr (Or.inr ((h.ke ht (by omega)).mp hc)))
      have h11 : ¬ z_k t = 11 := fun z => hc (by rw [z])
      rw [show z_so t = z_u1 11 t 0 0 0 0 by unfold z_so; rw [if_neg (by omega)]]
      refine q_aload_n d_Model_changed_219 rfl rfl ?_
      refine q_bipush (v := nI 11) d_Model_changed_220 (by decide) ?_
      refine q_iload_n d_Model_changed_222 rfl rfl ?_
      refine q_iconst (v := nI 0) d_Model_changed_223 (by decide) ?_
      refine q_iconst (v := nI 0) d_Model_changed_224 (by decide) ?_
      refine q_iconst (v := nI 0) d_Model_changed_225 (by decide) ?_
      refine q_iconst (v := nI 0) d_Model_changed_226 (by decide) ?_
      refine q_callVi (M2 := M_Model_known) d_Model_changed_227 ⟨(Nat.le_of_ble_eq_true rfl), (Nat.le_of_ble_eq_true rfl), w_1248, w_10, ⟨by decide, by decide⟩, show _ = some 6 by decide +kernel⟩ w_1245 w_1247 (ci := 11) rfl s_50 hL.1 rfl (Nat.le_of_ble_eq_true rfl) (by omega) (by omega) (c_known_u1 hL h hlen (by omega) (by omega) (by omega) ht 0 0 0 0) ?_
      rintro r h' hr
      refine q_iret d_Model_changed_230 rfl (by omega) (by omega) ?_
      exact ⟨_, rfl, hr⟩
end MT2
