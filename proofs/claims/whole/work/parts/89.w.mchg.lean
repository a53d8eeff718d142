/-! translate, by the reference: change -/
section MChg
variable {g : q_G} {sz m : Nat} {T : q_T} {I : q_I} {R : q_R} {J : q_J} {M : List KF} {X : KV}
theorem c_Model_within (v : Int64) (a b : Int32) : q_Cl g M_Model_within [.long v, .int a, .int b] (sz, T, I, R, J) 0 0 (fun r h' => r.toInt = (if v.toInt < a.toInt then a.toInt else if b.toInt < v.toInt then b.toInt else v.toInt) ∧ h' = (sz, T, I, R, J)) := by
  refine q_C.of (ls0 := [some (.long v), none, some (.int a), some (.int b)]) (by decide) rfl (by decide) (Nat.le_of_ble_eq_true rfl) rfl ?_
  refine q_lload_n d_Model_within_0 rfl rfl ?_
  refine q_iload_n d_Model_within_1 rfl rfl ?_
  refine q_i2l d_Model_within_2 rfl ?_
  refine q_lcmp d_Model_within_3 ?_
  refine q_if_ge (tgt := 12) d_Model_within_4 rfl (fun hc => ?_) (fun hc => ?_)
  · have h1 : ¬ v < a.toInt64 := fun z => absurd hc (by have := (lg_cmp_lt _ _).mpr z; exact Int32.not_le.mpr this)
    rw [Int64.lt_iff_toInt_lt, z_i64] at h1
    refine q_lload_n d_Model_within_12 rfl rfl ?_
    refine q_iload_n d_Model_within_13 rfl rfl ?_
    refine q_i2l d_Model_within_14 rfl ?_
    refine q_lcmp d_Model_within_15 ?_
    refine q_if_le (tgt := 24) d_Model_within_16 rfl (fun hc => ?_) (fun hc => ?_)
    · have h2 : ¬ b.toInt64 < v := fun z => absurd hc (by have := (lg_cmp_gt _ _).mpr z; exact Int32.not_le.mpr this)
      rw [Int64.lt_iff_toInt_lt, z_i64] at h2
      refine q_lload_n d_Model_within_24 rfl rfl ?_
      refine q_lret d_Model_within_25 rfl (by omega) (by omega) ?_
      exact ⟨_, rfl, by rw [if_neg h1, if_neg h2], rfl⟩
    · have h2 : b.toInt64 < v := (lg_cmp_gt _ _).mp (Int32.not_le.mp hc)
      rw [Int64.lt_iff_toInt_lt, z_i64] at h2
      refine q_iload_n d_Model_within_19 rfl rfl ?_
      refine q_i2l d_Model_within_20 rfl ?_
      refine q_goto (tgt := 25) d_Model_within_21 rfl ?_
      refine q_lret d_Model_within_25 rfl (by omega) (by omega) ?_
      exact ⟨_, rfl, by rw [if_neg h1, if_pos h2, z_i64], rfl⟩
  · have h1 : v < a.toInt64 := (lg_cmp_lt _ _).mp (Int32.not_le.mp hc)
    rw [Int64.lt_iff_toInt_lt, z_i64] at h1
    refine q_iload_n d_Model_within_7 rfl rfl ?_
    refine q_i2l d_Model_within_8 rfl ?_
    refine q_goto (tgt := 25) d_Model_within_9 rfl ?_
    refine q_lret d_Model_within_25 rfl (by omega) (by omega) ?_
    exact ⟨_, rfl, by rw [if_pos h1, z_i64], rfl⟩
theorem k_rw_set {a b i : Nat} {v : List Int32} {y : Int32} (h : k_rw (I a) b v) (hb : b + 7 ≤ 2 ^ 31) (hi : i < v.length) : k_rw (q_upI I a (nI (b + 1 + i)) y a) b (v.set i y) := by
  obtain ⟨h1, h2, h3⟩ := h
  refine ⟨by rw [List.length_set]; exact h1, by rw [List.length_set, q_upI_nk (by omega)]; exact h2, fun j z hz => ?_⟩
  rw [List.getElem?_set] at hz
  by_cases hij : i = j
  · subst hij
    rw [if_pos rfl, if_pos hi] at hz
    rw [← Option.some.inj hz, q_upI_self]
  · rw [if_neg hij] at hz
    have := (List.getElem?_eq_some_iff.mp hz).1
    rw [q_upI_nk (by omega)]
    exact h3 j z hz
set_option maxHeartbeats 1000000 in
theorem c_Model_plain1 {a b a2 Na : Nat} {p : KP} {fw : Bool} {v : List Int32} (ha : T a = some (0, Na)) (ha2 : T a2 = some (0, 7)) (hNa : Na < 2 ^ 31) (h1 : b + 7 ≤ Na) (hne : a ≠ a2) (hok : p_ok p) (h6 : 6 ≤ p.kind) (h8 : p.kind ≤ 8) (hlh : p.kind = 6 → p.lo ≤ p.hi) (hv : k_rw (I a) b v) (h1l : p.kind ≠ 8 → v.length = 1) : q_Cv g M_Model_plain [.ref a, .int (nI b), .int (nI p.kind), .int p.a, .int p.b, .int (p_b fw), .int p.lo, .int p.hi, .ref a2] (sz, T, I, R, J) 0 0 (fun h' => ∃ I', h' = (sz, T, I', R, J) ∧ (∀ c, c ≠ a2 → I' c = I c) ∧ k_rw (I' a2) 0 (a_ap p fw v)) := by
  refine q_C.of (ls0 := [some (.ref a), some (.int (nI b)), some (.int (nI p.kind)), some (.int p.a), some (.int p.b), some (.int (p_b fw)), some (.int p.lo), some (.int p.hi), some (.ref a2), none, none, none]) (by decide) rfl (by decide) (Nat.le_of_ble_eq_true rfl) rfl ?_
  refine q_aload_n d_Model_plain_0 rfl rfl ?_
  refine q_iload_n d_Model_plain_1 rfl rfl ?_
  refine q_aload d_Model_plain_2 rfl ?_
  refine q_iconst (v := nI 0) d_Model_plain_4 (by decide) ?_
  refine q_callSv (M2 := M_Model_copyRow) d_Model_plain_5 ⟨(Nat.le_of_ble_eq_true rfl), (Nat.le_of_ble_eq_true rfl), w_1321, w_10, ⟨by decide, by decide⟩, show _ = some 4 by decide +kernel⟩ w_1319 w_1320 rfl (Nat.le_of_ble_eq_true rfl) (by omega) (by omega) (c_Model_copyRow (a := a) (a2 := a2) ha ha2 hNa (by omega) h1 (by omega) (Or.inl hne)) ?_
  rintro _ ⟨I1, rfl, cp⟩
  have hv1 := cp.rw hv
  have h6v := hv.1
  have last : ∀ (I2 : q_I) (l9 l10 l11 : Option Value) (mcc msc : Nat), mcc = 0 → msc = 0 → (∀ c, c ≠ a2 → I2 c = I1 c) → k_rw (I2 a2) 0 (a_ap p fw v) → q_V g M_Model_plain 0 0 mcc msc (sz, T, I2, R, J) (fun o h' => o = .inl none ∧ ∃ I', h' = (sz, T, I', R, J) ∧ (∀ c, c ≠ a2 → I' c = I c) ∧ k_rw (I' a2) 0 (a_ap p fw v)) 191 [some (.ref a), some (.int (nI b)), some (.int (nI p.kind)), some (.int p.a), some (.int p.b), some (.int (p_b fw)), some (.int p.lo), some (.int p.hi), some (.ref a2), l9, l10, l11] [] := by
    intro I2 l9 l10 l11 mcc msc m1 m2 e1 e2
    subst m1 m2
    refine q_vret d_Model_plain_191 rfl (by omega) (by omega) ?_
    exact ⟨rfl, I2, rfl, fun c hc => (e1 c hc).trans (cp.1 c hc), e2⟩
  have keep : p.kind = 7 ∧ fw = false ∨ p.kind = 8 ∧ fw = false → a_ap p fw v = v := fun z => by
    unfold a_ap
    rw [if_neg (by omega), if_neg (fun y => by rcases z with z | z; rw [z.2] at y; exact absurd y.2 (by decide); omega), if_neg (fun y => by rcases z with z | z; omega; rw [z.2] at y; exact absurd y.2 (by decide))]
  rcases (by omega : p.kind = 6 ∨ p.kind = 7 ∨ p.kind = 8) with hk | hk | hk
  · obtain ⟨x, hx⟩ : ∃ x, v = [x] := by
      match v, h1l (by omega) with
      | [x], _ => exact ⟨x, rfl⟩
    have hx1 : I1 a (nI (b + 1)) = x := by rw [cp.1 a hne]; exact hv.2.2 0 x (by rw [hx]; rfl)
    have eap : a_ap p fw v = [if fw = true then z_scf p.a p.b x else z_scb p.a p.b p.lo p.hi x] := by
      unfold a_ap; rw [if_pos hk, hx]; rfl
    rw [hx] at hv1
    obtain ⟨⟨a1, a2'⟩, b1, b2⟩ := hok.1 hk
    have one : ∀ y, k_rw (q_upI I1 a2 (nI 1) y a2) 0 [y] := fun y => k_rw_one hv1 (by omega)
    have kc : nI p.kind = nI 6 := by rw [hk]
    refine q_iload_n d_Model_plain_8 rfl rfl ?_
    refine q_bipush (v := nI 6) d_Model_plain_9 (by decide) ?_
    refine q_icmp_ne (tgt := 68) d_Model_plain_11 rfl (fun hc => ?_) (fun hc => ?_)
    · exact absurd kc hc
    refine q_aload_n d_Model_plain_14 rfl rfl ?_
    refine q_iload_n d_Model_plain_15 rfl rfl ?_
    refine q_iconst (v := nI 1) d_Model_plain_16 (by decide) ?_
    first | refine q_iaddN d_Model_plain_17 ?_ | refine q_iadd d_Model_plain_17 ?_
    refine q_iald d_Model_plain_18 (by first | assumption | rfl | (simp (disch := omega) only [q_upT_self, q_upT_ne, q_upR_self, q_upR_nea, q_upR_nk, s_T_lo, s_T_hi, s_R_ne, *]; done) | (simp (disch := omega) only [q_upT_self, q_upT_ne, q_upR_self, q_upR_nea, q_upR_nk, s_T_lo, s_T_hi, s_R_ne, *]; rfl)) (by first | assumption | exact vp_in_nI (by omega) (by omega)) ?_
    rw [hx1]
    cases fw with
    | true =>
      obtain ⟨z1, z2, z3⟩ := z_flrs (x := x) ⟨a1, a2'⟩ b1
      refine q_i2l d_Model_plain_19 rfl ?_
      refine q_lstore d_Model_plain_20 (Nat.le_of_ble_eq_true rfl) (by first | exact q_ok0 | exact q_okI rfl | exact q_okR rfl | exact q_okN rfl) rfl ?_
      refine q_aload d_Model_plain_22 rfl ?_
      refine q_iconst (v := nI 1) d_Model_plain_24 (by decide) ?_
      refine q_iload d_Model_plain_25 rfl ?_
      refine q_if_eq (tgt := 45) d_Model_plain_27 rfl (fun hc => ?_) (fun hc => ?_)
      · exact absurd hc (by decide)
      refine q_iload_n d_Model_plain_30 rfl rfl ?_
      refine q_i2l d_Model_plain_31 rfl ?_
      refine q_lload d_Model_plain_32 rfl ?_
      refine q_lmul d_Model_plain_34 ?_
      refine q_iload d_Model_plain_35 rfl ?_
      refine q_i2l d_Model_plain_37 rfl ?_
      refine q_callSl (M2 := M_Model_floor) d_Model_plain_38 ⟨(Nat.le_of_ble_eq_true rfl), (Nat.le_of_ble_eq_true rfl), w_1344, w_10, ⟨by decide, by decide⟩, show _ = some 2 by decide +kernel⟩ w_1342 w_1343 rfl (Nat.le_of_ble_eq_true rfl) (by omega) (by omega) (c_Model_floor z3) ?_
      rintro _ _ ⟨rfl, rfl⟩
      refine q_l2i d_Model_plain_41 rfl ?_
      rw [z2]
      refine q_goto (tgt := 64) d_Model_plain_42 rfl ?_
      refine q_iast d_Model_plain_64 (by first | assumption | rfl | (simp (disch := omega) only [q_upT_self, q_upT_ne, q_upR_self, q_upR_nea, q_upR_nk, s_T_lo, s_T_hi, s_R_ne, *]; done) | (simp (disch := omega) only [q_upT_self, q_upT_ne, q_upR_self, q_upR_nea, q_upR_nk, s_T_lo, s_T_hi, s_R_ne, *]; rfl)) (by first | assumption | exact vp_in_nI (by omega) (by omega)) ?_
      refine q_goto (tgt := 191) d_Model_plain_65 rfl ?_
      refine last _ _ _ _ _ _ rfl rfl (fun c hc => by funext z; rw [q_upI_nea hc]) ?_
      rw [eap, if_pos rfl]; exact one _
    | false =>
      obtain ⟨z1, z2, z3⟩ := z_flrs (x := x) ⟨b1, b2⟩ a1
      refine q_i2l d_Model_plain_19 rfl ?_
      refine q_lstore d_Model_plain_20 (Nat.le_of_ble_eq_true rfl) (by first | exact q_ok0 | exact q_okI rfl | exact q_okR rfl | exact q_okN rfl) rfl ?_
      refine q_aload d_Model_plain_22 rfl ?_
      refine q_iconst (v := nI 1) d_Model_plain_24 (by decide) ?_
      refine q_iload d_Model_plain_25 rfl ?_
      refine q_if_eq (tgt := 45) d_Model_plain_27 rfl (fun hc => ?_) (fun hc => ?_)
      rotate_left
      · exact absurd rfl hc
      refine q_iload d_Model_plain_45 rfl ?_
      refine q_i2l d_Model_plain_47 rfl ?_
      refine q_lload d_Model_plain_48 rfl ?_
      refine q_lmul d_Model_plain_50 ?_
      refine q_iload_n d_Model_plain_51 rfl rfl ?_
      refine q_i2l d_Model_plain_52 rfl ?_
      refine q_callSl (M2 := M_Model_floor) d_Model_plain_53 ⟨(Nat.le_of_ble_eq_true rfl), (Nat.le_of_ble_eq_true rfl), w_1344, w_10, ⟨by decide, by decide⟩, show _ = some 2 by decide +kernel⟩ w_1342 w_1343 rfl (Nat.le_of_ble_eq_true rfl) (by omega) (by omega) (c_Model_floor z3) ?_
      rintro _ _ ⟨rfl, rfl⟩
      refine q_iload d_Model_plain_56 rfl ?_
      refine q_iload d_Model_plain_58 rfl ?_
      refine q_callSl (M2 := M_Model_within) d_Model_plain_60 ⟨(Nat.le_of_ble_eq_true rfl), (Nat.le_of_ble_eq_true rfl), w_1366, w_10, ⟨by decide, by decide⟩, show _ = some 3 by decide +kernel⟩ w_1364 w_1365 rfl (Nat.le_of_ble_eq_true rfl) (by omega) (by omega) (c_Model_within _ _ _) ?_
      rintro w _ ⟨hw, rfl⟩
      have ew : w.toInt32 = z_scb p.a p.b p.lo p.hi x := by
        rw [z_l2i, hw, z1]
        unfold z_scb
        have hle := Int32.le_iff_toInt_le.mp (hlh hk)
        congr 1
        generalize p.b.toInt * x.toInt / p.a.toInt = t
        omega
      refine q_l2i d_Model_plain_63 rfl ?_
      rw [ew]
      refine q_iast d_Model_plain_64 (by first | assumption | rfl | (simp (disch := omega) only [q_upT_self, q_upT_ne, q_upR_self, q_upR_nea, q_upR_nk, s_T_lo, s_T_hi, s_R_ne, *]; done) | (simp (disch := omega) only [q_upT_self, q_upT_ne, q_upR_self, q_upR_nea, q_upR_nk, s_T_lo, s_T_hi, s_R_ne, *]; rfl)) (by first | assumption | exact vp_in_nI (by omega) (by omega)) ?_
      refine q_goto (tgt := 191) d_Model_plain_65 rfl ?_
      refine last _ _ _ _ _ _ rfl rfl (fun c hc => by funext z; rw [q_upI_nea hc]) ?_
      rw [eap, if_neg (by decide)]; exact one _
  · obtain ⟨x, hx⟩ : ∃ x, v = [x] := by
      match v, h1l (by omega) with
      | [x], _ => exact ⟨x, rfl⟩
    have kc : nI p.kind = nI 7 := by rw [hk]
    refine q_iload_n d_Model_plain_8 rfl rfl ?_
    refine q_bipush (v := nI 6) d_Model_plain_9 (by decide) ?_
    refine q_icmp_ne (tgt := 68) d_Model_plain_11 rfl (fun hc => ?_) (fun hc => ?_)
    rotate_left
    · rw [kc] at hc; exact absurd hc (by decide)
    refine q_iload_n d_Model_plain_68 rfl rfl ?_
    refine q_bipush (v := nI 7) d_Model_plain_69 (by decide) ?_
    refine q_icmp_ne (tgt := 103) d_Model_plain_71 rfl (fun hc => ?_) (fun hc => ?_)
    · exact absurd kc hc
    cases fw with
    | false =>
      refine q_iload d_Model_plain_74 rfl ?_
      refine q_if_eq (tgt := 103) d_Model_plain_76 rfl (fun hc => ?_) (fun hc => ?_)
      rotate_left
      · exact absurd rfl hc
      refine q_iload_n d_Model_plain_103 rfl rfl ?_
      refine q_bipush (v := nI 8) d_Model_plain_104 (by decide) ?_
      refine q_icmp_ne (tgt := 191) d_Model_plain_106 rfl (fun hc => ?_) (fun hc => ?_)
      rotate_left
      · rw [kc] at hc; exact absurd hc (by decide)
      exact last _ _ _ _ _ _ rfl rfl (fun _ _ => rfl) (by rw [keep (Or.inl ⟨hk, rfl⟩)]; exact hv1)
    | true =>
      have eap : a_ap p true v = [if x = p.a then p.b else x] := by
        unfold a_ap; rw [if_neg (by omega), if_pos ⟨hk, rfl⟩, hx]; rfl
      rw [hx] at hv1
      have one : ∀ y, k_rw (q_upI I1 a2 (nI 1) y a2) 0 [y] := fun y => k_rw_one hv1 (by omega)
      have hx1 : I1 a2 (nI 1) = x := hv1.2.2 0 x rfl
      refine q_iload d_Model_plain_74 rfl ?_
      refine q_if_eq (tgt := 103) d_Model_plain_76 rfl (fun hc => ?_) (fun hc => ?_)
      · exact absurd hc (by decide)
      refine q_aload d_Model_plain_79 rfl ?_
      refine q_iconst (v := nI 1) d_Model_plain_81 (by decide) ?_
      refine q_aload d_Model_plain_82 rfl ?_
      refine q_iconst (v := nI 1) d_Model_plain_84 (by decide) ?_
      refine q_iald d_Model_plain_85 (by first | assumption | rfl | (simp (disch := omega) only [q_upT_self, q_upT_ne, q_upR_self, q_upR_nea, q_upR_nk, s_T_lo, s_T_hi, s_R_ne, *]; done) | (simp (disch := omega) only [q_upT_self, q_upT_ne, q_upR_self, q_upR_nea, q_upR_nk, s_T_lo, s_T_hi, s_R_ne, *]; rfl)) (by first | assumption | exact vp_in_nI (by omega) (by omega)) ?_
      rw [hx1]
      refine q_iload_n d_Model_plain_86 rfl rfl ?_
      refine q_icmp_ne (tgt := 95) d_Model_plain_87 rfl (fun hc => ?_) (fun hc => ?_)
      · have hcx := hc
        refine q_aload d_Model_plain_95 rfl ?_
        refine q_iconst (v := nI 1) d_Model_plain_97 (by decide) ?_
        refine q_iald d_Model_plain_98 (by first | assumption | rfl | (simp (disch := omega) only [q_upT_self, q_upT_ne, q_upR_self, q_upR_nea, q_upR_nk, s_T_lo, s_T_hi, s_R_ne, *]; done) | (simp (disch := omega) only [q_upT_self, q_upT_ne, q_upR_self, q_upR_nea, q_upR_nk, s_T_lo, s_T_hi, s_R_ne, *]; rfl)) (by first | assumption | exact vp_in_nI (by omega) (by omega)) ?_
        rw [hx1]
        refine q_iast d_Model_plain_99 (by first | assumption | rfl | (simp (disch := omega) only [q_upT_self, q_upT_ne, q_upR_self, q_upR_nea, q_upR_nk, s_T_lo, s_T_hi, s_R_ne, *]; done) | (simp (disch := omega) only [q_upT_self, q_upT_ne, q_upR_self, q_upR_nea, q_upR_nk, s_T_lo, s_T_hi, s_R_ne, *]; rfl)) (by first | assumption | exact vp_in_nI (by omega) (by omega)) ?_
        refine q_goto (tgt := 191) d_Model_plain_100 rfl ?_
        refine last _ _ _ _ _ _ rfl rfl (fun c hc => by funext z; rw [q_upI_nea hc]) ?_
        rw [eap, if_neg hcx]; exact one _
      · have hcx := hc
        refine q_iload d_Model_plain_90 rfl ?_
        refine q_goto (tgt := 99) d_Model_plain_92 rfl ?_
        refine q_iast d_Model_plain_99 (by first | assumption | rfl | (simp (disch := omega) only [q_upT_self, q_upT_ne, q_upR_self, q_upR_nea, q_upR_nk, s_T_lo, s_T_hi, s_R_ne, *]; done) | (simp (disch := omega) only [q_upT_self, q_upT_ne, q_upR_self, q_upR_nea, q_upR_nk, s_T_lo, s_T_hi, s_R_ne, *]; rfl)) (by first | assumption | exact vp_in_nI (by omega) (by omega)) ?_
        refine q_goto (tgt := 191) d_Model_plain_100 rfl ?_
        refine last _ _ _ _ _ _ rfl rfl (fun c hc => by funext z; rw [q_upI_nea hc]) ?_
        rw [eap, if_pos hcx]; exact one _
  · have kc : nI p.kind = nI 8 := by rw [hk]
    refine q_iload_n d_Model_plain_8 rfl rfl ?_
    refine q_bipush (v := nI 6) d_Model_plain_9 (by decide) ?_
    refine q_icmp_ne (tgt := 68) d_Model_plain_11 rfl (fun hc => ?_) (fun hc => ?_)
    rotate_left
    · rw [kc] at hc; exact absurd hc (by decide)
    refine q_iload_n d_Model_plain_68 rfl rfl ?_
    refine q_bipush (v := nI 7) d_Model_plain_69 (by decide) ?_
    refine q_icmp_ne (tgt := 103) d_Model_plain_71 rfl (fun hc => ?_) (fun hc => ?_)
    rotate_left
    · rw [kc] at hc; exact absurd hc (by decide)
    refine q_iload_n d_Model_plain_103 rfl rfl ?_
    refine q_bipush (v := nI 8) d_Model_plain_104 (by decide) ?_
    refine q_icmp_ne (tgt := 191) d_Model_plain_106 rfl (fun hc => ?_) (fun hc => ?_)
    · exact absurd kc hc
    cases fw with
    | false =>
      refine q_iload d_Model_plain_109 rfl ?_
      refine q_if_eq (tgt := 191) d_Model_plain_111 rfl (fun hc => ?_) (fun hc => ?_)
      rotate_left
      · exact absurd rfl hc
      exact last _ _ _ _ _ _ rfl rfl (fun _ _ => rfl) (by rw [keep (Or.inr ⟨hk, rfl⟩)]; exact hv1)
    | true =>
      have eap : a_ap p true v = k_sort v := by
        unfold a_ap; rw [if_neg (by omega), if_neg (by omega), if_pos ⟨hk, rfl⟩]
      rw [eap] at last ⊢
      have outer : ∀ (j n : Nat) (L : List Int32) (I2 : q_I) (l10 l11 : Option Value) (mcc msc : Nat), mcc = 0 → msc = 0 → (n + j = v.length ∧ 1 ≤ n ∨ v.length ≤ n ∧ j = 0) → S1 v L n → n < 20 → (∀ c, c ≠ a2 → I2 c = I1 c) → k_rw (I2 a2) 0 L → q_V g M_Model_plain 0 0 mcc msc (sz, T, I2, R, J) (fun o h' => o = .inl none ∧ ∃ I', h' = (sz, T, I', R, J) ∧ (∀ c, c ≠ a2 → I' c = I c) ∧ k_rw (I' a2) 0 (k_sort v)) 117 [some (.ref a), some (.int (nI b)), some (.int (nI p.kind)), some (.int p.a), some (.int p.b), some (.int (p_b true)), some (.int p.lo), some (.int p.hi), some (.ref a2), some (.int (nI (n + 1))), l10, l11] [] := by
        intro j
        induction j with
        | zero =>
          intro n L I2 l10 l11 mcc msc m1 m2 hn hS hn20 e1 e2
          subst m1 m2
          have hlen := hS.1.length_eq
          refine q_iload d_Model_plain_117 rfl ?_
          refine q_aload d_Model_plain_119 rfl ?_
          refine q_iconst (v := nI 0) d_Model_plain_121 (by decide) ?_
          refine q_iald d_Model_plain_122 (by first | assumption | rfl | (simp (disch := omega) only [q_upT_self, q_upT_ne, q_upR_self, q_upR_nea, q_upR_nk, s_T_lo, s_T_hi, s_R_ne, *]; done) | (simp (disch := omega) only [q_upT_self, q_upT_ne, q_upR_self, q_upR_nea, q_upR_nk, s_T_lo, s_T_hi, s_R_ne, *]; rfl)) (by first | assumption | exact vp_in_nI (by omega) (by omega)) ?_
          rw [show I2 a2 (nI 0) = nI L.length from e2.2.1]
          refine q_icmp_gt (tgt := 191) d_Model_plain_123 rfl (fun hc => ?_) (fun hc => ?_)
          · refine last I2 _ _ _ _ _ rfl rfl e1 ?_
            have : L = k_sort v := kst_D ⟨hS.1, fun i j y z a b => hS.2 i j y z a (by omega)⟩
            rw [← this]; exact e2
          · exact absurd (by rw [Int32.lt_iff_toInt_lt, nI_toInt (by omega), nI_toInt (by omega)]; omega) hc
        | succ j ih =>
          intro n L I2 l10 l11 mcc msc m1 m2 hn hS hn20 e1 e2
          subst m1 m2
          have hlen := hS.1.length_eq
          have inner : ∀ (c : Nat) (L1 : List Int32) (I3 : q_I) (l11 : Option Value) (mcc msc : Nat), mcc = 0 → msc = 0 → c ≤ n → P1 v L1 c n → (∀ c, c ≠ a2 → I3 c = I1 c) → k_rw (I3 a2) 0 L1 → q_V g M_Model_plain 0 0 mcc msc (sz, T, I3, R, J) (fun o h' => o = .inl none ∧ ∃ I', h' = (sz, T, I', R, J) ∧ (∀ c, c ≠ a2 → I' c = I c) ∧ k_rw (I' a2) 0 (k_sort v)) 130 [some (.ref a), some (.int (nI b)), some (.int (nI p.kind)), some (.int p.a), some (.int p.b), some (.int (p_b true)), some (.int p.lo), some (.int p.hi), some (.ref a2), some (.int (nI (n + 1))), some (.int (nI (c + 1))), l11] [] := by
            intro c
            induction c with
            | zero =>
              intro L1 I3 l11 mcc msc m1 m2 hcn hP o1 o2
              subst m1 m2
              refine q_iload d_Model_plain_130 rfl ?_
              refine q_iconst (v := nI 1) d_Model_plain_132 (by decide) ?_
              refine q_icmp_le (tgt := 185) d_Model_plain_133 rfl (fun hc => ?_) (fun hc => ?_)
              rotate_left
              · exact absurd (by decide) hc
              first | refine q_iincN d_Model_plain_185 rfl (Nat.le_of_ble_eq_true rfl) (by first | exact q_ok0 | exact q_okI rfl | exact q_okR rfl | exact q_okN rfl) rfl ?_ | refine q_iinc d_Model_plain_185 rfl rfl (Nat.le_of_ble_eq_true rfl) (by first | exact q_ok0 | exact q_okI rfl | exact q_okR rfl | exact q_okN rfl) rfl ?_
              refine q_goto (tgt := 117) d_Model_plain_188 rfl ?_
              exact ih (n + 1) L1 I3 _ _ _ _ rfl rfl (by omega) (kst_B hP (Or.inl rfl)) (by omega) o1 o2
            | succ c ih2 =>
              intro L1 I3 l11 mcc msc m1 m2 hcn hP o1 o2
              subst m1 m2
              have hlen1 := hP.1.length_eq
              obtain ⟨x, hx⟩ : ∃ x, L1[c + 1]? = some x := ⟨_, List.getElem?_eq_getElem (by omega)⟩
              obtain ⟨y, hy⟩ : ∃ y, L1[c]? = some y := ⟨_, List.getElem?_eq_getElem (by omega)⟩
              have rx : I3 a2 (nI (c + 1 + 1)) = x := by
                have := o2.2.2 (c + 1) x hx
                rw [show 0 + 1 + (c + 1) = c + 1 + 1 by omega] at this
                exact this
              have ry : I3 a2 (nI (c + 1)) = y := by
                have := o2.2.2 c y hy
                rw [show 0 + 1 + c = c + 1 by omega] at this
                exact this
              refine q_iload d_Model_plain_130 rfl ?_
              refine q_iconst (v := nI 1) d_Model_plain_132 (by decide) ?_
              refine q_icmp_le (tgt := 185) d_Model_plain_133 rfl (fun hc => ?_) (fun hc => ?_)
              · rw [nI_leI (by omega) (by omega)] at hc
                omega
              refine q_aload d_Model_plain_136 rfl ?_
              refine q_iload d_Model_plain_138 rfl ?_
              refine q_iald d_Model_plain_140 (by first | assumption | rfl | (simp (disch := omega) only [q_upT_self, q_upT_ne, q_upR_self, q_upR_nea, q_upR_nk, s_T_lo, s_T_hi, s_R_ne, *]; done) | (simp (disch := omega) only [q_upT_self, q_upT_ne, q_upR_self, q_upR_nea, q_upR_nk, s_T_lo, s_T_hi, s_R_ne, *]; rfl)) (by first | assumption | exact vp_in_nI (by omega) (by omega)) ?_
              rw [rx]
              refine q_aload d_Model_plain_141 rfl ?_
              refine q_iload d_Model_plain_143 rfl ?_
              refine q_iconst (v := nI 1) d_Model_plain_145 (by decide) ?_
              refine q_isub d_Model_plain_146 ?_
              rw [nI_sb (c + 1) 1]
              refine q_iald d_Model_plain_147 (by first | assumption | rfl | (simp (disch := omega) only [q_upT_self, q_upT_ne, q_upR_self, q_upR_nea, q_upR_nk, s_T_lo, s_T_hi, s_R_ne, *]; done) | (simp (disch := omega) only [q_upT_self, q_upT_ne, q_upR_self, q_upR_nea, q_upR_nk, s_T_lo, s_T_hi, s_R_ne, *]; rfl)) (by first | assumption | exact vp_in_nI (by omega) (by omega)) ?_
              rw [ry]
              refine q_icmp_ge (tgt := 185) d_Model_plain_148 rfl (fun hc => ?_) (fun hc => ?_)
              · first | refine q_iincN d_Model_plain_185 rfl (Nat.le_of_ble_eq_true rfl) (by first | exact q_ok0 | exact q_okI rfl | exact q_okR rfl | exact q_okN rfl) rfl ?_ | refine q_iinc d_Model_plain_185 rfl rfl (Nat.le_of_ble_eq_true rfl) (by first | exact q_ok0 | exact q_okI rfl | exact q_okR rfl | exact q_okN rfl) rfl ?_
                refine q_goto (tgt := 117) d_Model_plain_188 rfl ?_
                exact ih (n + 1) L1 I3 _ _ _ _ rfl rfl (by omega) (kst_B hP (Or.inr ⟨y, x, hy, hx, hc⟩)) (by omega) o1 o2
              · have hlt : x < y := Int32.not_le.mp hc
                refine q_aload d_Model_plain_151 rfl ?_
                refine q_iload d_Model_plain_153 rfl ?_
                refine q_iald d_Model_plain_155 (by first | assumption | rfl | (simp (disch := omega) only [q_upT_self, q_upT_ne, q_upR_self, q_upR_nea, q_upR_nk, s_T_lo, s_T_hi, s_R_ne, *]; done) | (simp (disch := omega) only [q_upT_self, q_upT_ne, q_upR_self, q_upR_nea, q_upR_nk, s_T_lo, s_T_hi, s_R_ne, *]; rfl)) (by first | assumption | exact vp_in_nI (by omega) (by omega)) ?_
                rw [rx]
                refine q_istore d_Model_plain_156 (Nat.le_of_ble_eq_true rfl) (by first | exact q_ok0 | exact q_okI rfl | exact q_okR rfl | exact q_okN rfl) rfl ?_
                refine q_aload d_Model_plain_158 rfl ?_
                refine q_iload d_Model_plain_160 rfl ?_
                refine q_aload d_Model_plain_162 rfl ?_
                refine q_iload d_Model_plain_164 rfl ?_
                refine q_iconst (v := nI 1) d_Model_plain_166 (by decide) ?_
                refine q_isub d_Model_plain_167 ?_
                rw [nI_sb (c + 1) 1]
                refine q_iald d_Model_plain_168 (by first | assumption | rfl | (simp (disch := omega) only [q_upT_self, q_upT_ne, q_upR_self, q_upR_nea, q_upR_nk, s_T_lo, s_T_hi, s_R_ne, *]; done) | (simp (disch := omega) only [q_upT_self, q_upT_ne, q_upR_self, q_upR_nea, q_upR_nk, s_T_lo, s_T_hi, s_R_ne, *]; rfl)) (by first | assumption | exact vp_in_nI (by omega) (by omega)) ?_
                rw [ry]
                refine q_iast d_Model_plain_169 (by first | assumption | rfl | (simp (disch := omega) only [q_upT_self, q_upT_ne, q_upR_self, q_upR_nea, q_upR_nk, s_T_lo, s_T_hi, s_R_ne, *]; done) | (simp (disch := omega) only [q_upT_self, q_upT_ne, q_upR_self, q_upR_nea, q_upR_nk, s_T_lo, s_T_hi, s_R_ne, *]; rfl)) (by first | assumption | exact vp_in_nI (by omega) (by omega)) ?_
                refine q_aload d_Model_plain_170 rfl ?_
                refine q_iload d_Model_plain_172 rfl ?_
                refine q_iconst (v := nI 1) d_Model_plain_174 (by decide) ?_
                refine q_isub d_Model_plain_175 ?_
                rw [nI_sb (c + 1) 1]
                refine q_iload d_Model_plain_176 rfl ?_
                refine q_iast d_Model_plain_178 (by first | assumption | rfl | (simp (disch := omega) only [q_upT_self, q_upT_ne, q_upR_self, q_upR_nea, q_upR_nk, s_T_lo, s_T_hi, s_R_ne, *]; done) | (simp (disch := omega) only [q_upT_self, q_upT_ne, q_upR_self, q_upR_nea, q_upR_nk, s_T_lo, s_T_hi, s_R_ne, *]; rfl)) (by first | assumption | exact vp_in_nI (by omega) (by omega)) ?_
                refine q_iinc (v := nI (c + 1)) d_Model_plain_179 rfl (by rw [show Int32.ofInt (-1) = -1 by decide]; exact pk_m1 (c + 1)) (Nat.le_of_ble_eq_true rfl) (by first | exact q_ok0 | exact q_okI rfl) rfl ?_
                refine q_goto (tgt := 130) d_Model_plain_182 rfl ?_
                refine ih2 ((L1.set (c + 1) y).set c x) _ _ _ _ rfl rfl (by omega) (kst_A hP hcn hx hy hlt) (fun d hd => ?_) ?_
                · funext z; rw [q_upI_nea hd, q_upI_nea hd, o1 d hd]
                · have q1 := k_rw_set (y := y) o2 (by omega) (i := c + 1) (by omega)
                  have q2 := k_rw_set (y := x) q1 (by omega) (i := c) (by rw [List.length_set]; omega)
                  rw [show 0 + 1 + (c + 1) = c + 1 + 1 by omega, show 0 + 1 + c = c + 1 by omega] at q2
                  exact q2
          refine q_iload d_Model_plain_117 rfl ?_
          refine q_aload d_Model_plain_119 rfl ?_
          refine q_iconst (v := nI 0) d_Model_plain_121 (by decide) ?_
          refine q_iald d_Model_plain_122 (by first | assumption | rfl | (simp (disch := omega) only [q_upT_self, q_upT_ne, q_upR_self, q_upR_nea, q_upR_nk, s_T_lo, s_T_hi, s_R_ne, *]; done) | (simp (disch := omega) only [q_upT_self, q_upT_ne, q_upR_self, q_upR_nea, q_upR_nk, s_T_lo, s_T_hi, s_R_ne, *]; rfl)) (by first | assumption | exact vp_in_nI (by omega) (by omega)) ?_
          rw [show I2 a2 (nI 0) = nI L.length from e2.2.1]
          refine q_icmp_gt (tgt := 191) d_Model_plain_123 rfl (fun hc => ?_) (fun hc => ?_)
          · rw [Int32.lt_iff_toInt_lt, nI_toInt (by omega), nI_toInt (by omega)] at hc
            omega
          refine q_iload d_Model_plain_126 rfl ?_
          refine q_istore d_Model_plain_128 (Nat.le_of_ble_eq_true rfl) (by first | exact q_ok0 | exact q_okI rfl | exact q_okR rfl | exact q_okN rfl) rfl ?_
          exact inner n L I2 _ _ _ rfl rfl (Nat.le_refl _) (kst_C hS) e1 e2
      refine q_iload d_Model_plain_109 rfl ?_
      refine q_if_eq (tgt := 191) d_Model_plain_111 rfl (fun hc => ?_) (fun hc => ?_)
      · exact absurd hc (by decide)
      refine q_iconst (v := nI 2) d_Model_plain_114 (by decide) ?_
      refine q_istore d_Model_plain_115 (Nat.le_of_ble_eq_true rfl) (by first | exact q_ok0 | exact q_okI rfl | exact q_okR rfl | exact q_okN rfl) rfl ?_
      exact outer (v.length - 1) 1 v I1 _ _ _ _ rfl rfl (by omega) ⟨List.Perm.refl _, fun i j y z a b => by omega⟩ (by omega) (fun _ _ => rfl) hv1
theorem m_x.cong {I' : q_I} (h : m_x m M X I) (ho : ∀ b, b ≠ m + 28 → b ≠ m + 29 → I' b = I b) : m_x m M X I' := by
  obtain ⟨x1, x2, x3, x4, x5⟩ := h
  exact ⟨x1.cong (by rw [ho m (by omega) (by omega)]) (fun j j1 j2 => ho _ (by omega) (by omega)), x2.cong (ho _ (by omega) (by omega)), x3.cong (ho _ (by omega) (by omega)) (ho _ (by omega) (by omega)), by rw [ho m (by omega) (by omega)]; exact x4, by rw [ho m (by omega) (by omega)]; exact x5⟩
set_option maxHeartbeats 1000000 in
theorem c_Model_change1 {k s q : Nat} {f : KF} {p : KP} {fw : Bool} (hL : q_L 11 t_Model m T R) (h : m_x m M X I) (hn : k_nds M) (hf : M[k]? = some f) (hfs : f.2.2.2.2 = p.sl) (hp : k_mp m q p I) (hq : q + 7 < 1088) (hs : s < 128) (hok : p_ok p) (h6 : 6 ≤ p.kind) (h8 : p.kind ≤ 8) (hlh : p.kind = 6 → p.lo ≤ p.hi) (h1l : p.kind ≠ 8 → (X.1 p.sl).length = 1) (hK : (X.2.1 s).1 = 0 ∨ (X.2.1 s).1 = 2 ∨ (X.2.1 s).1 = 3) : q_Cv g M_Model_change [.ref m, .int (nI k), .int (nI p.kind), .int p.a, .int p.b, .int (p_b fw), .int (nI s), .int (nI q)] (sz, T, I, R, J) 0 0 (fun h' => ∃ I' : q_I, h' = (sz, T, I', R, J) ∧ (∀ b, b ≠ m + 18 → b ≠ m + 20 → b ≠ m + 21 → b ≠ m + 28 → b ≠ m + 29 → I' b = I b) ∧ m_x m M (t_chg fw p s X) I') := by
  have hkl := (List.getElem?_eq_some_iff.mp hf).1
  have h26 := h.1.2.1
  obtain ⟨p0, p1, p2, p3, p5, p6, p7⟩ := hp
  have t18 : T (m + 18) = some (0, 182) := (hL.2 23 _ _ _ rfl).2
  have t21 : T (m + 21) = some (0, 1792) := (hL.2 26 _ _ _ rfl).2
  have t28 : T (m + 28) = some (0, 7) := (hL.2 37 _ _ _ rfl).2
  have t29 : T (m + 29) = some (0, 7) := (hL.2 38 _ _ _ rfl).2
  have hr : k_rw (I (m + 18)) (7 * k) (X.1 p.sl) := by rw [← hfs]; exact h.2.1 k f hf
  obtain ⟨c1, c2, c3⟩ := h.2.2.1 s hs
  obtain ⟨cur, hcur⟩ : ∃ cur, cur = X.1 p.sl := ⟨_, rfl⟩
  obtain ⟨mk, hmk⟩ : ∃ mk, mk = a_ap p fw cur := ⟨_, rfl⟩
  obtain ⟨ag, hag⟩ : ∃ ag, ag = a_ap p (!fw) mk := ⟨_, rfl⟩
  rw [← hcur] at hr h1l
  obtain ⟨Q, hQ⟩ : ∃ Q : q_O → q_H → Prop, Q = (fun o h' => o = .inl none ∧ ∃ I' : q_I, h' = (sz, T, I', R, J) ∧ (∀ b, b ≠ m + 18 → b ≠ m + 20 → b ≠ m + 21 → b ≠ m + 28 → b ≠ m + 29 → I' b = I b) ∧ m_x m M (t_chg fw p s X) I') := ⟨_, rfl⟩
  refine q_C.of (ls0 := [some (.ref m), some (.int (nI k)), some (.int (nI p.kind)), some (.int p.a), some (.int p.b), some (.int (p_b fw)), some (.int (nI s)), some (.int (nI q)), none, none]) (by decide) rfl (by decide) (Nat.le_of_ble_eq_true rfl) rfl ?_
  rw [← hQ]
  refine q_aload_n d_Model_change_0 rfl rfl ?_
  refine q_getI (ci := 11) (fk := 27) d_Model_change_1 rfl (Nat.le_of_ble_eq_true rfl) w_1131 (fun _ _ => rfl) hL.1 ?_
  rw [h.2.2.2.1]
  refine q_iconst (v := nI 2) d_Model_change_4 (by decide) ?_
  refine q_icmp_ne (tgt := 50) d_Model_change_5 rfl (fun hc => ?_) (fun hc => ?_)
  rotate_left
  · exact absurd hc (by decide)
  refine q_aload_n d_Model_change_50 rfl rfl ?_
  refine q_getI (ci := 11) (fk := 27) d_Model_change_51 rfl (Nat.le_of_ble_eq_true rfl) w_1131 (fun _ _ => rfl) hL.1 ?_
  rw [h.2.2.2.1]
  refine q_iconst (v := nI 1) d_Model_change_54 (by decide) ?_
  refine q_icmp_eq (tgt := 59) d_Model_change_55 rfl (fun hc => ?_) (fun hc => ?_)
  rotate_left
  · exact absurd rfl hc
  refine q_aload_n d_Model_change_59 rfl rfl ?_
  refine q_getR (ci := 11) (fk := 25) d_Model_change_60 rfl (Nat.le_of_ble_eq_true rfl) w_1129 (fun _ _ => rfl) hL.1 (hL.2 25 _ _ _ rfl).1 ?_
  refine q_iload d_Model_change_63 rfl ?_
  refine q_iald d_Model_change_65 (hL.2 25 _ _ _ rfl).2 (by first | assumption | exact vp_in_nI (by omega) (by omega)) ?_
  rw [c1]
  refine q_istore d_Model_change_66 (Nat.le_of_ble_eq_true rfl) (by first | exact q_ok0 | exact q_okI rfl | exact q_okR rfl | exact q_okN rfl) rfl ?_
  refine q_bipush (v := nI 14) d_Model_change_68 (by decide) ?_
  refine q_iload d_Model_change_70 rfl ?_
  first | refine q_imulN d_Model_change_72 ?_ | refine q_imul d_Model_change_72 ?_
  refine q_istore d_Model_change_73 (Nat.le_of_ble_eq_true rfl) (by first | exact q_ok0 | exact q_okI rfl | exact q_okR rfl | exact q_okN rfl) rfl ?_
  refine q_aload_n d_Model_change_75 rfl rfl ?_
  refine q_getR (ci := 11) (fk := 25) d_Model_change_76 rfl (Nat.le_of_ble_eq_true rfl) w_1129 (fun _ _ => rfl) hL.1 (hL.2 25 _ _ _ rfl).1 ?_
  refine q_iload d_Model_change_79 rfl ?_
  refine q_iconst (v := nI 0) d_Model_change_81 (by decide) ?_
  refine q_iast d_Model_change_82 (hL.2 25 _ _ _ rfl).2 (by first | assumption | exact vp_in_nI (by omega) (by omega)) ?_
  have y := h.kz hs
  obtain ⟨I1, hI1⟩ : ∃ I1, I1 = q_upI I (m + 20) (nI s) (nI 0) := ⟨_, rfl⟩
  rw [← hI1] at y ⊢
  have o1 : ∀ b, b ≠ m + 20 → I1 b = I b := fun b hb => by rw [hI1]; funext z; rw [q_upI_nea hb]
  have hr1 : k_rw (I1 (m + 18)) (7 * k) cur := by rw [o1 _ (by omega)]; exact hr
  have q6 : I1 (m + 9) (nI (q + 6)) = p.lo := by rw [o1 _ (by omega)]; exact p6
  have q7 : I1 (m + 9) (nI (q + 7)) = p.hi := by rw [o1 _ (by omega)]; exact p7
  have rest : ∀ (mcc msc : Nat), mcc = 0 → msc = 0 → ¬ ((X.2.1 s).1 = (if fw = true then 3 else 2) ∧ cur = (X.2.1 s).2.2) → q_V g M_Model_change 0 0 mcc msc (sz, T, I1, R, J) Q 139 [some (.ref m), some (.int (nI k)), some (.int (nI p.kind)), some (.int p.a), some (.int p.b), some (.int (p_b fw)), some (.int (nI s)), some (.int (nI q)), some (.int (nI (X.2.1 s).1)), some (.int (nI (14 * s)))] [] := by
    intro mcc msc m1 m2 hcond
    subst m1 m2
    have et : t_chg fw p s X = (k_ud X.1 p.sl mk, k_ud X.2.1 s (if ag = cur then k_n0 else (if fw = true then 2 else 3, cur, mk)), X.2.2) := by
      unfold t_chg
      rw [← hcur, if_neg hcond, ← hmk, ← hag]
    refine q_aload_n d_Model_change_139 rfl rfl ?_
    refine q_getR (ci := 11) (fk := 23) d_Model_change_140 rfl (Nat.le_of_ble_eq_true rfl) w_1127 (fun _ _ => rfl) hL.1 (hL.2 23 _ _ _ rfl).1 ?_
    refine q_bipush (v := nI 7) d_Model_change_143 (by decide) ?_
    refine q_iload_n d_Model_change_145 rfl rfl ?_
    first | refine q_imulN d_Model_change_146 ?_ | refine q_imul d_Model_change_146 ?_
    refine q_iload_n d_Model_change_147 rfl rfl ?_
    refine q_iload_n d_Model_change_148 rfl rfl ?_
    refine q_iload d_Model_change_149 rfl ?_
    refine q_iload d_Model_change_151 rfl ?_
    refine q_aload_n d_Model_change_153 rfl rfl ?_
    refine q_getR (ci := 11) (fk := 12) d_Model_change_154 rfl (Nat.le_of_ble_eq_true rfl) w_1116 (fun _ _ => rfl) hL.1 (hL.2 12 _ _ _ rfl).1 ?_
    refine q_iload d_Model_change_157 rfl ?_
    refine q_bipush (v := nI 6) d_Model_change_159 (by decide) ?_
    first | refine q_iaddN d_Model_change_161 ?_ | refine q_iadd d_Model_change_161 ?_
    refine q_iald d_Model_change_162 (hL.2 12 _ _ _ rfl).2 (by first | assumption | exact vp_in_nI (by omega) (by omega)) ?_
    rw [q6]
    refine q_aload_n d_Model_change_163 rfl rfl ?_
    refine q_getR (ci := 11) (fk := 12) d_Model_change_164 rfl (Nat.le_of_ble_eq_true rfl) w_1116 (fun _ _ => rfl) hL.1 (hL.2 12 _ _ _ rfl).1 ?_
    refine q_iload d_Model_change_167 rfl ?_
    refine q_bipush (v := nI 7) d_Model_change_169 (by decide) ?_
    first | refine q_iaddN d_Model_change_171 ?_ | refine q_iadd d_Model_change_171 ?_
    refine q_iald d_Model_change_172 (hL.2 12 _ _ _ rfl).2 (by first | assumption | exact vp_in_nI (by omega) (by omega)) ?_
    rw [q7]
    refine q_aload_n d_Model_change_173 rfl rfl ?_
    refine q_getR (ci := 11) (fk := 37) d_Model_change_174 rfl (Nat.le_of_ble_eq_true rfl) w_1141 (fun _ _ => rfl) hL.1 (hL.2 37 _ _ _ rfl).1 ?_
    refine q_callSv (M2 := M_Model_plain) d_Model_change_177 ⟨(Nat.le_of_ble_eq_true rfl), (Nat.le_of_ble_eq_true rfl), w_1372, w_10, ⟨by decide, by decide⟩, show _ = some 9 by decide +kernel⟩ w_1370 w_1371 rfl (Nat.le_of_ble_eq_true rfl) (by omega) (by omega) (c_Model_plain1 (fw := fw) (p := p) t18 t28 (by omega) (by omega) (by omega) hok h6 h8 hlh hr1 h1l) ?_
    rintro _ ⟨I2, rfl, u1, u2⟩
    rw [← hmk] at u2
    have hmk1 : p.kind ≠ 8 → mk.length = 1 := fun z => by rw [hmk]; exact a_ap_len z (h1l z)
    have fin : ∀ (I3 : q_I) (mcc msc : Nat), mcc = 0 → msc = 0 → (∀ b, b ≠ m + 29 → I3 b = I2 b) → k_rw (I3 (m + 29)) 0 ag → q_V g M_Model_change 0 0 mcc msc (sz, T, I3, R, J) Q 226 [some (.ref m), some (.int (nI k)), some (.int (nI p.kind)), some (.int p.a), some (.int p.b), some (.int (p_b fw)), some (.int (nI s)), some (.int (nI q)), some (.int (nI (X.2.1 s).1)), some (.int (nI (14 * s)))] [] := by
      intro I3 mcc msc m1 m2 v1 v2
      subst m1 m2
      have o3 : ∀ b, b ≠ m + 28 → b ≠ m + 29 → I3 b = I1 b := fun b b1 b2 => (v1 b b2).trans (u1 b b1)
      have y3 := y.cong o3
      have hr3 : k_rw (I3 (m + 18)) (7 * k) cur := by rw [o3 _ (by omega) (by omega)]; exact hr1
      have hm3 : k_rw (I3 (m + 28)) 0 mk := by rw [v1 _ (by omega)]; exact u2
      have last : ∀ (I4 : q_I) (Ks : KK) (mcc msc : Nat), mcc = 0 → msc = 0 → (∀ b, b ≠ m + 20 → b ≠ m + 21 → I4 b = I3 b) → m_x m M (X.1, k_ud X.2.1 s Ks, X.2.2) I4 → Ks = (if ag = cur then k_n0 else (if fw = true then 2 else 3, cur, mk)) → q_V g M_Model_change 0 0 mcc msc (sz, T, I4, R, J) Q 296 [some (.ref m), some (.int (nI k)), some (.int (nI p.kind)), some (.int p.a), some (.int p.b), some (.int (p_b fw)), some (.int (nI s)), some (.int (nI q)), some (.int (nI (X.2.1 s).1)), some (.int (nI (14 * s)))] [] := by
        intro I4 Ks mcc msc m1 m2 a1 y4 hKs
        subst m1 m2
        refine q_aload_n d_Model_change_296 rfl rfl ?_
        refine q_getR (ci := 11) (fk := 37) d_Model_change_297 rfl (Nat.le_of_ble_eq_true rfl) w_1141 (fun _ _ => rfl) hL.1 (hL.2 37 _ _ _ rfl).1 ?_
        refine q_iconst (v := nI 0) d_Model_change_300 (by decide) ?_
        refine q_aload_n d_Model_change_301 rfl rfl ?_
        refine q_getR (ci := 11) (fk := 23) d_Model_change_302 rfl (Nat.le_of_ble_eq_true rfl) w_1127 (fun _ _ => rfl) hL.1 (hL.2 23 _ _ _ rfl).1 ?_
        refine q_bipush (v := nI 7) d_Model_change_305 (by decide) ?_
        refine q_iload_n d_Model_change_307 rfl rfl ?_
        first | refine q_imulN d_Model_change_308 ?_ | refine q_imul d_Model_change_308 ?_
        refine q_callSv (M2 := M_Model_copyRow) d_Model_change_309 ⟨(Nat.le_of_ble_eq_true rfl), (Nat.le_of_ble_eq_true rfl), w_1321, w_10, ⟨by decide, by decide⟩, show _ = some 4 by decide +kernel⟩ w_1319 w_1320 rfl (Nat.le_of_ble_eq_true rfl) (by omega) (by omega) (c_Model_copyRow (a := m + 28) (a2 := m + 18) t28 t18 (by omega) (by omega) (by omega) (by omega) (Or.inl (by omega))) ?_
        rintro _ ⟨I5, rfl, cp⟩
        refine q_vret d_Model_change_312 rfl (by omega) (by omega) ?_
        rw [hQ]
        refine ⟨rfl, I5, rfl, fun b b1 b2 b3 b4 b5 => ?_, ?_⟩
        · rw [cp.1 b b1, a1 b b2 b3, o3 b b4 b5, o1 b b2]
        · have hm4 : k_rw (I4 (m + 28)) 0 mk := by rw [a1 _ (by omega) (by omega)]; exact hm3
          have y5 := y4.rs (I' := I5) hn hf cp.1 (fun j j1 j2 => cp.2.2 j j1 j2) (cp.rw hm4)
          rw [hfs] at y5
          rw [et, ← hKs]
          exact y5
      refine q_aload_n d_Model_change_226 rfl rfl ?_
      refine q_getR (ci := 11) (fk := 38) d_Model_change_227 rfl (Nat.le_of_ble_eq_true rfl) w_1142 (fun _ _ => rfl) hL.1 (hL.2 38 _ _ _ rfl).1 ?_
      refine q_iconst (v := nI 0) d_Model_change_230 (by decide) ?_
      refine q_aload_n d_Model_change_231 rfl rfl ?_
      refine q_getR (ci := 11) (fk := 23) d_Model_change_232 rfl (Nat.le_of_ble_eq_true rfl) w_1127 (fun _ _ => rfl) hL.1 (hL.2 23 _ _ _ rfl).1 ?_
      refine q_bipush (v := nI 7) d_Model_change_235 (by decide) ?_
      refine q_iload_n d_Model_change_237 rfl rfl ?_
      first | refine q_imulN d_Model_change_238 ?_ | refine q_imul d_Model_change_238 ?_
      refine q_callSi (M2 := M_Model_sameRow) d_Model_change_239 ⟨(Nat.le_of_ble_eq_true rfl), (Nat.le_of_ble_eq_true rfl), w_1369, w_10, ⟨by decide, by decide⟩, show _ = some 4 by decide +kernel⟩ w_1367 w_1368 rfl (Nat.le_of_ble_eq_true rfl) (by omega) (by omega) (c_Model_sameRow (a := m + 29) (a2 := m + 18) t29 t18 (by omega) (by omega) (by omega) (by omega) v2 hr3) ?_
      rintro _ _ ⟨rfl, rfl⟩
      by_cases hac : ag = cur
      · rw [decide_eq_true hac]
        refine q_if_ne (tgt := 296) d_Model_change_242 rfl (fun hc => ?_) (fun hc => ?_)
        rotate_left
        · exact absurd hc (by decide)
        exact last I3 k_n0 _ _ rfl rfl (fun _ _ _ => rfl) y3 (by rw [if_pos hac])
      · rw [decide_eq_false hac]
        refine q_if_ne (tgt := 296) d_Model_change_242 rfl (fun hc => ?_) (fun hc => ?_)
        · exact absurd rfl hc
        have keep : ∀ (w : Nat) (mcc msc : Nat), mcc = 0 → msc = 0 → w = (if fw = true then 2 else 3) → q_V g M_Model_change 0 0 mcc msc (sz, T, I3, R, J) Q 261 [some (.ref m), some (.int (nI k)), some (.int (nI p.kind)), some (.int p.a), some (.int p.b), some (.int (p_b fw)), some (.int (nI s)), some (.int (nI q)), some (.int (nI (X.2.1 s).1)), some (.int (nI (14 * s)))] [.int (nI w), .int (nI s), .ref (m + 20)] := by
          intro w mcc msc m1 m2 hw
          subst m1 m2
          refine q_iast d_Model_change_261 (hL.2 25 _ _ _ rfl).2 (by first | assumption | exact vp_in_nI (by omega) (by omega)) ?_
          obtain ⟨I4, hI4⟩ : ∃ I4, I4 = q_upI I3 (m + 20) (nI s) (nI w) := ⟨_, rfl⟩
          rw [← hI4]
          have o4 : ∀ b, b ≠ m + 20 → I4 b = I3 b := fun b hb => by rw [hI4]; funext z; rw [q_upI_nea hb]
          refine q_aload_n d_Model_change_262 rfl rfl ?_
          refine q_getR (ci := 11) (fk := 23) d_Model_change_263 rfl (Nat.le_of_ble_eq_true rfl) w_1127 (fun _ _ => rfl) hL.1 (hL.2 23 _ _ _ rfl).1 ?_
          refine q_bipush (v := nI 7) d_Model_change_266 (by decide) ?_
          refine q_iload_n d_Model_change_268 rfl rfl ?_
          first | refine q_imulN d_Model_change_269 ?_ | refine q_imul d_Model_change_269 ?_
          refine q_aload_n d_Model_change_270 rfl rfl ?_
          refine q_getR (ci := 11) (fk := 26) d_Model_change_271 rfl (Nat.le_of_ble_eq_true rfl) w_1130 (fun _ _ => rfl) hL.1 (hL.2 26 _ _ _ rfl).1 ?_
          refine q_iload d_Model_change_274 rfl ?_
          refine q_callSv (M2 := M_Model_copyRow) d_Model_change_276 ⟨(Nat.le_of_ble_eq_true rfl), (Nat.le_of_ble_eq_true rfl), w_1321, w_10, ⟨by decide, by decide⟩, show _ = some 4 by decide +kernel⟩ w_1319 w_1320 rfl (Nat.le_of_ble_eq_true rfl) (by omega) (by omega) (c_Model_copyRow (a := m + 18) (a2 := m + 21) t18 t21 (by omega) (by omega) (by omega) (by omega) (Or.inl (by omega))) ?_
          rintro _ ⟨I5, rfl, cp5⟩
          refine q_aload_n d_Model_change_279 rfl rfl ?_
          refine q_getR (ci := 11) (fk := 37) d_Model_change_280 rfl (Nat.le_of_ble_eq_true rfl) w_1141 (fun _ _ => rfl) hL.1 (hL.2 37 _ _ _ rfl).1 ?_
          refine q_iconst (v := nI 0) d_Model_change_283 (by decide) ?_
          refine q_aload_n d_Model_change_284 rfl rfl ?_
          refine q_getR (ci := 11) (fk := 26) d_Model_change_285 rfl (Nat.le_of_ble_eq_true rfl) w_1130 (fun _ _ => rfl) hL.1 (hL.2 26 _ _ _ rfl).1 ?_
          refine q_iload d_Model_change_288 rfl ?_
          refine q_bipush (v := nI 7) d_Model_change_290 (by decide) ?_
          first | refine q_iaddN d_Model_change_292 ?_ | refine q_iadd d_Model_change_292 ?_
          refine q_callSv (M2 := M_Model_copyRow) d_Model_change_293 ⟨(Nat.le_of_ble_eq_true rfl), (Nat.le_of_ble_eq_true rfl), w_1321, w_10, ⟨by decide, by decide⟩, show _ = some 4 by decide +kernel⟩ w_1319 w_1320 rfl (Nat.le_of_ble_eq_true rfl) (by omega) (by omega) (c_Model_copyRow (a := m + 28) (a2 := m + 21) t28 t21 (by omega) (by omega) (by omega) (by omega) (Or.inl (by omega))) ?_
          rintro _ ⟨I6, rfl, cp6⟩
          have o6 : ∀ b, b ≠ m + 20 → b ≠ m + 21 → I6 b = I3 b := fun b b1 b2 => by rw [cp6.1 b b2, cp5.1 b b2, o4 b b1]
          refine last I6 (w, cur, mk) _ _ rfl rfl o6 ?_ (by rw [if_neg hac, hw])
          obtain ⟨a1, a2, a3, a4, a5⟩ := y3
          refine ⟨a1.cong (by rw [o6 m (by omega) (by omega)]) (fun j j1 j2 => o6 _ (by omega) (by omega)), a2.cong (o6 _ (by omega) (by omega)), ?_, by rw [o6 m (by omega) (by omega)]; exact a4, by rw [o6 m (by omega) (by omega)]; exact a5⟩
          have r5 : k_rw (I5 (m + 21)) (14 * s) cur := cp5.rw (by rw [o4 _ (by omega)]; exact hr3)
          have r6 : k_rw (I6 (m + 21)) (14 * s) cur := r5.cong fun j j1 j2 => cp6.2.2 j (by omega) (by omega)
          have r6' : k_rw (I6 (m + 21)) (14 * s + 7) mk := cp6.rw (by rw [cp5.1 _ (by omega), o4 _ (by omega)]; exact hm3)
          have e9 : k_ud (k_ud X.2.1 s k_n0) s (w, cur, mk) = k_ud X.2.1 s (w, cur, mk) := k_ud_ud
          have := m_kw.put (I' := I6) (s := s) (Ks := (w, cur, mk)) a3 (fun j j1 j2 => ?_) (fun j j1 j2 => ?_) ⟨?_, fun _ => r6, fun _ => r6'⟩
          · rw [show k_ud (X.1, k_ud X.2.1 s k_n0, X.2.2).2.1 s (w, cur, mk) = k_ud X.2.1 s (w, cur, mk) from e9] at this
            exact this
          · rw [cp6.1 _ (by omega), cp5.1 _ (by omega), hI4, q_upI_nk (by omega)]
          · rw [cp6.2.2 j j1 (by omega), cp5.2.2 j j1 (by omega), o4 _ (by omega)]
          · rw [cp6.1 _ (by omega), cp5.1 _ (by omega), hI4, q_upI_self]
        cases fw with
        | true =>
          refine q_aload_n d_Model_change_245 rfl rfl ?_
          refine q_getR (ci := 11) (fk := 25) d_Model_change_246 rfl (Nat.le_of_ble_eq_true rfl) w_1129 (fun _ _ => rfl) hL.1 (hL.2 25 _ _ _ rfl).1 ?_
          refine q_iload d_Model_change_249 rfl ?_
          refine q_iload d_Model_change_251 rfl ?_
          refine q_if_eq (tgt := 260) d_Model_change_253 rfl (fun hc => ?_) (fun hc => ?_)
          · exact absurd hc (by decide)
          refine q_iconst (v := nI 2) d_Model_change_256 (by decide) ?_
          refine q_goto (tgt := 261) d_Model_change_257 rfl ?_
          exact keep 2 _ _ rfl rfl rfl
        | false =>
          refine q_aload_n d_Model_change_245 rfl rfl ?_
          refine q_getR (ci := 11) (fk := 25) d_Model_change_246 rfl (Nat.le_of_ble_eq_true rfl) w_1129 (fun _ _ => rfl) hL.1 (hL.2 25 _ _ _ rfl).1 ?_
          refine q_iload d_Model_change_249 rfl ?_
          refine q_iload d_Model_change_251 rfl ?_
          refine q_if_eq (tgt := 260) d_Model_change_253 rfl (fun hc => ?_) (fun hc => ?_)
          rotate_left
          · exact absurd rfl hc
          refine q_iconst (v := nI 3) d_Model_change_260 (by decide) ?_
          exact keep 3 _ _ rfl rfl rfl
    have q6' : I2 (m + 9) (nI (q + 6)) = p.lo := by rw [u1 _ (by omega)]; exact q6
    have q7' : I2 (m + 9) (nI (q + 7)) = p.hi := by rw [u1 _ (by omega)]; exact q7
    have sec : ∀ (mcc msc : Nat), mcc = 0 → msc = 0 → q_V g M_Model_change 0 0 mcc msc (sz, T, I2, R, J) Q 199 [some (.ref m), some (.int (nI k)), some (.int (nI p.kind)), some (.int p.a), some (.int p.b), some (.int (p_b fw)), some (.int (nI s)), some (.int (nI q)), some (.int (nI (X.2.1 s).1)), some (.int (nI (14 * s)))] [.int (p_b (!fw)), .int p.b, .int p.a, .int (nI p.kind), .int (nI 0), .ref (m + 28)] := by
      intro mcc msc m1 m2
      subst m1 m2
      refine q_aload_n d_Model_change_199 rfl rfl ?_
      refine q_getR (ci := 11) (fk := 12) d_Model_change_200 rfl (Nat.le_of_ble_eq_true rfl) w_1116 (fun _ _ => rfl) hL.1 (hL.2 12 _ _ _ rfl).1 ?_
      refine q_iload d_Model_change_203 rfl ?_
      refine q_bipush (v := nI 6) d_Model_change_205 (by decide) ?_
      first | refine q_iaddN d_Model_change_207 ?_ | refine q_iadd d_Model_change_207 ?_
      refine q_iald d_Model_change_208 (hL.2 12 _ _ _ rfl).2 (by first | assumption | exact vp_in_nI (by omega) (by omega)) ?_
      rw [q6']
      refine q_aload_n d_Model_change_209 rfl rfl ?_
      refine q_getR (ci := 11) (fk := 12) d_Model_change_210 rfl (Nat.le_of_ble_eq_true rfl) w_1116 (fun _ _ => rfl) hL.1 (hL.2 12 _ _ _ rfl).1 ?_
      refine q_iload d_Model_change_213 rfl ?_
      refine q_bipush (v := nI 7) d_Model_change_215 (by decide) ?_
      first | refine q_iaddN d_Model_change_217 ?_ | refine q_iadd d_Model_change_217 ?_
      refine q_iald d_Model_change_218 (hL.2 12 _ _ _ rfl).2 (by first | assumption | exact vp_in_nI (by omega) (by omega)) ?_
      rw [q7']
      refine q_aload_n d_Model_change_219 rfl rfl ?_
      refine q_getR (ci := 11) (fk := 38) d_Model_change_220 rfl (Nat.le_of_ble_eq_true rfl) w_1142 (fun _ _ => rfl) hL.1 (hL.2 38 _ _ _ rfl).1 ?_
      refine q_callSv (M2 := M_Model_plain) d_Model_change_223 ⟨(Nat.le_of_ble_eq_true rfl), (Nat.le_of_ble_eq_true rfl), w_1372, w_10, ⟨by decide, by decide⟩, show _ = some 9 by decide +kernel⟩ w_1370 w_1371 rfl (Nat.le_of_ble_eq_true rfl) (by omega) (by omega) (c_Model_plain1 (fw := !fw) (p := p) (a := m + 28) (b := 0) t28 t29 (by omega) (by omega) (by omega) hok h6 h8 hlh u2 hmk1) ?_
      rintro _ ⟨I3, rfl, v1, v2⟩
      rw [← hag] at v2
      exact fin I3 _ _ rfl rfl v1 v2
    cases fw with
    | true =>
      refine q_aload_n d_Model_change_180 rfl rfl ?_
      refine q_getR (ci := 11) (fk := 37) d_Model_change_181 rfl (Nat.le_of_ble_eq_true rfl) w_1141 (fun _ _ => rfl) hL.1 (hL.2 37 _ _ _ rfl).1 ?_
      refine q_iconst (v := nI 0) d_Model_change_184 (by decide) ?_
      refine q_iload_n d_Model_change_185 rfl rfl ?_
      refine q_iload_n d_Model_change_186 rfl rfl ?_
      refine q_iload d_Model_change_187 rfl ?_
      refine q_iload d_Model_change_189 rfl ?_
      refine q_if_ne (tgt := 198) d_Model_change_191 rfl (fun hc => ?_) (fun hc => ?_)
      rotate_left
      · exact absurd hc (by decide)
      refine q_iconst (v := nI 0) d_Model_change_198 (by decide) ?_
      exact sec _ _ rfl rfl
    | false =>
      refine q_aload_n d_Model_change_180 rfl rfl ?_
      refine q_getR (ci := 11) (fk := 37) d_Model_change_181 rfl (Nat.le_of_ble_eq_true rfl) w_1141 (fun _ _ => rfl) hL.1 (hL.2 37 _ _ _ rfl).1 ?_
      refine q_iconst (v := nI 0) d_Model_change_184 (by decide) ?_
      refine q_iload_n d_Model_change_185 rfl rfl ?_
      refine q_iload_n d_Model_change_186 rfl rfl ?_
      refine q_iload d_Model_change_187 rfl ?_
      refine q_iload d_Model_change_189 rfl ?_
      refine q_if_ne (tgt := 198) d_Model_change_191 rfl (fun hc => ?_) (fun hc => ?_)
      · exact absurd rfl hc
      refine q_iconst (v := nI 1) d_Model_change_194 (by decide) ?_
      refine q_goto (tgt := 199) d_Model_change_195 rfl ?_
      exact sec _ _ rfl rfl
  have test : ∀ (w : Nat) (mcc msc : Nat), mcc = 0 → msc = 0 → w = (if fw = true then 3 else 2) → q_V g M_Model_change 0 0 mcc msc (sz, T, I1, R, J) Q 95 [some (.ref m), some (.int (nI k)), some (.int (nI p.kind)), some (.int p.a), some (.int p.b), some (.int (p_b fw)), some (.int (nI s)), some (.int (nI q)), some (.int (nI (X.2.1 s).1)), some (.int (nI (14 * s)))] [.int (nI w), .int (nI (X.2.1 s).1)] := by
    intro w mcc msc m1 m2 hw
    subst m1 m2
    have hw3 : w = 2 ∨ w = 3 := by cases fw <;> simp at hw <;> omega
    by_cases hkw : (X.2.1 s).1 = w
    · refine q_icmp_ne (tgt := 139) d_Model_change_95 rfl (fun hc => ?_) (fun hc => ?_)
      · exact absurd (by rw [hkw]) hc
      have rc : k_rw (I1 (m + 21)) (14 * s + 7) (X.2.1 s).2.2 := by rw [o1 _ (by omega)]; exact c3 (by omega)
      refine q_aload_n d_Model_change_98 rfl rfl ?_
      refine q_getR (ci := 11) (fk := 23) d_Model_change_99 rfl (Nat.le_of_ble_eq_true rfl) w_1127 (fun _ _ => rfl) hL.1 (hL.2 23 _ _ _ rfl).1 ?_
      refine q_bipush (v := nI 7) d_Model_change_102 (by decide) ?_
      refine q_iload_n d_Model_change_104 rfl rfl ?_
      first | refine q_imulN d_Model_change_105 ?_ | refine q_imul d_Model_change_105 ?_
      refine q_aload_n d_Model_change_106 rfl rfl ?_
      refine q_getR (ci := 11) (fk := 26) d_Model_change_107 rfl (Nat.le_of_ble_eq_true rfl) w_1130 (fun _ _ => rfl) hL.1 (hL.2 26 _ _ _ rfl).1 ?_
      refine q_iload d_Model_change_110 rfl ?_
      refine q_bipush (v := nI 7) d_Model_change_112 (by decide) ?_
      first | refine q_iaddN d_Model_change_114 ?_ | refine q_iadd d_Model_change_114 ?_
      refine q_callSi (M2 := M_Model_sameRow) d_Model_change_115 ⟨(Nat.le_of_ble_eq_true rfl), (Nat.le_of_ble_eq_true rfl), w_1369, w_10, ⟨by decide, by decide⟩, show _ = some 4 by decide +kernel⟩ w_1367 w_1368 rfl (Nat.le_of_ble_eq_true rfl) (by omega) (by omega) (c_Model_sameRow (a := m + 18) (a2 := m + 21) t18 t21 (by omega) (by omega) (by omega) (by omega) hr1 rc) ?_
      rintro _ _ ⟨rfl, rfl⟩
      by_cases hsm : cur = (X.2.1 s).2.2
      · rw [decide_eq_true hsm]
        refine q_if_eq (tgt := 139) d_Model_change_118 rfl (fun hc => ?_) (fun hc => ?_)
        · exact absurd hc (by decide)
        refine q_aload_n d_Model_change_121 rfl rfl ?_
        refine q_getR (ci := 11) (fk := 26) d_Model_change_122 rfl (Nat.le_of_ble_eq_true rfl) w_1130 (fun _ _ => rfl) hL.1 (hL.2 26 _ _ _ rfl).1 ?_
        refine q_iload d_Model_change_125 rfl ?_
        refine q_aload_n d_Model_change_127 rfl rfl ?_
        refine q_getR (ci := 11) (fk := 23) d_Model_change_128 rfl (Nat.le_of_ble_eq_true rfl) w_1127 (fun _ _ => rfl) hL.1 (hL.2 23 _ _ _ rfl).1 ?_
        refine q_bipush (v := nI 7) d_Model_change_131 (by decide) ?_
        refine q_iload_n d_Model_change_133 rfl rfl ?_
        first | refine q_imulN d_Model_change_134 ?_ | refine q_imul d_Model_change_134 ?_
        refine q_callSv (M2 := M_Model_copyRow) d_Model_change_135 ⟨(Nat.le_of_ble_eq_true rfl), (Nat.le_of_ble_eq_true rfl), w_1321, w_10, ⟨by decide, by decide⟩, show _ = some 4 by decide +kernel⟩ w_1319 w_1320 rfl (Nat.le_of_ble_eq_true rfl) (by omega) (by omega) (c_Model_copyRow (a := m + 21) (a2 := m + 18) t21 t18 (by omega) (by omega) (by omega) (by omega) (Or.inl (by omega))) ?_
        rintro _ ⟨I2, rfl, cp⟩
        refine q_vret d_Model_change_138 rfl (by omega) (by omega) ?_
        rw [hQ]
        refine ⟨rfl, I2, rfl, fun b b1 b2 b3 b4 b5 => by rw [cp.1 b b1, o1 b b2], ?_⟩
        have rt : k_rw (I1 (m + 21)) (14 * s) (X.2.1 s).2.1 := by rw [o1 _ (by omega)]; exact c2 (by omega)
        have y5 := y.rs (I' := I2) hn hf cp.1 (fun j j1 j2 => cp.2.2 j j1 j2) (cp.rw rt)
        rw [hfs] at y5
        unfold t_chg
        rw [← hcur, if_pos ⟨by rw [← hw]; exact hkw, hsm⟩]
        exact y5
      · rw [decide_eq_false hsm]
        refine q_if_eq (tgt := 139) d_Model_change_118 rfl (fun hc => ?_) (fun hc => ?_)
        rotate_left
        · exact absurd rfl hc
        exact rest _ _ rfl rfl (fun z => hsm z.2)
    · refine q_icmp_ne (tgt := 139) d_Model_change_95 rfl (fun hc => ?_) (fun hc => ?_)
      rotate_left
      · exact absurd ((nI_eq (by omega) (by omega)).mp hc) hkw
      exact rest _ _ rfl rfl (fun z => hkw (by rw [hw]; exact z.1))
  cases fw with
  | true =>
    refine q_iload d_Model_change_83 rfl ?_
    refine q_iload d_Model_change_85 rfl ?_
    refine q_if_eq (tgt := 94) d_Model_change_87 rfl (fun hc => ?_) (fun hc => ?_)
    · exact absurd hc (by decide)
    refine q_iconst (v := nI 3) d_Model_change_90 (by decide) ?_
    refine q_goto (tgt := 95) d_Model_change_91 rfl ?_
    exact test 3 _ _ rfl rfl rfl
  | false =>
    refine q_iload d_Model_change_83 rfl ?_
    refine q_iload d_Model_change_85 rfl ?_
    refine q_if_eq (tgt := 94) d_Model_change_87 rfl (fun hc => ?_) (fun hc => ?_)
    rotate_left
    · exact absurd rfl hc
    refine q_iconst (v := nI 2) d_Model_change_94 (by decide) ?_
    exact test 2 _ _ rfl rfl rfl
end MChg
