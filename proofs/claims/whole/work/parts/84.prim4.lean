/-! scale, map -/
section PrimC4
variable {g : q_G} {sz d : Nat} {T : q_T} {I : q_I} {R : q_R} {J : q_J}
theorem z_fdl {a b x : Int32} (ha : nI 1 ≤ a ∧ a ≤ nI 1000) (hb : nI 1 ≤ b) : (k_fdl (a.toInt64 * x.toInt64) b.toInt64).toInt = a.toInt * x.toInt / b.toInt ∧ ¬ b.toInt64 = 0 := by
  have h1 : (nI 1).toInt = 1 := nI_toInt (by decide)
  have h2 : (nI 1000).toInt = 1000 := nI_toInt (by decide)
  rw [Int32.le_iff_toInt_le, Int32.le_iff_toInt_le, h1, h2] at ha
  rw [Int32.le_iff_toInt_le, h1] at hb
  have h3 := z_bd x
  have h4 := z_prod (x := a.toInt) (y := x.toInt) (A := 1000) (B := 2147483648) (by omega) (by omega) (by omega) (by omega) (by omega)
  refine ⟨?_, fun z => ?_⟩
  · rw [k_fdl_int (by rw [z_i64]; omega) (by rw [z_mul]; omega) (by rw [z_mul]; omega), z_mul, z_i64]
  · have := congrArg Int64.toInt z
    rw [z_i64] at this
    have h5 : (0 : Int64).toInt = 0 := by decide
    omega
/-- may the number be scaled -/
def b_scl (f : KF) (a b : Int32) : Bool := decide (f.2.1 = 0 ∧ (nI 1 ≤ a ∧ a ≤ nI 1000) ∧ (nI 1 ≤ b ∧ b ≤ nI 1000)) && (decide (-2147483648 ≤ a.toInt * f.2.2.1.toInt / b.toInt ∧ a.toInt * f.2.2.1.toInt / b.toInt ≤ 2147483647) && decide (-2147483648 ≤ a.toInt * f.2.2.2.1.toInt / b.toInt ∧ a.toInt * f.2.2.2.1.toInt / b.toInt ≤ 2147483647))
set_option maxHeartbeats 1000000 in
theorem c_Draft_scale {i dn : Nat} {D : List KF} {w : Nat → Nat} {f : KF} {p : KP} {a b : Int32} (h : d_in d D w dn sz T I R) (hf : D[i]? = some f) (hk : p.kind = 6) (hp : p.f = f) (ha : p.a = a) (hb : p.b = b) : q_Cr g M_Draft_scale [.ref d, .ref (d + 1 + 2 + w i), .int a, .int b] (sz, T, I, R, J) 1 8 (d_post d D sz T I R J (b_scl f a b) p dn) := by
  obtain ⟨hL, hS, hn, hfr, hok, hdi, hsr⟩ := h
  obtain ⟨g1, g2, g3, g4⟩ := hS.at hf
  have hwi := (hS.1.2.1 i g1).2
  obtain ⟨fo, hfo⟩ : ∃ fo, fo = d + 1 + 2 + w i := ⟨_, rfl⟩
  rw [← hfo] at g3 g4 ⊢
  have hfs := hfr _ _ g3
  have hds := hfr _ _ hL.1
  have no : b_scl f a b = false → q_V g M_Draft_scale 1 8 0 0 (sz, T, I, R, J) (fun o h' => ∃ r : Option Nat, o = .inl (some (va_rf r)) ∧ d_post d D sz T I R J (b_scl f a b) p dn r h') 31 [some (.ref d), some (.ref fo), some (.int a), some (.int b), none, none, none, none, none] [] := by
    intro hz
    refine q_null d_Draft_scale_31 ?_
    refine q_aret (v := none) d_Draft_scale_32 rfl (by omega) (by omega) ?_
    exact ⟨none, rfl, Or.inl ⟨hz, rfl, rfl⟩⟩
  have no1 : ¬ (f.2.1 = 0 ∧ (nI 1 ≤ a ∧ a ≤ nI 1000) ∧ (nI 1 ≤ b ∧ b ≤ nI 1000)) → b_scl f a b = false := fun z => by unfold b_scl; rw [decide_eq_false z]; rfl
  refine q_C.of (ls0 := [some (.ref d), some (.ref fo), some (.int a), some (.int b), none, none, none, none, none]) (by decide) rfl (by decide) (Nat.le_of_ble_eq_true rfl) rfl ?_
  refine q_aload_n d_Draft_scale_0 rfl rfl ?_
  refine q_getI (ci := 3) (fk := 1) d_Draft_scale_1 rfl (Nat.le_of_ble_eq_true rfl) w_62 (fun _ _ => rfl) (by first | assumption | rfl | (simp (disch := omega) only [q_upT_self, q_upT_ne, q_upR_self, q_upR_nea, q_upR_nk, q_upT_at, *]; done) | (simp (disch := omega) only [q_upT_self, q_upT_ne, q_upR_self, q_upR_nea, q_upR_nk, q_upT_at, *]; rfl)) ?_
  rw [g4.2.1]
  refine q_if_ne (tgt := 31) d_Draft_scale_4 rfl (fun hc => ?_) (fun hc => ?_)
  · have h0 : ¬ f.2.1 = 0 := hc
    exact no (no1 (fun z => h0 z.1))
  have h0 : f.2.1 = 0 := by have := hc; simpa using this
  refine q_iload_n d_Draft_scale_7 rfl rfl ?_
  refine q_iconst (v := nI 1) d_Draft_scale_8 (by decide) ?_
  refine q_icmp_lt (tgt := 31) d_Draft_scale_9 rfl (fun hc => ?_) (fun hc => ?_)
  · exact no (no1 (fun z => absurd hc (Int32.not_lt.mpr z.2.1.1)))
  have h1 : nI 1 ≤ a := Int32.not_lt.mp hc
  refine q_iload_n d_Draft_scale_12 rfl rfl ?_
  refine q_sipush (v := nI 1000) d_Draft_scale_13 (by decide) ?_
  refine q_icmp_gt (tgt := 31) d_Draft_scale_16 rfl (fun hc => ?_) (fun hc => ?_)
  · exact no (no1 (fun z => absurd hc (Int32.not_lt.mpr z.2.1.2)))
  have h2 : a ≤ nI 1000 := Int32.not_lt.mp hc
  refine q_iload_n d_Draft_scale_19 rfl rfl ?_
  refine q_iconst (v := nI 1) d_Draft_scale_20 (by decide) ?_
  refine q_icmp_lt (tgt := 31) d_Draft_scale_21 rfl (fun hc => ?_) (fun hc => ?_)
  · exact no (no1 (fun z => absurd hc (Int32.not_lt.mpr z.2.2.1)))
  have h3 : nI 1 ≤ b := Int32.not_lt.mp hc
  refine q_iload_n d_Draft_scale_24 rfl rfl ?_
  refine q_sipush (v := nI 1000) d_Draft_scale_25 (by decide) ?_
  refine q_icmp_le (tgt := 33) d_Draft_scale_28 rfl (fun hc => ?_) (fun hc => ?_)
  rotate_left
  · exact no (no1 (fun z => hc z.2.2.2))
  have h4 : b ≤ nI 1000 := hc
  have hpre := (show f.2.1 = 0 ∧ (nI 1 ≤ a ∧ a ≤ nI 1000) ∧ (nI 1 ≤ b ∧ b ≤ nI 1000) from ⟨h0, ⟨h1, h2⟩, h3, h4⟩)
  obtain ⟨v1, hnz⟩ := z_fdl (x := f.2.2.1) ⟨h1, h2⟩ h3
  obtain ⟨v2, -⟩ := z_fdl (x := f.2.2.2.1) ⟨h1, h2⟩ h3
  refine q_iload_n d_Draft_scale_33 rfl rfl ?_
  refine q_i2l d_Draft_scale_34 rfl ?_
  refine q_aload_n d_Draft_scale_35 rfl rfl ?_
  refine q_getI (ci := 3) (fk := 2) d_Draft_scale_36 rfl (Nat.le_of_ble_eq_true rfl) w_69 (fun _ _ => rfl) (by first | assumption | rfl | (simp (disch := omega) only [q_upT_self, q_upT_ne, q_upR_self, q_upR_nea, q_upR_nk, q_upT_at, *]; done) | (simp (disch := omega) only [q_upT_self, q_upT_ne, q_upR_self, q_upR_nea, q_upR_nk, q_upT_at, *]; rfl)) ?_
  rw [g4.2.2.1]
  refine q_i2l d_Draft_scale_39 rfl ?_
  refine q_lmul d_Draft_scale_40 ?_
  refine q_iload_n d_Draft_scale_41 rfl rfl ?_
  refine q_i2l d_Draft_scale_42 rfl ?_
  refine q_callSl (M2 := M_Math_floorDiv_L) d_Draft_scale_43 ⟨(Nat.le_of_ble_eq_true rfl), (Nat.le_of_ble_eq_true rfl), w_591, w_19, ⟨by decide, by decide⟩, show _ = some 2 by decide +kernel⟩ w_589 w_590 rfl (Nat.le_of_ble_eq_true rfl) (by omega) (by omega) (c_Math_floorDiv_L hnz) ?_
  rintro _ _ ⟨rfl, rfl⟩
  obtain ⟨L1, hL1⟩ : ∃ L1, L1 = k_fdl (a.toInt64 * f.2.2.1.toInt64) b.toInt64 := ⟨_, rfl⟩
  rw [← hL1] at v1 ⊢
  refine q_lstore d_Draft_scale_46 (Nat.le_of_ble_eq_true rfl) (by first | exact q_ok0 | exact q_okI rfl | exact q_okR rfl | exact q_okN rfl) rfl ?_
  refine q_iload_n d_Draft_scale_48 rfl rfl ?_
  refine q_i2l d_Draft_scale_49 rfl ?_
  refine q_aload_n d_Draft_scale_50 rfl rfl ?_
  refine q_getI (ci := 3) (fk := 3) d_Draft_scale_51 rfl (Nat.le_of_ble_eq_true rfl) w_75 (fun _ _ => rfl) (by first | assumption | rfl | (simp (disch := omega) only [q_upT_self, q_upT_ne, q_upR_self, q_upR_nea, q_upR_nk, q_upT_at, *]; done) | (simp (disch := omega) only [q_upT_self, q_upT_ne, q_upR_self, q_upR_nea, q_upR_nk, q_upT_at, *]; rfl)) ?_
  rw [g4.2.2.2.1]
  refine q_i2l d_Draft_scale_54 rfl ?_
  refine q_lmul d_Draft_scale_55 ?_
  refine q_iload_n d_Draft_scale_56 rfl rfl ?_
  refine q_i2l d_Draft_scale_57 rfl ?_
  refine q_callSl (M2 := M_Math_floorDiv_L) d_Draft_scale_58 ⟨(Nat.le_of_ble_eq_true rfl), (Nat.le_of_ble_eq_true rfl), w_591, w_19, ⟨by decide, by decide⟩, show _ = some 2 by decide +kernel⟩ w_589 w_590 rfl (Nat.le_of_ble_eq_true rfl) (by omega) (by omega) (c_Math_floorDiv_L hnz) ?_
  rintro _ _ ⟨rfl, rfl⟩
  obtain ⟨L2, hL2⟩ : ∃ L2, L2 = k_fdl (a.toInt64 * f.2.2.2.1.toInt64) b.toInt64 := ⟨_, rfl⟩
  rw [← hL2] at v2 ⊢
  have no2 : ∀ mcc msc : Nat, mcc ≤ 0 → msc ≤ 0 → b_scl f a b = false → q_V g M_Draft_scale 1 8 mcc msc (sz, T, I, R, J) (fun o h' => ∃ r : Option Nat, o = .inl (some (va_rf r)) ∧ d_post d D sz T I R J (b_scl f a b) p dn r h') 83 [some (.ref d), some (.ref fo), some (.int a), some (.int b), some (.long L1), none, some (.long L2), none, none] [] := by
    intro mcc msc m1 m2 hz
    refine q_null d_Draft_scale_83 ?_
    refine q_aret (v := none) d_Draft_scale_84 rfl (by omega) (by omega) ?_
    exact ⟨none, rfl, Or.inl ⟨hz, rfl, rfl⟩⟩
  have r1 := z_rt L1
  have r2 := z_rt L2
  rw [v1] at r1
  rw [v2] at r2
  refine q_lstore d_Draft_scale_61 (Nat.le_of_ble_eq_true rfl) (by first | exact q_ok0 | exact q_okI rfl | exact q_okR rfl | exact q_okN rfl) rfl ?_
  refine q_lload d_Draft_scale_63 rfl ?_
  refine q_lload d_Draft_scale_65 rfl ?_
  refine q_l2i d_Draft_scale_67 rfl ?_
  refine q_i2l d_Draft_scale_68 rfl ?_
  refine q_lcmp d_Draft_scale_69 ?_
  refine q_if_ne (tgt := 83) d_Draft_scale_70 rfl (fun hc => ?_) (fun hc => ?_)
  · have h9 : ¬ L1 = L1.toInt32.toInt64 := fun z => hc ((lg_cmp_eq _ _).mpr z)
    exact no2 _ _ (by omega) (by omega) (by unfold b_scl; rw [decide_eq_false (fun z => h9 (r1.mpr z)), Bool.false_and, Bool.and_false])
  have e1 := r1.mp ((lg_cmp_eq _ _).mp (by have := hc; simpa using this))
  refine q_lload d_Draft_scale_73 rfl ?_
  refine q_lload d_Draft_scale_75 rfl ?_
  refine q_l2i d_Draft_scale_77 rfl ?_
  refine q_i2l d_Draft_scale_78 rfl ?_
  refine q_lcmp d_Draft_scale_79 ?_
  refine q_if_eq (tgt := 85) d_Draft_scale_80 rfl (fun hc => ?_) (fun hc => ?_)
  rotate_left
  · have h9 : ¬ L2 = L2.toInt32.toInt64 := fun z => hc ((lg_cmp_eq _ _).mpr z)
    exact no2 _ _ (by omega) (by omega) (by unfold b_scl; rw [decide_eq_false (fun z => h9 (r2.mpr z)), Bool.and_false, Bool.and_false])
  have e2 := r2.mp ((lg_cmp_eq _ _).mp hc)
  have hbb : b_scl f a b = true := by unfold b_scl; rw [decide_eq_true hpre, decide_eq_true e1, decide_eq_true e2]; rfl
  rw [hbb]
  have hx := d_ext hfr
  have tfo := hx _ _ g3
  refine q_newN (ci := 4) (N := 8) d_Draft_scale_85 rfl rfl w_141 w_480 w_18 (by omega) (by omega) ?_
  refine q_dup d_Draft_scale_88 rfl ?_
  refine q_bipush (v := nI 6) d_Draft_scale_89 (by decide) ?_
  refine q_aload_n d_Draft_scale_91 rfl rfl ?_
  refine q_iload_n d_Draft_scale_92 rfl rfl ?_
  refine q_iload_n d_Draft_scale_93 rfl rfl ?_
  refine q_callIv (M2 := M_Primitive_init) d_Draft_scale_94 ⟨(Nat.le_of_ble_eq_true rfl), (Nat.le_of_ble_eq_true rfl), w_488, w_18, ⟨by decide, by decide⟩, show _ = some 4 by decide +kernel⟩ rfl rfl rfl w_486 w_487 rfl (Nat.le_of_ble_eq_true rfl) (by omega) (by omega) (c_Primitive_init (f := f) (q_upT_self) tfo g4.2) ?_
  rintro _ ⟨I1, rfl, i1, i2, i3, i4, i5, i6, i7, i8⟩
  refine q_astore d_Draft_scale_97 (Nat.le_of_ble_eq_true rfl) (by first | exact q_ok0 | exact q_okI rfl | exact q_okR rfl | exact q_okN rfl) rfl ?_
  refine q_aload_n d_Draft_scale_99 rfl rfl ?_
  refine q_lload d_Draft_scale_100 rfl ?_
  refine q_l2i d_Draft_scale_102 rfl ?_
  refine q_putI (ci := 3) (fk := 2) d_Draft_scale_103 rfl (Nat.le_of_ble_eq_true rfl) w_69 (Or.inl rfl) (fun _ _ => rfl) rfl rfl (by first | assumption | rfl | (simp (disch := omega) only [q_upT_self, q_upT_ne, q_upR_self, q_upR_nea, q_upR_nk, q_upT_at, *]; done) | (simp (disch := omega) only [q_upT_self, q_upT_ne, q_upR_self, q_upR_nea, q_upR_nk, q_upT_at, *]; rfl)) ?_
  refine q_aload_n d_Draft_scale_106 rfl rfl ?_
  refine q_lload d_Draft_scale_107 rfl ?_
  refine q_l2i d_Draft_scale_109 rfl ?_
  refine q_putI (ci := 3) (fk := 3) d_Draft_scale_110 rfl (Nat.le_of_ble_eq_true rfl) w_75 (Or.inl rfl) (fun _ _ => rfl) rfl rfl (by first | assumption | rfl | (simp (disch := omega) only [q_upT_self, q_upT_ne, q_upR_self, q_upR_nea, q_upR_nk, q_upT_at, *]; done) | (simp (disch := omega) only [q_upT_self, q_upT_ne, q_upR_self, q_upR_nea, q_upR_nk, q_upT_at, *]; rfl)) ?_
  refine q_aload d_Draft_scale_113 rfl ?_
  first | refine q_aret (v := some _) d_Draft_scale_115 rfl (by omega) (by omega) ?_ | refine q_aret (v := none) d_Draft_scale_115 rfl (by omega) (by omega) ?_ | refine q_aret d_Draft_scale_115 rfl (by omega) (by omega) ?_
  have x1 : L1.toInt32 = z_scf a b f.2.2.1 := by rw [z_l2i, v1]; rfl
  have x2 : L2.toInt32 = z_scf a b f.2.2.2.1 := by rw [z_l2i, v2]; rfl
  rw [x1, x2]
  obtain ⟨I5, hI5⟩ : ∃ I5, I5 = q_upI (q_upI I1 fo (nI 2) (z_scf a b f.2.2.1)) fo (nI 3) (z_scf a b f.2.2.2.1) := ⟨_, rfl⟩
  rw [← hI5]
  have e5 : ∀ b, b ≠ fo → I5 b = I1 b := fun b b1 => by rw [hI5]; funext j; rw [q_upI_nea b1, q_upI_nea b1]
  obtain ⟨f', hf'⟩ : ∃ f' : KF, f' = (f.1, f.2.1, z_scf a b f.2.2.1, z_scf a b f.2.2.2.1, f.2.2.2.2) := ⟨_, rfl⟩
  have hS1 : k_sc (d + 1) D w (q_upT T sz (104, 0)) I1 R := hS.cong3 hx (fun b b1 b2 => i1 b (by
    obtain ⟨q, hq⟩ := hS.1.tys b1 b2
    have := hfr b q hq
    omega)) (fun _ _ _ => rfl)
  have hS5 : k_sc (d + 1) (D.set i f') w (q_upT T sz (104, 0)) I5 R := by
    refine hS1.setf hf (fun b hb => e5 b (by rw [hfo]; exact hb)) ?_
    rw [← hfo, hf', hI5]
    unfold k_fd
    rw [q_upI_self, q_upI_nk (by omega), q_upI_nk (by omega), q_upI_nk (by omega), q_upI_nk (by omega), q_upI_nk (by omega), q_upI_self, q_upI_nk (by omega), q_upI_nk (by omega), i1 fo (by omega)]
    exact ⟨g4.1, g4.2.1, rfl, rfl, g4.2.2.2.2⟩
  have hfw : k_fw p D = D.set i f' := by
    have h9 : p.nm = f.1 := congrArg (·.1) hp
    unfold k_fw
    rw [hk]
    show D.map (k_at p.nm (fun f => (f.1, f.2.1, z_scf p.a p.b f.2.2.1, z_scf p.a p.b f.2.2.2.1, f.2.2.2.2))) = _
    rw [h9, ha, hb, k_at_set hdi hf, hf']
  have z : I5 sz = I1 sz := e5 sz (by omega)
  refine ⟨some sz, rfl, Or.inr ⟨rfl, rfl, I5, R, w, D.set i f', rfl, fun b b1 b2 => by rw [e5 b (by omega), i1 b b2], fun b hb => rfl, hS5, by rw [hfw], k_srt_nm (k_set_nm hf (by rw [hf'])) hsr, ⟨q_upT_self, ?_, ?_, ?_, ?_, ?_, ?_, ?_, ?_⟩, ?_, fun j hj => ?_⟩⟩
  · rw [z, i2, hk]
  · rw [z, i3]; exact congrArg (fun q : KF => nI q.2.2.2.2) hp.symm
  · rw [z, i4]; exact congrArg (fun q : KF => q.2.1) hp.symm
  · rw [z, i5]; exact congrArg (fun q : KF => q.2.2.1) hp.symm
  · rw [z, i6]; exact congrArg (fun q : KF => q.2.2.2.1) hp.symm
  · intro _ _; rw [z, i7, ha]
  · intro _ _; rw [z, i8, hb]
  · intro h5; rw [hk] at h5; omega
  · rw [e5 d (by omega), i1 d (by omega)]; exact hn
  · rw [e5 d (by omega), i1 d (by omega)]
/-- nothing but the primitive comes -/
theorem d_same {i dn : Nat} {D : List KF} {w : Nat → Nat} {f : KF} {p : KP} {I1 : q_I} {a b : Int32} (h : d_in d D w dn sz T I R) (hk : p.kind = 7 ∨ p.kind = 8) (hp : p.f = f) (i1 : ∀ c, c ≠ sz → I1 c = I c) (i2 : I1 sz (nI 0) = nI p.kind) (i3 : I1 sz (nI 1) = nI f.2.2.2.2) (i4 : I1 sz (nI 2) = f.2.1) (i5 : I1 sz (nI 3) = f.2.2.1) (i6 : I1 sz (nI 4) = f.2.2.2.1) (i7 : p.kind = 7 → I1 sz (nI 5) = p.a) (i8 : p.kind = 7 → I1 sz (nI 6) = p.b) : d_post d D sz T I R J true p dn (some sz) (sz + 1, q_upT T sz (104, 0), I1, R, J) := by
  obtain ⟨hL, hS, hn, hfr, hok, hdi, hsr⟩ := h
  have hds := hfr _ _ hL.1
  have hx := d_ext hfr
  have hS1 : k_sc (d + 1) D w (q_upT T sz (104, 0)) I1 R := hS.cong3 hx (fun b b1 b2 => i1 b (by
    obtain ⟨q, hq⟩ := hS.1.tys b1 b2
    have := hfr b q hq
    omega)) (fun _ _ _ => rfl)
  have hfw : k_fw p D = D := by
    unfold k_fw
    rcases hk with hk | hk
    · rw [hk]; rfl
    · rw [hk]; rfl
  refine Or.inr ⟨rfl, rfl, I1, R, w, D, rfl, fun b b1 b2 => i1 b b2, fun b hb => rfl, hS1, by rw [hfw], hsr, ⟨q_upT_self, i2, ?_, ?_, ?_, ?_, ?_, ?_, ?_⟩, ?_, fun j hj => ?_⟩
  · rw [i3]; exact congrArg (fun q : KF => nI q.2.2.2.2) hp.symm
  · rw [i4]; exact congrArg (fun q : KF => q.2.1) hp.symm
  · rw [i5]; exact congrArg (fun q : KF => q.2.2.1) hp.symm
  · rw [i6]; exact congrArg (fun q : KF => q.2.2.2.1) hp.symm
  · intro _ h7; exact i7 (by omega)
  · intro _ h7; exact i8 (by omega)
  · intro h5; omega
  · rw [i1 d (by omega)]; exact hn
  · rw [i1 d (by omega)]
/-- may the number be mapped -/
def b_map (f : KF) (a b : Int32) : Bool := decide (f.2.1 = 0) && ((decide (f.2.2.1 ≤ a) && decide (a ≤ f.2.2.2.1)) && ((decide (f.2.2.1 ≤ b) && decide (b ≤ f.2.2.2.1)) && decide (a ≠ b)))
theorem c_Draft_map {i dn : Nat} {D : List KF} {w : Nat → Nat} {f : KF} {p : KP} {a b : Int32} (h : d_in d D w dn sz T I R) (hf : D[i]? = some f) (hk : p.kind = 7) (hp : p.f = f) (ha : p.a = a) (hb : p.b = b) : q_Cr g M_Draft_map [.ref d, .ref (d + 1 + 2 + w i), .int a, .int b] (sz, T, I, R, J) 1 8 (d_post d D sz T I R J (b_map f a b) p dn) := by
  have hh := h
  obtain ⟨hL, hS, hn, hfr, hok, hdi, hsr⟩ := h
  obtain ⟨g1, g2, g3, g4⟩ := hS.at hf
  obtain ⟨fo, hfo⟩ : ∃ fo, fo = d + 1 + 2 + w i := ⟨_, rfl⟩
  rw [← hfo] at g3 g4 ⊢
  have no : ∀ mcc msc : Nat, mcc ≤ 0 → msc ≤ 0 → b_map f a b = false → q_V g M_Draft_map 1 8 mcc msc (sz, T, I, R, J) (fun o h' => ∃ r : Option Nat, o = .inl (some (va_rf r)) ∧ d_post d D sz T I R J (b_map f a b) p dn r h') 32 [some (.ref d), some (.ref fo), some (.int a), some (.int b), none] [] := by
    intro mcc msc m1 m2 hz
    refine q_iconst (v := nI 0) d_Draft_map_32 (by decide) ?_
    refine q_istore d_Draft_map_33 (Nat.le_of_ble_eq_true rfl) (by first | exact q_ok0 | exact q_okI rfl | exact q_okR rfl | exact q_okN rfl) rfl ?_
    refine q_iload d_Draft_map_35 rfl ?_
    refine q_if_eq (tgt := 55) d_Draft_map_37 rfl (fun hc => ?_) (fun hc => ?_)
    rotate_left
    · exact absurd rfl hc
    refine q_null d_Draft_map_55 ?_
    refine q_aret (v := none) d_Draft_map_56 rfl (by omega) (by omega) ?_
    exact ⟨none, rfl, Or.inl ⟨hz, rfl, rfl⟩⟩
  refine q_C.of (ls0 := [some (.ref d), some (.ref fo), some (.int a), some (.int b), none]) (by decide) rfl (by decide) (Nat.le_of_ble_eq_true rfl) rfl ?_
  refine q_aload_n d_Draft_map_0 rfl rfl ?_
  refine q_getI (ci := 3) (fk := 1) d_Draft_map_1 rfl (Nat.le_of_ble_eq_true rfl) w_62 (fun _ _ => rfl) (by first | assumption | rfl | (simp (disch := omega) only [q_upT_self, q_upT_ne, q_upR_self, q_upR_nea, q_upR_nk, q_upT_at, *]; done) | (simp (disch := omega) only [q_upT_self, q_upT_ne, q_upR_self, q_upR_nea, q_upR_nk, q_upT_at, *]; rfl)) ?_
  rw [g4.2.1]
  refine q_if_ne (tgt := 32) d_Draft_map_4 rfl (fun hc => ?_) (fun hc => ?_)
  · have h0 : ¬ f.2.1 = 0 := hc
    exact no _ _ (by omega) (by omega) (by unfold b_map; rw [decide_eq_false h0]; rfl)
  have h0 : f.2.1 = 0 := by have := hc; simpa using this
  refine q_aload_n d_Draft_map_7 rfl rfl ?_
  refine q_iload_n d_Draft_map_8 rfl rfl ?_
  refine q_callVi (M2 := M_Field_admits) d_Draft_map_9 ⟨(Nat.le_of_ble_eq_true rfl), (Nat.le_of_ble_eq_true rfl), w_599, w_4, ⟨by decide, by decide⟩, show _ = some 1 by decide +kernel⟩ w_596 w_597 (ci := 3) rfl w_598 (by first | assumption | rfl | (simp (disch := omega) only [q_upT_self, q_upT_ne, q_upR_self, q_upR_nea, q_upR_nk, q_upT_at, *]; done) | (simp (disch := omega) only [q_upT_self, q_upT_ne, q_upR_self, q_upR_nea, q_upR_nk, q_upT_at, *]; rfl)) rfl (Nat.le_of_ble_eq_true rfl) (by omega) (by omega) (c_Field_admits g3 g4 a) ?_
  rintro _ _ ⟨rfl, rfl⟩
  cases h1 : (decide (f.2.2.1 ≤ a) && decide (a ≤ f.2.2.2.1)) with
  | false =>
    refine q_if_eq (tgt := 32) d_Draft_map_12 rfl (fun hc => ?_) (fun hc => ?_)
    · exact no _ _ (by omega) (by omega) (by unfold b_map; rw [h1, Bool.false_and, Bool.and_false])
    · exact absurd rfl hc
  | true =>
    refine q_if_eq (tgt := 32) d_Draft_map_12 rfl (fun hc => ?_) (fun hc => ?_)
    · exact absurd hc (by decide)
    refine q_aload_n d_Draft_map_15 rfl rfl ?_
    refine q_iload_n d_Draft_map_16 rfl rfl ?_
    refine q_callVi (M2 := M_Field_admits) d_Draft_map_17 ⟨(Nat.le_of_ble_eq_true rfl), (Nat.le_of_ble_eq_true rfl), w_599, w_4, ⟨by decide, by decide⟩, show _ = some 1 by decide +kernel⟩ w_596 w_597 (ci := 3) rfl w_598 (by first | assumption | rfl | (simp (disch := omega) only [q_upT_self, q_upT_ne, q_upR_self, q_upR_nea, q_upR_nk, q_upT_at, *]; done) | (simp (disch := omega) only [q_upT_self, q_upT_ne, q_upR_self, q_upR_nea, q_upR_nk, q_upT_at, *]; rfl)) rfl (Nat.le_of_ble_eq_true rfl) (by omega) (by omega) (c_Field_admits g3 g4 b) ?_
    rintro _ _ ⟨rfl, rfl⟩
    cases h2 : (decide (f.2.2.1 ≤ b) && decide (b ≤ f.2.2.2.1)) with
    | false =>
      refine q_if_eq (tgt := 32) d_Draft_map_20 rfl (fun hc => ?_) (fun hc => ?_)
      · exact no _ _ (by omega) (by omega) (by unfold b_map; rw [h2, Bool.false_and, Bool.and_false, Bool.and_false])
      · exact absurd rfl hc
    | true =>
      refine q_if_eq (tgt := 32) d_Draft_map_20 rfl (fun hc => ?_) (fun hc => ?_)
      · exact absurd hc (by decide)
      refine q_iload_n d_Draft_map_23 rfl rfl ?_
      refine q_iload_n d_Draft_map_24 rfl rfl ?_
      refine q_icmp_eq (tgt := 32) d_Draft_map_25 rfl (fun hc => ?_) (fun hc => ?_)
      · have h3 : ¬ a ≠ b := fun z => z hc
        exact no _ _ (by omega) (by omega) (by unfold b_map; rw [decide_eq_false h3, Bool.and_false, Bool.and_false, Bool.and_false])
      have h3 : a ≠ b := hc
      have hbb : b_map f a b = true := by unfold b_map; rw [decide_eq_true h0, h1, h2, decide_eq_true h3]; rfl
      rw [hbb]
      have hx := d_ext hfr
      have tfo := hx _ _ g3
      refine q_iconst (v := nI 1) d_Draft_map_28 (by decide) ?_
      refine q_goto (tgt := 33) d_Draft_map_29 rfl ?_
      refine q_istore d_Draft_map_33 (Nat.le_of_ble_eq_true rfl) (by first | exact q_ok0 | exact q_okI rfl | exact q_okR rfl | exact q_okN rfl) rfl ?_
      refine q_iload d_Draft_map_35 rfl ?_
      refine q_if_eq (tgt := 55) d_Draft_map_37 rfl (fun hc => ?_) (fun hc => ?_)
      · exact absurd hc (by decide)
      refine q_newN (ci := 4) (N := 8) d_Draft_map_40 rfl rfl w_141 w_480 w_18 (by omega) (by omega) ?_
      refine q_dup d_Draft_map_43 rfl ?_
      refine q_bipush (v := nI 7) d_Draft_map_44 (by decide) ?_
      refine q_aload_n d_Draft_map_46 rfl rfl ?_
      refine q_iload_n d_Draft_map_47 rfl rfl ?_
      refine q_iload_n d_Draft_map_48 rfl rfl ?_
      refine q_callIv (M2 := M_Primitive_init) d_Draft_map_49 ⟨(Nat.le_of_ble_eq_true rfl), (Nat.le_of_ble_eq_true rfl), w_488, w_18, ⟨by decide, by decide⟩, show _ = some 4 by decide +kernel⟩ rfl rfl rfl w_486 w_487 rfl (Nat.le_of_ble_eq_true rfl) (by omega) (by omega) (c_Primitive_init (f := f) (q_upT_self) tfo g4.2) ?_
      rintro _ ⟨I1, rfl, i1, i2, i3, i4, i5, i6, i7, i8⟩
      refine q_goto (tgt := 56) d_Draft_map_52 rfl ?_
      refine q_aret (v := some _) d_Draft_map_56 rfl (by omega) (by omega) ?_
      exact ⟨some sz, rfl, d_same (i := i) (a := a) (b := b) hh (Or.inl hk) hp i1 (by rw [i2, hk]) i3 i4 i5 i6 (fun _ => by rw [i7, ha]) (fun _ => by rw [i8, hb])⟩
end PrimC4
