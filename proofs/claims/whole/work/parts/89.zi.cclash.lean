/-! clash, by the class: the call -/
section CClash
variable {g : q_G} {x sz : Nat} {T : q_T} {I : q_I} {R : q_R} {J : q_J} {S : KA}
def z_s1 (ss : List KS) (wo : Int32) (u w : Nat) (zs : List KT) : List KT := match k_fst ss wo u w with
  | some s => (match ss[s]? with | some st => z_st (decide (st.fr = u)) st zs | none => zs)
  | none => zs
def z_ways (ss : List KS) (wo : Int32) : List Nat → List KT → List KT
  | [], zs => zs
  | [_], zs => zs
  | u :: w :: t, zs => z_ways ss wo (w :: t) (z_s1 ss wo u w zs)
def z_dif (L2 : List KF) (za zb : List KT) : Bool := (List.range L2.length).any (fun a => (!decide ((L2.getD a ([], 0, 0, 0, 0)).2.1 = 2)) && !(za.getD a [] == zb.getD a []))
theorem z_dif_iff {L2 : List KF} {za zb : List KT} : z_dif L2 za zb = true ↔ ∃ a f, L2[a]? = some f ∧ f.2.1 ≠ 2 ∧ za.getD a [] ≠ zb.getD a [] := by
  unfold z_dif
  rw [List.any_eq_true]
  constructor
  · rintro ⟨a, h1, h2⟩
    have ha := List.mem_range.mp h1
    obtain ⟨f, hf⟩ : ∃ f, L2[a]? = some f := ⟨_, List.getElem?_eq_getElem ha⟩
    rw [Bool.and_eq_true, k_getD hf, Bool.not_eq_true', Bool.not_eq_true'] at h2
    exact ⟨a, f, hf, of_decide_eq_false h2.1, fun z => by rw [z, beq_self_eq_true] at h2; exact absurd h2.2 (by decide)⟩
  · rintro ⟨a, f, hf, h1, h2⟩
    refine ⟨a, List.mem_range.mpr (List.getElem?_eq_some_iff.mp hf).1, ?_⟩
    rw [Bool.and_eq_true, k_getD hf, Bool.not_eq_true', Bool.not_eq_true']
    exact ⟨decide_eq_false h1, Bool.eq_false_iff.mpr fun z => h2 (eq_of_beq z)⟩
/-- what clash does -/
def a_cl (S : KA) (s : Nat) (st : KS) (L L2 : List KF) : KO := match k_way (k_A S.ss (nI s)) S.vs.length st.fr st.to with
  | none => (0, -1, S)
  | some l => (0, p_b (z_dif L2 (z_st true st (z_s0 L)) (z_ways S.ss (nI s) l (z_s0 L))), S)
theorem c_Lens_clash_no (hC : relC S x sz T I R) {v : Int32} (hb : k_bel S.ss.length v = false) : q_C g M_Lens_clash [.ref x, .int v] (sz, T, I, R, J) 1000 14000 (q_Xi [2] (c_sp x sz T I R J (nI 1, 0, S))) := by
  have hL := hC.1.1
  have hV1 := hC.1.2.1.1
  refine q_C.of (ls0 := [some (.ref x), some (.int v), none, none, none, none, none]) (by decide) rfl (by decide) (Nat.le_of_ble_eq_true rfl) rfl ?_
  refine q_aload_n d_Lens_clash_0 rfl rfl ?_
  refine q_getR (ci := 10) (fk := 0) d_Lens_clash_1 rfl (Nat.le_of_ble_eq_true rfl) w_272 (fun _ _ => rfl) hL.1 (hL.2 0 _ _ _ rfl).1 ?_
  refine q_iload_n d_Lens_clash_4 rfl rfl ?_
  refine q_callVi (M2 := M_Versions_hasStep) d_Lens_clash_5 ⟨(Nat.le_of_ble_eq_true rfl), (Nat.le_of_ble_eq_true rfl), w_1035, w_2, ⟨by decide, by decide⟩, show _ = some 1 by decide +kernel⟩ w_1032 w_1033 (ci := 9) rfl w_1034 (by first | assumption | rfl | (simp (disch := omega) only [q_upT_self, q_upT_ne, q_upR_self, q_upR_nea, q_upR_nk, s_T_lo, s_T_hi, s_R_ne, *]; done) | (simp (disch := omega) only [q_upT_self, q_upT_ne, q_upR_self, q_upR_nea, q_upR_nk, s_T_lo, s_T_hi, s_R_ne, *]; rfl)) rfl (Nat.le_of_ble_eq_true rfl) (by omega) (by omega) (c_Versions_hasStep hC.1.2.1 hC.2.2.1.1 v) ?_
  rintro _ _ ⟨rfl, rfl⟩
  rw [hb]
  refine q_if_ne (tgt := 19) d_Lens_clash_8 rfl (fun hc => ?_) (fun hc => ?_)
  · exact absurd rfl hc
  · refine q_throw (x := 2) d_Lens_clash_11 d_Lens_clash_14 d_Lens_clash_15 d_Lens_clash_18 (by decide +kernel) x_nmf (Nat.le_of_ble_eq_true rfl) (Nat.le_of_ble_eq_true rfl) (Nat.le_of_ble_eq_true rfl) w_435 w_17 x_at2 rfl (Nat.le_of_ble_eq_true rfl) (by omega) (by omega) ?_
    exact c_xi_no hC rfl
set_option maxHeartbeats 1000000 in
theorem c_Lens_clash (hw : wf S) (hC : relC S x sz T I R) {s : Nat} {st : KS} {L L2 : List KF} (hs : S.ss[s]? = some st) (hLf : S.vs[st.fr]? = some L) (hLt : S.vs[st.to]? = some L2) : q_C g M_Lens_clash [.ref x, .int (nI s)] (sz, T, I, R, J) 1000 14000 (q_Xi [2] (c_sp x sz T I R J (a_cl S s st L L2))) := by
  have hL := hC.1.1
  have hV := hC.1.2.1
  have hV1 := hV.1
  have hte : q_L 8 t_Terms (x + 72) T R := hC.1.2.2.2.2.2
  have tte := hte.1
  have rb1 : R (x + 72) (nI 0) = some (x + 73) := (hte.2 0 _ _ _ rfl).1
  have rb2 : R (x + 72) (nI 1) = some (x + 74) := (hte.2 1 _ _ _ rfl).1
  have rv0 : R (x + 1) (nI 0) = some (x + 2) := (hV.2 0 _ _ _ rfl).1
  have tv0 : T (x + 2) = some (5, 8) := (hV.2 0 _ _ _ rfl).2
  have rv2 : R (x + 1) (nI 2) = some (x + 3) := (hV.2 2 _ _ _ rfl).1
  have tv2 : T (x + 3) = some (6, 16) := (hV.2 2 _ _ _ rfl).2
  have rv4 : R (x + 1) (nI 4) = some (x + 4) := (hV.2 4 _ _ _ rfl).1
  have tv4 : T (x + 4) = some (0, 8) := (hV.2 4 _ _ _ rfl).2
  have hv8 := hw.1.2.1
  have h16 := hw.2.1.1
  have hsl := (List.getElem?_eq_some_iff.mp hs).1
  obtain ⟨t, t1, t2⟩ := hC.2.2.1.2 s st hs
  obtain ⟨f1, f2, f3, f4, -⟩ := hw.2.1.2 st (List.mem_of_getElem? hs)
  have tt := t2.2.1
  obtain ⟨E, hsk, hE⟩ := hw.stp hs hLf hLt
  have hL24 := (hw.1.2.2 L (List.mem_of_getElem? hLf)).1.1
  have hL224 := (hw.1.2.2 L2 (List.mem_of_getElem? hLt)).1.1
  refine q_C.of (ls0 := [some (.ref x), some (.int (nI s)), none, none, none, none, none]) (by decide) rfl (by decide) (Nat.le_of_ble_eq_true rfl) rfl ?_
  refine q_aload_n d_Lens_clash_0 rfl rfl ?_
  refine q_getR (ci := 10) (fk := 0) d_Lens_clash_1 rfl (Nat.le_of_ble_eq_true rfl) w_272 (fun _ _ => rfl) hL.1 (hL.2 0 _ _ _ rfl).1 ?_
  refine q_iload_n d_Lens_clash_4 rfl rfl ?_
  refine q_callVi (M2 := M_Versions_hasStep) d_Lens_clash_5 ⟨(Nat.le_of_ble_eq_true rfl), (Nat.le_of_ble_eq_true rfl), w_1035, w_2, ⟨by decide, by decide⟩, show _ = some 1 by decide +kernel⟩ w_1032 w_1033 (ci := 9) rfl w_1034 (by first | assumption | rfl | (simp (disch := omega) only [q_upT_self, q_upT_ne, q_upR_self, q_upR_nea, q_upR_nk, s_T_lo, s_T_hi, s_R_ne, *]; done) | (simp (disch := omega) only [q_upT_self, q_upT_ne, q_upR_self, q_upR_nea, q_upR_nk, s_T_lo, s_T_hi, s_R_ne, *]; rfl)) rfl (Nat.le_of_ble_eq_true rfl) (by omega) (by omega) (c_Versions_hasStep hV hC.2.2.1.1 _) ?_
  rintro _ _ ⟨rfl, rfl⟩
  rw [k_bel_nI (by omega) hsl]
  refine q_if_ne (tgt := 19) d_Lens_clash_8 rfl (fun hc => ?_) (fun hc => ?_)
  rotate_left
  · exact absurd hc (by decide)
  refine q_aload_n d_Lens_clash_19 rfl rfl ?_
  refine q_getR (ci := 10) (fk := 0) d_Lens_clash_20 rfl (Nat.le_of_ble_eq_true rfl) w_272 (fun _ _ => rfl) hL.1 (hL.2 0 _ _ _ rfl).1 ?_
  refine q_getR (ci := 9) (fk := 2) d_Lens_clash_23 rfl (Nat.le_of_ble_eq_true rfl) w_114 (fun _ _ => rfl) (by first | assumption | rfl | (simp (disch := omega) only [q_upT_self, q_upT_ne, q_upR_self, q_upR_nea, q_upR_nk, s_T_lo, s_T_hi, s_R_ne, *]; done) | (simp (disch := omega) only [q_upT_self, q_upT_ne, q_upR_self, q_upR_nea, q_upR_nk, s_T_lo, s_T_hi, s_R_ne, *]; rfl)) (by first | assumption | rfl | (simp (disch := omega) only [q_upT_self, q_upT_ne, q_upR_self, q_upR_nea, q_upR_nk, s_T_lo, s_T_hi, s_R_ne, *]; done) | (simp (disch := omega) only [q_upT_self, q_upT_ne, q_upR_self, q_upR_nea, q_upR_nk, s_T_lo, s_T_hi, s_R_ne, *]; rfl)) ?_
  refine q_iload_n d_Lens_clash_26 rfl rfl ?_
  refine q_aaldR (kd := _) d_Lens_clash_27 rfl (Nat.le_of_ble_eq_true rfl) (Nat.le_of_ble_eq_true rfl) (by first | assumption | rfl | (simp (disch := omega) only [q_upT_self, q_upT_ne, q_upR_self, q_upR_nea, q_upR_nk, s_T_lo, s_T_hi, s_R_ne, *]; done) | (simp (disch := omega) only [q_upT_self, q_upT_ne, q_upR_self, q_upR_nea, q_upR_nk, s_T_lo, s_T_hi, s_R_ne, *]; rfl)) (by first | assumption | exact vp_in_nI (by omega) (by omega)) (by first | assumption | rfl | (simp (disch := omega) only [q_upT_self, q_upT_ne, q_upR_self, q_upR_nea, q_upR_nk, s_T_lo, s_T_hi, s_R_ne, *]; done) | (simp (disch := omega) only [q_upT_self, q_upT_ne, q_upR_self, q_upR_nea, q_upR_nk, s_T_lo, s_T_hi, s_R_ne, *]; rfl)) ?_
  refine q_astore_n d_Lens_clash_28 rfl (Nat.le_of_ble_eq_true rfl) (by first | exact q_ok0 | exact q_okI rfl | exact q_okR rfl | exact q_okN rfl) rfl ?_
  refine q_aload_n d_Lens_clash_29 rfl rfl ?_
  refine q_getR (ci := 10) (fk := 0) d_Lens_clash_30 rfl (Nat.le_of_ble_eq_true rfl) w_272 (fun _ _ => rfl) hL.1 (hL.2 0 _ _ _ rfl).1 ?_
  refine q_aload_n d_Lens_clash_33 rfl rfl ?_
  refine q_getI (ci := 7) (fk := 1) d_Lens_clash_34 rfl (Nat.le_of_ble_eq_true rfl) w_647 (fun _ _ => rfl) (by first | assumption | rfl | (simp (disch := omega) only [q_upT_self, q_upT_ne, q_upR_self, q_upR_nea, q_upR_nk, s_T_lo, s_T_hi, s_R_ne, *]; done) | (simp (disch := omega) only [q_upT_self, q_upT_ne, q_upR_self, q_upR_nea, q_upR_nk, s_T_lo, s_T_hi, s_R_ne, *]; rfl)) ?_
  rw [t2.2.2.2.1]
  refine q_aload_n d_Lens_clash_37 rfl rfl ?_
  refine q_getI (ci := 7) (fk := 2) d_Lens_clash_38 rfl (Nat.le_of_ble_eq_true rfl) w_651 (fun _ _ => rfl) (by first | assumption | rfl | (simp (disch := omega) only [q_upT_self, q_upT_ne, q_upR_self, q_upR_nea, q_upR_nk, s_T_lo, s_T_hi, s_R_ne, *]; done) | (simp (disch := omega) only [q_upT_self, q_upT_ne, q_upR_self, q_upR_nea, q_upR_nk, s_T_lo, s_T_hi, s_R_ne, *]; rfl)) ?_
  rw [t2.2.2.2.2.1]
  refine q_iload_n d_Lens_clash_41 rfl rfl ?_
  refine q_callVi (M2 := M_Versions_findWay) d_Lens_clash_42 ⟨(Nat.le_of_ble_eq_true rfl), (Nat.le_of_ble_eq_true rfl), w_878, w_2, ⟨by decide, by decide⟩, show _ = some 3 by decide +kernel⟩ w_875 w_876 (ci := 9) rfl w_877 (by first | assumption | rfl | (simp (disch := omega) only [q_upT_self, q_upT_ne, q_upR_self, q_upR_nea, q_upR_nk, s_T_lo, s_T_hi, s_R_ne, *]; done) | (simp (disch := omega) only [q_upT_self, q_upT_ne, q_upR_self, q_upR_nea, q_upR_nk, s_T_lo, s_T_hi, s_R_ne, *]; rfl)) rfl (Nat.le_of_ble_eq_true rfl) (by omega) (by omega) (c_Versions_findWay hV (hC.ssv hw) hC.2.1.1 hv8 f1 f2 hw.st8 (nI s)) ?_
  rintro _ _ ⟨rfl, I0, rfl, i1, i2⟩
  obtain ⟨hC0, hF0⟩ := hC.scratch (I' := I0) (fun b b1 b2 b3 => i1 b b1 b2)
  cases ho : k_way (k_A S.ss (nI s)) S.vs.length st.fr st.to with
  | none =>
    have ea : a_cl S s st L L2 = (0, -1, S) := by unfold a_cl; rw [ho]
    refine q_istore_n d_Lens_clash_45 rfl (Nat.le_of_ble_eq_true rfl) (by first | exact q_ok0 | exact q_okI rfl | exact q_okR rfl | exact q_okN rfl) rfl ?_
    refine q_iload_n d_Lens_clash_46 rfl rfl ?_
    refine q_iconst (v := (-1)) d_Lens_clash_47 (by decide) ?_
    refine q_icmp_ne (tgt := 53) d_Lens_clash_48 rfl (fun hc => ?_) (fun hc => ?_)
    · exact absurd rfl hc
    · refine q_iconst (v := (-1)) d_Lens_clash_51 (by decide) ?_
      refine q_iret d_Lens_clash_52 rfl (by omega) (by omega) ?_
      rw [ea]
      exact Or.inl ⟨_, rfl, rfl, fun _ => rfl, _, _, _, _, rfl, hF0, hC0⟩
  | some l =>
    obtain ⟨l1, l2⟩ := k_way_len hv8 ho
    obtain ⟨w1, w2, w3, w4⟩ := k_way_ok f1 f2 ho
    have har := i2 l ho
    obtain ⟨zA, hzA⟩ : ∃ zA, zA = z_st true st (z_s0 L) := ⟨_, rfl⟩
    obtain ⟨zB, hzB⟩ : ∃ zB, zB = z_ways S.ss (nI s) l (z_s0 L) := ⟨_, rfl⟩
    have ea : a_cl S s st L L2 = (0, p_b (z_dif L2 zA zB), S) := by unfold a_cl; rw [ho, hzA, hzB]
    rw [ea]
    rw [show p_idx ((some l).map (fun l => l.length - 1)) = nI (l.length - 1) from rfl]
    obtain ⟨sf, wf', sf1, sf2, sf3, sf4⟩ := hC0.verAt hLf
    have tsf := sf4.1.1.1
    have fr0 : I0 t (nI 1) = nI st.fr := by rw [i1 t (by have := t2.1; omega) (by have := t2.1; omega)]; exact t2.2.2.2.1
    refine q_istore_n d_Lens_clash_45 rfl (Nat.le_of_ble_eq_true rfl) (by first | exact q_ok0 | exact q_okI rfl | exact q_okR rfl | exact q_okN rfl) rfl ?_
    refine q_iload_n d_Lens_clash_46 rfl rfl ?_
    refine q_iconst (v := (-1)) d_Lens_clash_47 (by decide) ?_
    refine q_icmp_ne (tgt := 53) d_Lens_clash_48 rfl (fun hc => ?_) (fun hc => ?_)
    rotate_left
    · exact absurd hc (nI_m1 (by omega))
    refine q_aload_n d_Lens_clash_53 rfl rfl ?_
    refine q_getR (ci := 10) (fk := 0) d_Lens_clash_54 rfl (Nat.le_of_ble_eq_true rfl) w_272 (fun _ _ => rfl) hL.1 (hL.2 0 _ _ _ rfl).1 ?_
    refine q_getR (ci := 9) (fk := 0) d_Lens_clash_57 rfl (Nat.le_of_ble_eq_true rfl) w_110 (fun _ _ => rfl) (by first | assumption | rfl | (simp (disch := omega) only [q_upT_self, q_upT_ne, q_upR_self, q_upR_nea, q_upR_nk, s_T_lo, s_T_hi, s_R_ne, *]; done) | (simp (disch := omega) only [q_upT_self, q_upT_ne, q_upR_self, q_upR_nea, q_upR_nk, s_T_lo, s_T_hi, s_R_ne, *]; rfl)) (by first | assumption | rfl | (simp (disch := omega) only [q_upT_self, q_upT_ne, q_upR_self, q_upR_nea, q_upR_nk, s_T_lo, s_T_hi, s_R_ne, *]; done) | (simp (disch := omega) only [q_upT_self, q_upT_ne, q_upR_self, q_upR_nea, q_upR_nk, s_T_lo, s_T_hi, s_R_ne, *]; rfl)) ?_
    refine q_aload_n d_Lens_clash_60 rfl rfl ?_
    refine q_getI (ci := 7) (fk := 1) d_Lens_clash_61 rfl (Nat.le_of_ble_eq_true rfl) w_647 (fun _ _ => rfl) (by first | assumption | rfl | (simp (disch := omega) only [q_upT_self, q_upT_ne, q_upR_self, q_upR_nea, q_upR_nk, s_T_lo, s_T_hi, s_R_ne, *]; done) | (simp (disch := omega) only [q_upT_self, q_upT_ne, q_upR_self, q_upR_nea, q_upR_nk, s_T_lo, s_T_hi, s_R_ne, *]; rfl)) ?_
    rw [fr0]
    refine q_aaldR (kd := _) d_Lens_clash_64 rfl (Nat.le_of_ble_eq_true rfl) (Nat.le_of_ble_eq_true rfl) (by first | assumption | rfl | (simp (disch := omega) only [q_upT_self, q_upT_ne, q_upR_self, q_upR_nea, q_upR_nk, s_T_lo, s_T_hi, s_R_ne, *]; done) | (simp (disch := omega) only [q_upT_self, q_upT_ne, q_upR_self, q_upR_nea, q_upR_nk, s_T_lo, s_T_hi, s_R_ne, *]; rfl)) (by first | assumption | exact vp_in_nI (by omega) (by omega)) (by first | assumption | rfl | (simp (disch := omega) only [q_upT_self, q_upT_ne, q_upR_self, q_upR_nea, q_upR_nk, s_T_lo, s_T_hi, s_R_ne, *]; done) | (simp (disch := omega) only [q_upT_self, q_upT_ne, q_upR_self, q_upR_nea, q_upR_nk, s_T_lo, s_T_hi, s_R_ne, *]; rfl)) ?_
    refine q_astore d_Lens_clash_65 (Nat.le_of_ble_eq_true rfl) (by first | exact q_ok0 | exact q_okI rfl | exact q_okR rfl | exact q_okN rfl) rfl ?_
    refine q_aload_n d_Lens_clash_67 rfl rfl ?_
    refine q_getR (ci := 10) (fk := 5) d_Lens_clash_68 rfl (Nat.le_of_ble_eq_true rfl) w_277 (fun _ _ => rfl) hL.1 (hL.2 5 _ _ _ rfl).1 ?_
    refine q_callVv (M2 := M_Terms_clear) d_Lens_clash_71 ⟨(Nat.le_of_ble_eq_true rfl), (Nat.le_of_ble_eq_true rfl), w_1039, w_9, ⟨by decide, by decide⟩, show _ = some 0 by decide +kernel⟩ w_1036 w_1037 (ci := 8) rfl w_1038 (by first | assumption | rfl | (simp (disch := omega) only [q_upT_self, q_upT_ne, q_upR_self, q_upR_nea, q_upR_nk, s_T_lo, s_T_hi, s_R_ne, *]; done) | (simp (disch := omega) only [q_upT_self, q_upT_ne, q_upR_self, q_upR_nea, q_upR_nk, s_T_lo, s_T_hi, s_R_ne, *]; rfl)) rfl (Nat.le_of_ble_eq_true rfl) (by omega) (by omega) (c_Terms_clear hte) ?_
    rintro _ ⟨I1, rfl, c1, c2⟩
    have sc1 : k_sc sf L wf' T I1 R := by
      have := (hC0.scratch (I' := I1) (fun b b1 b2 b3 => c1 b (by omega))).1
      obtain ⟨s', w', a1, a2, a3, a4⟩ := this.verAt hLf
      have es : s' = sf := Option.some.inj (a1.symm.trans sf1)
      refine sf4.cong fun b b1 b2 => c1 b fun z => ?_
      have := sf4.1.tys b1 b2
      exact sf4.1.ne b1 b2 tte (by decide) (by decide) (by decide) z
    refine q_aload_n d_Lens_clash_74 rfl rfl ?_
    refine q_getR (ci := 10) (fk := 5) d_Lens_clash_75 rfl (Nat.le_of_ble_eq_true rfl) w_277 (fun _ _ => rfl) hL.1 (hL.2 5 _ _ _ rfl).1 ?_
    refine q_aload_n d_Lens_clash_78 rfl rfl ?_
    refine q_getR (ci := 10) (fk := 5) d_Lens_clash_79 rfl (Nat.le_of_ble_eq_true rfl) w_277 (fun _ _ => rfl) hL.1 (hL.2 5 _ _ _ rfl).1 ?_
    refine q_getR (ci := 8) (fk := 0) d_Lens_clash_82 rfl (Nat.le_of_ble_eq_true rfl) w_237 (fun _ _ => rfl) (by first | assumption | rfl | (simp (disch := omega) only [q_upT_self, q_upT_ne, q_upR_self, q_upR_nea, q_upR_nk, s_T_lo, s_T_hi, s_R_ne, *]; done) | (simp (disch := omega) only [q_upT_self, q_upT_ne, q_upR_self, q_upR_nea, q_upR_nk, s_T_lo, s_T_hi, s_R_ne, *]; rfl)) (by first | assumption | rfl | (simp (disch := omega) only [q_upT_self, q_upT_ne, q_upR_self, q_upR_nea, q_upR_nk, s_T_lo, s_T_hi, s_R_ne, *]; done) | (simp (disch := omega) only [q_upT_self, q_upT_ne, q_upR_self, q_upR_nea, q_upR_nk, s_T_lo, s_T_hi, s_R_ne, *]; rfl)) ?_
    refine q_aload d_Lens_clash_85 rfl ?_
    refine q_callVv (M2 := M_Terms_start) d_Lens_clash_87 ⟨(Nat.le_of_ble_eq_true rfl), (Nat.le_of_ble_eq_true rfl), w_1043, w_9, ⟨by decide, by decide⟩, show _ = some 2 by decide +kernel⟩ w_1040 w_1041 (ci := 8) rfl w_1042 (by first | assumption | rfl | (simp (disch := omega) only [q_upT_self, q_upT_ne, q_upR_self, q_upR_nea, q_upR_nk, s_T_lo, s_T_hi, s_R_ne, *]; done) | (simp (disch := omega) only [q_upT_self, q_upT_ne, q_upR_self, q_upR_nea, q_upR_nk, s_T_lo, s_T_hi, s_R_ne, *]; rfl)) rfl (Nat.le_of_ble_eq_true rfl) (by omega) (by omega) (c_Terms_start (ar := x + 73) hte (Or.inl rfl) sc1 c2 (by rw [List.length_nil]; omega)) ?_
    rintro _ ⟨I2, tb2, rfl, d1, d2, d3, d4, -, d6⟩
    rw [List.length_nil, Nat.zero_add] at d4
    have ks2 : k_stp x t s st T I2 R := t2.cong fun b hb => by rw [d1 b (by omega) (by omega) (by omega), c1 b (by omega), i1 b (by omega) (by omega)]
    refine q_aload_n d_Lens_clash_90 rfl rfl ?_
    refine q_getR (ci := 10) (fk := 5) d_Lens_clash_91 rfl (Nat.le_of_ble_eq_true rfl) w_277 (fun _ _ => rfl) hL.1 (hL.2 5 _ _ _ rfl).1 ?_
    refine q_aload_n d_Lens_clash_94 rfl rfl ?_
    refine q_getR (ci := 10) (fk := 5) d_Lens_clash_95 rfl (Nat.le_of_ble_eq_true rfl) w_277 (fun _ _ => rfl) hL.1 (hL.2 5 _ _ _ rfl).1 ?_
    refine q_getR (ci := 8) (fk := 0) d_Lens_clash_98 rfl (Nat.le_of_ble_eq_true rfl) w_237 (fun _ _ => rfl) (by first | assumption | rfl | (simp (disch := omega) only [q_upT_self, q_upT_ne, q_upR_self, q_upR_nea, q_upR_nk, s_T_lo, s_T_hi, s_R_ne, *]; done) | (simp (disch := omega) only [q_upT_self, q_upT_ne, q_upR_self, q_upR_nea, q_upR_nk, s_T_lo, s_T_hi, s_R_ne, *]; rfl)) (by first | assumption | rfl | (simp (disch := omega) only [q_upT_self, q_upT_ne, q_upR_self, q_upR_nea, q_upR_nk, s_T_lo, s_T_hi, s_R_ne, *]; done) | (simp (disch := omega) only [q_upT_self, q_upT_ne, q_upR_self, q_upR_nea, q_upR_nk, s_T_lo, s_T_hi, s_R_ne, *]; rfl)) ?_
    refine q_aload_n d_Lens_clash_101 rfl rfl ?_
    refine q_iconst (v := nI 1) d_Lens_clash_102 (by decide) ?_
    refine q_callVv (M2 := M_Terms_takeOver) d_Lens_clash_103 ⟨(Nat.le_of_ble_eq_true rfl), (Nat.le_of_ble_eq_true rfl), w_1055, w_9, ⟨by decide, by decide⟩, show _ = some 3 by decide +kernel⟩ w_1052 w_1053 (ci := 8) rfl w_1054 (by first | assumption | rfl | (simp (disch := omega) only [q_upT_self, q_upT_ne, q_upR_self, q_upR_nea, q_upR_nk, s_T_lo, s_T_hi, s_R_ne, *]; done) | (simp (disch := omega) only [q_upT_self, q_upT_ne, q_upR_self, q_upR_nea, q_upR_nk, s_T_lo, s_T_hi, s_R_ne, *]; rfl)) rfl (Nat.le_of_ble_eq_true rfl) (by omega) (by omega) (c_Terms_takeOver (ar := x + 73) (fw := true) (zs := z_s0 L) hte (Or.inl rfl) ks2 hsk hE (by omega) d2 (by omega) d6) ?_
    rintro _ ⟨I3, tb3, rfl, e1, e2, e3, e4, e5⟩
    rw [← hzA] at e5
    have e5 : o_ar (x + 73) L2 zA tb3 I3 := e5
    have fr3 : ∀ b, b ≠ x + 4 → b ≠ x + 5 → b < x + 69 ∨ x + 83 ≤ b → I3 b = I b := fun b b1 b2 b3 => by rw [e1 b (by omega) (by omega) (by omega), d1 b (by omega) (by omega) (by omega), c1 b (by omega), i1 b b1 b2]
    have sc3 : k_sc sf L wf' T I3 R := sf4.cong fun b b1 b2 => by
      have n1 := sf4.1.ne b1 b2 tte (by decide) (by decide) (by decide)
      have no : ∀ k, (b = x + 73 ∨ b = x + 74 ∨ b = x + 75 ∨ b = x + 76 ∨ b = x + 77 ∨ b = x + 78 ∨ b = x + 79 ∨ b = x + 80 ∨ b = x + 81 ∨ b = x + 82) → k = 0 → False := fun k z _ => by
        rcases z with z | z | z | z | z | z | z | z | z | z
        · exact sf4.1.ne b1 b2 (hte.2 0 _ _ _ rfl).2 (by decide) (by decide) (by decide) z
        · exact sf4.1.ne b1 b2 (hte.2 1 _ _ _ rfl).2 (by decide) (by decide) (by decide) z
        · exact sf4.1.ne b1 b2 (hte.2 2 _ _ _ rfl).2 (by decide) (by decide) (by decide) z
        · exact sf4.1.ne b1 b2 (hte.2 3 _ _ _ rfl).2 (by decide) (by decide) (by decide) z
        · exact sf4.1.ne b1 b2 (hte.2 4 _ _ _ rfl).2 (by decide) (by decide) (by decide) z
        · exact sf4.1.ne b1 b2 (hte.2 5 _ _ _ rfl).2 (by decide) (by decide) (by decide) z
        · exact sf4.1.ne b1 b2 (hte.2 6 _ _ _ rfl).2 (by decide) (by decide) (by decide) z
        · exact sf4.1.ne b1 b2 (hte.2 7 _ _ _ rfl).2 (by decide) (by decide) (by decide) z
        · exact sf4.1.ne b1 b2 (hte.2 8 _ _ _ rfl).2 (by decide) (by decide) (by decide) z
        · exact sf4.1.ne b1 b2 (hte.2 9 _ _ _ rfl).2 (by decide) (by decide) (by decide) z
      have hb : b < x + 72 ∨ x + 82 < b := Classical.byContradiction fun z => no 0 (by omega) rfl
      rw [e1 b (by omega) (by omega) (by omega), d1 b (by omega) (by omega) (by omega), c1 b (by omega)]
    refine q_aload_n d_Lens_clash_106 rfl rfl ?_
    refine q_getR (ci := 10) (fk := 5) d_Lens_clash_107 rfl (Nat.le_of_ble_eq_true rfl) w_277 (fun _ _ => rfl) hL.1 (hL.2 5 _ _ _ rfl).1 ?_
    refine q_aload_n d_Lens_clash_110 rfl rfl ?_
    refine q_getR (ci := 10) (fk := 5) d_Lens_clash_111 rfl (Nat.le_of_ble_eq_true rfl) w_277 (fun _ _ => rfl) hL.1 (hL.2 5 _ _ _ rfl).1 ?_
    refine q_getR (ci := 8) (fk := 1) d_Lens_clash_114 rfl (Nat.le_of_ble_eq_true rfl) w_239 (fun _ _ => rfl) (by first | assumption | rfl | (simp (disch := omega) only [q_upT_self, q_upT_ne, q_upR_self, q_upR_nea, q_upR_nk, s_T_lo, s_T_hi, s_R_ne, *]; done) | (simp (disch := omega) only [q_upT_self, q_upT_ne, q_upR_self, q_upR_nea, q_upR_nk, s_T_lo, s_T_hi, s_R_ne, *]; rfl)) (by first | assumption | rfl | (simp (disch := omega) only [q_upT_self, q_upT_ne, q_upR_self, q_upR_nea, q_upR_nk, s_T_lo, s_T_hi, s_R_ne, *]; done) | (simp (disch := omega) only [q_upT_self, q_upT_ne, q_upR_self, q_upR_nea, q_upR_nk, s_T_lo, s_T_hi, s_R_ne, *]; rfl)) ?_
    refine q_aload d_Lens_clash_117 rfl ?_
    refine q_callVv (M2 := M_Terms_start) d_Lens_clash_119 ⟨(Nat.le_of_ble_eq_true rfl), (Nat.le_of_ble_eq_true rfl), w_1043, w_9, ⟨by decide, by decide⟩, show _ = some 2 by decide +kernel⟩ w_1040 w_1041 (ci := 8) rfl w_1042 (by first | assumption | rfl | (simp (disch := omega) only [q_upT_self, q_upT_ne, q_upR_self, q_upR_nea, q_upR_nk, s_T_lo, s_T_hi, s_R_ne, *]; done) | (simp (disch := omega) only [q_upT_self, q_upT_ne, q_upR_self, q_upR_nea, q_upR_nk, s_T_lo, s_T_hi, s_R_ne, *]; rfl)) rfl (Nat.le_of_ble_eq_true rfl) (by omega) (by omega) (c_Terms_start (ar := x + 74) hte (Or.inr rfl) sc3 e2 (by omega)) ?_
    rintro _ ⟨I4, tb4, rfl, g1, g2, g3, g4, g5, g6⟩
    have et4 : tb4 = tb3 := g5 fun a f hf hso => by
      have := ((d6 a f hf).2 hso).1
      rw [z_s0_at (List.getElem?_eq_some_iff.mp hf).1] at this
      exact e3.mem this
    rw [et4] at g2 g3 g6
    have fr4 : ∀ b, b ≠ x + 4 → b ≠ x + 5 → b < x + 69 ∨ x + 83 ≤ b → I4 b = I b := fun b b1 b2 b3 => by rw [g1 b (by omega) (by omega) (by omega), fr3 b b1 b2 b3]
    have sto4 : k_ar (I4 (x + 4)) l := by
      rw [g1 _ (by omega) (by omega) (by omega), e1 _ (by omega) (by omega) (by omega), d1 _ (by omega) (by omega) (by omega), c1 _ (by omega)]
      exact har
    have hA4 : o_ar (x + 73) L2 zA tb3 I4 := e5.keep (z_ex.refl tb3) (g1 _ (by omega) (by omega) (by omega))
    have loop : ∀ (ls : List Nat) (k u : Nat) (Lu : List KF) (zs : List KT) (I5 : q_I) (tb5 : List KT) (l6 : Option Value) (mcc msc : Nat), mcc ≤ 10 → msc ≤ 100 → k + 1 + ls.length = l.length → (∀ j, l[k + j]? = (u :: ls)[j]?) → S.vs[u]? = some Lu → (∀ b, b ≠ x + 4 → b ≠ x + 5 → b < x + 69 ∨ x + 83 ≤ b → I5 b = I b) → k_ar (I5 (x + 4)) l → o_tb (x + 72) tb5 I5 → tb5.length ≤ 40 + 16 * k → o_ar (x + 73) L2 zA tb5 I5 → o_ar (x + 74) Lu zs tb5 I5 → z_ways S.ss (nI s) (u :: ls) zs = zB → q_V g M_Lens_clash 1000 14000 mcc msc (sz, T, I5, R, J) (q_Xi [2] (c_sp x sz T I R J (0, p_b (z_dif L2 zA zB), S))) 125 [some (.ref x), some (.int (nI s)), some (.ref t), some (.int (nI (l.length - 1))), some (.ref sf), some (.int (nI k)), l6] [] := by
      intro ls
      induction ls with
      | nil =>
        intro k u Lu zs I5 tb5 l6 mcc msc m1 m2 a1 a2 a3 a4 a5 a6 a7 a8 a9 a10
        simp only [List.length_nil] at a1
        obtain ⟨hC5, hF5⟩ := hC.scratch (I' := I5) a4
        obtain ⟨st', wt', st1, st2, st3, st4⟩ := hC5.verAt hLt
        have tst := st4.1.1.1
        have hut : u = st.to := by
          have := a2 0
          rw [Nat.add_zero, show k = l.length - 1 by omega, w4] at this
          exact (Option.some.inj this).symm
        have eLu : Lu = L2 := by rw [hut, hLt] at a3; exact (Option.some.inj a3).symm
        rw [eLu] at a9
        have ezs : zs = zB := a10
        rw [ezs] at a9
        have to5 : I5 t (nI 2) = nI st.to := by rw [a4 t (by have := t2.1; omega) (by have := t2.1; omega) (by have := t2.1; omega)]; exact t2.2.2.2.2.1
        refine q_iload d_Lens_clash_125 rfl ?_
        refine q_iload_n d_Lens_clash_127 rfl rfl ?_
        refine q_icmp_ge (tgt := 188) d_Lens_clash_128 rfl (fun hc => ?_) (fun hc => ?_)
        rotate_left
        · exact absurd (by rw [nI_leI (by omega) (by omega)]; omega) hc
        refine q_aload_n d_Lens_clash_188 rfl rfl ?_
        refine q_getR (ci := 10) (fk := 5) d_Lens_clash_189 rfl (Nat.le_of_ble_eq_true rfl) w_277 (fun _ _ => rfl) hL.1 (hL.2 5 _ _ _ rfl).1 ?_
        refine q_aload_n d_Lens_clash_192 rfl rfl ?_
        refine q_getR (ci := 10) (fk := 0) d_Lens_clash_193 rfl (Nat.le_of_ble_eq_true rfl) w_272 (fun _ _ => rfl) hL.1 (hL.2 0 _ _ _ rfl).1 ?_
        refine q_getR (ci := 9) (fk := 0) d_Lens_clash_196 rfl (Nat.le_of_ble_eq_true rfl) w_110 (fun _ _ => rfl) (by first | assumption | rfl | (simp (disch := omega) only [q_upT_self, q_upT_ne, q_upR_self, q_upR_nea, q_upR_nk, s_T_lo, s_T_hi, s_R_ne, *]; done) | (simp (disch := omega) only [q_upT_self, q_upT_ne, q_upR_self, q_upR_nea, q_upR_nk, s_T_lo, s_T_hi, s_R_ne, *]; rfl)) (by first | assumption | rfl | (simp (disch := omega) only [q_upT_self, q_upT_ne, q_upR_self, q_upR_nea, q_upR_nk, s_T_lo, s_T_hi, s_R_ne, *]; done) | (simp (disch := omega) only [q_upT_self, q_upT_ne, q_upR_self, q_upR_nea, q_upR_nk, s_T_lo, s_T_hi, s_R_ne, *]; rfl)) ?_
        refine q_aload_n d_Lens_clash_199 rfl rfl ?_
        refine q_getI (ci := 7) (fk := 2) d_Lens_clash_200 rfl (Nat.le_of_ble_eq_true rfl) w_651 (fun _ _ => rfl) (by first | assumption | rfl | (simp (disch := omega) only [q_upT_self, q_upT_ne, q_upR_self, q_upR_nea, q_upR_nk, s_T_lo, s_T_hi, s_R_ne, *]; done) | (simp (disch := omega) only [q_upT_self, q_upT_ne, q_upR_self, q_upR_nea, q_upR_nk, s_T_lo, s_T_hi, s_R_ne, *]; rfl)) ?_
        rw [to5]
        refine q_aaldR (kd := _) d_Lens_clash_203 rfl (Nat.le_of_ble_eq_true rfl) (Nat.le_of_ble_eq_true rfl) (by first | assumption | rfl | (simp (disch := omega) only [q_upT_self, q_upT_ne, q_upR_self, q_upR_nea, q_upR_nk, s_T_lo, s_T_hi, s_R_ne, *]; done) | (simp (disch := omega) only [q_upT_self, q_upT_ne, q_upR_self, q_upR_nea, q_upR_nk, s_T_lo, s_T_hi, s_R_ne, *]; rfl)) (by first | assumption | exact vp_in_nI (by omega) (by omega)) (by first | assumption | rfl | (simp (disch := omega) only [q_upT_self, q_upT_ne, q_upR_self, q_upR_nea, q_upR_nk, s_T_lo, s_T_hi, s_R_ne, *]; done) | (simp (disch := omega) only [q_upT_self, q_upT_ne, q_upR_self, q_upR_nea, q_upR_nk, s_T_lo, s_T_hi, s_R_ne, *]; rfl)) ?_
        refine q_getI (ci := 6) (fk := 1) d_Lens_clash_204 rfl (Nat.le_of_ble_eq_true rfl) w_101 (fun _ _ => rfl) (by first | assumption | rfl | (simp (disch := omega) only [q_upT_self, q_upT_ne, q_upR_self, q_upR_nea, q_upR_nk, s_T_lo, s_T_hi, s_R_ne, *]; done) | (simp (disch := omega) only [q_upT_self, q_upT_ne, q_upR_self, q_upR_nea, q_upR_nk, s_T_lo, s_T_hi, s_R_ne, *]; rfl)) ?_
        rw [st4.2.1]
        refine q_callVi (M2 := M_Terms_differ) d_Lens_clash_207 ⟨(Nat.le_of_ble_eq_true rfl), (Nat.le_of_ble_eq_true rfl), w_1097, w_9, ⟨by decide, by decide⟩, show _ = some 1 by decide +kernel⟩ w_1094 w_1095 (ci := 8) rfl w_1096 (by first | assumption | rfl | (simp (disch := omega) only [q_upT_self, q_upT_ne, q_upR_self, q_upR_nea, q_upR_nk, s_T_lo, s_T_hi, s_R_ne, *]; done) | (simp (disch := omega) only [q_upT_self, q_upT_ne, q_upR_self, q_upR_nea, q_upR_nk, s_T_lo, s_T_hi, s_R_ne, *]; rfl)) rfl (Nat.le_of_ble_eq_true rfl) (by omega) (by omega) (c_Terms_differ hte hL224) ?_
        rintro r _ ⟨rfl, hr⟩
        have key : ∀ a f, L2[a]? = some f → (I5 (x + 72 + 1) (nI a) = I5 (x + 72 + 2) (nI a) ↔ (f.2.1 = 2 ∨ zA.getD a [] = zB.getD a [])) := fun a f hf => by
          obtain ⟨x1, x2⟩ := a8 a f hf
          obtain ⟨y1, y2⟩ := a9 a f hf
          by_cases h2 : f.2.1 = 2
          · have q1 : I5 (x + 72 + 1) (nI a) = -1 := x1 h2
            have q2 : I5 (x + 72 + 2) (nI a) = -1 := y1 h2
            rw [q1, q2]
            exact ⟨fun _ => Or.inl h2, fun _ => rfl⟩
          · obtain ⟨x3, x4⟩ := x2 h2
            obtain ⟨y3, y4⟩ := y2 h2
            have q1 : I5 (x + 72 + 1) (nI a) = nI (tb5.idxOf (zA.getD a [])) := x4
            have q2 : I5 (x + 72 + 2) (nI a) = nI (tb5.idxOf (zB.getD a [])) := y4
            have j1 := z_ix_lt x3
            have j2 := z_ix_lt y3
            rw [q1, q2, nI_eq (by omega) (by omega)]
            exact ⟨fun z => Or.inr (z_ix_inj x3 y3 z), fun z => by rcases z with z | z; exact absurd z h2; rw [z]⟩
        rcases hr with ⟨rfl, hr⟩ | ⟨rfl, i, i3, i4⟩
        · have hd : z_dif L2 zA zB = false := Bool.eq_false_iff.mpr fun z => by
            obtain ⟨a, f, hf, h2, h3⟩ := z_dif_iff.mp z
            rcases (key a f hf).mp (hr a (List.getElem?_eq_some_iff.mp hf).1) with z | z
            · exact h2 z
            · exact h3 z
          rw [hd]
          refine q_if_eq (tgt := 217) d_Lens_clash_210 rfl (fun hc => ?_) (fun hc => ?_)
          rotate_left
          · exact absurd rfl hc
          refine q_iconst (v := nI 0) d_Lens_clash_217 (by decide) ?_
          refine q_iret d_Lens_clash_218 rfl (by omega) (by omega) ?_
          exact Or.inl ⟨_, rfl, rfl, fun _ => rfl, _, _, _, _, rfl, hF5, hC5⟩
        · have hd : z_dif L2 zA zB = true := by
            obtain ⟨f, hf⟩ : ∃ f, L2[i]? = some f := ⟨_, List.getElem?_eq_getElem i3⟩
            refine z_dif_iff.mpr ⟨i, f, hf, fun z => i4 ((key i f hf).mpr (Or.inl z)), fun z => i4 ((key i f hf).mpr (Or.inr z))⟩
          rw [hd]
          refine q_if_eq (tgt := 217) d_Lens_clash_210 rfl (fun hc => ?_) (fun hc => ?_)
          · exact absurd hc (by decide)
          refine q_iconst (v := nI 1) d_Lens_clash_213 (by decide) ?_
          refine q_goto (tgt := 218) d_Lens_clash_214 rfl ?_
          refine q_iret d_Lens_clash_218 rfl (by omega) (by omega) ?_
          exact Or.inl ⟨_, rfl, rfl, fun _ => rfl, _, _, _, _, rfl, hF5, hC5⟩
      | cons w ls ih =>
        intro k u Lu zs I5 tb5 l6 mcc msc m1 m2 a1 a2 a3 a4 a5 a6 a7 a8 a9 a10
        simp only [List.length_cons] at a1
        obtain ⟨hC5, hF5⟩ := hC.scratch (I' := I5) a4
        have hku : l[k]? = some u := a2 0
        have hkw : l[k + 1]? = some w := a2 1
        have hA' := w1 k u w hku hkw
        have hu8 : u < 8 := by have := w2 u (List.mem_of_getElem? hku); omega
        have hw8 : w < 8 := by have := w2 w (List.mem_of_getElem? hkw); omega
        obtain ⟨s', hs'⟩ : ∃ s', k_fst S.ss (nI s) u w = some s' := by
          unfold k_A at hA'
          cases hf : k_fst S.ss (nI s) u w with
          | none => rw [hf] at hA'; cases hA'
          | some s => exact ⟨s, rfl⟩
        obtain ⟨st', s1, s2, s3, s4⟩ := k_fst_st hs'
        obtain ⟨t', t1', t2'⟩ := hC5.2.2.1.2 s' st' s1
        obtain ⟨f1', f2', -, f4', -⟩ := hw.2.1.2 st' (List.mem_of_getElem? s1)
        obtain ⟨La, hLa⟩ : ∃ L, S.vs[st'.fr]? = some L := ⟨_, List.getElem?_eq_getElem f1'⟩
        obtain ⟨Lb, hLb⟩ : ∃ L2, S.vs[st'.to]? = some L2 := ⟨_, List.getElem?_eq_getElem f2'⟩
        obtain ⟨E', hsk', hE'⟩ := hw.stp s1 hLa hLb
        have tt' := t2'.2.1
        refine q_iload d_Lens_clash_125 rfl ?_
        refine q_iload_n d_Lens_clash_127 rfl rfl ?_
        refine q_icmp_ge (tgt := 188) d_Lens_clash_128 rfl (fun hc => ?_) (fun hc => ?_)
        · rw [nI_leI (by omega) (by omega)] at hc
          omega
        refine q_aload_n d_Lens_clash_131 rfl rfl ?_
        refine q_getR (ci := 10) (fk := 0) d_Lens_clash_132 rfl (Nat.le_of_ble_eq_true rfl) w_272 (fun _ _ => rfl) hL.1 (hL.2 0 _ _ _ rfl).1 ?_
        refine q_iload d_Lens_clash_135 rfl ?_
        refine q_iload_n d_Lens_clash_137 rfl rfl ?_
        refine q_callVr (M2 := M_Versions_stepOnWay) d_Lens_clash_138 ⟨(Nat.le_of_ble_eq_true rfl), (Nat.le_of_ble_eq_true rfl), w_908, w_2, ⟨by decide, by decide⟩, show _ = some 2 by decide +kernel⟩ w_905 w_906 (ci := 9) rfl w_907 (by first | assumption | rfl | (simp (disch := omega) only [q_upT_self, q_upT_ne, q_upR_self, q_upR_nea, q_upR_nk, s_T_lo, s_T_hi, s_R_ne, *]; done) | (simp (disch := omega) only [q_upT_self, q_upT_ne, q_upR_self, q_upR_nea, q_upR_nk, s_T_lo, s_T_hi, s_R_ne, *]; rfl)) rfl (Nat.le_of_ble_eq_true rfl) (by omega) (by omega) (c_Versions_stepOnWay (a := x + 1) (k := k) (t := t') hV (hC5.ssv hw) (by omega) (a5 k u hku) (a5 (k + 1) w hkw) hu8 hw8 hs' t1') ?_
        rintro _ _ ⟨rfl, rfl⟩
        refine q_astore d_Lens_clash_141 (Nat.le_of_ble_eq_true rfl) (by first | exact q_ok0 | exact q_okI rfl | exact q_okR rfl | exact q_okN rfl) rfl ?_
        refine q_aload_n d_Lens_clash_143 rfl rfl ?_
        refine q_getR (ci := 10) (fk := 5) d_Lens_clash_144 rfl (Nat.le_of_ble_eq_true rfl) w_277 (fun _ _ => rfl) hL.1 (hL.2 5 _ _ _ rfl).1 ?_
        refine q_aload_n d_Lens_clash_147 rfl rfl ?_
        refine q_getR (ci := 10) (fk := 5) d_Lens_clash_148 rfl (Nat.le_of_ble_eq_true rfl) w_277 (fun _ _ => rfl) hL.1 (hL.2 5 _ _ _ rfl).1 ?_
        refine q_getR (ci := 8) (fk := 1) d_Lens_clash_151 rfl (Nat.le_of_ble_eq_true rfl) w_239 (fun _ _ => rfl) (by first | assumption | rfl | (simp (disch := omega) only [q_upT_self, q_upT_ne, q_upR_self, q_upR_nea, q_upR_nk, s_T_lo, s_T_hi, s_R_ne, *]; done) | (simp (disch := omega) only [q_upT_self, q_upT_ne, q_upR_self, q_upR_nea, q_upR_nk, s_T_lo, s_T_hi, s_R_ne, *]; rfl)) (by first | assumption | rfl | (simp (disch := omega) only [q_upT_self, q_upT_ne, q_upR_self, q_upR_nea, q_upR_nk, s_T_lo, s_T_hi, s_R_ne, *]; done) | (simp (disch := omega) only [q_upT_self, q_upT_ne, q_upR_self, q_upR_nea, q_upR_nk, s_T_lo, s_T_hi, s_R_ne, *]; rfl)) ?_
        refine q_aload d_Lens_clash_154 rfl ?_
        refine q_aload d_Lens_clash_156 rfl ?_
        refine q_getI (ci := 7) (fk := 1) d_Lens_clash_158 rfl (Nat.le_of_ble_eq_true rfl) w_647 (fun _ _ => rfl) (by first | assumption | rfl | (simp (disch := omega) only [q_upT_self, q_upT_ne, q_upR_self, q_upR_nea, q_upR_nk, s_T_lo, s_T_hi, s_R_ne, *]; done) | (simp (disch := omega) only [q_upT_self, q_upT_ne, q_upR_self, q_upR_nea, q_upR_nk, s_T_lo, s_T_hi, s_R_ne, *]; rfl)) ?_
        rw [t2'.2.2.2.1]
        refine q_aload_n d_Lens_clash_161 rfl rfl ?_
        refine q_getR (ci := 10) (fk := 0) d_Lens_clash_162 rfl (Nat.le_of_ble_eq_true rfl) w_272 (fun _ _ => rfl) hL.1 (hL.2 0 _ _ _ rfl).1 ?_
        refine q_getR (ci := 9) (fk := 4) d_Lens_clash_165 rfl (Nat.le_of_ble_eq_true rfl) w_118 (fun _ _ => rfl) (by first | assumption | rfl | (simp (disch := omega) only [q_upT_self, q_upT_ne, q_upR_self, q_upR_nea, q_upR_nk, s_T_lo, s_T_hi, s_R_ne, *]; done) | (simp (disch := omega) only [q_upT_self, q_upT_ne, q_upR_self, q_upR_nea, q_upR_nk, s_T_lo, s_T_hi, s_R_ne, *]; rfl)) (by first | assumption | rfl | (simp (disch := omega) only [q_upT_self, q_upT_ne, q_upR_self, q_upR_nea, q_upR_nk, s_T_lo, s_T_hi, s_R_ne, *]; done) | (simp (disch := omega) only [q_upT_self, q_upT_ne, q_upR_self, q_upR_nea, q_upR_nk, s_T_lo, s_T_hi, s_R_ne, *]; rfl)) ?_
        refine q_iload d_Lens_clash_168 rfl ?_
        refine q_iald d_Lens_clash_170 (by first | assumption | rfl | (simp (disch := omega) only [q_upT_self, q_upT_ne, q_upR_self, q_upR_nea, q_upR_nk, s_T_lo, s_T_hi, s_R_ne, *]; done) | (simp (disch := omega) only [q_upT_self, q_upT_ne, q_upR_self, q_upR_nea, q_upR_nk, s_T_lo, s_T_hi, s_R_ne, *]; rfl)) (by first | assumption | exact vp_in_nI (by omega) (by omega)) ?_
        rw [a5 k u hku]
        have after : ∀ (mcc msc : Nat), mcc ≤ 10 → msc ≤ 100 → q_V g M_Lens_clash 1000 14000 mcc msc (sz, T, I5, R, J) (q_Xi [2] (c_sp x sz T I R J (0, p_b (z_dif L2 zA zB), S))) 179 [some (.ref x), some (.int (nI s)), some (.ref t), some (.int (nI (l.length - 1))), some (.ref sf), some (.int (nI k)), some (.ref t')] [.int (p_b (decide (st'.fr = u))), .ref t', .ref (x + 74), .ref (x + 72)] := by
          intro mcc msc m1 m2
          obtain ⟨fw, hfw⟩ : ∃ fw, fw = decide (st'.fr = u) := ⟨_, rfl⟩
          rw [← hfw] at s2 s3 ⊢
          have eL : ∀ fw : Bool, S.vs[s_u fw st']? = some (s_L fw La Lb) := fun fw => by
            unfold s_u s_L
            cases fw with
            | true => exact hLa
            | false => exact hLb
          have eLu : Lu = s_L fw La Lb := by
            have := eL fw
            rw [s2, a3] at this
            exact Option.some.inj this
          have eLw : S.vs[w]? = some (s_L (!fw) La Lb) := by rw [← s3]; exact eL (!fw)
          rw [eLu] at a9
          have es1 : z_s1 S.ss (nI s) u w zs = z_st fw st' zs := by
            unfold z_s1
            rw [hs']
            simp only [s1]
            rw [hfw]
          have ego : z_ways S.ss (nI s) (w :: ls) (z_st fw st' zs) = zB := by rw [← a10, ← es1]; rfl
          refine q_callVv (M2 := M_Terms_takeOver) d_Lens_clash_179 ⟨(Nat.le_of_ble_eq_true rfl), (Nat.le_of_ble_eq_true rfl), w_1055, w_9, ⟨by decide, by decide⟩, show _ = some 3 by decide +kernel⟩ w_1052 w_1053 (ci := 8) rfl w_1054 (by first | assumption | rfl | (simp (disch := omega) only [q_upT_self, q_upT_ne, q_upR_self, q_upR_nea, q_upR_nk, s_T_lo, s_T_hi, s_R_ne, *]; done) | (simp (disch := omega) only [q_upT_self, q_upT_ne, q_upR_self, q_upR_nea, q_upR_nk, s_T_lo, s_T_hi, s_R_ne, *]; rfl)) rfl (Nat.le_of_ble_eq_true rfl) (by omega) (by omega) (c_Terms_takeOver (ar := x + 74) (fw := fw) (zs := zs) hte (Or.inr rfl) t2' hsk' hE' (by omega) a6 (by omega) a9) ?_
          rintro _ ⟨I6, tb6, rfl, b1, b2, b3, b4, b5⟩
          first | refine q_iincN d_Lens_clash_182 rfl (Nat.le_of_ble_eq_true rfl) (by first | exact q_ok0 | exact q_okI rfl | exact q_okR rfl | exact q_okN rfl) rfl ?_ | refine q_iinc d_Lens_clash_182 rfl rfl (Nat.le_of_ble_eq_true rfl) (by first | exact q_ok0 | exact q_okI rfl | exact q_okR rfl | exact q_okN rfl) rfl ?_
          refine q_goto (tgt := 125) d_Lens_clash_185 rfl ?_
          refine ih (k + 1) w _ _ I6 tb6 _ _ _ (by omega) (by omega) (by omega) (fun j => by rw [show k + 1 + j = k + (j + 1) by omega]; exact a2 (j + 1)) eLw (fun b c1 c2 c3 => by rw [b1 b (by omega) (by omega) (by omega), a4 b c1 c2 c3]) (by rw [b1 _ (by omega) (by omega) (by omega)]; exact a5) b2 (by omega) (a8.keep b3 (b1 _ (by omega) (by omega) (by omega))) b5 ego
        refine q_icmp_ne (tgt := 178) d_Lens_clash_171 rfl (fun hc => ?_) (fun hc => ?_)
        · refine q_iconst (v := nI 0) d_Lens_clash_178 (by decide) ?_
          have e := after _ _ (by omega) (by omega)
          rw [decide_eq_false (fun z => hc (by rw [z]))] at e
          exact e
        · refine q_iconst (v := nI 1) d_Lens_clash_174 (by decide) ?_
          refine q_goto (tgt := 179) d_Lens_clash_175 rfl ?_
          have e := after _ _ (by omega) (by omega)
          rw [decide_eq_true ((nI_eq (by omega) (by omega)).mp hc)] at e
          exact e
    refine q_iconst (v := nI 0) d_Lens_clash_122 (by decide) ?_
    refine q_istore d_Lens_clash_123 (Nat.le_of_ble_eq_true rfl) (by first | exact q_ok0 | exact q_okI rfl | exact q_okR rfl | exact q_okN rfl) rfl ?_
    cases l with
    | nil => cases w3
    | cons u ls =>
      obtain rfl : u = st.fr := Option.some.inj w3
      exact loop ls 0 st.fr L (z_s0 L) I4 tb3 _ _ _ (by omega) (by omega) (by rw [List.length_cons]; omega) (fun j => by rw [Nat.zero_add]) hLf fr4 sto4 g2 (by omega) hA4 g6 hzB.symm
end CClash
