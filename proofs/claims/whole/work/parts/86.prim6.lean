/-! append, primitive: the object's side -/
section PrimC6
variable {g : q_G} {sz d x : Nat} {T : q_T} {I : q_I} {R : q_R} {J : q_J} {S : KA}
/-- the draft with one primitive more -/
def d_app (d : Nat) (D : List KF) (sz n : Nat) (T : q_T) (I : q_I) (R : q_R) (J : q_J) (q : Option KP) (dn' : Nat) (r : Int32) (h' : q_H) : Prop := (q = none ∧ r = 0 ∧ h' = (sz, T, I, R, J)) ∨ (r = 1 ∧ ∃ p, q = some p ∧ ∃ (I' : q_I) (R' : q_R) (w' : Nat → Nat) (D' : List KF), h' = (sz + 1, q_upT T sz (104, 0), I', R', J) ∧ (∀ b, b < d ∨ d + 27 ≤ b → b ≠ sz → I' b = I b) ∧ (∀ b, b ≠ d + 2 → b ≠ d + 27 → R' b = R b) ∧ R' (d + 27) (nI n) = some sz ∧ (∀ j, j < 8 → j ≠ n → R' (d + 27) (nI j) = R (d + 27) (nI j)) ∧ k_sc (d + 1) D' w' (q_upT T sz (104, 0)) I' R' ∧ D'.Perm (k_fw p D) ∧ k_srt D' ∧ k_prm sz p (q_upT T sz (104, 0)) I' ∧ I' d (nI 6) = nI dn' ∧ I' d (nI 2) = nI (n + 1) ∧ ∀ i, i ≠ nI 6 → i ≠ nI 2 → I' d i = I d i)
theorem c_Draft_append {dn n : Nat} {D : List KF} {w : Nat → Nat} {kd a b c pth : Int32} (h : d_in d D w dn sz T I R) (hn : I d (nI 2) = nI n) (h8 : n < 8) : q_Ci g M_Draft_append [.ref d, .int kd, .int pth, .int a, .int b, .int c] (sz, T, I, R, J) 1 8 (d_app d D sz n T I R J (a_prm D dn kd (k_of pth) a b c) (a_dn dn kd)) := by
  have hh := h
  obtain ⟨hL, hS, hdn, hfr, hok, hdi, hsr⟩ := h
  have hds := hfr _ _ hL.1
  have t27 := (hL.2 1 _ _ _ rfl).2
  have h27 := hfr _ _ t27
  have hx := d_ext hfr
  have fin : ∀ (mcc msc : Nat) (r : Option Nat) (h' : q_H), mcc ≤ 1 → msc ≤ 8 → d_res d D sz T I R J (a_prm D dn kd (k_of pth) a b c) (a_dn dn kd) r h' → q_V g M_Draft_append 1 8 mcc msc h' (fun o h' => ∃ r : Int32, o = .inl (some (.int r)) ∧ d_app d D sz n T I R J (a_prm D dn kd (k_of pth) a b c) (a_dn dn kd) r h') 35 [some (.ref d), some (.int kd), some (.int pth), some (.int a), some (.int b), some (.int c), some (.int (p_key (k_of pth))), none] [va_rf r] := by
    intro mcc msc r h' m1 m2 hr
    rcases hr with ⟨q1, rfl, rfl⟩ | ⟨p, q1, hpost⟩
    · show q_V g M_Draft_append 1 8 mcc msc (sz, T, I, R, J) _ 35 _ [.null]
      refine q_astoreN d_Draft_append_35 (Nat.le_of_ble_eq_true rfl) (by first | exact q_ok0 | exact q_okI rfl | exact q_okR rfl | exact q_okN rfl) rfl ?_
      refine q_aloadN d_Draft_append_37 rfl ?_
      refine q_ifnonnullN d_Draft_append_39 ?_
      refine q_iconst (v := nI 0) d_Draft_append_42 (by decide) ?_
      refine q_zret d_Draft_append_43 rfl (by first | exact Or.inl rfl | exact Or.inr rfl | assumption) (by omega) (by omega) ?_
      exact ⟨_, rfl, Or.inl ⟨q1, rfl, rfl⟩⟩
    · rcases hpost with ⟨z, -⟩ | ⟨-, rfl, I1, R1, w1, D1, rfl, p1, p2, p3, p4, p5, p6, p7, p8⟩
      · cases z
      show q_V g M_Draft_append 1 8 mcc msc (sz + 1, q_upT T sz (104, 0), I1, R1, J) _ 35 _ [.ref sz]
      have hL' : q_L 2 t_Draft d (q_upT T sz (104, 0)) R1 := hL.keep hx (fun fk off kd n z => by rw [p2 d (by omega)])
      have tsz : q_upT T sz (104, 0) sz = some (104, 0) := q_upT_self
      have n1 : I1 d (nI 2) = nI n := by rw [p8 _ (fun z => absurd (q_nI_inj z) (by decide))]; exact hn
      have hL := hL'
      refine q_astore d_Draft_append_35 (Nat.le_of_ble_eq_true rfl) (by first | exact q_ok0 | exact q_okI rfl | exact q_okR rfl | exact q_okN rfl) rfl ?_
      refine q_aload d_Draft_append_37 rfl ?_
      refine q_ifnonnull (tgt := 44) d_Draft_append_39 rfl ?_
      refine q_aload_n d_Draft_append_44 rfl rfl ?_
      refine q_getR (ci := 2) (fk := 1) d_Draft_append_45 rfl (Nat.le_of_ble_eq_true rfl) w_146 (fun _ _ => rfl) hL.1 (hL.2 1 _ _ _ rfl).1 ?_
      refine q_aload_n d_Draft_append_48 rfl rfl ?_
      refine q_getI (ci := 2) (fk := 2) d_Draft_append_49 rfl (Nat.le_of_ble_eq_true rfl) w_149 (fun _ _ => rfl) hL.1 ?_
      rw [n1]
      refine q_aload d_Draft_append_52 rfl ?_
      refine q_aast (kd := 3) (ci := 4) d_Draft_append_54 rfl rfl (Nat.le_of_ble_eq_true rfl) (Nat.le_of_ble_eq_true rfl) (hL'.2 1 _ _ _ rfl).2 tsz (vp_in_nI (by omega) (by omega)) ?_
      have hL3 : q_L 2 t_Draft d (q_upT T sz (104, 0)) (q_upR R1 (d + 27) (nI n) (some sz)) := hL'.keep (fun _ _ z => z) (fun fk off kd n z => by rw [q_upR_nea (by omega)])
      have hL := hL3
      refine q_aload_n d_Draft_append_55 rfl rfl ?_
      refine q_dup d_Draft_append_56 rfl ?_
      refine q_getI (ci := 2) (fk := 2) d_Draft_append_57 rfl (Nat.le_of_ble_eq_true rfl) w_149 (fun _ _ => rfl) hL.1 ?_
      rw [n1]
      refine q_iconst (v := nI 1) d_Draft_append_60 (by decide) ?_
      first | refine q_iaddN d_Draft_append_61 ?_ | refine q_iadd d_Draft_append_61 ?_
      refine q_putI (ci := 2) (fk := 2) d_Draft_append_62 rfl (Nat.le_of_ble_eq_true rfl) w_149 (Or.inl rfl) (fun _ _ => rfl) rfl rfl hL.1 ?_
      refine q_iconst (v := nI 1) d_Draft_append_65 (by decide) ?_
      refine q_zret d_Draft_append_66 rfl (by first | exact Or.inl rfl | exact Or.inr rfl | assumption) (by omega) (by omega) ?_
      have n27 : ∀ b, d + 1 ≤ b → b < d + 1 + 26 → b ≠ d + 27 := fun b b1 b2 => by omega
      refine ⟨_, rfl, Or.inr ⟨rfl, p, q1, _, _, w1, D1, rfl, fun b b1 b2 => ?_, fun b b1 b2 => ?_, q_upR_self, fun j hj hjn => ?_, ?_, p4, p5, ?_, ?_, q_upI_self, fun i i1 i2 => ?_⟩⟩
      · have : q_upI I1 d (nI 2) (nI (n + 1)) b = I1 b := by funext j; rw [q_upI_nea (by omega)]
        rw [this, p1 b b1 b2]
      · have : q_upR R1 (d + 27) (nI n) (some sz) b = R1 b := by funext j; rw [q_upR_nea b2]
        rw [this, p2 b b1]
      · rw [q_upR_nk (by omega), p2 (d + 27) (by omega)]
      · exact p3.cong3 (fun _ _ z => z) (fun b b1 b2 => by funext j; rw [q_upI_nea (by omega)]) (fun b b1 b2 => by funext j; rw [q_upR_nea (by omega)])
      · exact p6.cong (by funext j; rw [q_upI_nea (by omega)])
      · rw [q_upI_nk (by omega)]; exact p7
      · rw [q_upI_nei i2]; exact p8 i i1
  refine q_C.of (ls0 := [some (.ref d), some (.int kd), some (.int pth), some (.int a), some (.int b), some (.int c), none, none]) (by decide) rfl (by decide) (Nat.le_of_ble_eq_true rfl) rfl ?_
  refine q_iload_n d_Draft_append_0 rfl rfl ?_
  refine q_callSi (M2 := M_Key_ofPath) d_Draft_append_1 ⟨(Nat.le_of_ble_eq_true rfl), (Nat.le_of_ble_eq_true rfl), w_374, w_15, ⟨by decide, by decide⟩, show _ = some 1 by decide +kernel⟩ w_473 w_373 rfl (Nat.le_of_ble_eq_true rfl) (by omega) (by omega) (c_Key_ofPath pth) ?_
  rintro _ _ ⟨rfl, rfl⟩
  by_cases hk1 : kd = 1
  · refine q_istore d_Draft_append_4 (Nat.le_of_ble_eq_true rfl) (by first | exact q_ok0 | exact q_okI rfl | exact q_okR rfl | exact q_okN rfl) rfl ?_
    refine q_iload_n d_Draft_append_6 rfl rfl ?_
    refine q_iconst (v := nI 1) d_Draft_append_7 (by decide) ?_
    refine q_icmp_ne (tgt := 25) d_Draft_append_8 rfl (fun hc => ?_) (fun hc => ?_)
    · exact absurd hk1 hc
    refine q_aload_n d_Draft_append_11 rfl rfl ?_
    refine q_iload d_Draft_append_12 rfl ?_
    refine q_iload_n d_Draft_append_14 rfl rfl ?_
    refine q_iload d_Draft_append_15 rfl ?_
    refine q_iload d_Draft_append_17 rfl ?_
    have hadd := c_Draft_add (g := g) (J := J) (p := (1, (k_of pth).getD [], a, b, a, if a = 2 then 0 else b, if a = 2 then 0 else c, dn, 0)) (so := a) (lo := b) (hi := c) (o := k_of pth) hh (fun l hl => k_of_ok hl) rfl (fun l hl => by rw [hl]; rfl)
    refine q_callVr (M2 := M_Draft_add) d_Draft_append_19 ⟨(Nat.le_of_ble_eq_true rfl), (Nat.le_of_ble_eq_true rfl), w_477, w_5, ⟨by decide, by decide⟩, show _ = some 4 by decide +kernel⟩ w_474 w_476 (ci := 2) rfl s_4 hL.1 rfl (Nat.le_of_ble_eq_true rfl) (by omega) (by omega) (hadd) ?_
    rintro r h' hr
    refine q_goto (tgt := 35) d_Draft_append_22 rfl ?_
    refine fin _ _ r h' (by omega) (by omega) ?_
    have hdn : a_dn dn kd = dn + 1 := by unfold a_dn; rw [if_pos (Or.inl hk1)]
    rw [hdn]
    refine hr.res ?_
    unfold a_prm
    rw [if_pos hk1]
    cases hb : b_add D (k_of pth) a b c with
    | false => rw [if_neg (by decide), if_neg (by decide)]
    | true =>
      rw [if_pos rfl, if_pos rfl]
      cases ho : k_of pth with
      | none => rw [ho] at hb; cases hb
      | some l => rfl
  · refine q_istore d_Draft_append_4 (Nat.le_of_ble_eq_true rfl) (by first | exact q_ok0 | exact q_okI rfl | exact q_okR rfl | exact q_okN rfl) rfl ?_
    refine q_iload_n d_Draft_append_6 rfl rfl ?_
    refine q_iconst (v := nI 1) d_Draft_append_7 (by decide) ?_
    refine q_icmp_ne (tgt := 25) d_Draft_append_8 rfl (fun hc => ?_) (fun hc => ?_)
    rotate_left
    · exact absurd (show kd = 1 by have := hc; exact this) hk1
    refine q_aload_n d_Draft_append_25 rfl rfl ?_
    refine q_iload_n d_Draft_append_26 rfl rfl ?_
    refine q_iload d_Draft_append_27 rfl ?_
    refine q_iload_n d_Draft_append_29 rfl rfl ?_
    refine q_iload d_Draft_append_30 rfl ?_
    refine q_callVr (M2 := M_Draft_work) d_Draft_append_32 ⟨(Nat.le_of_ble_eq_true rfl), (Nat.le_of_ble_eq_true rfl), w_533, w_5, ⟨by decide, by decide⟩, show _ = some 4 by decide +kernel⟩ w_530 w_532 (ci := 2) rfl s_6 hL.1 rfl (Nat.le_of_ble_eq_true rfl) (by omega) (by omega) (c_Draft_work (c := c) hh hk1) ?_
    rintro r h' hr
    exact fin _ _ r h' (by omega) (by omega) hr
/-- a primitive more -/
def KA.addP (S : KA) (p : KP) (D : List KF) (dn : Nat) : KA := (S.vs, S.ss, S.bg, S.op, S.df, S.dp ++ [p], D, dn, S.rs)
def o_prim (S : KA) (p : KP) (dn : Nat) (o : KO) : Prop := ∃ D : List KF, D.Perm (k_fw p S.dD) ∧ k_srt D ∧ o = (0, nI (S.dp.length + 1), S.addP p D dn)
theorem c_Lens_primitive_no (hC : relC S x sz T I R) {kd pth a b c : Int32} (ho : S.op = false ∨ S.dp.length = 8) : q_C g M_Lens_primitive [.ref x, .int kd, .int pth, .int a, .int b, .int c] (sz, T, I, R, J) 1000 14000 (q_Xi [0, 1] (c_sp x sz T I R J (nI 1, 0, S))) := by
  have hL := hC.1.1
  have hD1 := hC.1.2.2.1.1
  obtain ⟨d1, D, w, d2, d3⟩ := hC.2.2.2.1
  refine q_C.of (ls0 := [some (.ref x), some (.int kd), some (.int pth), some (.int a), some (.int b), some (.int c)]) (by decide) rfl (by decide) (Nat.le_of_ble_eq_true rfl) rfl ?_
  refine q_aload_n d_Lens_primitive_0 rfl rfl ?_
  refine q_getR (ci := 10) (fk := 1) d_Lens_primitive_1 rfl (Nat.le_of_ble_eq_true rfl) w_273 (fun _ _ => rfl) hL.1 (hL.2 1 _ _ _ rfl).1 ?_
  refine q_getI (ci := 2) (fk := 5) d_Lens_primitive_4 rfl (Nat.le_of_ble_eq_true rfl) w_157 (fun _ _ => rfl) (by first | assumption | rfl | (simp (disch := omega) only [q_upT_self, q_upT_ne, q_upR_self, q_upR_nea, q_upR_nk, q_upT_at, *]; done) | (simp (disch := omega) only [q_upT_self, q_upT_ne, q_upR_self, q_upR_nea, q_upR_nk, q_upT_at, *]; rfl)) ?_
  rw [d1]
  cases hop : S.op with
  | false =>
    refine q_if_eq (tgt := 22) d_Lens_primitive_7 rfl (fun hc => ?_) (fun hc => ?_)
    · refine q_throw (x := 0) d_Lens_primitive_22 d_Lens_primitive_25 d_Lens_primitive_26 d_Lens_primitive_29 (by decide +kernel) x_nmf (Nat.le_of_ble_eq_true rfl) (Nat.le_of_ble_eq_true rfl) (Nat.le_of_ble_eq_true rfl) w_307 w_14 x_at0 rfl (Nat.le_of_ble_eq_true rfl) (by omega) (by omega) ?_
      exact c_xi_no hC rfl
    · exact absurd rfl hc
  | true =>
    have h8 : S.dp.length = 8 := by
      rcases ho with z | z
      · rw [hop] at z; cases z
      · exact z
    refine q_if_eq (tgt := 22) d_Lens_primitive_7 rfl (fun hc => ?_) (fun hc => ?_)
    · exact absurd hc (by decide)
    refine q_aload_n d_Lens_primitive_10 rfl rfl ?_
    refine q_getR (ci := 10) (fk := 1) d_Lens_primitive_11 rfl (Nat.le_of_ble_eq_true rfl) w_273 (fun _ _ => rfl) hL.1 (hL.2 1 _ _ _ rfl).1 ?_
    refine q_getI (ci := 2) (fk := 2) d_Lens_primitive_14 rfl (Nat.le_of_ble_eq_true rfl) w_150 (fun _ _ => rfl) (by first | assumption | rfl | (simp (disch := omega) only [q_upT_self, q_upT_ne, q_upR_self, q_upR_nea, q_upR_nk, q_upT_at, *]; done) | (simp (disch := omega) only [q_upT_self, q_upT_ne, q_upR_self, q_upR_nea, q_upR_nk, q_upT_at, *]; rfl)) ?_
    rw [(d3 hop).2.1, h8]
    refine q_bipush (v := nI 8) d_Lens_primitive_17 (by decide) ?_
    refine q_icmp_ne (tgt := 30) d_Lens_primitive_19 rfl (fun hc => ?_) (fun hc => ?_)
    · exact absurd rfl hc
    · refine q_throw (x := 0) d_Lens_primitive_22 d_Lens_primitive_25 d_Lens_primitive_26 d_Lens_primitive_29 (by decide +kernel) x_nmf (Nat.le_of_ble_eq_true rfl) (Nat.le_of_ble_eq_true rfl) (Nat.le_of_ble_eq_true rfl) w_307 w_14 x_at0 rfl (Nat.le_of_ble_eq_true rfl) (by omega) (by omega) ?_
      exact c_xi_no hC rfl
theorem k_wfL.ch {D : List KF} (h : k_wfL D) : k_okf D ∧ k_dis D := ⟨h.2.1, h.2.2.1⟩
theorem c_Lens_primitive (hC : relC S x sz T I R) {kd pth a b c : Int32} (hop : S.op = true) (h8 : S.dp.length < 8) (hok : k_okf S.dD) (hdi : k_dis S.dD) (hsr : k_srt S.dD) : q_C g M_Lens_primitive [.ref x, .int kd, .int pth, .int a, .int b, .int c] (sz, T, I, R, J) 1000 14000 (q_Xi [0, 1] (fun k r h' => (a_prm S.dD S.dn kd (k_of pth) a b c = none ∧ c_sp x sz T I R J (nI 2, 0, S) k r h') ∨ ∃ p o, a_prm S.dD S.dn kd (k_of pth) a b c = some p ∧ o_prim S p (a_dn S.dn kd) o ∧ c_sp x sz T I R J o k r h')) := by
  have hL := hC.1.1
  have hD := hC.1.2.2.1
  have hD1 := hD.1
  have h7 := hC.2.2.2.2.2.2.1
  have hfr := hC.2.2.2.2.2.2.2
  obtain ⟨d1, D, w, d2, d3⟩ := hC.2.2.2.1
  obtain ⟨rfl, e2, e3, e4, e5, e6⟩ := d3 hop
  have hin : d_in (x + 32) S.dD w S.dn sz T I R := ⟨hD, d2, e5, hfr, hok, hdi, hsr⟩
  refine q_C.of (ls0 := [some (.ref x), some (.int kd), some (.int pth), some (.int a), some (.int b), some (.int c)]) (by decide) rfl (by decide) (Nat.le_of_ble_eq_true rfl) rfl ?_
  refine q_aload_n d_Lens_primitive_0 rfl rfl ?_
  refine q_getR (ci := 10) (fk := 1) d_Lens_primitive_1 rfl (Nat.le_of_ble_eq_true rfl) w_273 (fun _ _ => rfl) hL.1 (hL.2 1 _ _ _ rfl).1 ?_
  refine q_getI (ci := 2) (fk := 5) d_Lens_primitive_4 rfl (Nat.le_of_ble_eq_true rfl) w_157 (fun _ _ => rfl) (by first | assumption | rfl | (simp (disch := omega) only [q_upT_self, q_upT_ne, q_upR_self, q_upR_nea, q_upR_nk, q_upT_at, *]; done) | (simp (disch := omega) only [q_upT_self, q_upT_ne, q_upR_self, q_upR_nea, q_upR_nk, q_upT_at, *]; rfl)) ?_
  rw [d1, hop]
  refine q_if_eq (tgt := 22) d_Lens_primitive_7 rfl (fun hc => ?_) (fun hc => ?_)
  · exact absurd hc (by decide)
  refine q_aload_n d_Lens_primitive_10 rfl rfl ?_
  refine q_getR (ci := 10) (fk := 1) d_Lens_primitive_11 rfl (Nat.le_of_ble_eq_true rfl) w_273 (fun _ _ => rfl) hL.1 (hL.2 1 _ _ _ rfl).1 ?_
  refine q_getI (ci := 2) (fk := 2) d_Lens_primitive_14 rfl (Nat.le_of_ble_eq_true rfl) w_150 (fun _ _ => rfl) (by first | assumption | rfl | (simp (disch := omega) only [q_upT_self, q_upT_ne, q_upR_self, q_upR_nea, q_upR_nk, q_upT_at, *]; done) | (simp (disch := omega) only [q_upT_self, q_upT_ne, q_upR_self, q_upR_nea, q_upR_nk, q_upT_at, *]; rfl)) ?_
  rw [e2]
  refine q_bipush (v := nI 8) d_Lens_primitive_17 (by decide) ?_
  refine q_icmp_ne (tgt := 30) d_Lens_primitive_19 rfl (fun hc => ?_) (fun hc => ?_)
  rotate_left
  · have := (nI_eq (by omega) (by omega)).mp (show nI S.dp.length = nI 8 by have := hc; exact this)
    omega
  refine q_aload_n d_Lens_primitive_30 rfl rfl ?_
  refine q_getR (ci := 10) (fk := 1) d_Lens_primitive_31 rfl (Nat.le_of_ble_eq_true rfl) w_273 (fun _ _ => rfl) hL.1 (hL.2 1 _ _ _ rfl).1 ?_
  refine q_iload_n d_Lens_primitive_34 rfl rfl ?_
  refine q_iload_n d_Lens_primitive_35 rfl rfl ?_
  refine q_iload_n d_Lens_primitive_36 rfl rfl ?_
  refine q_iload d_Lens_primitive_37 rfl ?_
  refine q_iload d_Lens_primitive_39 rfl ?_
  refine q_callVi (M2 := M_Draft_append) d_Lens_primitive_41 ⟨(Nat.le_of_ble_eq_true rfl), (Nat.le_of_ble_eq_true rfl), w_472, w_5, ⟨by decide, by decide⟩, show _ = some 5 by decide +kernel⟩ w_469 w_470 (ci := 2) rfl w_471 (by first | assumption | rfl | (simp (disch := omega) only [q_upT_self, q_upT_ne, q_upR_self, q_upR_nea, q_upR_nk, q_upT_at, *]; done) | (simp (disch := omega) only [q_upT_self, q_upT_ne, q_upR_self, q_upR_nea, q_upR_nk, q_upT_at, *]; rfl)) rfl (Nat.le_of_ble_eq_true rfl) (by omega) (by omega) (c_Draft_append (c := c) hin e2 h8) ?_
  rintro r h' hr
  rcases hr with ⟨q1, rfl, rfl⟩ | ⟨rfl, p, q1, I1, R1, w1, D1, rfl, p1, p2, p3, p4, p5, p6, p7, p8, p9, p10, p11⟩
  · refine q_if_ne (tgt := 55) d_Lens_primitive_44 rfl (fun hc => ?_) (fun hc => ?_)
    · exact absurd rfl hc
    refine q_throw (x := 1) d_Lens_primitive_47 d_Lens_primitive_50 d_Lens_primitive_51 d_Lens_primitive_54 (by decide +kernel) x_nmf (Nat.le_of_ble_eq_true rfl) (Nat.le_of_ble_eq_true rfl) (Nat.le_of_ble_eq_true rfl) w_396 w_16 x_at1 rfl (Nat.le_of_ble_eq_true rfl) (by omega) (by omega) ?_
    exact Or.inr ⟨1, sz, 1, rfl, rfl, Or.inl ⟨q1, rfl, fun _ => rfl, _, _, _, _, rfl, c_fr.up x sz T I R, hC.up⟩⟩
  · have hx := d_ext hfr
    obtain ⟨h1, h2⟩ := hC.draft (S' := S.addP p D1 (a_dn S.dn kd)) (sz' := sz + 1) (T' := q_upT T sz (104, 0)) (I' := I1) (R' := R1) (Nat.le_succ _) hx (fun a q z => by
      by_cases ha : a = sz
      · omega
      · rw [q_upT_ne ha] at z
        have := hfr a q z
        omega) (fun b b1 b2 b3 => p1 b (by omega) (by omega)) (fun b b1 b2 b3 => p2 b b2 b3) rfl rfl rfl (by rw [p1 x (by omega) (by omega)]; exact hC.2.2.2.2.2.1) (by
      have ne : ∀ k : Nat, k < 6 → k ≠ 2 → I1 (x + 32) (nI k) = I (x + 32) (nI k) := fun k k1 k2 => p11 _ (fun z => by have := q_nI_inj z; omega) (fun z => by have := q_nI_inj z; omega)
      refine ⟨by rw [ne 5 (by omega) (by omega), d1]; rfl, D1, w1, p5, fun _ => ⟨rfl, ?_, by rw [ne 3 (by omega) (by omega)]; exact e3, fun L hL => by rw [ne 4 (by omega) (by omega)]; exact e4 L hL, p9, fun j q hq => ?_⟩⟩
      · rw [p10]
        show nI (S.dp.length + 1) = nI (S.dp ++ [p]).length
        rw [List.length_append]; rfl
      · have hq2 : (S.dp ++ [p])[j]? = some q := hq
        by_cases hj : j < S.dp.length
        · rw [List.getElem?_append_left hj] at hq2
          obtain ⟨v, v1, v2, v3⟩ := e6 j q hq2
          have hvs := hfr _ _ v3.1
          exact ⟨v, by rw [p4 j (by omega) (by omega)]; exact v1, v2, v3.cong3 hx (p1 v (by omega) (by omega))⟩
        · rw [List.getElem?_append_right (by omega)] at hq2
          have hj2 := (List.getElem?_eq_some_iff.mp hq2).1
          have h1 : ([p] : List KP).length = 1 := rfl
          have hj3 : j = S.dp.length := by omega
          rw [show j - S.dp.length = 0 by omega] at hq2
          have : p = q := by simpa using hq2
          subst this
          rw [hj3]
          exact ⟨sz, p3, h7, p8⟩)
    have hL := h1.1.1
    have hD1 := h1.1.2.2.1.1
    refine q_if_ne (tgt := 55) d_Lens_primitive_44 rfl (fun hc => ?_) (fun hc => ?_)
    rotate_left
    · exact absurd hc (by decide)
    refine q_aload_n d_Lens_primitive_55 rfl rfl ?_
    refine q_getR (ci := 10) (fk := 1) d_Lens_primitive_56 rfl (Nat.le_of_ble_eq_true rfl) w_273 (fun _ _ => rfl) hL.1 (hL.2 1 _ _ _ rfl).1 ?_
    refine q_getI (ci := 2) (fk := 2) d_Lens_primitive_59 rfl (Nat.le_of_ble_eq_true rfl) w_150 (fun _ _ => rfl) (by first | assumption | rfl | (simp (disch := omega) only [q_upT_self, q_upT_ne, q_upR_self, q_upR_nea, q_upR_nk, q_upT_at, *]; done) | (simp (disch := omega) only [q_upT_self, q_upT_ne, q_upR_self, q_upR_nea, q_upR_nk, q_upT_at, *]; rfl)) ?_
    rw [p10]
    refine q_iret d_Lens_primitive_62 rfl (by omega) (by omega) ?_
    exact Or.inl ⟨_, rfl, Or.inr ⟨p, _, q1, ⟨D1, p6, p7, rfl⟩, rfl, fun _ => rfl, _, _, _, _, rfl, h2, h1⟩⟩
end PrimC6
