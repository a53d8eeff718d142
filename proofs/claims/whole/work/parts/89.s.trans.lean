/-! translate, by the class -/
section Trans
variable {g : q_G} {x sz c r : Nat} {T : q_T} {I : q_I} {R : q_R} {J : q_J} {S : KA}
/-- where only the spare row's cells change, the class shows the same -/
theorem relC.spare (h : relC S x sz T I R) {q : Nat} {I' : q_I} (hq : R x (nI 3) = some q) (hI : ∀ b, b < q ∨ q + 8 ≤ b → I' b = I b) : relC S x sz T I' R ∧ c_fr x sz T I R sz T I' R := by
  obtain ⟨h1, h2, h3, h4, h5, h6, h7, h8⟩ := h
  obtain ⟨q', c1, b1, b2, c2⟩ := h5.2
  obtain rfl : q' = q := Option.some.inj (c1.symm.trans hq)
  have hne : ∀ a q, T a = some q → q.1 ≠ 105 → q.1 ≠ 101 → q.1 ≠ 0 → I' a = I a := fun a q z z1 z2 z3 => hI a (r_ne b2 z z1 z2 z3)
  have hx : I' x = I x := hne x _ h1.1.1 (by decide) (by decide) (by decide)
  have hx1 : I' (x + 1) = I (x + 1) := hne _ _ h1.2.1.1 (by decide) (by decide) (by decide)
  have hx32 : I' (x + 32) = I (x + 32) := hne _ _ h1.2.2.1.1 (by decide) (by decide) (by decide)
  have hsc : ∀ s L w, k_sc s L w T I R → k_sc s L w T I' R := fun s L w hs => hs.cong (fun b z1 z2 => by
    refine hI b ?_
    refine Classical.byContradiction fun hn => ?_
    obtain ⟨t0, t1, t2, t3, t4, t5, t6, t7⟩ := r_T0 b2
    have : b = q' ∨ b = q' + 1 ∨ b = q' + 2 ∨ b = q' + 3 ∨ b = q' + 4 ∨ b = q' + 5 ∨ b = q' + 6 ∨ b = q' + 7 := by omega
    rcases this with e | e | e | e | e | e | e | e
    · exact hs.1.ne z1 z2 t0 (by decide) (by decide) (by decide) e
    · exact hs.1.ne z1 z2 t1 (by decide) (by decide) (by decide) e
    · exact hs.1.ne z1 z2 t2 (by decide) (by decide) (by decide) e
    · exact hs.1.ne z1 z2 t3 (by decide) (by decide) (by decide) e
    · exact hs.1.ne z1 z2 t4 (by decide) (by decide) (by decide) e
    · exact hs.1.ne z1 z2 t5 (by decide) (by decide) (by decide) e
    · exact hs.1.ne z1 z2 t6 (by decide) (by decide) (by decide) e
    · exact hs.1.ne z1 z2 t7 (by decide) (by decide) (by decide) e)
  refine ⟨⟨h1, ⟨by rw [hx1]; exact h2.1, fun v L hv => ?_⟩, ⟨by rw [hx1]; exact h3.1, fun j st hj => ?_⟩, ?_, ⟨fun j hj => ?_, h5.2⟩, by rw [hx]; exact h6, h7, h8⟩, Nat.le_refl _, fun _ _ z => z, fun b hb => hI b ?_, fun _ _ => rfl⟩
  · obtain ⟨s, w, a1, a2, a3, a4⟩ := h2.2 v L hv
    exact ⟨s, w, a1, a2, a3, hsc _ _ _ a4⟩
  · obtain ⟨t, a1, a2⟩ := h3.2 j st hj
    refine ⟨t, a1, a2.cong2 (fun a q z z1 => ?_) (fun a n z z1 z2 => hI _ (r_ne2 b2 z z1 z2))⟩
    rcases z1 with z1 | z1
    · exact hne a q z (by rw [z1]; decide) (by rw [z1]; decide) (by rw [z1]; decide)
    · exact hne a q z (by rw [z1]; decide) (by rw [z1]; decide) (by rw [z1]; decide)
  · obtain ⟨a1, D, w, a2, a3⟩ := h4
    refine ⟨by rw [hx32]; exact a1, D, w, hsc _ _ _ a2, fun ho => ?_⟩
    obtain ⟨d1, d2, d3, d4, d5, d6⟩ := a3 ho
    rw [hx32]
    refine ⟨d1, d2, d3, d4, d5, fun j q hq => ?_⟩
    obtain ⟨p, p1, p2, p3⟩ := d6 j q hq
    exact ⟨p, p1, p2, p3.cong (hne p _ p3.1 (by decide) (by decide) (by decide))⟩
  · obtain ⟨e1, e2⟩ := h5.1 j hj
    refine ⟨e1, fun r' hr' => ?_⟩
    obtain ⟨f1, f2, f3, f4, f5⟩ := e2 r' hr'
    have hrr : r' ≠ q' := fun z => c2 j hj (by rw [hr', z])
    have hd := r_dis f2 b2 hrr
    refine ⟨f1, f2, ?_, fun c hc => (f4 c hc).cong (fun b z1 z2 => hI b (by omega)), f5⟩
    rw [hI r' (by omega)]
    exact f3
  · refine Classical.byContradiction fun hn => hb (b1.reg (by omega) (by omega))
/-- the spare row and a record's change places -/
theorem relC.swp (h : relC S x sz T I R) {i q r0 : Nat} {c : KR} {R' : q_R} (hi : i < 16) (hq : R x (nI 3) = some q) (hr : R (x + 60) (nI i) = some r0) (hR : ∀ b, b ≠ x → b ≠ x + 60 → R' b = R b) (hx3 : R' x (nI 3) = some r0) (hx : ∀ k, k ≠ nI 3 → R' x k = R x k) (hR1 : R' (x + 60) (nI i) = some q) (hR2 : ∀ j, j < 16 → j ≠ i → R' (x + 60) (nI j) = R (x + 60) (nI j)) (h0 : I q (nI 0) = 1) (hk : k_rec q c I) : relC (S.setR i (some c)) x sz T I R' ∧ c_fr x sz T I R sz T I R' := by
  obtain ⟨h1, h2, h3, h4, h5, h6, h7, h8⟩ := h
  obtain ⟨q', c1, b1, b2, c2⟩ := h5.2
  obtain rfl : q' = q := Option.some.inj (c1.symm.trans hq)
  have t60 := (h1.1.2 2 _ _ _ rfl).2
  have tx := h1.1.1
  have hlt : ∀ b, ¬ c_reg x b → b ≠ x ∧ b ≠ x + 60 := fun b hb => by unfold c_reg at hb; omega
  have idT : ∀ a q, T a = some q → T a = some q := fun _ _ z => z
  have hsc : ∀ s L w, k_sc s L w T I R → k_sc s L w T I R' := fun s L w hs => hs.cong3 idT (fun b z1 z2 => rfl) (fun b z1 z2 => hR b (hs.1.ne z1 z2 tx (by decide) (by decide) (by decide)) (hs.1.ne z1 z2 t60 (by decide) (by decide) (by decide)))
  have hrn : ∀ r, r_new r T R → r_new r T R' := fun r hr => by
    refine hr.keep idT (fun b z1 z2 => ?_)
    obtain ⟨q, q1, q2⟩ := hr.tys z1 z2
    exact hR b (fun z => by rw [z, tx] at q1; cases q1; simp at q2) (fun z => by rw [z, t60] at q1; cases q1; simp at q2)
  refine ⟨⟨⟨?_, ?_, ?_, ?_, ?_, ?_⟩, ⟨h2.1, fun v L hv => ?_⟩, ⟨h3.1, fun j st hj => ?_⟩, ?_, ⟨fun j hj => ?_, ?_⟩, h6, h7, h8⟩, Nat.le_refl _, idT, fun b hb => rfl, fun b hb => hR b (hlt b hb).1 (hlt b hb).2⟩
  · refine h1.1.keep idT (fun fk off kd n z => hx _ (fun e => ?_))
    have hn := q_nI_inj e
    have key : fk = 0 ∨ fk = 1 ∨ fk = 2 ∨ fk = 4 ∨ fk = 5 := by
      refine Classical.byContradiction fun hk => ?_
      have hz : t_Lens.lookup fk = none := by
        unfold t_Lens
        simp only [List.lookup, show (fk == 0) = false from beq_false_of_ne (by omega), show (fk == 1) = false from beq_false_of_ne (by omega), show (fk == 2) = false from beq_false_of_ne (by omega), show (fk == 4) = false from beq_false_of_ne (by omega), show (fk == 5) = false from beq_false_of_ne (by omega)]
      rw [hz] at z; cases z
    omega
  · exact h1.2.1.keep idT (fun fk off kd n z => by rw [hR (x + 1) (by omega) (by omega)])
  · exact h1.2.2.1.keep idT (fun fk off kd n z => by rw [hR (x + 32) (by omega) (by omega)])
  · exact h1.2.2.2.1.keep idT (fun fk off kd n z => by rw [hR (x + 69) (by omega) (by omega)])
  · exact h1.2.2.2.2.1.keep idT (fun fk off kd n z => by rw [hR (x + 70) (by omega) (by omega)])
  · exact h1.2.2.2.2.2.keep idT (fun fk off kd n z => by rw [hR (x + 72) (by omega) (by omega)])
  · obtain ⟨s, w, a1, a2, a3, a4⟩ := h2.2 v L hv
    exact ⟨s, w, by rw [hR (x + 2) (by omega) (by omega)]; exact a1, a2, a3, hsc _ _ _ a4⟩
  · obtain ⟨t, a1, a2⟩ := h3.2 j st hj
    exact ⟨t, by rw [hR (x + 3) (by omega) (by omega)]; exact a1, a2.cong3 idT (fun b q z1 z2 => rfl) (fun b q z1 z2 => hR b (by omega) (by omega))⟩
  · obtain ⟨a1, D, w, a2, a3⟩ := h4
    refine ⟨a1, D, w, hsc _ _ _ a2, fun ho => ?_⟩
    obtain ⟨d1, d2, d3, d4, d5, d6⟩ := a3 ho
    rw [hR (x + 59) (by omega) (by omega)]
    exact ⟨d1, d2, d3, d4, d5, d6⟩
  · by_cases hji : j = i
    · subst hji
      have e : (S.setR j (some c)).rs j = some c := if_pos rfl
      rw [e]
      refine ⟨fun z => (by rw [hR1] at z; cases z), fun r hr2 => ?_⟩
      obtain rfl : q' = r := Option.some.inj (hR1.symm.trans hr2)
      refine ⟨b1, hrn _ b2, h0, fun c' hc' => (by cases hc'; exact hk), fun j2 hj2 hr3 => ?_⟩
      by_cases hj3 : j2 = j
      · exact hj3
      · rw [hR2 j2 hj2 hj3] at hr3
        exact absurd hr3 (c2 j2 hj2)
    · have e : (S.setR i (some c)).rs j = S.rs j := if_neg hji
      rw [e, hR2 j hj hji]
      obtain ⟨e1, e2⟩ := h5.1 j hj
      refine ⟨e1, fun r hr2 => ?_⟩
      obtain ⟨f1, f2, f3, f4, f5⟩ := e2 r hr2
      refine ⟨f1, hrn _ f2, f3, f4, fun j2 hj2 hr3 => ?_⟩
      by_cases hj3 : j2 = i
      · subst hj3
        rw [hR1] at hr3
        exact absurd (by rw [hr2]; exact hr3.symm) (c2 j hj)
      · rw [hR2 j2 hj2 hj3] at hr3
        exact f5 j2 hj2 hr3
  · obtain ⟨f1, f2, f3, f4, f5⟩ := (h5.1 i hi).2 r0 hr
    refine ⟨r0, hx3, f1, hrn _ f2, fun j hj hz => ?_⟩
    by_cases hji : j = i
    · subst hji
      rw [hR1] at hz
      cases hz
      exact c2 j hj hr
    · rw [hR2 j hj hji] at hz
      exact hji (f5 j hj hz)
theorem c_Versions_stepOnWay {a k u w s t : Nat} {ss : List KS} {wo : Int32} (hL : q_L 9 t_Versions a T R) (hS : k_ssv a ss T I R) (hk : k + 1 < 8) (hu : I (a + 3) (nI k) = nI u) (hw : I (a + 3) (nI (k + 1)) = nI w) (hu8 : u < 8) (hw8 : w < 8) (hf : k_fst ss wo u w = some s) (ht : R (a + 2) (nI s) = some t) : q_Cr g M_Versions_stepOnWay [.ref a, .int (nI k), .int wo] (sz, T, I, R, J) 0 0 (fun q h' => q = some t ∧ h' = (sz, T, I, R, J)) := by
  have hs := k_fst_lt hf
  have h16 := hS.2.1
  refine q_C.of (ls0 := [some (.ref a), some (.int (nI k)), some (.int wo)]) (by decide) rfl (by decide) (Nat.le_of_ble_eq_true rfl) rfl ?_
  refine q_aload_n d_Versions_stepOnWay_0 rfl rfl ?_
  refine q_getR (ci := 9) (fk := 2) d_Versions_stepOnWay_1 rfl (Nat.le_of_ble_eq_true rfl) w_113 (fun _ _ => rfl) hL.1 (hL.2 2 _ _ _ rfl).1 ?_
  refine q_aload_n d_Versions_stepOnWay_4 rfl rfl ?_
  refine q_aload_n d_Versions_stepOnWay_5 rfl rfl ?_
  refine q_getR (ci := 9) (fk := 4) d_Versions_stepOnWay_6 rfl (Nat.le_of_ble_eq_true rfl) w_117 (fun _ _ => rfl) hL.1 (hL.2 4 _ _ _ rfl).1 ?_
  refine q_iload_n d_Versions_stepOnWay_9 rfl rfl ?_
  refine q_iald d_Versions_stepOnWay_10 (hL.2 4 _ _ _ rfl).2 (by first | assumption | exact vp_in_nI (by omega) (by omega)) ?_
  rw [hu]
  refine q_aload_n d_Versions_stepOnWay_11 rfl rfl ?_
  refine q_getR (ci := 9) (fk := 4) d_Versions_stepOnWay_12 rfl (Nat.le_of_ble_eq_true rfl) w_117 (fun _ _ => rfl) hL.1 (hL.2 4 _ _ _ rfl).1 ?_
  refine q_iload_n d_Versions_stepOnWay_15 rfl rfl ?_
  refine q_iconst (v := nI 1) d_Versions_stepOnWay_16 (by decide) ?_
  first | refine q_iaddN d_Versions_stepOnWay_17 ?_ | refine q_iadd d_Versions_stepOnWay_17 ?_
  refine q_iald d_Versions_stepOnWay_18 (hL.2 4 _ _ _ rfl).2 (by first | assumption | exact vp_in_nI (by omega) (by omega)) ?_
  rw [hw]
  refine q_iload_n d_Versions_stepOnWay_19 rfl rfl ?_
  refine q_callVi (M2 := M_Versions_firstStep) d_Versions_stepOnWay_20 ⟨(Nat.le_of_ble_eq_true rfl), (Nat.le_of_ble_eq_true rfl), w_896, w_2, ⟨by decide, by decide⟩, show _ = some 3 by decide +kernel⟩ w_893 w_895 (ci := 9) rfl s_23 hL.1 rfl (Nat.le_of_ble_eq_true rfl) (by omega) (by omega) (c_Versions_firstStep hL hS hu8 hw8 wo) ?_
  rintro _ _ ⟨rfl, rfl⟩
  rw [hf, show p_idx (some s) = nI s from rfl]
  refine q_aaldR (kd := _) d_Versions_stepOnWay_23 rfl (Nat.le_of_ble_eq_true rfl) (Nat.le_of_ble_eq_true rfl) (hL.2 2 _ _ _ rfl).2 (by first | assumption | exact vp_in_nI (by omega) (by omega)) (by first | assumption | rfl | (simp (disch := omega) only [q_upT_self, q_upT_ne, q_upR_self, q_upR_nea, q_upR_nk, s_T_lo, s_T_hi, s_R_ne, *]; done) | (simp (disch := omega) only [q_upT_self, q_upT_ne, q_upR_self, q_upR_nea, q_upR_nk, s_T_lo, s_T_hi, s_R_ne, *]; rfl)) ?_
  exact q_aret (v := some t) d_Versions_stepOnWay_24 rfl (by omega) (by omega) ⟨some t, rfl, rfl, rfl⟩
theorem c_yf.kd {I' : q_I} (h : c_yf c r I I') (hc1 : T (c + 2) = some (0, 238)) (hr : r_new r T R) {b : Nat} {q : Nat × Nat} (hb : T b = some q) (hq : q ≠ (0, 238) ∧ q ≠ (105, 0) ∧ q ≠ (0, 168) ∧ q ≠ (0, 128) ∧ q ≠ (0, 896)) : I' b = I b := by
  obtain ⟨t0, t1, t2, t3, t4, t5, t6, t7⟩ := r_T0 hr
  obtain ⟨q1, q2, q3, q4, q5⟩ := hq
  refine h.1 b (fun e => ?_) (fun e => ?_) (fun e => ?_) (fun e => ?_) (fun e => ?_) (fun e => ?_)
  · rw [e, hc1] at hb; exact q1 (Option.some.inj hb).symm
  · rw [e, t0] at hb; exact q2 (Option.some.inj hb).symm
  · rw [e, t2] at hb; exact q3 (Option.some.inj hb).symm
  · rw [e, t3] at hb; exact q4 (Option.some.inj hb).symm
  · rw [e, t5] at hb; exact q5 (Option.some.inj hb).symm
  · rw [e, t7] at hb; exact q5 (Option.some.inj hb).symm
theorem k_eta : ∀ Y : KY, Y.2.2 = false → (Y.1, Y.2.1, false) = Y := fun ⟨a, b, c⟩ h => by cases h; rfl
theorem c_Lens_carryAlong (hw : wf S) (hC : relC S x sz T I R) (hr3 : R x (nI 3) = some r) (hr : r_new r T R) {l : List Nat} {u0 : Nat} {val : List (List Int32)} {K : Nat → KK} (hl : k_ar (I (x + 4)) l) (h8 : l.length ≤ 8) (hA : ∀ k u w, l[k]? = some u → l[k + 1]? = some w → k_A S.ss (-1) u w = true) (hu : ∀ u ∈ l, u < 8) (h0 : l[0]? = some u0) (hrec : k_rec r (u0, val, K) I) (hwr : w_rec S.vs S.ss (u0, val, K)) : q_Ci g M_Lens_carryAlong [.ref x, .int (nI (l.length - 1))] (sz, T, I, R, J) 0 0 (fun v h' => ∃ I', h' = (sz, T, I', R, J) ∧ c_yf (x + 69) r I I' ∧ ((v = 1 ∧ (a_go S.ss l (val, K, false)).2.2 = false ∧ ∀ ul, l[l.length - 1]? = some ul → k_rec r (ul, (a_go S.ss l (val, K, false)).1, (a_go S.ss l (val, K, false)).2.1) I' ∧ w_rec S.vs S.ss (ul, (a_go S.ss l (val, K, false)).1, (a_go S.ss l (val, K, false)).2.1)) ∨ (v = 0 ∧ (a_go S.ss l (val, K, false)).2.2 = true))) := by
  have hL := hC.1.1
  have hLv := hC.1.2.1
  have hcr := hC.1.2.2.2.1
  have tv1 := hLv.1
  have tcr := hcr.1
  have rv4 : R (x + 1) (nI 4) = some (x + 4) := (hLv.2 4 _ _ _ rfl).1
  have hc1 := hC.1.2.2.2.2.1
  have tc2 : T (x + 69 + 2) = some (0, 238) := (hc1.2 0 _ _ _ rfl).2
  have t4 : T (x + 4) = some (0, 8) := (hLv.2 4 _ _ _ rfl).2
  have tr := hr.1.1
  have hSs := hC.ssv hw
  obtain ⟨Q, hQ⟩ : ∃ Q : q_O → q_H → Prop, Q = (fun o h' => ∃ v : Int32, o = .inl (some (.int v)) ∧ ∃ I', h' = (sz, T, I', R, J) ∧ c_yf (x + 69) r I I' ∧ ((v = 1 ∧ (a_go S.ss l (val, K, false)).2.2 = false ∧ ∀ ul, l[l.length - 1]? = some ul → k_rec r (ul, (a_go S.ss l (val, K, false)).1, (a_go S.ss l (val, K, false)).2.1) I' ∧ w_rec S.vs S.ss (ul, (a_go S.ss l (val, K, false)).1, (a_go S.ss l (val, K, false)).2.1)) ∨ (v = 0 ∧ (a_go S.ss l (val, K, false)).2.2 = true))) := ⟨_, rfl⟩
  have loop : ∀ (ls : List Nat) (k u : Nat) (val' : List (List Int32)) (K' : Nat → KK) (I1 : q_I) (l3 : Option Value), k + 1 + ls.length = l.length → (∀ j, l[k + j]? = (u :: ls)[j]?) → c_yf (x + 69) r I I1 → k_rec r (u, val', K') I1 → w_rec S.vs S.ss (u, val', K') → a_go S.ss (u :: ls) (val', K', false) = a_go S.ss l (val, K, false) → q_V g M_Lens_carryAlong 0 0 0 0 (sz, T, I1, R, J) Q 2 [some (.ref x), some (.int (nI (l.length - 1))), some (.int (nI k)), l3] [] := by
    intro ls
    induction ls with
    | nil =>
      intro k u val' K' I1 l3 a1 a2 a3 a4 a5 a6
      simp only [List.length_nil] at a1
      refine q_iload_n d_Lens_carryAlong_2 rfl rfl ?_
      refine q_iload_n d_Lens_carryAlong_3 rfl rfl ?_
      refine q_icmp_ge (tgt := 61) d_Lens_carryAlong_4 rfl (fun hc => ?_) (fun hc => ?_)
      · refine q_iconst (v := nI 1) d_Lens_carryAlong_61 (by decide) ?_
        refine q_zret d_Lens_carryAlong_62 rfl (by first | exact Or.inl rfl | exact Or.inr rfl | assumption) (by omega) (by omega) ?_
        rw [hQ]
        refine ⟨_, rfl, I1, rfl, a3, Or.inl ⟨rfl, by rw [← a6]; rfl, fun ul hul => ?_⟩⟩
        have : u = ul := by
          have := a2 0
          rw [Nat.add_zero, show k = l.length - 1 by omega, hul] at this
          exact (Option.some.inj this).symm
        rw [← a6, ← this]
        exact ⟨a4, a5⟩
      · exact absurd (by rw [nI_leI (by omega) (by omega)]; omega) hc
    | cons w ls ih =>
      intro k u val' K' I1 l3 a1 a2 a3 a4 a5 a6
      simp only [List.length_cons] at a1
      have hku : l[k]? = some u := a2 0
      have hkw : l[k + 1]? = some w := a2 1
      have hA' := hA k u w hku hkw
      obtain ⟨s, hs⟩ : ∃ s, k_fst S.ss (-1) u w = some s := by
        unfold k_A at hA'
        cases hf : k_fst S.ss (-1) u w with
        | none => rw [hf] at hA'; cases hA'
        | some s => exact ⟨s, rfl⟩
      obtain ⟨st, s1, s2, s3, s4⟩ := k_fst_st hs
      obtain ⟨t, t1, t2⟩ := hC.2.2.1.2 s st s1
      obtain ⟨f1, f2, -, f4, -⟩ := hw.2.1.2 st (List.mem_of_getElem? s1)
      obtain ⟨L, hLf⟩ : ∃ L, S.vs[st.fr]? = some L := ⟨_, List.getElem?_eq_getElem f1⟩
      obtain ⟨L2, hLt⟩ : ∃ L2, S.vs[st.to]? = some L2 := ⟨_, List.getElem?_eq_getElem f2⟩
      obtain ⟨E, hsk, hE⟩ := hw.stp s1 hLf hLt
      have h16 := hw.2.1.1
      have hv8 := hw.1.2.1
      have e4 : I1 (x + 4) = I (x + 4) := a3.kd tc2 hr t4 (by decide)
      have ess : k_ssv (x + 1) S.ss T I1 R := by
        refine ⟨by rw [a3.kd tc2 hr hLv.1 (by decide)]; exact hSs.1, hSs.2.1, fun i st hi => ?_⟩
        obtain ⟨b1, b2, t, b3, b4, b5, b6, b7⟩ := hSs.2.2 i st hi
        exact ⟨b1, b2, t, b3, b4, by rw [a3.kd tc2 hr b4 (by decide)]; exact b5, by rw [a3.kd tc2 hr b4 (by decide)]; exact b6, b7⟩
      have h24 : st.sb.length ≤ 24 := by rw [hsk.2.2.2.2.2.2.1, List.length_map]; exact hsk.wfE
      have hpl := c_pl_of (c := x + 69) hc1 hr t2 h24
      have kst := a3.stp hpl t2
      have tt := t2.2.1
      refine q_iload_n d_Lens_carryAlong_2 rfl rfl ?_
      refine q_iload_n d_Lens_carryAlong_3 rfl rfl ?_
      refine q_icmp_ge (tgt := 61) d_Lens_carryAlong_4 rfl (fun hc => ?_) (fun hc => ?_)
      · rw [nI_leI (by omega) (by omega)] at hc
        omega
      refine q_aload_n d_Lens_carryAlong_7 rfl rfl ?_
      refine q_getR (ci := 10) (fk := 0) d_Lens_carryAlong_8 rfl (Nat.le_of_ble_eq_true rfl) w_272 (fun _ _ => rfl) hL.1 (hL.2 0 _ _ _ rfl).1 ?_
      refine q_iload_n d_Lens_carryAlong_11 rfl rfl ?_
      refine q_iconst (v := (-1)) d_Lens_carryAlong_12 (by decide) ?_
      refine q_callVr (M2 := M_Versions_stepOnWay) d_Lens_carryAlong_13 ⟨(Nat.le_of_ble_eq_true rfl), (Nat.le_of_ble_eq_true rfl), w_908, w_2, ⟨by decide, by decide⟩, show _ = some 2 by decide +kernel⟩ w_905 w_906 (ci := 9) rfl w_907 (by first | assumption | rfl | (simp (disch := omega) only [q_upT_self, q_upT_ne, q_upR_self, q_upR_nea, q_upR_nk, s_T_lo, s_T_hi, s_R_ne, *]; done) | (simp (disch := omega) only [q_upT_self, q_upT_ne, q_upR_self, q_upR_nea, q_upR_nk, s_T_lo, s_T_hi, s_R_ne, *]; rfl)) rfl (Nat.le_of_ble_eq_true rfl) (by omega) (by omega) (c_Versions_stepOnWay (a := x + 1) (k := k) (t := t) hLv ess (by omega) (by rw [e4]; exact hl k u hku) (by rw [e4]; exact hl (k + 1) w hkw) (hu u (List.mem_of_getElem? hku)) (hu w (List.mem_of_getElem? hkw)) hs t1) ?_
      rintro _ _ ⟨rfl, rfl⟩
      refine q_astore_n d_Lens_carryAlong_16 rfl (Nat.le_of_ble_eq_true rfl) (by first | exact q_ok0 | exact q_okI rfl | exact q_okR rfl | exact q_okN rfl) rfl ?_
      refine q_aload_n d_Lens_carryAlong_17 rfl rfl ?_
      refine q_getR (ci := 10) (fk := 4) d_Lens_carryAlong_18 rfl (Nat.le_of_ble_eq_true rfl) w_276 (fun _ _ => rfl) hL.1 (hL.2 4 _ _ _ rfl).1 ?_
      refine q_aload_n d_Lens_carryAlong_21 rfl rfl ?_
      refine q_getR (ci := 10) (fk := 3) d_Lens_carryAlong_22 rfl (Nat.le_of_ble_eq_true rfl) w_275 (fun _ _ => rfl) hL.1 hr3 ?_
      refine q_aload_n d_Lens_carryAlong_25 rfl rfl ?_
      refine q_aload_n d_Lens_carryAlong_26 rfl rfl ?_
      refine q_getI (ci := 7) (fk := 1) d_Lens_carryAlong_27 rfl (Nat.le_of_ble_eq_true rfl) w_647 (fun _ _ => rfl) (by first | assumption | rfl | (simp (disch := omega) only [q_upT_self, q_upT_ne, q_upR_self, q_upR_nea, q_upR_nk, s_T_lo, s_T_hi, s_R_ne, *]; done) | (simp (disch := omega) only [q_upT_self, q_upT_ne, q_upR_self, q_upR_nea, q_upR_nk, s_T_lo, s_T_hi, s_R_ne, *]; rfl)) ?_
      rw [kst.2.2.2.1]
      refine q_aload_n d_Lens_carryAlong_30 rfl rfl ?_
      refine q_getR (ci := 10) (fk := 0) d_Lens_carryAlong_31 rfl (Nat.le_of_ble_eq_true rfl) w_272 (fun _ _ => rfl) hL.1 (hL.2 0 _ _ _ rfl).1 ?_
      refine q_getR (ci := 9) (fk := 4) d_Lens_carryAlong_34 rfl (Nat.le_of_ble_eq_true rfl) w_118 (fun _ _ => rfl) (by first | assumption | rfl | (simp (disch := omega) only [q_upT_self, q_upT_ne, q_upR_self, q_upR_nea, q_upR_nk, s_T_lo, s_T_hi, s_R_ne, *]; done) | (simp (disch := omega) only [q_upT_self, q_upT_ne, q_upR_self, q_upR_nea, q_upR_nk, s_T_lo, s_T_hi, s_R_ne, *]; rfl)) (by first | assumption | rfl | (simp (disch := omega) only [q_upT_self, q_upT_ne, q_upR_self, q_upR_nea, q_upR_nk, s_T_lo, s_T_hi, s_R_ne, *]; done) | (simp (disch := omega) only [q_upT_self, q_upT_ne, q_upR_self, q_upR_nea, q_upR_nk, s_T_lo, s_T_hi, s_R_ne, *]; rfl)) ?_
      refine q_iload_n d_Lens_carryAlong_37 rfl rfl ?_
      refine q_iald d_Lens_carryAlong_38 (by first | assumption | rfl | (simp (disch := omega) only [q_upT_self, q_upT_ne, q_upR_self, q_upR_nea, q_upR_nk, s_T_lo, s_T_hi, s_R_ne, *]; done) | (simp (disch := omega) only [q_upT_self, q_upT_ne, q_upR_self, q_upR_nea, q_upR_nk, s_T_lo, s_T_hi, s_R_ne, *]; rfl)) (by first | assumption | exact vp_in_nI (by omega) (by omega)) ?_
      rw [e4, hl k u hku]
      have after : ∀ (mcc msc : Nat), mcc = 0 → msc = 0 → q_V g M_Lens_carryAlong 0 0 mcc msc (sz, T, I1, R, J) Q 47 [some (.ref x), some (.int (nI (l.length - 1))), some (.int (nI k)), some (.ref t)] [.int (p_b (decide (st.fr = u))), .ref t, .ref r, .ref (x + 69)] := by
        intro mcc msc m1 m2
        subst m1 m2
        obtain ⟨fw, hfw⟩ : ∃ fw, fw = decide (st.fr = u) := ⟨_, rfl⟩
        rw [← hfw] at s2 s3 ⊢
        have eL : S.vs[u]? = some (s_L fw L L2) := by
          rw [← s2]
          unfold s_u s_L
          cases fw with
          | true => exact hLf
          | false => exact hLt
        obtain ⟨w1, w2, w3⟩ := a5
        obtain ⟨u1, u2⟩ := w2 _ eL
        obtain ⟨v1, v2⟩ := w_in hsk hE u1 u2
        have hK : ∀ j p, st.pr[j]? = some p → k_kok (some p) (K' (8 * s + j)) := fun j p hp => by
          have hj := (List.getElem?_eq_some_iff.mp hp).1
          have := w3 (8 * s + j) (by omega)
          rw [k_pat_at s1 (by omega) hp] at this
          exact this
        have es1 : a_s1 S.ss u w (val', K', false) = a_st fw s st (val', K', false) := by
          unfold a_s1
          rw [hs]
          simp only [s1]
          rw [hfw]
        have ego : a_go S.ss (w :: ls) (a_st fw s st (val', K', false)) = a_go S.ss l (val, K, false) := by
          rw [← a6, ← es1]; rfl
        have wok := a_st_ok (fw := fw) (Y := (val', K', false)) hw s1 (by rw [s2]; exact ⟨w1, w2, w3⟩)
        rw [s3] at wok
        refine q_callVi (M2 := M_Carrier_takeOver) d_Lens_carryAlong_47 ⟨(Nat.le_of_ble_eq_true rfl), (Nat.le_of_ble_eq_true rfl), w_912, w_8, ⟨by decide, by decide⟩, show _ = some 3 by decide +kernel⟩ w_909 w_910 (ci := 0) rfl w_911 (by first | assumption | rfl | (simp (disch := omega) only [q_upT_self, q_upT_ne, q_upR_self, q_upR_nea, q_upR_nk, s_T_lo, s_T_hi, s_R_ne, *]; done) | (simp (disch := omega) only [q_upT_self, q_upT_ne, q_upR_self, q_upR_nea, q_upR_nk, s_T_lo, s_T_hi, s_R_ne, *]; rfl)) rfl (Nat.le_of_ble_eq_true rfl) (by omega) (by omega) (c_Carrier_takeOver (c := x + 69) (r := r) (i := s) (fw := fw) hcr hc1 hr kst hsk (by omega) a4 v1 v2 hK) ?_
        rintro v _ ⟨I2, rfl, y2, hv⟩
        have y3 := a3.trans y2
        rcases hv with ⟨rfl, z1, z2⟩ | ⟨rfl, z1⟩
        · refine q_if_ne (tgt := 55) d_Lens_carryAlong_50 rfl (fun hc => ?_) (fun hc => ?_)
          rotate_left
          · exact absurd hc (by decide)
          first | refine q_iincN d_Lens_carryAlong_55 rfl (Nat.le_of_ble_eq_true rfl) (by first | exact q_ok0 | exact q_okI rfl | exact q_okR rfl | exact q_okN rfl) rfl ?_ | refine q_iinc d_Lens_carryAlong_55 rfl rfl (Nat.le_of_ble_eq_true rfl) (by first | exact q_ok0 | exact q_okI rfl | exact q_okR rfl | exact q_okN rfl) rfl ?_
          refine q_goto (tgt := 2) d_Lens_carryAlong_58 rfl ?_
          rw [show (if fw = true then st.to else st.fr) = s_u (!fw) st by unfold s_u; cases fw <;> rfl, s3] at z2
          refine ih (k + 1) w _ _ I2 _ (by omega) (fun j => by rw [show k + 1 + j = k + (j + 1) by omega]; exact a2 (j + 1)) y3 z2 wok ?_
          rw [← ego, k_eta _ z1]
        · refine q_if_ne (tgt := 55) d_Lens_carryAlong_50 rfl (fun hc => ?_) (fun hc => ?_)
          · exact absurd rfl hc
          refine q_iconst (v := nI 0) d_Lens_carryAlong_53 (by decide) ?_
          refine q_zret d_Lens_carryAlong_54 rfl (by first | exact Or.inl rfl | exact Or.inr rfl | assumption) (by omega) (by omega) ?_
          rw [hQ]
          refine ⟨_, rfl, I2, rfl, y3, Or.inr ⟨rfl, ?_⟩⟩
          rw [← ego]
          exact a_go_can _ _ z1
      refine q_icmp_ne (tgt := 46) d_Lens_carryAlong_39 rfl (fun hc => ?_) (fun hc => ?_)
      · refine q_iconst (v := nI 0) d_Lens_carryAlong_46 (by decide) ?_
        have e := after _ _ rfl rfl
        rw [decide_eq_false (fun z => hc (by rw [z]))] at e
        exact e
      · refine q_iconst (v := nI 1) d_Lens_carryAlong_42 (by decide) ?_
        refine q_goto (tgt := 47) d_Lens_carryAlong_43 rfl ?_
        have hcc : nI st.fr = nI u := hc
        have e := after _ _ rfl rfl
        rw [decide_eq_true ((nI_eq (by omega) (by have := hu u (List.mem_of_getElem? hku); omega)).mp hcc)] at e
        exact e
  refine q_C.of (ls0 := [some (.ref x), some (.int (nI (l.length - 1))), none, none]) (by decide) rfl (by decide) (Nat.le_of_ble_eq_true rfl) rfl ?_
  rw [← hQ]
  refine q_iconst (v := nI 0) d_Lens_carryAlong_0 (by decide) ?_
  refine q_istore_n d_Lens_carryAlong_1 rfl (Nat.le_of_ble_eq_true rfl) (by first | exact q_ok0 | exact q_okI rfl | exact q_okR rfl | exact q_okN rfl) rfl ?_
  cases l with
  | nil => cases h0
  | cons u ls =>
    obtain rfl : u = u0 := Option.some.inj h0
    exact loop ls 0 u val K I _ (by rw [List.length_cons]; omega) (fun j => by rw [Nat.zero_add]) c_yf.refl hrec hwr rfl
theorem k_way_ok {ss : List KS} {wo : Int32} {n f t : Nat} {l : List Nat} (hf : f < n) (ht : t < n) (h : k_way (k_A ss wo) n f t = some l) : (∀ k u w, l[k]? = some u → l[k + 1]? = some w → k_A ss wo u w = true) ∧ (∀ u ∈ l, u < n) ∧ l[0]? = some f ∧ l[l.length - 1]? = some t := by
  unfold k_way at h
  cases hd : k_far (k_A ss wo) n (max f t) (min f t) with
  | none => rw [hd] at h; cases h
  | some d =>
    rw [hd] at h
    have h1 : (if f ≤ t then k_wy (k_A ss wo) n (max f t) d (min f t) else (k_wy (k_A ss wo) n (max f t) d (min f t)).reverse) = l := Option.some.inj h
    have hg : max f t < n := by omega
    have hlen := k_wy_len (k_A ss wo) n (max f t) d (min f t)
    obtain ⟨o1, o2⟩ := k_wy_ok hg d (min f t) (by omega) hd
    have hhd := k_wy_hd (k_A ss wo) n (max f t) d (min f t)
    obtain ⟨y, hy⟩ : ∃ y, y = k_wy (k_A ss wo) n (max f t) d (min f t) := ⟨_, rfl⟩
    rw [← hy] at h1 hlen o1 o2 hhd
    have hlast : y[d]? = some (max f t) := by
      obtain ⟨v, hv⟩ : ∃ v, y[d]? = some v := ⟨_, List.getElem?_eq_getElem (by omega)⟩
      have := (o1 d v hv).2
      rw [Nat.sub_self] at this
      rw [hv, (k_far0 hg).mp this]
    by_cases hft : f ≤ t
    · rw [if_pos hft] at h1
      subst h1
      refine ⟨fun k u w a b => (o2 k u w a b).1, fun u hu => ?_, ?_, ?_⟩
      · obtain ⟨i, hi⟩ := List.getElem?_of_mem hu
        exact (o1 i u hi).1
      · rw [hhd, show min f t = f by omega]
      · rw [hlen, show d + 1 - 1 = d by omega, hlast, show max f t = t by omega]
    · rw [if_neg hft] at h1
      subst h1
      have rv : ∀ i, i < d + 1 → y.reverse[i]? = y[d - i]? := fun i hi => by rw [List.getElem?_reverse (by omega), hlen, show d + 1 - 1 - i = d - i by omega]
      refine ⟨fun k u w a b => ?_, fun u hu => ?_, ?_, ?_⟩
      · have hk := (List.getElem?_eq_some_iff.mp b).1
        rw [List.length_reverse] at hk
        rw [rv k (by omega)] at a
        rw [rv (k + 1) (by omega)] at b
        refine k_A_sym (o2 (d - (k + 1)) w u b ?_).1
        rw [show d - (k + 1) + 1 = d - k by omega]; exact a
      · obtain ⟨i, hi⟩ := List.getElem?_of_mem (List.mem_reverse.mp hu)
        exact (o1 i u hi).1
      · rw [rv 0 (by omega), Nat.sub_zero, hlast, show max f t = f by omega]
      · rw [List.length_reverse, hlen, show d + 1 - 1 = d by omega, rv d (by omega), Nat.sub_self, hhd, show min f t = t by omega]
/-- what translate does -/
def a_tr (S : KA) (i v : Nat) (c : KR) : KO := match k_way (k_A S.ss (-1)) S.vs.length c.ver v with
  | none => (nI 2, 0, S)
  | some l => if (a_go S.ss l (c.val, c.kp, false)).2.2 = true then (nI 3, 0, S) else (0, nI (l.length - 1), S.setR i (some (v, (a_go S.ss l (c.val, c.kp, false)).1, (a_go S.ss l (c.val, c.kp, false)).2.1)))
theorem c_Lens_translate_no (hC : relC S x sz T I R) {h v : Int32} (hb : k_ish S.lv h = false) : q_C g M_Lens_translate [.ref x, .int h, .int v] (sz, T, I, R, J) 1000 14000 (q_Xi [2, 0, 4] (c_sp x sz T I R J (nI 1, 0, S))) := by
  have hL := hC.1.1
  refine q_C.of (ls0 := [some (.ref x), some (.int h), some (.int v), none, none]) (by decide) rfl (by decide) (Nat.le_of_ble_eq_true rfl) rfl ?_
  refine q_aload_n d_Lens_translate_0 rfl rfl ?_
  refine q_iload_n d_Lens_translate_1 rfl rfl ?_
  refine q_callV (M2 := M_Lens_needHandle) d_Lens_translate_2 ⟨(Nat.le_of_ble_eq_true rfl), (Nat.le_of_ble_eq_true rfl), w_747, w_1, ⟨by decide, by decide⟩, show _ = some 1 by decide +kernel⟩ w_744 w_746 (ci := 10) rfl s_18 hL.1 rfl (Nat.le_of_ble_eq_true rfl) (by omega) (by omega) (c_needHandle_no hC hb) (fun v h' z => ?_) (fun z9 h' z => ?_)
  · cases z.1
  · obtain ⟨e9, rfl⟩ := z
    cases e9
    exact q_VX.out (by decide) (by omega) (by omega) (c_xi_no hC rfl)
theorem c_Lens_translate_no2 (hC : relC S x sz T I R) {h v : Int32} (hb : k_ish S.lv h = true) (hb2 : k_bel S.vs.length v = false) : q_C g M_Lens_translate [.ref x, .int h, .int v] (sz, T, I, R, J) 1000 14000 (q_Xi [2, 0, 4] (c_sp x sz T I R J (nI 1, 0, S))) := by
  have hL := hC.1.1
  refine q_C.of (ls0 := [some (.ref x), some (.int h), some (.int v), none, none]) (by decide) rfl (by decide) (Nat.le_of_ble_eq_true rfl) rfl ?_
  refine q_aload_n d_Lens_translate_0 rfl rfl ?_
  refine q_iload_n d_Lens_translate_1 rfl rfl ?_
  refine q_callVv (M2 := M_Lens_needHandle) d_Lens_translate_2 ⟨(Nat.le_of_ble_eq_true rfl), (Nat.le_of_ble_eq_true rfl), w_747, w_1, ⟨by decide, by decide⟩, show _ = some 1 by decide +kernel⟩ w_744 w_746 (ci := 10) rfl s_18 hL.1 rfl (Nat.le_of_ble_eq_true rfl) (by omega) (by omega) (c_needHandle_ok hC hb) ?_
  rintro _ rfl
  refine q_aload_n d_Lens_translate_5 rfl rfl ?_
  refine q_iload_n d_Lens_translate_6 rfl rfl ?_
  refine q_callV (M2 := M_Lens_needVersion) d_Lens_translate_7 ⟨(Nat.le_of_ble_eq_true rfl), (Nat.le_of_ble_eq_true rfl), w_430, w_1, ⟨by decide, by decide⟩, show _ = some 1 by decide +kernel⟩ w_427 w_429 (ci := 10) rfl s_3 hL.1 rfl (Nat.le_of_ble_eq_true rfl) (by omega) (by omega) (c_needVersion_no hC hb2) (fun v h' z => ?_) (fun z9 h' z => ?_)
  · cases z.1
  · obtain ⟨e9, rfl⟩ := z
    cases e9
    exact q_VX.out (by decide) (by omega) (by omega) (c_xi_no hC rfl)
theorem c_Lens_translate (hw : wf S) (hC : relC S x sz T I R) {i v : Nat} {c : KR} (hi : i < 16) (hcr : S.rs i = some c) (hb : k_ish S.lv (nI i) = true) (hv : v < S.vs.length) : q_C g M_Lens_translate [.ref x, .int (nI i), .int (nI v)] (sz, T, I, R, J) 1000 14000 (q_Xi [2, 0, 4] (c_sp x sz T I R J (a_tr S i v c))) := by
  have hL := hC.1.1
  have hv8 := hw.1.2.1
  have hV := hC.1.2.1
  have hV1 := hV.1
  obtain ⟨r0, r1, r2, r3, r4, r5, r6⟩ := hC.rowAt hi hcr
  obtain ⟨q, q1, q2, q3, q4⟩ := hC.2.2.2.2.1.2
  have tr0 := r3.1.1
  have tq0 := q3.1.1
  have hne : q ≠ r0 := fun z => q4 i hi (by rw [r1, z])
  have hwr := hw.2.2.2.1 i c hi hcr
  have hcv : c.ver < S.vs.length := hwr.1
  have t60 := (hL.2 2 _ _ _ rfl).2
  have hdis := r_dis q3 r3 hne
  refine q_C.of (ls0 := [some (.ref x), some (.int (nI i)), some (.int (nI v)), none, none]) (by decide) rfl (by decide) (Nat.le_of_ble_eq_true rfl) rfl ?_
  refine q_aload_n d_Lens_translate_0 rfl rfl ?_
  refine q_iload_n d_Lens_translate_1 rfl rfl ?_
  refine q_callVv (M2 := M_Lens_needHandle) d_Lens_translate_2 ⟨(Nat.le_of_ble_eq_true rfl), (Nat.le_of_ble_eq_true rfl), w_747, w_1, ⟨by decide, by decide⟩, show _ = some 1 by decide +kernel⟩ w_744 w_746 (ci := 10) rfl s_18 hL.1 rfl (Nat.le_of_ble_eq_true rfl) (by omega) (by omega) (c_needHandle_ok hC hb) ?_
  rintro _ rfl
  refine q_aload_n d_Lens_translate_5 rfl rfl ?_
  refine q_iload_n d_Lens_translate_6 rfl rfl ?_
  refine q_callVv (M2 := M_Lens_needVersion) d_Lens_translate_7 ⟨(Nat.le_of_ble_eq_true rfl), (Nat.le_of_ble_eq_true rfl), w_430, w_1, ⟨by decide, by decide⟩, show _ = some 1 by decide +kernel⟩ w_427 w_429 (ci := 10) rfl s_3 hL.1 rfl (Nat.le_of_ble_eq_true rfl) (by omega) (by omega) (c_needVersion_ok hC (k_bel_nI (by omega) hv)) ?_
  rintro _ rfl
  refine q_aload_n d_Lens_translate_10 rfl rfl ?_
  refine q_getR (ci := 10) (fk := 0) d_Lens_translate_11 rfl (Nat.le_of_ble_eq_true rfl) w_272 (fun _ _ => rfl) hL.1 (hL.2 0 _ _ _ rfl).1 ?_
  refine q_aload_n d_Lens_translate_14 rfl rfl ?_
  refine q_getR (ci := 10) (fk := 2) d_Lens_translate_15 rfl (Nat.le_of_ble_eq_true rfl) w_274 (fun _ _ => rfl) hL.1 (hL.2 2 _ _ _ rfl).1 ?_
  refine q_iload_n d_Lens_translate_18 rfl rfl ?_
  refine q_aaldR (kd := _) d_Lens_translate_19 rfl (Nat.le_of_ble_eq_true rfl) (Nat.le_of_ble_eq_true rfl) (hL.2 2 _ _ _ rfl).2 (by first | assumption | exact vp_in_nI (by omega) (by omega)) (by first | assumption | rfl | (simp (disch := omega) only [q_upT_self, q_upT_ne, q_upR_self, q_upR_nea, q_upR_nk, s_T_lo, s_T_hi, s_R_ne, *]; done) | (simp (disch := omega) only [q_upT_self, q_upT_ne, q_upR_self, q_upR_nea, q_upR_nk, s_T_lo, s_T_hi, s_R_ne, *]; rfl)) ?_
  refine q_getI (ci := 5) (fk := 1) d_Lens_translate_20 rfl (Nat.le_of_ble_eq_true rfl) w_195 (fun _ _ => rfl) (by first | assumption | rfl | (simp (disch := omega) only [q_upT_self, q_upT_ne, q_upR_self, q_upR_nea, q_upR_nk, s_T_lo, s_T_hi, s_R_ne, *]; done) | (simp (disch := omega) only [q_upT_self, q_upT_ne, q_upR_self, q_upR_nea, q_upR_nk, s_T_lo, s_T_hi, s_R_ne, *]; rfl)) ?_
  rw [r5.1]
  refine q_iload_n d_Lens_translate_23 rfl rfl ?_
  refine q_iconst (v := (-1)) d_Lens_translate_24 (by decide) ?_
  refine q_callVi (M2 := M_Versions_findWay) d_Lens_translate_25 ⟨(Nat.le_of_ble_eq_true rfl), (Nat.le_of_ble_eq_true rfl), w_878, w_2, ⟨by decide, by decide⟩, show _ = some 3 by decide +kernel⟩ w_875 w_876 (ci := 9) rfl w_877 (by first | assumption | rfl | (simp (disch := omega) only [q_upT_self, q_upT_ne, q_upR_self, q_upR_nea, q_upR_nk, s_T_lo, s_T_hi, s_R_ne, *]; done) | (simp (disch := omega) only [q_upT_self, q_upT_ne, q_upR_self, q_upR_nea, q_upR_nk, s_T_lo, s_T_hi, s_R_ne, *]; rfl)) rfl (Nat.le_of_ble_eq_true rfl) (by omega) (by omega) (c_Versions_findWay hV (hC.ssv hw) hC.2.1.1 hv8 hcv hv hw.st8 (-1)) ?_
  rintro _ _ ⟨rfl, I1, rfl, i1, i2⟩
  obtain ⟨hC1, hF1⟩ := hC.scratch (I' := I1) (fun b b1 b2 b3 => i1 b b1 b2)
  unfold a_tr
  cases ho : k_way (k_A S.ss (-1)) S.vs.length c.ver v with
  | none =>
    refine q_istore_n d_Lens_translate_28 rfl (Nat.le_of_ble_eq_true rfl) (by first | exact q_ok0 | exact q_okI rfl | exact q_okR rfl | exact q_okN rfl) rfl ?_
    refine q_iload_n d_Lens_translate_29 rfl rfl ?_
    refine q_iconst (v := (-1)) d_Lens_translate_30 (by decide) ?_
    refine q_icmp_ne (tgt := 42) d_Lens_translate_31 rfl (fun hc => ?_) (fun hc => ?_)
    · exact absurd rfl hc
    · refine q_throw (x := 0) d_Lens_translate_34 d_Lens_translate_37 d_Lens_translate_38 d_Lens_translate_41 (by decide +kernel) x_nmf (Nat.le_of_ble_eq_true rfl) (Nat.le_of_ble_eq_true rfl) (Nat.le_of_ble_eq_true rfl) w_307 w_14 x_at0 rfl (Nat.le_of_ble_eq_true rfl) (by omega) (by omega) ?_
      exact Or.inr ⟨1, sz, 0, rfl, rfl, rfl, fun _ => rfl, _, _, _, _, rfl, hF1.trans (c_fr.up x sz T I1 R), hC1.up⟩
  | some l =>
    obtain ⟨l1, l2⟩ := k_way_len hv8 ho
    obtain ⟨w1, w2, w3, w4⟩ := k_way_ok hcv hv ho
    have har := i2 l ho
    rw [show p_idx ((some l).map (fun l => l.length - 1)) = nI (l.length - 1) from rfl]
    refine q_istore_n d_Lens_translate_28 rfl (Nat.le_of_ble_eq_true rfl) (by first | exact q_ok0 | exact q_okI rfl | exact q_okR rfl | exact q_okN rfl) rfl ?_
    refine q_iload_n d_Lens_translate_29 rfl rfl ?_
    refine q_iconst (v := (-1)) d_Lens_translate_30 (by decide) ?_
    refine q_icmp_ne (tgt := 42) d_Lens_translate_31 rfl (fun hc => ?_) (fun hc => ?_)
    rotate_left
    · exact absurd hc (nI_m1 (by omega))
    refine q_aload_n d_Lens_translate_42 rfl rfl ?_
    refine q_getR (ci := 10) (fk := 3) d_Lens_translate_43 rfl (Nat.le_of_ble_eq_true rfl) w_275 (fun _ _ => rfl) hL.1 q1 ?_
    refine q_aload_n d_Lens_translate_46 rfl rfl ?_
    refine q_getR (ci := 10) (fk := 2) d_Lens_translate_47 rfl (Nat.le_of_ble_eq_true rfl) w_274 (fun _ _ => rfl) hL.1 (hL.2 2 _ _ _ rfl).1 ?_
    refine q_iload_n d_Lens_translate_50 rfl rfl ?_
    refine q_aaldR (kd := _) d_Lens_translate_51 rfl (Nat.le_of_ble_eq_true rfl) (Nat.le_of_ble_eq_true rfl) (hL.2 2 _ _ _ rfl).2 (by first | assumption | exact vp_in_nI (by omega) (by omega)) (by first | assumption | rfl | (simp (disch := omega) only [q_upT_self, q_upT_ne, q_upR_self, q_upR_nea, q_upR_nk, s_T_lo, s_T_hi, s_R_ne, *]; done) | (simp (disch := omega) only [q_upT_self, q_upT_ne, q_upR_self, q_upR_nea, q_upR_nk, s_T_lo, s_T_hi, s_R_ne, *]; rfl)) ?_
    obtain ⟨r0', s1, s2, s3, s4, s5, s6⟩ := hC1.rowAt hi hcr
    obtain rfl : r0' = r0 := Option.some.inj (s1.symm.trans r1)
    refine q_callVv (M2 := M_Row_makeLike) d_Lens_translate_52 ⟨(Nat.le_of_ble_eq_true rfl), (Nat.le_of_ble_eq_true rfl), w_751, w_6, ⟨by decide, by decide⟩, show _ = some 1 by decide +kernel⟩ w_748 w_749 (ci := 5) rfl w_750 (by first | assumption | rfl | (simp (disch := omega) only [q_upT_self, q_upT_ne, q_upR_self, q_upR_nea, q_upR_nk, s_T_lo, s_T_hi, s_R_ne, *]; done) | (simp (disch := omega) only [q_upT_self, q_upT_ne, q_upR_self, q_upR_nea, q_upR_nk, s_T_lo, s_T_hi, s_R_ne, *]; rfl)) rfl (Nat.le_of_ble_eq_true rfl) (by omega) (by omega) (c_Row_makeLike q3 r3 hne s4) ?_
    rintro _ ⟨I2, rfl, j1, j2, j3, j4, j5, j6, j7⟩
    obtain ⟨hC2, hF2⟩ := hC1.spare (I' := I2) q1 (fun b hb => j1 b (by omega) (by omega) (by omega) (by omega) (by omega))
    have hF12 := hF1.trans hF2
    have hk2 : k_rec q (c.ver, c.val, c.kp) I2 := by
      obtain ⟨k1, k2, k3⟩ := s5
      refine ⟨by rw [j3]; exact k1, fun j u hu => (k2 j u hu).cong (fun a a1 a2 => ?_), fun k hk => ?_⟩
      · have hj9 : j < c.val.length := (List.getElem?_eq_some_iff.mp hu).1
        have hl24 : c.val.length ≤ 24 := by
          obtain ⟨L, hLc⟩ : ∃ L, S.vs[c.ver]? = some L := ⟨_, List.getElem?_eq_getElem hcv⟩
          rw [(hwr.2.1 L hLc).1]
          exact (hw.1.2.2 L (List.mem_of_getElem? hLc)).1.1
        exact j4 a (by omega)
      · obtain ⟨a1, a2, a3⟩ := k3 k hk
        exact ⟨by rw [j5 k hk]; exact a1, fun z => (a2 z).cong (fun a b1 b2 => j6 a (by omega)), fun z => (a3 z).cong (fun a b1 b2 => j7 a (by omega))⟩
    have e4 : I2 (x + 4) = I1 (x + 4) := by
      have t4 := (hV.2 4 _ _ _ rfl).2
      obtain ⟨t0, t1, t2, t3, t4', t5, t6, t7⟩ := r_T0 q3
      refine j1 _ (fun e => ?_) (fun e => ?_) (fun e => ?_) (fun e => ?_) (fun e => ?_)
      · rw [show x + 1 + 3 = x + 4 by omega, e, t0] at t4; cases t4
      · rw [show x + 1 + 3 = x + 4 by omega, e, t2] at t4; cases t4
      · rw [show x + 1 + 3 = x + 4 by omega, e, t3] at t4; cases t4
      · rw [show x + 1 + 3 = x + 4 by omega, e, t5] at t4; cases t4
      · rw [show x + 1 + 3 = x + 4 by omega, e, t7] at t4; cases t4
    refine q_aload_n d_Lens_translate_55 rfl rfl ?_
    refine q_iload_n d_Lens_translate_56 rfl rfl ?_
    refine q_callVi (M2 := M_Lens_carryAlong) d_Lens_translate_57 ⟨(Nat.le_of_ble_eq_true rfl), (Nat.le_of_ble_eq_true rfl), w_904, w_1, ⟨by decide, by decide⟩, show _ = some 1 by decide +kernel⟩ w_901 w_903 (ci := 10) rfl s_25 hL.1 rfl (Nat.le_of_ble_eq_true rfl) (by omega) (by omega) (c_Lens_carryAlong (r := q) hw hC2 q1 q3 (by rw [e4]; exact har) l2 w1 (fun u hu => by have := w2 u hu; omega) w3 hk2 hwr) ?_
    rintro o _ ⟨I3, rfl, y3, hv3⟩
    have c69 : ∀ b, b < q ∨ q + 8 ≤ b → b < x + 69 ∨ x + 83 ≤ b → I3 b = I2 b := fun b b1 b2 => y3.1 b (by omega) (by omega) (by omega) (by omega) (by omega) (by omega)
    obtain ⟨I2', hI2'⟩ : ∃ I2' : q_I, I2' = fun b => if x + 69 ≤ b ∧ b < x + 83 then I3 b else I2 b := ⟨_, rfl⟩
    obtain ⟨hC3, hF3⟩ := hC2.scratch (I' := I2') (fun b b1 b2 b3 => by rw [hI2']; exact if_neg (by omega))
    obtain ⟨hC4, hF4⟩ := hC3.spare (I' := I3) q1 (fun b hb => by
      rw [hI2']
      by_cases hin : x + 69 ≤ b ∧ b < x + 83
      · exact (if_pos hin).symm
      · exact (c69 b hb (by omega)).trans (if_neg hin).symm)
    have hF := (hF12.trans hF3).trans hF4
    rcases hv3 with ⟨rfl, z1, z2⟩ | ⟨rfl, z1⟩
    · refine q_if_ne (tgt := 71) d_Lens_translate_60 rfl (fun hc => ?_) (fun hc => ?_)
      rotate_left
      · exact absurd hc (by decide)
      refine q_aload_n d_Lens_translate_71 rfl rfl ?_
      refine q_getR (ci := 10) (fk := 2) d_Lens_translate_72 rfl (Nat.le_of_ble_eq_true rfl) w_274 (fun _ _ => rfl) hL.1 (hL.2 2 _ _ _ rfl).1 ?_
      refine q_iload_n d_Lens_translate_75 rfl rfl ?_
      refine q_aaldR (kd := _) d_Lens_translate_76 rfl (Nat.le_of_ble_eq_true rfl) (Nat.le_of_ble_eq_true rfl) (hL.2 2 _ _ _ rfl).2 (by first | assumption | exact vp_in_nI (by omega) (by omega)) (by first | assumption | rfl | (simp (disch := omega) only [q_upT_self, q_upT_ne, q_upR_self, q_upR_nea, q_upR_nk, s_T_lo, s_T_hi, s_R_ne, *]; done) | (simp (disch := omega) only [q_upT_self, q_upT_ne, q_upR_self, q_upR_nea, q_upR_nk, s_T_lo, s_T_hi, s_R_ne, *]; rfl)) ?_
      refine q_astore d_Lens_translate_77 (Nat.le_of_ble_eq_true rfl) (by first | exact q_ok0 | exact q_okI rfl | exact q_okR rfl | exact q_okN rfl) rfl ?_
      refine q_aload_n d_Lens_translate_79 rfl rfl ?_
      refine q_getR (ci := 10) (fk := 2) d_Lens_translate_80 rfl (Nat.le_of_ble_eq_true rfl) w_274 (fun _ _ => rfl) hL.1 (hL.2 2 _ _ _ rfl).1 ?_
      refine q_iload_n d_Lens_translate_83 rfl rfl ?_
      refine q_aload_n d_Lens_translate_84 rfl rfl ?_
      refine q_getR (ci := 10) (fk := 3) d_Lens_translate_85 rfl (Nat.le_of_ble_eq_true rfl) w_275 (fun _ _ => rfl) hL.1 q1 ?_
      refine q_aast (kd := 4) (ci := 5) d_Lens_translate_88 rfl rfl (Nat.le_of_ble_eq_true rfl) (Nat.le_of_ble_eq_true rfl) (hL.2 2 _ _ _ rfl).2 (by first | assumption | rfl | (simp (disch := omega) only [q_upT_self, q_upT_ne, q_upR_self, q_upR_nea, q_upR_nk, s_T_lo, s_T_hi, s_R_ne, *]; done) | (simp (disch := omega) only [q_upT_self, q_upT_ne, q_upR_self, q_upR_nea, q_upR_nk, s_T_lo, s_T_hi, s_R_ne, *]; rfl)) (by first | assumption | exact vp_in_nI (by omega) (by omega)) ?_
      refine q_aload_n d_Lens_translate_89 rfl rfl ?_
      refine q_aload d_Lens_translate_90 rfl ?_
      refine q_putR (ci := 10) (fk := 3) (x := some _) d_Lens_translate_92 rfl (Nat.le_of_ble_eq_true rfl) w_275 (Or.inl rfl) (fun _ _ => rfl) rfl rfl hL.1 ?_
      refine q_iload_n d_Lens_translate_95 rfl rfl ?_
      refine q_iret d_Lens_translate_96 rfl (by omega) (by omega) ?_
      simp only []
      rw [if_neg (by rw [z1]; decide)]
      obtain ⟨z3, z4⟩ := z2 v w4
      obtain ⟨hC5, hF5⟩ := hC4.swp (R' := q_upR (q_upR R (x + 60) (nI i) (some q)) x (nI 3) (some r0')) hi q1 r1 (fun b b1 b2 => by funext z; rw [q_upR_nea b1, q_upR_nea b2]) (by rw [q_upR_self]) (fun k hk => by rw [q_upR_nei hk, q_upR_nea (by omega)]) (by rw [q_upR_nea (by omega), q_upR_self]) (fun j hj hji => by rw [q_upR_nea (by omega), q_upR_nk (by omega)]) (by rw [y3.2]; exact j2) z3
      exact Or.inl ⟨_, rfl, rfl, fun _ => rfl, _, _, _, _, rfl, hF.trans hF5, hC5⟩
    · refine q_if_ne (tgt := 71) d_Lens_translate_60 rfl (fun hc => ?_) (fun hc => ?_)
      · exact absurd rfl hc
      refine q_throw (x := 4) d_Lens_translate_63 d_Lens_translate_66 d_Lens_translate_67 d_Lens_translate_70 (by decide +kernel) x_nmf (Nat.le_of_ble_eq_true rfl) (Nat.le_of_ble_eq_true rfl) (Nat.le_of_ble_eq_true rfl) w_1003 w_23 x_at4 rfl (Nat.le_of_ble_eq_true rfl) (by omega) (by omega) ?_
      simp only []
      rw [if_pos z1]
      exact Or.inr ⟨2, sz, 4, rfl, rfl, rfl, fun _ => rfl, _, _, _, _, rfl, hF.trans (c_fr.up x sz T I3 R), hC4.up⟩
end Trans
