/-! clash, by the class -/
section Clash
variable {g : q_G} {x sz te ar : Nat} {T : q_T} {I : q_I} {R : q_R} {J : q_J} {tb : List KT} {S : KA}
def k_cn (L : List KF) (a : Nat) : Nat := (L.take a).countP (fun f => decide (f.2.1 ≠ 2))
theorem k_cn_s {L : List KF} {a : Nat} {f : KF} (h : L[a]? = some f) : k_cn L (a + 1) = k_cn L a + if f.2.1 = 2 then 0 else 1 := by
  unfold k_cn
  rw [List.take_add_one, h, List.countP_append]
  congr 1
  by_cases e : f.2.1 = 2
  · rw [if_pos e]
    simp [List.countP_cons, e]
  · rw [if_neg e]
    simp [List.countP_cons, e]
theorem k_cn_le (L : List KF) (a : Nat) : k_cn L a ≤ a := by
  unfold k_cn
  exact Nat.le_trans List.countP_le_length (by rw [List.length_take]; omega)
/-- the terms at the start -/
def z_s0 (L : List KF) : List KT := (List.range L.length).map (fun a => z_lf 0 (nI (k_cn L a)))
theorem z_s0_at {L : List KF} {a : Nat} (h : a < L.length) : (z_s0 L).getD a [] = z_lf 0 (nI (k_cn L a)) := by
  refine k_getD ?_
  unfold z_s0
  rw [List.getElem?_map, List.getElem?_range h]; rfl
theorem c_Terms_start {s : Nat} {L : List KF} {w : Nat → Nat} (hL : q_L 8 t_Terms te T R) (har : ar = te + 1 ∨ ar = te + 2) (hS : k_sc s L w T I R) (h : o_tb te tb I) (hlen : tb.length + L.length ≤ 152) : q_Cv g M_Terms_start [.ref te, .ref ar, .ref s] (sz, T, I, R, J) 0 0 (fun h' => ∃ (I' : q_I) (tb' : List KT), h' = (sz, T, I', R, J) ∧ (∀ b, b ≠ te → b ≠ ar → b < te + 4 ∨ te + 10 < b → I' b = I b) ∧ o_tb te tb' I' ∧ z_ex tb tb' ∧ tb'.length ≤ tb.length + L.length ∧ ((∀ a f, L[a]? = some f → f.2.1 ≠ 2 → z_lf 0 (nI (k_cn L a)) ∈ tb) → tb' = tb) ∧ o_ar ar L (z_s0 L) tb' I') := by
  have h24 := hS.2.2.1
  have tar : T ar = some (0, 24) := by
    rcases har with e | e
    · rw [e]; exact (hL.2 0 _ _ _ rfl).2
    · rw [e]; exact (hL.2 1 _ _ _ rfl).2
  have ts := hS.1.1.1
  have rs0 := (hS.1.1.2 0 _ _ _ rfl).1
  have ts1 := (hS.1.1.2 0 _ _ _ rfl).2
  have tte := hL.1
  have tte4 := (hL.2 3 _ _ _ rfl).2
  have tte5 := (hL.2 4 _ _ _ rfl).2
  have tte6 := (hL.2 5 _ _ _ rfl).2
  have tte7 := (hL.2 6 _ _ _ rfl).2
  have tte8 := (hL.2 7 _ _ _ rfl).2
  have tte9 := (hL.2 8 _ _ _ rfl).2
  have tte10 := (hL.2 9 _ _ _ rfl).2
  have apart : ∀ (b : Nat) (q : Nat × Nat), T b = some q → q.1 = 106 ∨ q.1 = 103 → b ≠ te ∧ b ≠ ar ∧ (b < te + 4 ∨ te + 10 < b) := fun b q hb hq => by
    have no : ∀ c (q' : Nat × Nat), T c = some q' → q'.1 ≠ 106 → q'.1 ≠ 103 → b ≠ c := fun c q' hc n1 n2 e => by
      rw [e, hc] at hb
      rw [← Option.some.inj hb] at hq
      rcases hq with z | z
      · exact n1 z
      · exact n2 z
    have e4 := no _ _ tte4 (by decide) (by decide)
    have e5 := no _ _ tte5 (by decide) (by decide)
    have e6 := no _ _ tte6 (by decide) (by decide)
    have e7 := no _ _ tte7 (by decide) (by decide)
    have e8 := no _ _ tte8 (by decide) (by decide)
    have e9 := no _ _ tte9 (by decide) (by decide)
    have e10 := no _ _ tte10 (by decide) (by decide)
    exact ⟨no _ _ tte (by decide) (by decide), no _ _ tar (by decide) (by decide), by omega⟩
  refine q_C.of (ls0 := [some (.ref te), some (.ref ar), some (.ref s), none, none]) (by decide) rfl (by decide) (Nat.le_of_ble_eq_true rfl) rfl ?_
  have loop : ∀ (j i : Nat) (I1 : q_I) (tb1 : List KT), i + j = L.length → (∀ b, b ≠ te → b ≠ ar → b < te + 4 ∨ te + 10 < b → I1 b = I b) → o_tb te tb1 I1 → z_ex tb tb1 → tb1.length ≤ tb.length + i → ((∀ a f, L[a]? = some f → f.2.1 ≠ 2 → z_lf 0 (nI (k_cn L a)) ∈ tb) → tb1 = tb) → (∀ a f, a < i → L[a]? = some f → (f.2.1 = 2 → I1 ar (nI a) = -1) ∧ (f.2.1 ≠ 2 → (z_s0 L).getD a [] ∈ tb1 ∧ I1 ar (nI a) = nI (tb1.idxOf ((z_s0 L).getD a [])))) → q_V g M_Terms_start 0 0 0 0 (sz, T, I1, R, J) (fun o h' => o = .inl none ∧ ∃ (I' : q_I) (tb' : List KT), h' = (sz, T, I', R, J) ∧ (∀ b, b ≠ te → b ≠ ar → b < te + 4 ∨ te + 10 < b → I' b = I b) ∧ o_tb te tb' I' ∧ z_ex tb tb' ∧ tb'.length ≤ tb.length + L.length ∧ ((∀ a f, L[a]? = some f → f.2.1 ≠ 2 → z_lf 0 (nI (k_cn L a)) ∈ tb) → tb' = tb) ∧ o_ar ar L (z_s0 L) tb' I') 5 [some (.ref te), some (.ref ar), some (.ref s), some (.int (nI (k_cn L i))), some (.int (nI i))] [] := by
    intro j
    induction j with
    | zero =>
      intro i I1 tb1 hi e1 e2 e3 e4 e5 e6
      obtain rfl : i = L.length := by omega
      obtain ⟨p1, p2, p3⟩ := apart s _ ts (Or.inl rfl)
      refine q_iload d_Terms_start_5 rfl ?_
      refine q_aload_n d_Terms_start_7 rfl rfl ?_
      refine q_getI (ci := 6) (fk := 1) d_Terms_start_8 rfl (Nat.le_of_ble_eq_true rfl) w_103 (fun _ _ => rfl) (by first | assumption | rfl | (simp (disch := omega) only [q_upT_self, q_upT_ne, q_upR_self, q_upR_nea, q_upR_nk, s_T_lo, s_T_hi, s_R_ne, *]; done) | (simp (disch := omega) only [q_upT_self, q_upT_ne, q_upR_self, q_upR_nea, q_upR_nk, s_T_lo, s_T_hi, s_R_ne, *]; rfl)) ?_
      rw [e1 s p1 p2 p3, hS.2.1]
      refine q_icmp_ge (tgt := 55) d_Terms_start_11 rfl (fun hc => ?_) (fun hc => ?_)
      · refine q_vret d_Terms_start_55 rfl (by omega) (by omega) ?_
        exact ⟨rfl, I1, tb1, rfl, e1, e2, e3, e4, e5, fun a f hf => e6 a f (List.getElem?_eq_some_iff.mp hf).1 hf⟩
      · exact absurd (Int32.le_refl _) hc
    | succ j ih =>
      intro i I1 tb1 hi e1 e2 e3 e4 e5 e6
      obtain ⟨f, hf⟩ : ∃ f, L[i]? = some f := ⟨_, List.getElem?_eq_getElem (by omega)⟩
      obtain ⟨g1, g2, g3, g4⟩ := hS.at hf
      obtain ⟨p1, p2, p3⟩ := apart s _ ts (Or.inl rfl)
      obtain ⟨q1, q2, q3⟩ := apart _ _ g3 (Or.inr rfl)
      have hcn := k_cn_s hf
      have hcl := k_cn_le L i
      refine q_iload d_Terms_start_5 rfl ?_
      refine q_aload_n d_Terms_start_7 rfl rfl ?_
      refine q_getI (ci := 6) (fk := 1) d_Terms_start_8 rfl (Nat.le_of_ble_eq_true rfl) w_103 (fun _ _ => rfl) (by first | assumption | rfl | (simp (disch := omega) only [q_upT_self, q_upT_ne, q_upR_self, q_upR_nea, q_upR_nk, s_T_lo, s_T_hi, s_R_ne, *]; done) | (simp (disch := omega) only [q_upT_self, q_upT_ne, q_upR_self, q_upR_nea, q_upR_nk, s_T_lo, s_T_hi, s_R_ne, *]; rfl)) ?_
      rw [e1 s p1 p2 p3, hS.2.1]
      refine q_icmp_ge (tgt := 55) d_Terms_start_11 rfl (fun hc => ?_) (fun hc => ?_)
      · rw [nI_leI (by omega) (by omega)] at hc
        omega
      refine q_aload_n d_Terms_start_14 rfl rfl ?_
      refine q_getR (ci := 6) (fk := 0) d_Terms_start_15 rfl (Nat.le_of_ble_eq_true rfl) w_95 (fun _ _ => rfl) (by first | assumption | rfl | (simp (disch := omega) only [q_upT_self, q_upT_ne, q_upR_self, q_upR_nea, q_upR_nk, s_T_lo, s_T_hi, s_R_ne, *]; done) | (simp (disch := omega) only [q_upT_self, q_upT_ne, q_upR_self, q_upR_nea, q_upR_nk, s_T_lo, s_T_hi, s_R_ne, *]; rfl)) (by first | assumption | rfl | (simp (disch := omega) only [q_upT_self, q_upT_ne, q_upR_self, q_upR_nea, q_upR_nk, s_T_lo, s_T_hi, s_R_ne, *]; done) | (simp (disch := omega) only [q_upT_self, q_upT_ne, q_upR_self, q_upR_nea, q_upR_nk, s_T_lo, s_T_hi, s_R_ne, *]; rfl)) ?_
      refine q_iload d_Terms_start_18 rfl ?_
      refine q_aaldR (kd := _) d_Terms_start_20 rfl (Nat.le_of_ble_eq_true rfl) (Nat.le_of_ble_eq_true rfl) (by first | assumption | rfl | (simp (disch := omega) only [q_upT_self, q_upT_ne, q_upR_self, q_upR_nea, q_upR_nk, s_T_lo, s_T_hi, s_R_ne, *]; done) | (simp (disch := omega) only [q_upT_self, q_upT_ne, q_upR_self, q_upR_nea, q_upR_nk, s_T_lo, s_T_hi, s_R_ne, *]; rfl)) (by first | assumption | exact vp_in_nI (by omega) (by omega)) (by first | assumption | rfl | (simp (disch := omega) only [q_upT_self, q_upT_ne, q_upR_self, q_upR_nea, q_upR_nk, s_T_lo, s_T_hi, s_R_ne, *]; done) | (simp (disch := omega) only [q_upT_self, q_upT_ne, q_upR_self, q_upR_nea, q_upR_nk, s_T_lo, s_T_hi, s_R_ne, *]; rfl)) ?_
      refine q_getI (ci := 3) (fk := 1) d_Terms_start_21 rfl (Nat.le_of_ble_eq_true rfl) w_60 (fun _ _ => rfl) (by first | assumption | rfl | (simp (disch := omega) only [q_upT_self, q_upT_ne, q_upR_self, q_upR_nea, q_upR_nk, s_T_lo, s_T_hi, s_R_ne, *]; done) | (simp (disch := omega) only [q_upT_self, q_upT_ne, q_upR_self, q_upR_nea, q_upR_nk, s_T_lo, s_T_hi, s_R_ne, *]; rfl)) ?_
      rw [e1 _ q1 q2 q3, g4.2.1]
      refine q_iconst (v := nI 2) d_Terms_start_24 (by decide) ?_
      refine q_icmp_ne (tgt := 36) d_Terms_start_25 rfl (fun hc => ?_) (fun hc => ?_)
      · have h2 : ¬ f.2.1 = 2 := hc
        rw [if_neg h2] at hcn
        refine q_aload_n d_Terms_start_36 rfl rfl ?_
        refine q_iload d_Terms_start_37 rfl ?_
        refine q_aload_n d_Terms_start_39 rfl rfl ?_
        refine q_iconst (v := nI 0) d_Terms_start_40 (by decide) ?_
        refine q_iload_n d_Terms_start_41 rfl rfl ?_
        refine q_callVi (M2 := M_Terms_simple) d_Terms_start_42 ⟨(Nat.le_of_ble_eq_true rfl), (Nat.le_of_ble_eq_true rfl), w_1047, w_9, ⟨by decide, by decide⟩, show _ = some 2 by decide +kernel⟩ w_1044 w_1046 (ci := 8) rfl s_37 hL.1 rfl (Nat.le_of_ble_eq_true rfl) (by omega) (by omega) (c_simple_lf2 hL e2 (by omega) (by omega) (nI (k_cn L i))) ?_
        rintro _ _ ⟨⟨I2, tb2, rfl, a1, a2, a3, a4, a5, rfl⟩, a6⟩
        refine q_iast d_Terms_start_45 (by first | assumption | rfl | (simp (disch := omega) only [q_upT_self, q_upT_ne, q_upR_self, q_upR_nea, q_upR_nk, s_T_lo, s_T_hi, s_R_ne, *]; done) | (simp (disch := omega) only [q_upT_self, q_upT_ne, q_upR_self, q_upR_nea, q_upR_nk, s_T_lo, s_T_hi, s_R_ne, *]; rfl)) (by first | assumption | exact vp_in_nI (by omega) (by omega)) ?_
        first | refine q_iincN d_Terms_start_46 rfl (Nat.le_of_ble_eq_true rfl) (by first | exact q_ok0 | exact q_okI rfl | exact q_okR rfl | exact q_okN rfl) rfl ?_ | refine q_iinc d_Terms_start_46 rfl rfl (Nat.le_of_ble_eq_true rfl) (by first | exact q_ok0 | exact q_okI rfl | exact q_okR rfl | exact q_okN rfl) rfl ?_
        first | refine q_iincN d_Terms_start_49 rfl (Nat.le_of_ble_eq_true rfl) (by first | exact q_ok0 | exact q_okI rfl | exact q_okR rfl | exact q_okN rfl) rfl ?_ | refine q_iinc d_Terms_start_49 rfl rfl (Nat.le_of_ble_eq_true rfl) (by first | exact q_ok0 | exact q_okI rfl | exact q_okR rfl | exact q_okN rfl) rfl ?_
        refine q_goto (tgt := 5) d_Terms_start_52 rfl ?_
        rw [show k_cn L i + 1 = k_cn L (i + 1) from hcn.symm]
        have hI2ar : I2 ar = I1 ar := a1 ar (by omega)
        refine ih (i + 1) _ tb2 (by omega) (fun b c1 c2 c3 => ?_) (a2.cong fun b c1 c2 c3 => by funext z; rw [q_upI_nea (by omega)]) (e3.trans a3) (by omega) (fun hall => ?_) (fun a f' ha hf' => ?_)
        · funext z
          rw [q_upI_nea c2, a1 b (by omega), e1 b c1 c2 c3]
        · have et := e5 hall
          have hm : z_lf 0 (nI (k_cn L i)) ∈ tb1 := by rw [et]; exact hall i f hf h2
          have hI := a6 hm
          have hI2 : I2 = I1 := congrArg (fun h : q_H => h.2.2.1) hI
          rw [hI2] at a2
          have hl : tb2.length = tb1.length := (nI_eq (by omega) (by omega)).mp (a2.1.symm.trans e2.1)
          obtain ⟨ex, hex⟩ := a3
          rw [hex, List.length_append] at hl
          have : ex = [] := List.length_eq_zero_iff.mp (by omega)
          rw [hex, this, List.append_nil, et]
        · by_cases hai : a = i
          · subst hai
            have ef : f = f' := Option.some.inj (hf.symm.trans hf')
            rw [← ef, z_s0_at (by omega), q_upI_self]
            exact ⟨fun z => absurd z h2, fun _ => ⟨a5, rfl⟩⟩
          · obtain ⟨r1, r2⟩ := e6 a f' (by omega) hf'
            rw [q_upI_nk (by omega), hI2ar]
            exact ⟨r1, fun z => ⟨a3.mem (r2 z).1, by rw [(r2 z).2, a3.ix (r2 z).1]⟩⟩
      · have h2 : f.2.1 = 2 := hc
        rw [if_pos h2] at hcn
        refine q_aload_n d_Terms_start_28 rfl rfl ?_
        refine q_iload d_Terms_start_29 rfl ?_
        refine q_iconst (v := (-1)) d_Terms_start_31 (by decide) ?_
        refine q_iast d_Terms_start_32 (by first | assumption | rfl | (simp (disch := omega) only [q_upT_self, q_upT_ne, q_upR_self, q_upR_nea, q_upR_nk, s_T_lo, s_T_hi, s_R_ne, *]; done) | (simp (disch := omega) only [q_upT_self, q_upT_ne, q_upR_self, q_upR_nea, q_upR_nk, s_T_lo, s_T_hi, s_R_ne, *]; rfl)) (by first | assumption | exact vp_in_nI (by omega) (by omega)) ?_
        refine q_goto (tgt := 49) d_Terms_start_33 rfl ?_
        first | refine q_iincN d_Terms_start_49 rfl (Nat.le_of_ble_eq_true rfl) (by first | exact q_ok0 | exact q_okI rfl | exact q_okR rfl | exact q_okN rfl) rfl ?_ | refine q_iinc d_Terms_start_49 rfl rfl (Nat.le_of_ble_eq_true rfl) (by first | exact q_ok0 | exact q_okI rfl | exact q_okR rfl | exact q_okN rfl) rfl ?_
        refine q_goto (tgt := 5) d_Terms_start_52 rfl ?_
        rw [show k_cn L i = k_cn L (i + 1) from hcn.symm]
        refine ih (i + 1) _ tb1 (by omega) (fun b c1 c2 c3 => ?_) (e2.cong fun b c1 c2 c3 => by funext z; rw [q_upI_nea (by omega)]) e3 (by omega) e5 (fun a f' ha hf' => ?_)
        · funext z
          rw [q_upI_nea c2, e1 b c1 c2 c3]
        · by_cases hai : a = i
          · subst hai
            have ef : f = f' := Option.some.inj (hf.symm.trans hf')
            rw [← ef, q_upI_self]
            exact ⟨fun _ => rfl, fun z => absurd h2 z⟩
          · rw [q_upI_nk (by omega)]
            exact e6 a f' (by omega) hf'
  refine q_iconst (v := nI 0) d_Terms_start_0 (by decide) ?_
  refine q_istore_n d_Terms_start_1 rfl (Nat.le_of_ble_eq_true rfl) (by first | exact q_ok0 | exact q_okI rfl | exact q_okR rfl | exact q_okN rfl) rfl ?_
  refine q_iconst (v := nI 0) d_Terms_start_2 (by decide) ?_
  refine q_istore d_Terms_start_3 (Nat.le_of_ble_eq_true rfl) (by first | exact q_ok0 | exact q_okI rfl | exact q_okR rfl | exact q_okN rfl) rfl ?_
  exact loop L.length 0 I tb (by omega) (fun _ _ _ _ => rfl) h (z_ex.refl tb) (by omega) (fun _ => rfl) (fun a _ ha => absurd ha (Nat.not_lt_zero _))
theorem c_Terms_differ {n : Nat} (hL : q_L 8 t_Terms te T R) (hn : n ≤ 24) : q_Ci g M_Terms_differ [.ref te, .int (nI n)] (sz, T, I, R, J) 0 0 (fun r h' => h' = (sz, T, I, R, J) ∧ ((r = 0 ∧ ∀ i, i < n → I (te + 1) (nI i) = I (te + 2) (nI i)) ∨ (r = 1 ∧ ∃ i, i < n ∧ I (te + 1) (nI i) ≠ I (te + 2) (nI i)))) := by
  refine q_C.of (ls0 := [some (.ref te), some (.int (nI n)), none]) (by decide) rfl (by decide) (Nat.le_of_ble_eq_true rfl) rfl ?_
  have loop : ∀ (j i : Nat), i + j = n → (∀ a, a < i → I (te + 1) (nI a) = I (te + 2) (nI a)) → q_V g M_Terms_differ 0 0 0 0 (sz, T, I, R, J) (fun o h' => ∃ r : Int32, o = .inl (some (.int r)) ∧ h' = (sz, T, I, R, J) ∧ ((r = 0 ∧ ∀ i, i < n → I (te + 1) (nI i) = I (te + 2) (nI i)) ∨ (r = 1 ∧ ∃ i, i < n ∧ I (te + 1) (nI i) ≠ I (te + 2) (nI i)))) 2 [some (.ref te), some (.int (nI n)), some (.int (nI i))] [] := by
    intro j
    induction j with
    | zero =>
      intro i hi he
      obtain rfl : i = n := by omega
      refine q_iload_n d_Terms_differ_2 rfl rfl ?_
      refine q_iload_n d_Terms_differ_3 rfl rfl ?_
      refine q_icmp_ge (tgt := 30) d_Terms_differ_4 rfl (fun hc => ?_) (fun hc => ?_)
      · refine q_iconst (v := nI 0) d_Terms_differ_30 (by decide) ?_
        refine q_zret d_Terms_differ_31 rfl (by first | exact Or.inl rfl | exact Or.inr rfl | assumption) (by omega) (by omega) ?_
        exact ⟨_, rfl, rfl, Or.inl ⟨rfl, he⟩⟩
      · exact absurd (Int32.le_refl _) hc
    | succ j ih =>
      intro i hi he
      refine q_iload_n d_Terms_differ_2 rfl rfl ?_
      refine q_iload_n d_Terms_differ_3 rfl rfl ?_
      refine q_icmp_ge (tgt := 30) d_Terms_differ_4 rfl (fun hc => ?_) (fun hc => ?_)
      · rw [nI_leI (by omega) (by omega)] at hc
        omega
      refine q_aload_n d_Terms_differ_7 rfl rfl ?_
      refine q_getR (ci := 8) (fk := 0) d_Terms_differ_8 rfl (Nat.le_of_ble_eq_true rfl) w_236 (fun _ _ => rfl) hL.1 (hL.2 0 _ _ _ rfl).1 ?_
      refine q_iload_n d_Terms_differ_11 rfl rfl ?_
      refine q_iald d_Terms_differ_12 (hL.2 0 _ _ _ rfl).2 (by first | assumption | exact vp_in_nI (by omega) (by omega)) ?_
      refine q_aload_n d_Terms_differ_13 rfl rfl ?_
      refine q_getR (ci := 8) (fk := 1) d_Terms_differ_14 rfl (Nat.le_of_ble_eq_true rfl) w_238 (fun _ _ => rfl) hL.1 (hL.2 1 _ _ _ rfl).1 ?_
      refine q_iload_n d_Terms_differ_17 rfl rfl ?_
      refine q_iald d_Terms_differ_18 (hL.2 1 _ _ _ rfl).2 (by first | assumption | exact vp_in_nI (by omega) (by omega)) ?_
      refine q_icmp_eq (tgt := 24) d_Terms_differ_19 rfl (fun hc => ?_) (fun hc => ?_)
      · have hcx := hc
        first | refine q_iincN d_Terms_differ_24 rfl (Nat.le_of_ble_eq_true rfl) (by first | exact q_ok0 | exact q_okI rfl | exact q_okR rfl | exact q_okN rfl) rfl ?_ | refine q_iinc d_Terms_differ_24 rfl rfl (Nat.le_of_ble_eq_true rfl) (by first | exact q_ok0 | exact q_okI rfl | exact q_okR rfl | exact q_okN rfl) rfl ?_
        refine q_goto (tgt := 2) d_Terms_differ_27 rfl ?_
        refine ih (i + 1) (by omega) (fun a ha => ?_)
        by_cases hai : a = i
        · rw [hai]; exact hcx
        · exact he a (by omega)
      · have hcx := hc
        refine q_iconst (v := nI 1) d_Terms_differ_22 (by decide) ?_
        refine q_zret d_Terms_differ_23 rfl (by first | exact Or.inl rfl | exact Or.inr rfl | assumption) (by omega) (by omega) ?_
        exact ⟨_, rfl, rfl, Or.inr ⟨rfl, i, by omega, hcx⟩⟩
  refine q_iconst (v := nI 0) d_Terms_differ_0 (by decide) ?_
  refine q_istore_n d_Terms_differ_1 rfl (Nat.le_of_ble_eq_true rfl) (by first | exact q_ok0 | exact q_okI rfl | exact q_okR rfl | exact q_okN rfl) rfl ?_
  exact loop n 0 (by omega) (fun a ha => absurd ha (Nat.not_lt_zero _))
theorem c_Terms_clear (hL : q_L 8 t_Terms te T R) : q_Cv g M_Terms_clear [.ref te] (sz, T, I, R, J) 0 0 (fun h' => ∃ I' : q_I, h' = (sz, T, I', R, J) ∧ (∀ b, b ≠ te → I' b = I b) ∧ o_tb te [] I') := by
  refine q_C.of (ls0 := [some (.ref te)]) (by decide) rfl (by decide) (Nat.le_of_ble_eq_true rfl) rfl ?_
  refine q_aload_n d_Terms_clear_0 rfl rfl ?_
  refine q_iconst (v := nI 0) d_Terms_clear_1 (by decide) ?_
  refine q_putI (ci := 8) (fk := 10) d_Terms_clear_2 rfl (Nat.le_of_ble_eq_true rfl) w_248 (Or.inl rfl) (fun _ _ => rfl) rfl rfl hL.1 ?_
  refine q_vret d_Terms_clear_5 rfl (by omega) (by omega) ?_
  exact ⟨rfl, _, rfl, fun b hb => by funext z; rw [q_upI_nea hb], by rw [q_upI_self]; rfl, ⟨List.nodup_nil, fun t ht => by cases ht⟩, fun i t ht => by cases ht⟩
end Clash
