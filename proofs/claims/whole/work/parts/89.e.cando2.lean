/-! may it be done, whole; it is the same whatever the order of the fields -/
section CanDo2
variable {g : q_G} {sz m : Nat} {T : q_T} {I : q_I} {R : q_R} {J : q_J} {S : KA}
theorem k_cin_snoc (A : List KF) (f : KF) (l : List Nat) : k_cin (A ++ [f]) l = k_cin A l + if f.1 ≠ l ∧ l <+: f.1 then 1 else 0 := by
  unfold k_cin
  rw [List.filter_append, List.length_append]
  congr 1
  by_cases h : f.1 ≠ l ∧ l <+: f.1
  · rw [if_pos h, List.filter_cons_of_pos (by rw [Bool.and_eq_true, decide_eq_true_iff, decide_eq_true_iff]; exact h)]; rfl
  · rw [if_neg h, List.filter_cons_of_neg (by rw [Bool.and_eq_true, decide_eq_true_iff, decide_eq_true_iff]; exact h)]; rfl
set_option maxHeartbeats 1000000 in
theorem c_Model_canDo {k dn : Nat} {M : List KF} {pth a b c : Int32} (hL : q_L 11 t_Model m T R) (hM : k_mw m M I) (hw : k_wfL M) (hk : k ≤ 8) : q_Ci g M_Model_canDo [.ref m, .int (nI k), .int pth, .int a, .int b, .int c] (sz, T, I, R, J) 0 0 (fun r h' => r = p_b (a_prm M dn (nI k) (k_of pth) a b c).isSome ∧ h' = (sz, T, I, R, J)) := by
  have hok := hw.2.1
  have hdi := hw.2.2.1
  have h26 := hM.2.1
  refine q_C.of (ls0 := [some (.ref m), some (.int (nI k)), some (.int pth), some (.int a), some (.int b), some (.int c), none, none, none, none, none]) (by decide) rfl (by decide) (Nat.le_of_ble_eq_true rfl) rfl ?_
  by_cases hk1 : k = 1
  · subst hk1
    have hz : (a_prm M dn (nI 1) (k_of pth) a b c).isSome = b_add M (k_of pth) a b c := by
      unfold a_prm
      rw [if_pos (show nI 1 = 1 from rfl)]
      cases hb : b_add M (k_of pth) a b c with
      | false => rw [if_neg (by decide)]; rfl
      | true =>
        rw [if_pos rfl]
        cases ho : k_of pth with
        | none => rw [ho] at hb; cases hb
        | some l => rfl
    rw [hz]
    refine q_iload_n d_Model_canDo_0 rfl rfl ?_
    refine q_iconst (v := nI 1) d_Model_canDo_1 (by decide) ?_
    refine q_icmp_ne (tgt := 33) d_Model_canDo_2 rfl (fun hc => ?_) (fun hc => ?_)
    · exact absurd rfl hc
    refine q_aload_n d_Model_canDo_5 rfl rfl ?_
    refine q_iload_n d_Model_canDo_6 rfl rfl ?_
    refine q_iload_n d_Model_canDo_7 rfl rfl ?_
    refine q_iload d_Model_canDo_8 rfl ?_
    refine q_iload d_Model_canDo_10 rfl ?_
    refine q_callVi (M2 := M_Model_canAdd) d_Model_canDo_12 ⟨(Nat.le_of_ble_eq_true rfl), (Nat.le_of_ble_eq_true rfl), w_1252, w_10, ⟨by decide, by decide⟩, show _ = some 4 by decide +kernel⟩ w_1249 w_1251 (ci := 11) rfl s_51 hL.1 rfl (Nat.le_of_ble_eq_true rfl) (by omega) (by omega) (c_Model_canAdd (p := pth) (so := a) (lo := b) (hi := c) hL hM hok hdi) ?_
    rintro _ _ ⟨rfl, rfl⟩
    cases hb : (k_room M (k_of pth) && k_shape a b c) with
    | false =>
      refine q_if_eq (tgt := 31) d_Model_canDo_15 rfl (fun hc => ?_) (fun hc => ?_)
      · refine q_iconst (v := nI 0) d_Model_canDo_31 (by decide) ?_
        refine q_zret d_Model_canDo_32 rfl (by first | exact Or.inl rfl | exact Or.inr rfl | assumption) (by omega) (by omega) ?_
        exact ⟨_, rfl, by unfold b_add; rw [hb]; rfl, rfl⟩
      · exact absurd rfl hc
    | true =>
      refine q_if_eq (tgt := 31) d_Model_canDo_15 rfl (fun hc => ?_) (fun hc => ?_)
      · exact absurd hc (by decide)
      refine q_aload_n d_Model_canDo_18 rfl rfl ?_
      refine q_getI (ci := 11) (fk := 18) d_Model_canDo_19 rfl (Nat.le_of_ble_eq_true rfl) w_1122 (fun _ _ => rfl) hL.1 ?_
      rw [hM.1]
      refine q_bipush (v := nI 24) d_Model_canDo_22 (by decide) ?_
      refine q_icmp_ge (tgt := 31) d_Model_canDo_24 rfl (fun hc => ?_) (fun hc => ?_)
      · rw [nI_leI (by omega) (by omega)] at hc
        refine q_iconst (v := nI 0) d_Model_canDo_31 (by decide) ?_
        refine q_zret d_Model_canDo_32 rfl (by first | exact Or.inl rfl | exact Or.inr rfl | assumption) (by omega) (by omega) ?_
        exact ⟨_, rfl, by unfold b_add; rw [decide_eq_false (by omega), Bool.and_false]; rfl, rfl⟩
      · have : M.length < 24 := Classical.byContradiction fun z => hc (by rw [nI_leI (by omega) (by omega)]; omega)
        refine q_iconst (v := nI 1) d_Model_canDo_27 (by decide) ?_
        refine q_goto (tgt := 32) d_Model_canDo_28 rfl ?_
        refine q_zret d_Model_canDo_32 rfl (by first | exact Or.inl rfl | exact Or.inr rfl | assumption) (by omega) (by omega) ?_
        exact ⟨_, rfl, by unfold b_add; rw [hb, decide_eq_true this]; rfl, rfl⟩
  have hkn : ¬ nI k = 1 := fun z => hk1 ((nI_eq (by omega) (by decide)).mp z)
  have hz : (a_prm M dn (nI k) (k_of pth) a b c).isSome = match a_fld M (k_of pth) with
      | none => false
      | some f => b_knd M f k a b := by
    unfold a_prm
    rw [if_neg hkn]
    cases a_fld M (k_of pth) with
    | none => rfl
    | some f =>
      show (if nI k < 0 then none else if b_knd M f (nI k).toNatClampNeg a b = true then _ else none).isSome = b_knd M f k a b
      rw [if_neg (nI_pos (by omega)), nI_clamp (by omega)]
      cases b_knd M f k a b <;> rfl
  rw [hz]
  refine q_iload_n d_Model_canDo_0 rfl rfl ?_
  refine q_iconst (v := nI 1) d_Model_canDo_1 (by decide) ?_
  refine q_icmp_ne (tgt := 33) d_Model_canDo_2 rfl (fun hc => ?_) (fun hc => ?_)
  rotate_left
  · exact absurd (show nI k = 1 by have := hc; exact this) hkn
  refine q_iload_n d_Model_canDo_33 rfl rfl ?_
  refine q_callSi (M2 := M_Model_depth) d_Model_canDo_34 ⟨(Nat.le_of_ble_eq_true rfl), (Nat.le_of_ble_eq_true rfl), w_1255, w_10, ⟨by decide, by decide⟩, show _ = some 1 by decide +kernel⟩ w_1253 w_1254 rfl (Nat.le_of_ble_eq_true rfl) (by omega) (by omega) (c_Model_depth pth) ?_
  rintro _ _ ⟨rfl, rfl⟩
  -- no such field
  have no : ∀ (mcc msc : Nat) (d : Int32), mcc = 0 → msc = 0 → a_fld M (k_of pth) = none → q_V g M_Model_canDo 0 0 mcc msc (sz, T, I, R, J) (fun o h' => ∃ r : Int32, o = .inl (some (.int r)) ∧ (r = p_b (match a_fld M (k_of pth) with
      | none => false
      | some f => b_knd M f k a b) ∧ h' = (sz, T, I, R, J))) 53 [some (.ref m), some (.int (nI k)), some (.int pth), some (.int a), some (.int b), some (.int c), some (.int d), none, none, none, none] [.int (-1)] := by
    intro mcc msc d e1 e2 hn
    subst e1 e2
    refine q_istore d_Model_canDo_53 (Nat.le_of_ble_eq_true rfl) (by first | exact q_ok0 | exact q_okI rfl | exact q_okR rfl | exact q_okN rfl) rfl ?_
    refine q_iload d_Model_canDo_55 rfl ?_
    refine q_if_ge (tgt := 62) d_Model_canDo_57 rfl (fun hc => ?_) (fun hc => ?_)
    · exact absurd (show (0 : Int32) ≤ -1 from hc) (by decide)
    refine q_iconst (v := nI 0) d_Model_canDo_60 (by decide) ?_
    refine q_zret d_Model_canDo_61 rfl (by first | exact Or.inl rfl | exact Or.inr rfl | assumption) (by omega) (by omega) ?_
    exact ⟨_, rfl, by rw [hn]; rfl, rfl⟩
  cases ho : k_of pth with
  | none =>
    rw [← ho]
    rw [show p_dep 0 (k_of pth) = -1 by rw [ho]; rfl]
    refine q_istore d_Model_canDo_37 (Nat.le_of_ble_eq_true rfl) (by first | exact q_ok0 | exact q_okI rfl | exact q_okR rfl | exact q_okN rfl) rfl ?_
    refine q_iload d_Model_canDo_39 rfl ?_
    refine q_if_le (tgt := 52) d_Model_canDo_41 rfl (fun hc => ?_) (fun hc => ?_)
    rotate_left
    · exact absurd (show (-1 : Int32) ≤ 0 by decide) hc
    refine q_iconst (v := (-1)) d_Model_canDo_52 (by decide) ?_
    exact no _ _ _ rfl rfl (by rw [ho]; rfl)
  | some l =>
    have hlok := k_of_ok ho
    have hpl : pth = nI (k_path l) := ((k_of_iff hlok pth).mpr ho).symm
    have h4 := hlok.1
    rw [← ho]
    rw [show p_dep 0 (k_of pth) = nI l.length by rw [ho]; show nI (0 + l.length) = _; rw [Nat.zero_add]]
    by_cases hl0 : l = []
    · have hn : a_fld M (k_of pth) = none := by
        cases hq : a_fld M (k_of pth) with
        | none => rfl
        | some f =>
          obtain ⟨l9, q1, q2, q3⟩ := a_fld_some hq
          rw [ho] at q1
          cases q1
          exact absurd (q3.trans hl0) (hok f q2).2
      refine q_istore d_Model_canDo_37 (Nat.le_of_ble_eq_true rfl) (by first | exact q_ok0 | exact q_okI rfl | exact q_okR rfl | exact q_okN rfl) rfl ?_
      refine q_iload d_Model_canDo_39 rfl ?_
      refine q_if_le (tgt := 52) d_Model_canDo_41 rfl (fun hc => ?_) (fun hc => ?_)
      rotate_left
      · exact absurd (show nI l.length ≤ 0 by rw [hl0]; decide) hc
      refine q_iconst (v := (-1)) d_Model_canDo_52 (by decide) ?_
      exact no _ _ _ rfl rfl hn
    have hlp := List.length_pos_iff.mpr hl0
    refine q_istore d_Model_canDo_37 (Nat.le_of_ble_eq_true rfl) (by first | exact q_ok0 | exact q_okI rfl | exact q_okR rfl | exact q_okN rfl) rfl ?_
    refine q_iload d_Model_canDo_39 rfl ?_
    refine q_if_le (tgt := 52) d_Model_canDo_41 rfl (fun hc => ?_) (fun hc => ?_)
    · exact absurd hc (nI_nle hlp (by omega))
    refine q_aload_n d_Model_canDo_44 rfl rfl ?_
    refine q_iload_n d_Model_canDo_45 rfl rfl ?_
    refine q_callVi (M2 := M_Model_find) d_Model_canDo_46 ⟨(Nat.le_of_ble_eq_true rfl), (Nat.le_of_ble_eq_true rfl), w_1266, w_10, ⟨by decide, by decide⟩, show _ = some 1 by decide +kernel⟩ w_1263 w_1265 (ci := 11) rfl s_53 hL.1 rfl (Nat.le_of_ble_eq_true rfl) (by omega) (by omega) (c_Model_findF hL hM hok pth) ?_
    rintro _ _ ⟨rfl, rfl⟩
    refine q_goto (tgt := 53) d_Model_canDo_49 rfl ?_
    rw [ho, show k_fo M (some l) = k_fi M l from rfl, ← ho]
    cases hfi : k_fi M l with
    | none =>
      exact no _ _ _ rfl rfl (by unfold a_fld; rw [ho, show k_fo M (some l) = k_fi M l from rfl, hfi])
    | some i =>
      obtain ⟨hil, f, hf, hfl⟩ := k_fi_some hfi
      have haf : a_fld M (k_of pth) = some f := by unfold a_fld; rw [ho, show k_fo M (some l) = k_fi M l from rfl]; simp only [hfi, hf]
      rw [haf, show p_idx (some i) = nI i from rfl]
      have hfk := hok f (List.mem_of_getElem? hf)
      have hpf : pth = nI (k_path f.1) := by rw [hfl]; exact hpl
      rw [hpf, ← hfl]
      have loop : ∀ (j q mcc msc : Nat) (nm : Int32), mcc = 0 → msc = 0 → q + j = M.length → nm = p_b (decide (0 ≤ a ∧ a ≤ 99)) → q_V g M_Model_canDo 0 0 mcc msc (sz, T, I, R, J) (fun o h' => ∃ r : Int32, o = .inl (some (.int r)) ∧ (r = p_b (b_knd M f k a b) ∧ h' = (sz, T, I, R, J))) 85 [some (.ref m), some (.int (nI k)), some (.int (nI (k_path f.1))), some (.int a), some (.int b), some (.int c), some (.int (nI f.1.length)), some (.int (nI i)), some (.int nm), some (.int (p_b (decide (k_cin (M.take q) f.1 ≠ 0)))), some (.int (nI q))] [] := by
        intro j
        induction j with
        | zero =>
          intro q mcc msc nm e1 e2 hq hnm
          subst e1 e2
          obtain rfl : q = M.length := by omega
          rw [List.take_length]
          refine q_iload d_Model_canDo_85 rfl ?_
          refine q_aload_n d_Model_canDo_87 rfl rfl ?_
          refine q_getI (ci := 11) (fk := 18) d_Model_canDo_88 rfl (Nat.le_of_ble_eq_true rfl) w_1122 (fun _ _ => rfl) hL.1 ?_
          rw [hM.1]
          refine q_icmp_ge (tgt := 135) d_Model_canDo_91 rfl (fun hc => ?_) (fun hc => ?_)
          · exact c_Model_canDoK hL hM hw hf hk hk1 hnm rfl
          · exact absurd (Int32.le_refl _) hc
        | succ j ih =>
          intro q mcc msc nm e1 e2 hq hnm
          subst e1 e2
          obtain ⟨e, he⟩ : ∃ e, M[q]? = some e := ⟨_, List.getElem?_eq_getElem (by omega)⟩
          have hek := hok e (List.mem_of_getElem? he)
          have htk : M.take (q + 1) = M.take q ++ [e] := by rw [List.take_add_one, he]; rfl
          have hsn := k_cin_snoc (M.take q) e f.1
          rw [← htk] at hsn
          have y : k_cin (M.take (q + 1)) f.1 ≠ 0 → ∀ (mcc msc : Nat) (l9 : Int32), mcc = 0 → msc = 0 → q_V g M_Model_canDo 0 0 mcc msc (sz, T, I, R, J) (fun o h' => ∃ r : Int32, o = .inl (some (.int r)) ∧ (r = p_b (b_knd M f k a b) ∧ h' = (sz, T, I, R, J))) 122 [some (.ref m), some (.int (nI k)), some (.int (nI (k_path f.1))), some (.int a), some (.int b), some (.int c), some (.int (nI f.1.length)), some (.int (nI i)), some (.int nm), some (.int l9), some (.int (nI q))] [] := by
            intro hne mcc msc l9 e1 e2
            subst e1 e2
            have := ih (q + 1) 0 0 nm rfl rfl (by omega) hnm
            rw [decide_eq_true hne] at this
            refine q_iconst (v := nI 1) d_Model_canDo_122 (by decide) ?_
            refine q_goto (tgt := 127) d_Model_canDo_123 rfl ?_
            refine q_istore d_Model_canDo_127 (Nat.le_of_ble_eq_true rfl) (by first | exact q_ok0 | exact q_okI rfl | exact q_okR rfl | exact q_okN rfl) rfl ?_
            first | refine q_iincN d_Model_canDo_129 rfl (Nat.le_of_ble_eq_true rfl) (by first | exact q_ok0 | exact q_okI rfl | exact q_okR rfl | exact q_okN rfl) rfl ?_ | refine q_iinc d_Model_canDo_129 rfl rfl (Nat.le_of_ble_eq_true rfl) (by first | exact q_ok0 | exact q_okI rfl | exact q_okR rfl | exact q_okN rfl) rfl ?_
            refine q_goto (tgt := 85) d_Model_canDo_132 rfl ?_
            exact this
          have nn : k_cin (M.take (q + 1)) f.1 = 0 → ∀ (mcc msc : Nat) (l9 : Int32), mcc = 0 → msc = 0 → q_V g M_Model_canDo 0 0 mcc msc (sz, T, I, R, J) (fun o h' => ∃ r : Int32, o = .inl (some (.int r)) ∧ (r = p_b (b_knd M f k a b) ∧ h' = (sz, T, I, R, J))) 126 [some (.ref m), some (.int (nI k)), some (.int (nI (k_path f.1))), some (.int a), some (.int b), some (.int c), some (.int (nI f.1.length)), some (.int (nI i)), some (.int nm), some (.int l9), some (.int (nI q))] [] := by
            intro hne mcc msc l9 e1 e2
            subst e1 e2
            have := ih (q + 1) 0 0 nm rfl rfl (by omega) hnm
            rw [decide_eq_false (fun z : k_cin (M.take (q + 1)) f.1 ≠ 0 => z hne)] at this
            refine q_iconst (v := nI 0) d_Model_canDo_126 (by decide) ?_
            refine q_istore d_Model_canDo_127 (Nat.le_of_ble_eq_true rfl) (by first | exact q_ok0 | exact q_okI rfl | exact q_okR rfl | exact q_okN rfl) rfl ?_
            first | refine q_iincN d_Model_canDo_129 rfl (Nat.le_of_ble_eq_true rfl) (by first | exact q_ok0 | exact q_okI rfl | exact q_okR rfl | exact q_okN rfl) rfl ?_ | refine q_iinc d_Model_canDo_129 rfl rfl (Nat.le_of_ble_eq_true rfl) (by first | exact q_ok0 | exact q_okI rfl | exact q_okR rfl | exact q_okN rfl) rfl ?_
            refine q_goto (tgt := 85) d_Model_canDo_132 rfl ?_
            exact this
          refine q_iload d_Model_canDo_85 rfl ?_
          refine q_aload_n d_Model_canDo_87 rfl rfl ?_
          refine q_getI (ci := 11) (fk := 18) d_Model_canDo_88 rfl (Nat.le_of_ble_eq_true rfl) w_1122 (fun _ _ => rfl) hL.1 ?_
          rw [hM.1]
          refine q_icmp_ge (tgt := 135) d_Model_canDo_91 rfl (fun hc => ?_) (fun hc => ?_)
          · rw [nI_leI (by omega) (by omega)] at hc
            omega
          by_cases h0 : k_cin (M.take q) f.1 = 0
          · rw [decide_eq_false (fun z : k_cin (M.take q) f.1 ≠ 0 => z h0)]
            rw [h0, Nat.zero_add] at hsn
            refine q_iload d_Model_canDo_94 rfl ?_
            refine q_if_ne (tgt := 122) d_Model_canDo_96 rfl (fun hc => ?_) (fun hc => ?_)
            · exact absurd rfl hc
            refine q_iload d_Model_canDo_99 rfl ?_
            refine q_iload d_Model_canDo_101 rfl ?_
            refine q_icmp_eq (tgt := 126) d_Model_canDo_103 rfl (fun hc => ?_) (fun hc => ?_)
            · have hqi := (nI_eq (by omega) (by omega)).mp hc
              rw [hqi, hf] at he
              have hef : f = e := Option.some.inj he
              refine nn ?_ _ _ _ rfl rfl
              rw [hsn, if_neg (fun z => z.1 (by rw [← hef]))]
            have hqi : ¬ q = i := fun z => hc (by rw [z])
            have hne : e.1 ≠ f.1 := fun z => hqi (by
              have h1 := k_fi_at hdi he
              have h2 := k_fi_at hdi hf
              rw [z, h2] at h1
              exact (Option.some.inj h1).symm)
            refine q_aload_n d_Model_canDo_106 rfl rfl ?_
            refine q_getR (ci := 11) (fk := 19) d_Model_canDo_107 rfl (Nat.le_of_ble_eq_true rfl) w_1123 (fun _ _ => rfl) hL.1 (hL.2 19 _ _ _ rfl).1 ?_
            refine q_iload d_Model_canDo_110 rfl ?_
            refine q_iald d_Model_canDo_112 (hL.2 19 _ _ _ rfl).2 (by first | assumption | exact vp_in_nI (by omega) (by omega)) ?_
            rw [(hM.2.2 q e he).1]
            refine q_iload_n d_Model_canDo_113 rfl rfl ?_
            refine q_iload d_Model_canDo_114 rfl ?_
            refine q_callSi (M2 := M_Model_isIn) d_Model_canDo_116 ⟨(Nat.le_of_ble_eq_true rfl), (Nat.le_of_ble_eq_true rfl), w_1314, w_10, ⟨by decide, by decide⟩, show _ = some 3 by decide +kernel⟩ w_1312 w_1313 rfl (Nat.le_of_ble_eq_true rfl) (by omega) (by omega) (c_Model_isIn hek.1 hfk.1) ?_
            rintro _ _ ⟨rfl, rfl⟩
            by_cases hin : f.1 <+: e.1
            · rw [if_pos hin]
              rw [if_pos ⟨hne, hin⟩] at hsn
              refine q_if_eq (tgt := 126) d_Model_canDo_119 rfl (fun hc => ?_) (fun hc => ?_)
              · exact absurd hc (by decide)
              exact y (by omega) _ _ _ rfl rfl
            · rw [if_neg hin]
              rw [if_neg (fun z => hin z.2)] at hsn
              refine q_if_eq (tgt := 126) d_Model_canDo_119 rfl (fun hc => ?_) (fun hc => ?_)
              rotate_left
              · exact absurd rfl hc
              exact nn hsn _ _ _ rfl rfl
          · rw [decide_eq_true h0]
            refine q_iload d_Model_canDo_94 rfl ?_
            refine q_if_ne (tgt := 122) d_Model_canDo_96 rfl (fun hc => ?_) (fun hc => ?_)
            rotate_left
            · exact absurd hc (by decide)
            exact y (by omega) _ _ _ rfl rfl
      have h31 : i < 2 ^ 31 := by omega
      refine q_istore d_Model_canDo_53 (Nat.le_of_ble_eq_true rfl) (by first | exact q_ok0 | exact q_okI rfl | exact q_okR rfl | exact q_okN rfl) rfl ?_
      refine q_iload d_Model_canDo_55 rfl ?_
      refine q_if_ge (tgt := 62) d_Model_canDo_57 rfl (fun hc => ?_) (fun hc => ?_)
      rotate_left
      · exact absurd (nI_pos' h31) hc
      have go : ∀ (mcc msc : Nat) (nm : Int32), mcc = 0 → msc = 0 → nm = p_b (decide (0 ≤ a ∧ a ≤ 99)) → q_V g M_Model_canDo 0 0 mcc msc (sz, T, I, R, J) (fun o h' => ∃ r : Int32, o = .inl (some (.int r)) ∧ (r = p_b (b_knd M f k a b) ∧ h' = (sz, T, I, R, J))) 77 [some (.ref m), some (.int (nI k)), some (.int (nI (k_path f.1))), some (.int a), some (.int b), some (.int c), some (.int (nI f.1.length)), some (.int (nI i)), none, none, none] [.int nm] := by
        intro mcc msc nm e1 e2 hnm
        subst e1 e2
        have := loop M.length 0 0 0 nm rfl rfl (by omega) hnm
        rw [List.take_zero, show decide (k_cin [] f.1 ≠ 0) = false from rfl] at this
        refine q_istore d_Model_canDo_77 (Nat.le_of_ble_eq_true rfl) (by first | exact q_ok0 | exact q_okI rfl | exact q_okR rfl | exact q_okN rfl) rfl ?_
        refine q_iconst (v := nI 0) d_Model_canDo_79 (by decide) ?_
        refine q_istore d_Model_canDo_80 (Nat.le_of_ble_eq_true rfl) (by first | exact q_ok0 | exact q_okI rfl | exact q_okR rfl | exact q_okN rfl) rfl ?_
        refine q_iconst (v := nI 0) d_Model_canDo_82 (by decide) ?_
        refine q_istore d_Model_canDo_83 (Nat.le_of_ble_eq_true rfl) (by first | exact q_ok0 | exact q_okI rfl | exact q_okR rfl | exact q_okN rfl) rfl ?_
        exact this
      refine q_iload_n d_Model_canDo_62 rfl rfl ?_
      refine q_if_lt (tgt := 76) d_Model_canDo_63 rfl (fun hc => ?_) (fun hc => ?_)
      · refine q_iconst (v := nI 0) d_Model_canDo_76 (by decide) ?_
        exact go _ _ _ rfl rfl (by rw [decide_eq_false (fun z => absurd hc (Int32.not_lt.mpr z.1))]; rfl)
      have ha0 := Int32.not_lt.mp hc
      refine q_iload_n d_Model_canDo_66 rfl rfl ?_
      refine q_bipush (v := nI 99) d_Model_canDo_67 (by decide) ?_
      refine q_icmp_gt (tgt := 76) d_Model_canDo_69 rfl (fun hc => ?_) (fun hc => ?_)
      · refine q_iconst (v := nI 0) d_Model_canDo_76 (by decide) ?_
        exact go _ _ _ rfl rfl (by rw [decide_eq_false (fun z : 0 ≤ a ∧ a ≤ 99 => absurd hc (Int32.not_lt.mpr z.2))]; rfl)
      · refine q_iconst (v := nI 1) d_Model_canDo_72 (by decide) ?_
        refine q_goto (tgt := 77) d_Model_canDo_73 rfl ?_
        exact go _ _ _ rfl rfl (by rw [decide_eq_true ⟨ha0, Int32.not_lt.mp hc⟩]; rfl)
theorem a_fld_perm {M D : List KF} (hp : M.Perm D) (hd : k_dis D) (o : Option (List Nat)) : a_fld M o = a_fld D o := by
  cases ho : o with
  | none => rfl
  | some l =>
    have hdM : k_dis M := hd.perm hp
    cases hD : a_fld D (some l) with
    | none =>
      cases hMq : a_fld M (some l) with
      | none => rfl
      | some f =>
        obtain ⟨l2, q1, q2, q3⟩ := a_fld_some hMq
        cases q1
        obtain ⟨i, hi⟩ := List.mem_iff_getElem?.mp (hp.mem_iff.mp q2)
        have h9 : k_fi D l = some i := by rw [← q3]; exact k_fi_at hd hi
        unfold a_fld at hD
        rw [show k_fo D (some l) = k_fi D l from rfl] at hD
        simp only [h9, hi] at hD
        cases hD
    | some f =>
      obtain ⟨l2, q1, q2, q3⟩ := a_fld_some hD
      cases q1
      obtain ⟨i, hi⟩ := List.mem_iff_getElem?.mp (hp.mem_iff.mpr q2)
      have h9 : k_fi M l = some i := by rw [← q3]; exact k_fi_at hdM hi
      unfold a_fld
      rw [show k_fo M (some l) = k_fi M l from rfl]
      simp only [h9, hi]
theorem k_fin_perm {M D : List KF} (hp : M.Perm D) (l : List Nat) : (k_fi M l).isNone = (k_fi D l).isNone := by
  rw [Bool.eq_iff_iff, Option.isNone_iff_eq_none, Option.isNone_iff_eq_none, k_fi_nn, k_fi_nn]
  exact ⟨fun h f hf => h f (hp.mem_iff.mpr hf), fun h f hf => h f (hp.mem_iff.mp hf)⟩
theorem k_room_perm {M D : List KF} (hp : M.Perm D) (o : Option (List Nat)) : k_room M o = k_room D o := by
  cases o with
  | none => rfl
  | some l =>
    rw [Bool.eq_iff_iff, k_room_iff, k_room_iff]
    constructor
    · rintro ⟨h1, h2, h3⟩
      refine ⟨h1, ?_, fun f hf => h3 f (hp.mem_iff.mpr hf)⟩
      rcases h2 with z | ⟨f, f1, f2⟩
      · exact Or.inl z
      · exact Or.inr ⟨f, hp.mem_iff.mp f1, f2⟩
    · rintro ⟨h1, h2, h3⟩
      refine ⟨h1, ?_, fun f hf => h3 f (hp.mem_iff.mp hf)⟩
      rcases h2 with z | ⟨f, f1, f2⟩
      · exact Or.inl z
      · exact Or.inr ⟨f, hp.mem_iff.mpr f1, f2⟩
theorem a_prm_perm {M D : List KF} (hp : M.Perm D) (hd : k_dis D) (dn : Nat) (kd : Int32) (o : Option (List Nat)) (a b c : Int32) : a_prm M dn kd o a b c = a_prm D dn kd o a b c := by
  have h1 : b_add M o a b c = b_add D o a b c := by unfold b_add; rw [k_room_perm hp, hp.length_eq]
  have h2 : ∀ f k, b_knd M f k a b = b_knd D f k a b := fun f k => by
    unfold b_knd
    split
    · unfold b_ren; rw [k_fin_perm hp]
    · unfold k_cin; rw [(hp.filter _).length_eq]
    · rfl
    · unfold b_lif; rw [k_fin_perm hp]
    · unfold b_spl; rw [k_fin_perm hp, hp.length_eq]
    · rfl
    · rfl
    · rfl
    · rfl
  unfold a_prm
  rw [h1, a_fld_perm hp hd]
  simp only [h2]
end CanDo2
