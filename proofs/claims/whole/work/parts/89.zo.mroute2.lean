/-! clash, by the reference: a version's terms; a way, in mode 2 -/
section MRoute2
variable {g : q_G} {sz m : Nat} {T : q_T} {I : q_I} {R : q_R} {J : q_J} {M D : List KF} {Z : KZ} {S : KA} {tb : List KT}
theorem m_zf.vl {v : Nat} {L : List KF} {I' : q_I} (h : m_zf m I I') (hV : m_vl m v L I) : m_vl m v L I' := hV.cong fun j j1 j2 => h.1 (m + j) (by omega) (by omega)
theorem c_Model_take2 {v : Nat} {L : List KF} (hL : q_L 11 t_Model m T R) (hV : m_vl m v L I) (hv : v < 8) (h24 : L.length ≤ 24) (hmd : I m (nI 27) = nI 2) (h : m_tb m tb I) (hlen : tb.length + L.length ≤ 1024) : q_Cv g M_Model_take [.ref m, .int (nI v)] (sz, T, I, R, J) 0 0 (fun h' => ∃ (I' : q_I) (tb' : List KT), h' = (sz, T, I', R, J) ∧ m_zf m I I' ∧ k_mw m L I' ∧ m_tb m tb' I' ∧ z_ex tb tb' ∧ tb'.length ≤ tb.length + L.length) := by
  have loop : ∀ (j i : Nat) (I2 : q_I) (tb2 : List KT) (mcc msc : Nat), mcc = 0 → msc = 0 → i + j = L.length → m_zf m I I2 → k_mw m (L.take i) I2 → m_tb m tb2 I2 → z_ex tb tb2 → tb2.length ≤ tb.length + i → q_V g M_Model_take 0 0 mcc msc (sz, T, I2, R, J) (fun o h' => o = .inl none ∧ ∃ (I' : q_I) (tb' : List KT), h' = (sz, T, I', R, J) ∧ m_zf m I I' ∧ k_mw m L I' ∧ m_tb m tb' I' ∧ z_ex tb tb' ∧ tb'.length ≤ tb.length + L.length) 7 [some (.ref m), some (.int (nI v)), some (.int (nI i))] [] := by
    intro j
    induction j with
    | zero =>
      intro i I2 tb2 mcc msc hm1 hm2 hij w1 w2 w3 w4 w5
      subst hm1 hm2
      have hV2 := w1.vl hV
      rw [show L.take i = L from List.take_of_length_le (by omega)] at w2
      refine q_iload_n d_Model_take_7 rfl rfl ?_
      refine q_aload_n d_Model_take_8 rfl rfl ?_
      refine q_getR (ci := 11) (fk := 2) d_Model_take_9 rfl (Nat.le_of_ble_eq_true rfl) w_1106 (fun _ _ => rfl) hL.1 (hL.2 2 _ _ _ rfl).1 ?_
      refine q_iload_n d_Model_take_12 rfl rfl ?_
      refine q_iald d_Model_take_13 (hL.2 2 _ _ _ rfl).2 (by first | assumption | exact vp_in_nI (by omega) (by omega)) ?_
      rw [hV2.1]
      refine q_icmp_ge (tgt := 72) d_Model_take_14 rfl (fun hc => ?_) (fun hc => ?_)
      · refine q_vret d_Model_take_72 rfl (by omega) (by omega) ?_
        exact ⟨rfl, I2, tb2, rfl, w1, w2, w3, w4, by omega⟩
      · exact absurd (by rw [nI_leI (by omega) (by omega)]; omega) hc
    | succ j ih =>
      intro i I2 tb2 mcc msc hm1 hm2 hij w1 w2 w3 w4 w5
      subst hm1 hm2
      have hV2 := w1.vl hV
      obtain ⟨f, hf⟩ : ∃ f, L[i]? = some f := ⟨_, List.getElem?_eq_getElem (by omega)⟩
      obtain ⟨v1, v2, v3, v4⟩ := hV2.2 i f hf
      have hlen2 : (L.take i).length = i := by rw [List.length_take]; omega
      refine q_iload_n d_Model_take_7 rfl rfl ?_
      refine q_aload_n d_Model_take_8 rfl rfl ?_
      refine q_getR (ci := 11) (fk := 2) d_Model_take_9 rfl (Nat.le_of_ble_eq_true rfl) w_1106 (fun _ _ => rfl) hL.1 (hL.2 2 _ _ _ rfl).1 ?_
      refine q_iload_n d_Model_take_12 rfl rfl ?_
      refine q_iald d_Model_take_13 (hL.2 2 _ _ _ rfl).2 (by first | assumption | exact vp_in_nI (by omega) (by omega)) ?_
      rw [hV2.1]
      refine q_icmp_ge (tgt := 72) d_Model_take_14 rfl (fun hc => ?_) (fun hc => ?_)
      · rw [nI_leI (by omega) (by omega)] at hc
        omega
      · refine q_aload_n d_Model_take_17 rfl rfl ?_
        refine q_aload_n d_Model_take_18 rfl rfl ?_
        refine q_getR (ci := 11) (fk := 3) d_Model_take_19 rfl (Nat.le_of_ble_eq_true rfl) w_1107 (fun _ _ => rfl) hL.1 (hL.2 3 _ _ _ rfl).1 ?_
        refine q_bipush (v := nI 24) d_Model_take_22 (by decide) ?_
        refine q_iload_n d_Model_take_24 rfl rfl ?_
        first | refine q_imulN d_Model_take_25 ?_ | refine q_imul d_Model_take_25 ?_
        refine q_iload_n d_Model_take_26 rfl rfl ?_
        first | refine q_iaddN d_Model_take_27 ?_ | refine q_iadd d_Model_take_27 ?_
        refine q_iald d_Model_take_28 (hL.2 3 _ _ _ rfl).2 (by first | assumption | exact vp_in_nI (by omega) (by omega)) ?_
        rw [v1]
        refine q_aload_n d_Model_take_29 rfl rfl ?_
        refine q_getR (ci := 11) (fk := 4) d_Model_take_30 rfl (Nat.le_of_ble_eq_true rfl) w_1108 (fun _ _ => rfl) hL.1 (hL.2 4 _ _ _ rfl).1 ?_
        refine q_bipush (v := nI 24) d_Model_take_33 (by decide) ?_
        refine q_iload_n d_Model_take_35 rfl rfl ?_
        first | refine q_imulN d_Model_take_36 ?_ | refine q_imul d_Model_take_36 ?_
        refine q_iload_n d_Model_take_37 rfl rfl ?_
        first | refine q_iaddN d_Model_take_38 ?_ | refine q_iadd d_Model_take_38 ?_
        refine q_iald d_Model_take_39 (hL.2 4 _ _ _ rfl).2 (by first | assumption | exact vp_in_nI (by omega) (by omega)) ?_
        rw [v2]
        refine q_aload_n d_Model_take_40 rfl rfl ?_
        refine q_getR (ci := 11) (fk := 5) d_Model_take_41 rfl (Nat.le_of_ble_eq_true rfl) w_1109 (fun _ _ => rfl) hL.1 (hL.2 5 _ _ _ rfl).1 ?_
        refine q_bipush (v := nI 24) d_Model_take_44 (by decide) ?_
        refine q_iload_n d_Model_take_46 rfl rfl ?_
        first | refine q_imulN d_Model_take_47 ?_ | refine q_imul d_Model_take_47 ?_
        refine q_iload_n d_Model_take_48 rfl rfl ?_
        first | refine q_iaddN d_Model_take_49 ?_ | refine q_iadd d_Model_take_49 ?_
        refine q_iald d_Model_take_50 (hL.2 5 _ _ _ rfl).2 (by first | assumption | exact vp_in_nI (by omega) (by omega)) ?_
        rw [v3]
        refine q_aload_n d_Model_take_51 rfl rfl ?_
        refine q_getR (ci := 11) (fk := 6) d_Model_take_52 rfl (Nat.le_of_ble_eq_true rfl) w_1110 (fun _ _ => rfl) hL.1 (hL.2 6 _ _ _ rfl).1 ?_
        refine q_bipush (v := nI 24) d_Model_take_55 (by decide) ?_
        refine q_iload_n d_Model_take_57 rfl rfl ?_
        first | refine q_imulN d_Model_take_58 ?_ | refine q_imul d_Model_take_58 ?_
        refine q_iload_n d_Model_take_59 rfl rfl ?_
        first | refine q_iaddN d_Model_take_60 ?_ | refine q_iadd d_Model_take_60 ?_
        refine q_iald d_Model_take_61 (hL.2 6 _ _ _ rfl).2 (by first | assumption | exact vp_in_nI (by omega) (by omega)) ?_
        rw [v4]
        refine q_callVi (M2 := M_Model_come) d_Model_take_62 ⟨(Nat.le_of_ble_eq_true rfl), (Nat.le_of_ble_eq_true rfl), w_1237, w_10, ⟨by decide, by decide⟩, show _ = some 4 by decide +kernel⟩ w_1234 w_1236 (ci := 11) rfl s_48 hL.1 rfl (Nat.le_of_ble_eq_true rfl) (by omega) (by omega) (c_Model_come2 hL w2 w3 (by omega) (by omega) (w1.wk27.trans hmd) f) ?_
        rintro _ _ ⟨rfl, I3, rfl, u1, u2, ⟨tb3, u3, u4, u5, -, -⟩, -⟩
        refine q_pop d_Model_take_65 rfl ?_
        first | refine q_iincN d_Model_take_66 rfl (Nat.le_of_ble_eq_true rfl) (by first | exact q_ok0 | exact q_okI rfl | exact q_okR rfl | exact q_okN rfl) rfl ?_ | refine q_iinc d_Model_take_66 rfl rfl (Nat.le_of_ble_eq_true rfl) (by first | exact q_ok0 | exact q_okI rfl | exact q_okR rfl | exact q_okN rfl) rfl ?_
        refine q_goto (tgt := 7) d_Model_take_69 rfl ?_
        have ht : L.take i ++ [f] = L.take (i + 1) := by rw [List.take_add_one, hf]; rfl
        rw [ht] at u2
        exact ih (i + 1) I3 tb3 _ _ rfl rfl (by omega) (w1.trans u1) u2 u3 (w4.trans u4) (by omega)
  refine q_C.of (ls0 := [some (.ref m), some (.int (nI v)), none]) (by decide) rfl (by decide) (Nat.le_of_ble_eq_true rfl) rfl ?_
  refine q_aload_n d_Model_take_0 rfl rfl ?_
  refine q_iconst (v := nI 0) d_Model_take_1 (by decide) ?_
  refine q_putI (ci := 11) (fk := 18) d_Model_take_2 rfl (Nat.le_of_ble_eq_true rfl) w_1122 (Or.inl rfl) (fun _ _ => rfl) rfl rfl hL.1 ?_
  refine q_iconst (v := nI 0) d_Model_take_5 (by decide) ?_
  refine q_istore_n d_Model_take_6 rfl (Nat.le_of_ble_eq_true rfl) (by first | exact q_ok0 | exact q_okI rfl | exact q_okR rfl | exact q_okN rfl) rfl ?_
  have o : ∀ b, b ≠ m → q_upI I m (nI 18) (nI 0) b = I b := fun b hb => by funext z; rw [q_upI_nea hb]
  refine loop L.length 0 _ tb _ _ rfl rfl (by omega) ⟨fun b h1 h2 => o b h1, fun i h1 _ => q_upI_nei h1⟩ ⟨by rw [q_upI_self]; rfl, by show 0 ≤ 26; omega, fun i e he => by cases he⟩ (h.cong (q_upI_nk (by omega)) (o _ (by omega)) (o _ (by omega))) (z_ex.refl tb) (by omega)
def k_zv (zs : List KT) : KZ := fun s => zs.getD s []
set_option maxHeartbeats 1000000 in
theorem c_Model_takeTerms {v : Nat} {L : List KF} (hL : q_L 11 t_Model m T R) (hV : m_vl m v L I) (hv : v < 8) (h24 : L.length ≤ 24) (hty : ∀ f ∈ L, f.2.1 = 0 ∨ f.2.1 = 1 ∨ f.2.1 = 2) (h : m_tb m tb I) (hlen : tb.length + 2 * L.length ≤ 1024) : q_Cv g M_Model_takeTerms [.ref m, .int (nI v)] (sz, T, I, R, J) 0 0 (fun h' => ∃ (I' : q_I) (tb' : List KT), h' = (sz, T, I', R, J) ∧ m_zf m (q_upI I m (nI 27) (nI 2)) I' ∧ m_z m (k_rs 0 L) (k_zv (z_s0 L)) tb' I' ∧ z_ex tb tb' ∧ tb'.length ≤ tb.length + 2 * L.length) := by
  obtain ⟨I1, hI1⟩ : ∃ I1, I1 = q_upI I m (nI 27) (nI 2) := ⟨_, rfl⟩
  rw [← hI1]
  have o1 : ∀ b, b ≠ m → I1 b = I b := fun b hb => by rw [hI1]; funext z; rw [q_upI_nea hb]
  have m27 : I1 m (nI 27) = nI 2 := by rw [hI1, q_upI_self]
  have h1 : m_tb m tb I1 := h.cong (by rw [hI1, q_upI_nk (by omega)]) (o1 _ (by omega)) (o1 _ (by omega))
  have hV1 : m_vl m v L I1 := hV.cong fun j j1 j2 => o1 _ (by omega)
  obtain ⟨Q, hQ⟩ : ∃ Q : q_O → q_H → Prop, Q = (fun o h' => o = .inl none ∧ ∃ (I' : q_I) (tb' : List KT), h' = (sz, T, I', R, J) ∧ m_zf m I1 I' ∧ m_z m (k_rs 0 L) (k_zv (z_s0 L)) tb' I' ∧ z_ex tb tb' ∧ tb'.length ≤ tb.length + 2 * L.length) := ⟨_, rfl⟩
  have loop : ∀ (j i : Nat) (I2 : q_I) (tb2 : List KT) (mcc msc : Nat), mcc = 0 → msc = 0 → i + j = L.length → m_zf m I1 I2 → k_mw m L I2 → m_tb m tb2 I2 → z_ex tb tb2 → tb2.length ≤ tb.length + L.length + i → (∀ a f, a < i → L[a]? = some f → f.2.1 ≠ 2 → z_lf 0 (nI (k_cn L a)) ∈ tb2 ∧ I2 (m + 19) (nI a) = nI (tb2.idxOf (z_lf 0 (nI (k_cn L a))))) → q_V g M_Model_takeTerms 0 0 mcc msc (sz, T, I2, R, J) Q 14 [some (.ref m), some (.int (nI v)), some (.int (nI (k_cn L i))), some (.int (nI i))] [] := by
    intro j
    induction j with
    | zero =>
      intro i I2 tb2 mcc msc hm1 hm2 hij w1 w2 w3 w4 w5 w6
      subst hm1 hm2
      refine q_iload_n d_Model_takeTerms_14 rfl rfl ?_
      refine q_aload_n d_Model_takeTerms_15 rfl rfl ?_
      refine q_getI (ci := 11) (fk := 18) d_Model_takeTerms_16 rfl (Nat.le_of_ble_eq_true rfl) w_1122 (fun _ _ => rfl) hL.1 ?_
      rw [w2.1]
      refine q_icmp_ge (tgt := 57) d_Model_takeTerms_19 rfl (fun hc => ?_) (fun hc => ?_)
      rotate_left
      · exact absurd (by rw [nI_leI (by omega) (by omega)]; omega) hc
      refine q_vret d_Model_takeTerms_57 rfl (by omega) (by omega) ?_
      rw [hQ]
      refine ⟨rfl, I2, tb2, rfl, w1, ⟨w2.rs, fun a f hf f2 => ?_, w3, w1.wk27.trans m27⟩, w4, by omega⟩
      rw [k_rs_at] at hf
      cases hLa : L[a]? with
      | none => rw [hLa] at hf; cases hf
      | some e =>
        rw [hLa] at hf
        have hal := (List.getElem?_eq_some_iff.mp hLa).1
        have ef := Option.some.inj hf
        have e2 : e.2.1 ≠ 2 := by rw [← ef] at f2; exact f2
        have e5 : f.2.2.2.2 = a := by rw [← ef]; show 0 + a = a; omega
        have ez : k_zv (z_s0 L) f.2.2.2.2 = z_lf 0 (nI (k_cn L a)) := by rw [e5]; exact z_s0_at hal
        rw [ez]
        exact w6 a e (by omega) hLa e2
    | succ j ih =>
      intro i I2 tb2 mcc msc hm1 hm2 hij w1 w2 w3 w4 w5 w6
      subst hm1 hm2
      obtain ⟨f, hf⟩ : ∃ f, L[i]? = some f := ⟨_, List.getElem?_eq_getElem (by omega)⟩
      obtain ⟨v1, v2, v3, v4⟩ := w2.2.2 i f hf
      have hcn := k_cn_s hf
      refine q_iload_n d_Model_takeTerms_14 rfl rfl ?_
      refine q_aload_n d_Model_takeTerms_15 rfl rfl ?_
      refine q_getI (ci := 11) (fk := 18) d_Model_takeTerms_16 rfl (Nat.le_of_ble_eq_true rfl) w_1122 (fun _ _ => rfl) hL.1 ?_
      rw [w2.1]
      refine q_icmp_ge (tgt := 57) d_Model_takeTerms_19 rfl (fun hc => ?_) (fun hc => ?_)
      · rw [nI_leI (by omega) (by omega)] at hc
        omega
      refine q_aload_n d_Model_takeTerms_22 rfl rfl ?_
      refine q_getR (ci := 11) (fk := 20) d_Model_takeTerms_23 rfl (Nat.le_of_ble_eq_true rfl) w_1124 (fun _ _ => rfl) hL.1 (hL.2 20 _ _ _ rfl).1 ?_
      refine q_iload_n d_Model_takeTerms_26 rfl rfl ?_
      refine q_iald d_Model_takeTerms_27 (hL.2 20 _ _ _ rfl).2 (by first | assumption | exact vp_in_nI (by omega) (by omega)) ?_
      rw [v2]
      by_cases h2 : f.2.1 = 2
      · rw [if_pos h2] at hcn
        refine q_iconst (v := nI 2) d_Model_takeTerms_28 (by decide) ?_
        refine q_icmp_ge (tgt := 51) d_Model_takeTerms_29 rfl (fun hc => ?_) (fun hc => ?_)
        rotate_left
        · exact absurd (by rw [h2]; decide) hc
        first | refine q_iincN d_Model_takeTerms_51 rfl (Nat.le_of_ble_eq_true rfl) (by first | exact q_ok0 | exact q_okI rfl | exact q_okR rfl | exact q_okN rfl) rfl ?_ | refine q_iinc d_Model_takeTerms_51 rfl rfl (Nat.le_of_ble_eq_true rfl) (by first | exact q_ok0 | exact q_okI rfl | exact q_okR rfl | exact q_okN rfl) rfl ?_
        refine q_goto (tgt := 14) d_Model_takeTerms_54 rfl ?_
        rw [show k_cn L i = k_cn L (i + 1) from hcn.symm]
        refine ih (i + 1) I2 tb2 _ _ rfl rfl (by omega) w1 w2 w3 w4 (by omega) (fun a e ha he e2 => ?_)
        by_cases hai : a = i
        · subst hai
          rw [← Option.some.inj (hf.symm.trans he)] at e2
          exact absurd h2 e2
        · exact w6 a e (by omega) he e2
      · rw [if_neg h2] at hcn
        refine q_iconst (v := nI 2) d_Model_takeTerms_28 (by decide) ?_
        refine q_icmp_ge (tgt := 51) d_Model_takeTerms_29 rfl (fun hc => ?_) (fun hc => ?_)
        · exact absurd hc (by
            rcases hty f (List.mem_of_getElem? hf) with e | e | e
            · rw [e]; decide
            · rw [e]; decide
            · exact absurd e h2)
        refine q_aload_n d_Model_takeTerms_32 rfl rfl ?_
        refine q_getR (ci := 11) (fk := 24) d_Model_takeTerms_33 rfl (Nat.le_of_ble_eq_true rfl) w_1128 (fun _ _ => rfl) hL.1 (hL.2 24 _ _ _ rfl).1 ?_
        refine q_iload_n d_Model_takeTerms_36 rfl rfl ?_
        refine q_aload_n d_Model_takeTerms_37 rfl rfl ?_
        refine q_iconst (v := nI 0) d_Model_takeTerms_38 (by decide) ?_
        refine q_iload_n d_Model_takeTerms_39 rfl rfl ?_
        refine q_iconst (v := nI 0) d_Model_takeTerms_40 (by decide) ?_
        refine q_iconst (v := nI 0) d_Model_takeTerms_41 (by decide) ?_
        refine q_iconst (v := nI 0) d_Model_takeTerms_42 (by decide) ?_
        refine q_iconst (v := nI 0) d_Model_takeTerms_43 (by decide) ?_
        refine q_callVi (M2 := M_Model_known) d_Model_takeTerms_44 ⟨(Nat.le_of_ble_eq_true rfl), (Nat.le_of_ble_eq_true rfl), w_1248, w_10, ⟨by decide, by decide⟩, show _ = some 6 by decide +kernel⟩ w_1245 w_1247 (ci := 11) rfl s_50 hL.1 rfl (Nat.le_of_ble_eq_true rfl) (by omega) (by omega) (c_known_lf hL w3 (by omega) (by omega) (nI (k_cn L i))) ?_
        rintro _ _ ⟨I3, tb3, rfl, a1, a2, a3, a4, a5, rfl⟩
        refine q_iast d_Model_takeTerms_47 (hL.2 24 _ _ _ rfl).2 (by first | assumption | exact vp_in_nI (by omega) (by omega)) ?_
        first | refine q_iincN d_Model_takeTerms_48 rfl (Nat.le_of_ble_eq_true rfl) (by first | exact q_ok0 | exact q_okI rfl | exact q_okR rfl | exact q_okN rfl) rfl ?_ | refine q_iinc d_Model_takeTerms_48 rfl rfl (Nat.le_of_ble_eq_true rfl) (by first | exact q_ok0 | exact q_okI rfl | exact q_okR rfl | exact q_okN rfl) rfl ?_
        first | refine q_iincN d_Model_takeTerms_51 rfl (Nat.le_of_ble_eq_true rfl) (by first | exact q_ok0 | exact q_okI rfl | exact q_okR rfl | exact q_okN rfl) rfl ?_ | refine q_iinc d_Model_takeTerms_51 rfl rfl (Nat.le_of_ble_eq_true rfl) (by first | exact q_ok0 | exact q_okI rfl | exact q_okR rfl | exact q_okN rfl) rfl ?_
        refine q_goto (tgt := 14) d_Model_takeTerms_54 rfl ?_
        rw [show k_cn L i + 1 = k_cn L (i + 1) from hcn.symm]
        have o : ∀ b, b ≠ m + 19 → q_upI I3 (m + 19) (nI i) (nI (tb3.idxOf (z_lf 0 (nI (k_cn L i))))) b = I3 b := fun b hb => by funext z; rw [q_upI_nea hb]
        refine ih (i + 1) _ tb3 _ _ rfl rfl (by omega) ((w1.trans a1.zf).trans (m_zf.arr fun b hb => o b (by omega))) (w2.cong ?_ (fun j j1 j2 => ?_)) (a2.cong (by rw [o m (by omega)]) (o _ (by omega)) (o _ (by omega))) (w4.trans a3) (by omega) (fun a e ha he e2 => ?_)
        · rw [o m (by omega)]; exact a1.2 _ (fun z => absurd (q_nI_inj z) (by decide))
        · rw [o _ (by omega), a1.1 _ (by omega) (by omega) (by omega)]
        · by_cases hai : a = i
          · subst hai
            rw [q_upI_self]
            exact ⟨a5, rfl⟩
          · obtain ⟨r1, r2⟩ := w6 a e (by omega) he e2
            rw [q_upI_nk (by omega), a1.1 _ (by omega) (by omega) (by omega)]
            exact ⟨a3.mem r1, by rw [r2, a3.ix r1]⟩
  refine q_C.of (ls0 := [some (.ref m), some (.int (nI v)), none, none]) (by decide) rfl (by decide) (Nat.le_of_ble_eq_true rfl) rfl ?_
  rw [← hQ]
  refine q_aload_n d_Model_takeTerms_0 rfl rfl ?_
  refine q_iconst (v := nI 2) d_Model_takeTerms_1 (by decide) ?_
  refine q_putI (ci := 11) (fk := 27) d_Model_takeTerms_2 rfl (Nat.le_of_ble_eq_true rfl) w_1131 (Or.inl rfl) (fun _ _ => rfl) rfl rfl hL.1 ?_
  rw [← hI1]
  refine q_aload_n d_Model_takeTerms_5 rfl rfl ?_
  refine q_iload_n d_Model_takeTerms_6 rfl rfl ?_
  refine q_callVv (M2 := M_Model_take) d_Model_takeTerms_7 ⟨(Nat.le_of_ble_eq_true rfl), (Nat.le_of_ble_eq_true rfl), w_1233, w_10, ⟨by decide, by decide⟩, show _ = some 1 by decide +kernel⟩ w_1230 w_1232 (ci := 11) rfl s_47 hL.1 rfl (Nat.le_of_ble_eq_true rfl) (by omega) (by omega) (c_Model_take2 hL hV1 hv h24 m27 h1 (by omega)) ?_
  rintro _ ⟨I2, tb2, rfl, a1, a2, a3, a4, a5⟩
  refine q_iconst (v := nI 0) d_Model_takeTerms_10 (by decide) ?_
  refine q_istore_n d_Model_takeTerms_11 rfl (Nat.le_of_ble_eq_true rfl) (by first | exact q_ok0 | exact q_okI rfl | exact q_okR rfl | exact q_okN rfl) rfl ?_
  refine q_iconst (v := nI 0) d_Model_takeTerms_12 (by decide) ?_
  refine q_istore_n d_Model_takeTerms_13 rfl (Nat.le_of_ble_eq_true rfl) (by first | exact q_ok0 | exact q_okI rfl | exact q_okR rfl | exact q_okN rfl) rfl ?_
  exact loop L.length 0 I2 tb2 _ _ rfl rfl (by omega) a1 a2 a3 a4 (by omega) (fun a _ ha => absurd ha (Nat.not_lt_zero _))
theorem m_z.rho {v : KF → KF} {Z' : KZ} (h : m_z m M Z tb I) (hu : ∀ f ∈ M, k_st (v f) = k_st f ∧ Z' (v f).2.2.2.2 = Z f.2.2.2.2) : m_z m (M.map v) Z' tb I := ⟨k_map_mw h.1 (fun f hf => (hu f hf).1), h.2.1.rho (fun f hf => ⟨(Prod.mk.inj (Prod.mk.inj (hu f hf).1).2).1, (hu f hf).2⟩), h.2.2.1, h.2.2.2⟩
/-- the reference's list, as a step wants its slots -/
theorem m_in2 {st : KS} {L E L2 : List KF} {fw : Bool} {zs : List KT} (h : s_ok st (k_rs 0 L) E) (hE : E.map k_st = L2.map k_st) (hx : m_z m M (k_zv zs) tb I) (hp : M.Perm (k_rs 0 (s_L fw L L2))) : ∃ M', M'.Perm (s_G fw L E) ∧ m_z m M' (z_ld fw st zs) tb I := by
  cases fw with
  | true => exact ⟨M, hp, hx⟩
  | false =>
    have hp : M.Perm (k_rs 0 L2) := hp
    have hsb := h.2.2.2.2.2.2.1
    have hnd := h.ndE
    refine ⟨M.map (fun f => (f.1, f.2.1, f.2.2.1, f.2.2.2.1, st.sb.getD f.2.2.2.2 0)), ?_, hx.rho (fun f hf => ⟨rfl, ?_⟩)⟩
    · refine (hp.map _).trans (List.Perm.of_eq ?_)
      show (k_rs 0 L2).map _ = E
      refine List.ext_getElem? fun a => ?_
      rw [List.getElem?_map, k_rs_at]
      have e1 := congrArg (·[a]?) hE
      simp only [List.getElem?_map] at e1
      cases hL2 : L2[a]? with
      | none =>
        rw [hL2] at e1
        cases hEa : E[a]? with
        | none => rfl
        | some e => rw [hEa] at e1; cases e1
      | some f =>
        rw [hL2] at e1
        cases hEa : E[a]? with
        | none => rw [hEa] at e1; cases e1
        | some e =>
          rw [hEa] at e1
          have e2 : k_st e = k_st f := Option.some.inj e1
          have e3 : st.sb[a]? = some e.2.2.2.2 := by rw [hsb, List.getElem?_map, hEa]; rfl
          show some (f.1, f.2.1, f.2.2.1, f.2.2.2.1, st.sb.getD (0 + a) 0) = some e
          rw [show 0 + a = a by omega, k_getD e3]
          have e4 := Prod.mk.inj e2
          have e5 := Prod.mk.inj e4.2
          have e6 := Prod.mk.inj e5.2
          rw [← e4.1, ← e5.1, ← e6.1, ← e6.2]
    · obtain ⟨e, he, -⟩ := k_rs_mem (hp.mem_iff.mp hf)
      have hlt := (List.getElem?_eq_some_iff.mp he).1
      have hlen : st.sb.length = L2.length := by
        rw [hsb, List.length_map]
        have := congrArg List.length hE
        rw [List.length_map, List.length_map] at this
        exact this
      obtain ⟨s, hs⟩ : ∃ s, st.sb[f.2.2.2.2]? = some s := ⟨_, List.getElem?_eq_getElem (by omega)⟩
      have hndb : st.sb.Nodup := by rw [hsb]; exact hnd
      show zs.getD (if false = true then st.sb.getD f.2.2.2.2 0 else st.sb.idxOf (st.sb.getD f.2.2.2.2 0)) [] = zs.getD f.2.2.2.2 []
      rw [if_neg (by decide), k_getD hs, k_idx hndb hs]
theorem m_out2 {st : KS} {L E L2 : List KF} {fw : Bool} (h : s_ok st (k_rs 0 L) E) (hE : E.map k_st = L2.map k_st) (hx : m_z m M Z tb I) (hp : M.Perm (s_G fw L E)) : ∃ M', M'.Perm (k_rs 0 (s_L fw L L2)) ∧ m_z m M' (k_zv ((s_in fw st).map Z)) tb I := by
  have hsb := h.2.2.2.2.2.2.1
  have hnd := h.ndE
  cases fw with
  | true =>
    have hp : M.Perm (k_rs 0 L) := hp
    refine ⟨M.map id, by rw [List.map_id]; exact hp, hx.rho (fun f hf => ⟨rfl, ?_⟩)⟩
    obtain ⟨e, he, -⟩ := k_rs_mem (hp.mem_iff.mp hf)
    have hlt := (List.getElem?_eq_some_iff.mp he).1
    have hnb := h.nb
    rw [k_rs_len] at hnb
    refine k_getD ?_
    show ((List.range st.nb).map Z)[f.2.2.2.2]? = some (Z f.2.2.2.2)
    rw [List.getElem?_map, List.getElem?_range (by omega)]; rfl
  | false =>
    have hp : M.Perm E := hp
    refine ⟨M.map (fun f => (f.1, f.2.1, f.2.2.1, f.2.2.2.1, st.sb.idxOf f.2.2.2.2)), ?_, hx.rho (fun f hf => ⟨rfl, ?_⟩)⟩
    · refine (hp.map _).trans (List.Perm.of_eq ?_)
      show E.map _ = k_rs 0 L2
      refine List.ext_getElem? fun a => ?_
      rw [List.getElem?_map, k_rs_at]
      have e1 := congrArg (·[a]?) hE
      simp only [List.getElem?_map] at e1
      cases hL2 : L2[a]? with
      | none =>
        rw [hL2] at e1
        cases hEa : E[a]? with
        | none => rfl
        | some e => rw [hEa] at e1; cases e1
      | some f =>
        rw [hL2] at e1
        cases hEa : E[a]? with
        | none => rw [hEa] at e1; cases e1
        | some e =>
          rw [hEa] at e1
          have e2 : k_st e = k_st f := Option.some.inj e1
          have e3 : st.sb[a]? = some e.2.2.2.2 := by rw [hsb, List.getElem?_map, hEa]; rfl
          have hndb : st.sb.Nodup := by rw [hsb]; exact hnd
          show some (e.1, e.2.1, e.2.2.1, e.2.2.2.1, st.sb.idxOf e.2.2.2.2) = some (f.1, f.2.1, f.2.2.1, f.2.2.2.1, 0 + a)
          rw [show 0 + a = a by omega, k_idx hndb e3]
          have e4 := Prod.mk.inj e2
          have e5 := Prod.mk.inj e4.2
          have e6 := Prod.mk.inj e5.2
          rw [e4.1, e5.1, e6.1, e6.2]
    · have hm : f.2.2.2.2 ∈ st.sb := by rw [hsb]; exact List.mem_map_of_mem (f := fun f : KF => f.2.2.2.2) (hp.mem_iff.mp hf)
      refine k_getD ?_
      show (st.sb.map Z)[st.sb.idxOf f.2.2.2.2]? = some (Z f.2.2.2.2)
      rw [List.getElem?_map, k_idx_get hm]; rfl
set_option maxHeartbeats 1000000 in
theorem c_Model_goRoute2 (hw : wf S) (hR : relM S m T I R) {wo : Int32} {l : List Nat} {u0 : Nat} {L0 : List KF} {zs : List KT} (h33 : I m (nI 33) = nI l.length) (hl : k_ar (I (m + 25)) l) (hst : k_sts S.ss wo l (I (m + 26))) (h8 : l.length ≤ 8) (hA : ∀ k u w, l[k]? = some u → l[k + 1]? = some w → k_A S.ss wo u w = true) (h0 : l[0]? = some u0) (hL0 : S.vs[u0]? = some L0) (hx : m_z m M (k_zv zs) tb I) (hp : M.Perm (k_rs 0 L0)) (hlen : tb.length + 24 * l.length ≤ 1024) : q_Cv g M_Model_goRoute [.ref m] (sz, T, I, R, J) 0 0 (fun h' => ∃ (I' : q_I) (M' : List KF) (tb' : List KT), h' = (sz, T, I', R, J) ∧ m_zf m I I' ∧ m_z m M' (k_zv (z_ways S.ss wo l zs)) tb' I' ∧ z_ex tb tb' ∧ tb'.length ≤ 1024 ∧ ∀ ul, l[l.length - 1]? = some ul → ∀ Ll, S.vs[ul]? = some Ll → M'.Perm (k_rs 0 Ll)) := by
  have hL := hR.1
  obtain ⟨Q, hQ⟩ : ∃ Q : q_O → q_H → Prop, Q = (fun o h' => o = .inl none ∧ ∃ (I' : q_I) (M' : List KF) (tb' : List KT), h' = (sz, T, I', R, J) ∧ m_zf m I I' ∧ m_z m M' (k_zv (z_ways S.ss wo l zs)) tb' I' ∧ z_ex tb tb' ∧ tb'.length ≤ 1024 ∧ ∀ ul, l[l.length - 1]? = some ul → ∀ Ll, S.vs[ul]? = some Ll → M'.Perm (k_rs 0 Ll)) := ⟨_, rfl⟩
  have loop : ∀ (ls : List Nat) (k u : Nat) (Lu : List KF) (ys : List KT) (I1 : q_I) (M1 : List KF) (tb1 : List KT) (l2 l3 l4 : Option Value), k + 1 + ls.length = l.length → (∀ j, l[k + j]? = (u :: ls)[j]?) → S.vs[u]? = some Lu → m_zf m I I1 → m_z m M1 (k_zv ys) tb1 I1 → M1.Perm (k_rs 0 Lu) → z_ex tb tb1 → tb1.length ≤ tb.length + 24 * k → z_ways S.ss wo (u :: ls) ys = z_ways S.ss wo l zs → q_V g M_Model_goRoute 0 0 0 0 (sz, T, I1, R, J) Q 2 [some (.ref m), some (.int (nI k)), l2, l3, l4] [] := by
    intro ls
    induction ls with
    | nil =>
      intro k u Lu ys I1 M1 tb1 l2 l3 l4 a1 a2 a3 a4 a5 a6 a7 a8 a9
      simp only [List.length_nil] at a1
      refine q_iload_n d_Model_goRoute_2 rfl rfl ?_
      refine q_iconst (v := nI 1) d_Model_goRoute_3 (by decide) ?_
      first | refine q_iaddN d_Model_goRoute_4 ?_ | refine q_iadd d_Model_goRoute_4 ?_
      refine q_aload_n d_Model_goRoute_5 rfl rfl ?_
      refine q_getI (ci := 11) (fk := 33) d_Model_goRoute_6 rfl (Nat.le_of_ble_eq_true rfl) w_1137 (fun _ _ => rfl) hL.1 ?_
      rw [a4.2 _ (fun z => absurd (q_nI_inj z) (by decide)) (fun z => absurd (q_nI_inj z) (by decide)), h33]
      refine q_icmp_ge (tgt := 96) d_Model_goRoute_9 rfl (fun hc => ?_) (fun hc => ?_)
      · refine q_vret d_Model_goRoute_96 rfl (by omega) (by omega) ?_
        rw [hQ]
        refine ⟨rfl, I1, M1, tb1, rfl, a4, ?_, a7, by omega, fun ul hul Ll hLl => ?_⟩
        · rw [← a9]; exact a5
        · have : u = ul := by
            have := a2 0
            rw [Nat.add_zero, show k = l.length - 1 by omega, hul] at this
            exact (Option.some.inj this).symm
          rw [← this] at hLl
          rw [← Option.some.inj (a3.symm.trans hLl)]; exact a6
      · exact absurd (by rw [nI_leI (by omega) (by omega)]; omega) hc
    | cons w ls ih =>
      intro k u Lu ys I1 M1 tb1 l2 l3 l4 a1 a2 a3 a4 a5 a6 a7 a8 a9
      simp only [List.length_cons] at a1
      have hku : l[k]? = some u := a2 0
      have hkw : l[k + 1]? = some w := a2 1
      have hA' := hA k u w hku hkw
      obtain ⟨s, hs⟩ : ∃ s, k_fst S.ss wo u w = some s := by
        unfold k_A at hA'
        cases hf : k_fst S.ss wo u w with
        | none => rw [hf] at hA'; cases hA'
        | some s => exact ⟨s, rfl⟩
      obtain ⟨st, s1, s2, s3, s4⟩ := k_fst_st hs
      obtain ⟨f1, f2, f3, f4, -⟩ := hw.2.1.2 st (List.mem_of_getElem? s1)
      obtain ⟨L, hLf⟩ : ∃ L, S.vs[st.fr]? = some L := ⟨_, List.getElem?_eq_getElem f1⟩
      obtain ⟨L2, hLt⟩ : ∃ L2, S.vs[st.to]? = some L2 := ⟨_, List.getElem?_eq_getElem f2⟩
      obtain ⟨E, hsk, hE⟩ := hw.stp s1 hLf hLt
      have h16 := hw.2.1.1
      have hv8 := hw.1.2.1
      obtain ⟨r1, r2, r3⟩ := hR.2.2.1.2.1 s st s1
      have hu8 : u < 8 := by have := (List.getElem?_eq_some_iff.mp a3).1; omega
      have far : ∀ (I2 : q_I) (j : Nat), m_zf m I I2 → 1 ≤ j → j < 14 → I2 (m + j) = I (m + j) := fun I2 j hx j1 j2 => hx.1 _ (by omega) (by omega)
      have far2 : ∀ (I2 : q_I) (j : Nat), m_zf m I I2 → 24 ≤ j → I2 (m + j) = I (m + j) := fun I2 j hx j1 => hx.1 _ (by omega) (by omega)
      refine q_iload_n d_Model_goRoute_2 rfl rfl ?_
      refine q_iconst (v := nI 1) d_Model_goRoute_3 (by decide) ?_
      first | refine q_iaddN d_Model_goRoute_4 ?_ | refine q_iadd d_Model_goRoute_4 ?_
      refine q_aload_n d_Model_goRoute_5 rfl rfl ?_
      refine q_getI (ci := 11) (fk := 33) d_Model_goRoute_6 rfl (Nat.le_of_ble_eq_true rfl) w_1137 (fun _ _ => rfl) hL.1 ?_
      rw [a4.2 _ (fun z => absurd (q_nI_inj z) (by decide)) (fun z => absurd (q_nI_inj z) (by decide)), h33]
      refine q_icmp_ge (tgt := 96) d_Model_goRoute_9 rfl (fun hc => ?_) (fun hc => ?_)
      · rw [nI_leI (by omega) (by omega)] at hc
        omega
      refine q_aload_n d_Model_goRoute_12 rfl rfl ?_
      refine q_getR (ci := 11) (fk := 35) d_Model_goRoute_13 rfl (Nat.le_of_ble_eq_true rfl) w_1139 (fun _ _ => rfl) hL.1 (hL.2 35 _ _ _ rfl).1 ?_
      refine q_iload_n d_Model_goRoute_16 rfl rfl ?_
      refine q_iald d_Model_goRoute_17 (hL.2 35 _ _ _ rfl).2 (by first | assumption | exact vp_in_nI (by omega) (by omega)) ?_
      rw [far2 I1 26 a4 (by omega), hst k u w s hku hkw hs]
      refine q_istore_n d_Model_goRoute_18 rfl (Nat.le_of_ble_eq_true rfl) (by first | exact q_ok0 | exact q_okI rfl | exact q_okR rfl | exact q_okN rfl) rfl ?_
      refine q_aload_n d_Model_goRoute_19 rfl rfl ?_
      refine q_getR (ci := 11) (fk := 9) d_Model_goRoute_20 rfl (Nat.le_of_ble_eq_true rfl) w_1113 (fun _ _ => rfl) hL.1 (hL.2 9 _ _ _ rfl).1 ?_
      refine q_iload_n d_Model_goRoute_23 rfl rfl ?_
      refine q_iald d_Model_goRoute_24 (hL.2 9 _ _ _ rfl).2 (by first | assumption | exact vp_in_nI (by omega) (by omega)) ?_
      rw [far I1 6 a4 (by omega) (by omega), r1]
      refine q_aload_n d_Model_goRoute_25 rfl rfl ?_
      refine q_getR (ci := 11) (fk := 34) d_Model_goRoute_26 rfl (Nat.le_of_ble_eq_true rfl) w_1138 (fun _ _ => rfl) hL.1 (hL.2 34 _ _ _ rfl).1 ?_
      refine q_iload_n d_Model_goRoute_29 rfl rfl ?_
      refine q_iald d_Model_goRoute_30 (hL.2 34 _ _ _ rfl).2 (by first | assumption | exact vp_in_nI (by omega) (by omega)) ?_
      rw [far2 I1 25 a4 (by omega), hl k u hku]
      have after : ∀ (mcc msc : Nat), mcc = 0 → msc = 0 → q_V g M_Model_goRoute 0 0 mcc msc (sz, T, I1, R, J) Q 39 [some (.ref m), some (.int (nI k)), some (.int (nI s)), l3, l4] [.int (p_b (decide (st.fr = u)))] := by
        intro mcc msc m1 m2
        subst m1 m2
        obtain ⟨fw, hfw⟩ : ∃ fw, fw = decide (st.fr = u) := ⟨_, rfl⟩
        rw [← hfw] at s2 s3 ⊢
        have eL : ∀ fw : Bool, S.vs[s_u fw st]? = some (s_L fw L L2) := fun fw => by
          unfold s_u s_L
          cases fw with
          | true => exact hLf
          | false => exact hLt
        have eLu : Lu = s_L fw L L2 := by
          have := eL fw
          rw [s2, a3] at this
          exact Option.some.inj this
        have eLw : S.vs[w]? = some (s_L (!fw) L L2) := by rw [← s3]; exact eL (!fw)
        have es1 : z_s1 S.ss wo u w ys = z_st fw st ys := by
          unfold z_s1
          rw [hs]
          simp only [s1]
          rw [hfw]
        have ego : z_ways S.ss wo (w :: ls) (z_st fw st ys) = z_ways S.ss wo l zs := by rw [← a9, ← es1]; rfl
        rw [eLu] at a6
        obtain ⟨M2, p2, x2⟩ := m_in2 hsk hE a5 a6
        obtain ⟨b1, b2, b3, b4, b5, b6, b7, b8⟩ := hsk
        have hskk : s_ok st (k_rs 0 L) E := ⟨b1, b2, b3, b4, b5, b6, b7, b8⟩
        obtain ⟨Zf, hZf⟩ : ∃ Zf, Zf = z_run fw st.pr (z_ld fw st ys) := ⟨_, rfl⟩
        have fin : ∀ (I2 : q_I) (M3 : List KF) (tb3 : List KT), m_zf m I I2 → m_z m M3 Zf tb3 I2 → M3.Perm (s_G (!fw) L E) → z_ex tb1 tb3 → tb3.length ≤ tb1.length + 3 * st.pr.length → q_V g M_Model_goRoute 0 0 0 0 (sz, T, I2, R, J) Q 90 [some (.ref m), some (.int (nI k)), some (.int (nI s)), some (.int (p_b fw)), some (.int (nI st.pr.length))] [] := by
          intro I2 M3 tb3 g1 g2 g3 g4 g5
          obtain ⟨M4, p4, x4⟩ := m_out2 hskk hE g2 g3
          first | refine q_iincN d_Model_goRoute_90 rfl (Nat.le_of_ble_eq_true rfl) (by first | exact q_ok0 | exact q_okI rfl | exact q_okR rfl | exact q_okN rfl) rfl ?_ | refine q_iinc d_Model_goRoute_90 rfl rfl (Nat.le_of_ble_eq_true rfl) (by first | exact q_ok0 | exact q_okI rfl | exact q_okR rfl | exact q_okN rfl) rfl ?_
          refine q_goto (tgt := 2) d_Model_goRoute_93 rfl ?_
          refine ih (k + 1) w _ (z_st fw st ys) I2 M4 tb3 _ _ _ (by omega) (fun j => by rw [show k + 1 + j = k + (j + 1) by omega]; exact a2 (j + 1)) eLw g1 ?_ p4 (a7.trans g4) (by omega) ego
          rw [hZf] at x4
          exact x4
        refine q_istore_n d_Model_goRoute_39 rfl (Nat.le_of_ble_eq_true rfl) (by first | exact q_ok0 | exact q_okI rfl | exact q_okR rfl | exact q_okN rfl) rfl ?_
        refine q_iconst (v := nI 0) d_Model_goRoute_40 (by decide) ?_
        refine q_istore d_Model_goRoute_41 (Nat.le_of_ble_eq_true rfl) (by first | exact q_ok0 | exact q_okI rfl | exact q_okR rfl | exact q_okN rfl) rfl ?_
        cases fw with
        | true =>
          have hZf' : Zf = z_fws st.pr (z_ld true st ys) := hZf
          refine q_goInner (fw := true) (n := st.pr.length) (Θ := fun j I2 => m_zf m I I2 ∧ ∃ (M3 : List KF) (Z3 : KZ) (tb3 : List KT), m_z m M3 Z3 tb3 I2 ∧ M3.Perm (k_fws (k_rs 0 L) (st.pr.take j)) ∧ z_fws (st.pr.drop j) Z3 = Zf ∧ z_ex tb1 tb3 ∧ tb3.length ≤ tb1.length + 3 * j) hL b4 (by omega) (fun j I2 hT => by rw [far I2 8 hT.1 (by omega) (by omega)]; exact r3.1) (fun _ j I2 hj hT => ?_) (fun z => by cases z) (fun I2 hT => ?_) st.pr.length 0 I1 (by omega) ⟨a4, M2, _, tb1, x2, by rw [List.take_zero]; exact p2, by rw [hZf']; rfl, z_ex.refl tb1, by omega⟩
          · obtain ⟨t1, M3, Z3, tb3, t2, t3, t4, t5, t6⟩ := hT
            obtain ⟨p, hp⟩ : ∃ p, st.pr[j]? = some p := ⟨_, List.getElem?_eq_getElem hj⟩
            obtain ⟨c1, c2⟩ := k_chn_at b3 hp
            have cw := k_chn_wf b1 (k_chn_take j b3)
            have cn := k_fws_nds b2 (k_chn_take j b3)
            have hmp : k_mp m (8 * (8 * s + j)) p I2 := (hR.mp s1 hp).cong (far I2 9 t1 (by omega) (by omega))
            refine (c_Model_forth2 hL t2 (by omega) (cw.perm t3) (cn.perm t3) (c1.perm t3) hmp (by omega) (by omega)).imp fun o h' z => ?_
            obtain ⟨z1, M4, z2, I3, tb4, z3, z4, z5, z6, z7⟩ := z
            refine ⟨z1, I3, z3, t1.trans z4, M4, _, tb4, z5, by rw [c2]; exact z2.trans (k_fw.perm t3), ?_, t5.trans z6, by omega⟩
            rw [List.drop_eq_getElem_cons hj] at t4
            have e : st.pr[j] = p := by rw [List.getElem?_eq_getElem hj] at hp; exact Option.some.inj hp
            rw [e] at t4
            exact t4
          · obtain ⟨t1, M3, Z3, tb3, t2, t3, t4, t5, t6⟩ := hT
            rw [List.drop_length] at t4
            have t4' : Z3 = Zf := t4
            rw [List.take_length] at t3
            rw [t4'] at t2
            exact fin I2 M3 tb3 t1 t2 (t3.trans b6.symm) t5 t6
        | false =>
          have hZf' : Zf = z_bks st.pr (z_ld false st ys) := hZf
          refine q_goInner (fw := false) (n := st.pr.length) (Θ := fun j I2 => m_zf m I I2 ∧ ∃ (M3 : List KF) (Z3 : KZ) (tb3 : List KT), m_z m M3 Z3 tb3 I2 ∧ M3.Perm (k_fws (k_rs 0 L) (st.pr.take (st.pr.length - j))) ∧ z_bks (st.pr.take (st.pr.length - j)) Z3 = Zf ∧ z_ex tb1 tb3 ∧ tb3.length ≤ tb1.length + 3 * j) hL b4 (by omega) (fun j I2 hT => by rw [far I2 8 hT.1 (by omega) (by omega)]; exact r3.1) (fun z => by cases z) (fun _ j I2 hj hT => ?_) (fun I2 hT => ?_) st.pr.length 0 I1 (by omega) ⟨a4, M2, _, tb1, x2, by rw [Nat.sub_zero, List.take_length]; exact p2.trans b6, by rw [Nat.sub_zero, List.take_length, hZf'], z_ex.refl tb1, by omega⟩
          · obtain ⟨t1, M3, Z3, tb3, t2, t3, t4, t5, t6⟩ := hT
            obtain ⟨n, hn⟩ : ∃ n, n = st.pr.length - 1 - j := ⟨_, rfl⟩
            rw [show st.pr.length - j = n + 1 by omega] at t3 t4
            rw [← hn, show st.pr.length - (j + 1) = n by omega]
            obtain ⟨p, hp⟩ : ∃ p, st.pr[n]? = some p := ⟨_, List.getElem?_eq_getElem (by omega)⟩
            obtain ⟨c1, c2⟩ := k_chn_at b3 hp
            have cw := k_chn_wf b1 (k_chn_take n b3)
            have cn := k_fws_nds b2 (k_chn_take n b3)
            have hmp : k_mp m (8 * (8 * s + n)) p I2 := (hR.mp s1 hp).cong (far I2 9 t1 (by omega) (by omega))
            rw [c2] at t3
            refine (c_Model_back2 hL t2 (by omega) cw cn c1 t3 hmp (by omega) (by omega)).imp fun o h' z => ?_
            obtain ⟨z1, M4, z2, I3, tb4, z3, z4, z5, z6, z7⟩ := z
            refine ⟨z1, I3, z3, t1.trans z4, M4, _, tb4, z5, z2, ?_, t5.trans z6, by omega⟩
            have etk : st.pr.take (n + 1) = st.pr.take n ++ [p] := by rw [List.take_add_one, hp]; rfl
            rw [etk, z_bks_snoc] at t4
            exact t4
          · obtain ⟨t1, M3, Z3, tb3, t2, t3, t4, t5, t6⟩ := hT
            rw [Nat.sub_self, List.take_zero] at t3 t4
            have t4' : Z3 = Zf := t4
            rw [t4'] at t2
            exact fin I2 M3 tb3 t1 t2 t3 t5 t6
      refine q_icmp_ne (tgt := 38) d_Model_goRoute_31 rfl (fun hc => ?_) (fun hc => ?_)
      · refine q_iconst (v := nI 0) d_Model_goRoute_38 (by decide) ?_
        have e := after _ _ rfl rfl
        rw [decide_eq_false (fun z => hc (by rw [z]))] at e
        exact e
      · refine q_iconst (v := nI 1) d_Model_goRoute_34 (by decide) ?_
        refine q_goto (tgt := 39) d_Model_goRoute_35 rfl ?_
        have e := after _ _ rfl rfl
        rw [decide_eq_true ((nI_eq (by omega) (by omega)).mp hc)] at e
        exact e
  refine q_C.of (ls0 := [some (.ref m), none, none, none, none]) (by decide) rfl (by decide) (Nat.le_of_ble_eq_true rfl) rfl ?_
  rw [← hQ]
  refine q_iconst (v := nI 0) d_Model_goRoute_0 (by decide) ?_
  refine q_istore_n d_Model_goRoute_1 rfl (Nat.le_of_ble_eq_true rfl) (by first | exact q_ok0 | exact q_okI rfl | exact q_okR rfl | exact q_okN rfl) rfl ?_
  cases l with
  | nil => cases h0
  | cons u ls =>
    obtain rfl : u = u0 := Option.some.inj h0
    exact loop ls 0 u L0 zs I M tb _ _ _ (by rw [List.length_cons]; omega) (fun j => by rw [Nat.zero_add]) hL0 m_zf.refl hx hp (z_ex.refl tb) (by omega) rfl
end MRoute2
