/-! measuring, the object's side -/
section CMeas
variable {g : q_G} {sz x : Nat} {T : q_T} {I : q_I} {R : q_R} {J : q_J} {S : KA}
theorem k_A_sym {ss : List KS} {wo : Int32} {u v : Nat} (h : k_A ss wo u v = true) : k_A ss wo v u = true := by
  obtain ⟨s, st, h1, h2, h3⟩ := k_A_inv h
  exact k_A_of h1 h2 h3.symm
/-- u is made nearer over w -/
def k_up (F : Nat → Nat) (u w : Nat) : Nat → Nat := fun v => if v = u then min (F u) (F w + 1) else F v
theorem k_up_le (F : Nat → Nat) (u w v : Nat) : k_up F u w v ≤ F v := by
  unfold k_up
  split
  · rename_i h; rw [h]; exact Nat.min_le_left _ _
  · exact Nat.le_refl _
theorem k_up_at (F : Nat → Nat) (u w : Nat) : k_up F u w u ≤ F w + 1 := by
  unfold k_up
  rw [if_pos rfl]
  exact Nat.min_le_right _ _
/-- what is said of a table: no number is too small; from at most r steps off none is too large -/
def k_lo (A : Nat → Nat → Bool) (n gl C : Nat) (F : Nat → Nat) : Prop := (∀ v, v < n → F v < C → k_ball A n gl (F v) v = true) ∧ ∀ v, v < n → F v ≤ C
def k_hi (A : Nat → Nat → Bool) (n gl r : Nat) (F : Nat → Nat) : Prop := ∀ v k, v < n → k ≤ r → k_ball A n gl k v = true → F v ≤ k
theorem k_lo_up {A : Nat → Nat → Bool} {n gl C u w : Nat} {F : Nat → Nat} (h : k_lo A n gl C F) (hu : u < n) (hw : w < n) (ha : A u w = true) : k_lo A n gl C (k_up F u w) := by
  refine ⟨fun v hv hC => ?_, fun v hv => Nat.le_trans (k_up_le F u w v) (h.2 v hv)⟩
  unfold k_up at hC ⊢
  by_cases hvu : v = u
  · rw [if_pos hvu] at hC ⊢
    by_cases hm : F u ≤ F w + 1
    · rw [Nat.min_eq_left hm] at hC ⊢
      rw [hvu]
      exact h.1 u hu hC
    · rw [Nat.min_eq_right (by omega)] at hC ⊢
      rw [hvu]
      exact k_ball_adj hw ha (h.1 w hw (by omega))
  · rw [if_neg hvu] at hC ⊢
    exact h.1 v hv hC
theorem k_hi_le {A : Nat → Nat → Bool} {n gl r : Nat} {F F2 : Nat → Nat} (h : k_hi A n gl r F) (hle : ∀ v, F2 v ≤ F v) : k_hi A n gl r F2 := fun v k hv hk hb => Nat.le_trans (hle v) (h v k hv hk hb)
/-- a round is done: one step more -/
theorem k_hi_next {ss : List KS} {wo : Int32} {n gl r : Nat} {F : Nat → Nat} (h : k_hi (k_A ss wo) n gl r F) (hp : ∀ u w, u < n → w < n → k_A ss wo u w = true → k_ball (k_A ss wo) n gl r w = true → F u ≤ r + 1) : k_hi (k_A ss wo) n gl (r + 1) F := by
  intro v k hv hk hb
  by_cases hkr : k ≤ r
  · exact h v k hv hkr hb
  · obtain rfl : k = r + 1 := by omega
    rcases k_ball_inv hb with hb | ⟨u, hu, ha, hb⟩
    · exact Nat.le_succ_of_le (h v r hv (Nat.le_refl _) hb)
    · exact hp v u hv hu ha hb
/-- the table stands in the array -/
def k_tb (f : Int32 → Int32) (n : Nat) (F : Nat → Nat) : Prop := ∀ v, v < n → f (nI v) = nI (F v)
theorem k_tb_up {a n u w : Nat} {F : Nat → Nat} (h : k_tb (I a) n F) (hn : n ≤ 8) (hu : u < n) : k_tb (q_upI I a (nI u) (nI (min (F u) (F w + 1))) a) n (k_up F u w) := by
  intro v hv
  unfold k_up
  by_cases hvu : v = u
  · rw [if_pos hvu, hvu, q_upI_self]
  · rw [if_neg hvu, q_upI_nk (by omega)]
    exact h v hv
set_option maxHeartbeats 1000000 in
theorem c_Versions_measure {a n gl : Nat} {ss : List KS} (hL : q_L 9 t_Versions a T R) (hS : k_ssv a ss T I R) (hn : I a (nI 1) = nI n) (h8 : n ≤ 8) (hg : gl < n) (hss : ∀ (i : Nat) (st : KS), ss[i]? = some st → st.fr < n ∧ st.to < n) (wo : Int32) : q_Cv g M_Versions_measure [.ref a, .int (nI gl), .int wo] (sz, T, I, R, J) 0 0 (fun h' => ∃ (I' : q_I) (F : Nat → Nat), h' = (sz, T, I', R, J) ∧ (∀ b, b ≠ a + 4 → I' b = I b) ∧ k_tb (I' (a + 4)) n F ∧ k_rgt (k_A ss wo) n gl 8 F) := by
  have h16 := hS.2.1
  have rounds : ∀ (j r : Nat) (I2 : q_I) (F : Nat → Nat) (mcc msc : Nat), mcc = 0 → msc = 0 → r + j = n → 1 ≤ r → (∀ b, b ≠ a + 4 → I2 b = I b) → k_tb (I2 (a + 4)) n F → k_lo (k_A ss wo) n gl 8 F → k_hi (k_A ss wo) n gl (r - 1) F → ∀ l4 l5 l6, q_V g M_Versions_measure 0 0 mcc msc (sz, T, I2, R, J) (fun o h' => o = .inl none ∧ ∃ (I' : q_I) (F : Nat → Nat), h' = (sz, T, I', R, J) ∧ (∀ b, b ≠ a + 4 → I' b = I b) ∧ k_tb (I' (a + 4)) n F ∧ k_rgt (k_A ss wo) n gl 8 F) 35 [some (.ref a), some (.int (nI gl)), some (.int wo), some (.int (nI r)), l4, l5, l6] [] := by
    intro j
    induction j with
    | zero =>
      intro r I2 F mcc msc m1 m2 hr hr1 p1 p2 p3 p4 l4 l5 l6
      subst m1 m2
      refine q_iload_n d_Versions_measure_35 rfl rfl ?_
      refine q_aload_n d_Versions_measure_36 rfl rfl ?_
      refine q_getI (ci := 9) (fk := 1) d_Versions_measure_37 rfl (Nat.le_of_ble_eq_true rfl) w_111 (fun _ _ => rfl) hL.1 ?_
      rw [p1 a (by omega), hn]
      refine q_icmp_ge (tgt := 149) d_Versions_measure_40 rfl (fun hc => ?_) (fun hc => ?_)
      · refine q_vret d_Versions_measure_149 rfl (by omega) (by omega) ?_
        exact ⟨rfl, I2, F, rfl, p1, p2, k_rgt_of hg h8 p3.1 (fun v k hv hk hb => p4 v k hv (by omega) hb) p3.2⟩
      · exact absurd (by rw [nI_leI (by omega) (by omega)]; omega) hc
    | succ j ih =>
      intro r I2 F mcc msc m1 m2 hr hr1 p1 p2 p3 p4 l4 l5 l6
      subst m1 m2
      have inner : ∀ (j2 s : Nat) (I3 : q_I) (F3 : Nat → Nat) (mcc msc : Nat), mcc = 0 → msc = 0 → s + j2 = ss.length → (∀ b, b ≠ a + 4 → I3 b = I b) → k_tb (I3 (a + 4)) n F3 → k_lo (k_A ss wo) n gl 8 F3 → k_hi (k_A ss wo) n gl (r - 1) F3 → (∀ (q : Nat) (st : KS), q < s → ss[q]? = some st → nI q ≠ wo → (k_ball (k_A ss wo) n gl (r - 1) st.to = true → F3 st.fr ≤ r) ∧ (k_ball (k_A ss wo) n gl (r - 1) st.fr = true → F3 st.to ≤ r)) → ∀ l5 l6, q_V g M_Versions_measure 0 0 mcc msc (sz, T, I3, R, J) (fun o h' => o = .inl none ∧ ∃ (I' : q_I) (F : Nat → Nat), h' = (sz, T, I', R, J) ∧ (∀ b, b ≠ a + 4 → I' b = I b) ∧ k_tb (I' (a + 4)) n F ∧ k_rgt (k_A ss wo) n gl 8 F) 46 [some (.ref a), some (.int (nI gl)), some (.int wo), some (.int (nI r)), some (.int (nI s)), l5, l6] [] := by
        intro j2
        induction j2 with
        | zero =>
          intro s I3 F3 mcc msc m1 m2 hs u1 u2 u3 u4 u5 l5 l6
          subst m1 m2
          refine q_iload d_Versions_measure_46 rfl ?_
          refine q_aload_n d_Versions_measure_48 rfl rfl ?_
          refine q_getI (ci := 9) (fk := 3) d_Versions_measure_49 rfl (Nat.le_of_ble_eq_true rfl) w_115 (fun _ _ => rfl) hL.1 ?_
          rw [u1 a (by omega), hS.1]
          refine q_icmp_ge (tgt := 143) d_Versions_measure_52 rfl (fun hc => ?_) (fun hc => ?_)
          rotate_left
          · exact absurd (by rw [nI_leI (by omega) (by omega)]; omega) hc
          first | refine q_iincN d_Versions_measure_143 rfl (Nat.le_of_ble_eq_true rfl) (by first | exact q_ok0 | exact q_okI rfl | exact q_okR rfl | exact q_okN rfl) rfl ?_ | refine q_iinc d_Versions_measure_143 rfl rfl (Nat.le_of_ble_eq_true rfl) (by first | exact q_ok0 | exact q_okI rfl | exact q_okR rfl | exact q_okN rfl) rfl ?_
          refine q_goto (tgt := 35) d_Versions_measure_146 rfl ?_
          refine ih (r + 1) I3 F3 _ _ rfl rfl (by omega) (by omega) u1 u2 u3 ?_ _ _ _
          rw [Nat.add_sub_cancel]
          have := k_hi_next u4 (fun u w hu hw ha hb => by
            obtain ⟨q, st, q1, q2, q3⟩ := k_A_inv ha
            have hq := (List.getElem?_eq_some_iff.mp q1).1
            have q4 := u5 q st (by omega) q1 q2
            rw [show r - 1 + 1 = r by omega]
            rcases q3 with ⟨rfl, rfl⟩ | ⟨rfl, rfl⟩
            · exact q4.1 hb
            · exact q4.2 hb)
          rw [show r - 1 + 1 = r by omega] at this
          exact this
        | succ j2 ih2 =>
          intro s I3 F3 mcc msc m1 m2 hs u1 u2 u3 u4 u5 l5 l6
          subst m1 m2
          obtain ⟨st, hst⟩ : ∃ st, ss[s]? = some st := ⟨_, List.getElem?_eq_getElem (by omega)⟩
          obtain ⟨b1, b2, t, b3, b4, b5, b6, b7, b8⟩ := hS.2.2 s st hst
          obtain ⟨n1, n2⟩ := hss s st hst
          refine q_iload d_Versions_measure_46 rfl ?_
          refine q_aload_n d_Versions_measure_48 rfl rfl ?_
          refine q_getI (ci := 9) (fk := 3) d_Versions_measure_49 rfl (Nat.le_of_ble_eq_true rfl) w_115 (fun _ _ => rfl) hL.1 ?_
          rw [u1 a (by omega), hS.1]
          refine q_icmp_ge (tgt := 143) d_Versions_measure_52 rfl (fun hc => ?_) (fun hc => ?_)
          · rw [nI_leI (by omega) (by omega)] at hc
            omega
          refine q_iload d_Versions_measure_55 rfl ?_
          refine q_iload_n d_Versions_measure_57 rfl rfl ?_
          refine q_icmp_eq (tgt := 137) d_Versions_measure_58 rfl (fun hc => ?_) (fun hc => ?_)
          · have hwo : nI s = wo := hc
            first | refine q_iincN d_Versions_measure_137 rfl (Nat.le_of_ble_eq_true rfl) (by first | exact q_ok0 | exact q_okI rfl | exact q_okR rfl | exact q_okN rfl) rfl ?_ | refine q_iinc d_Versions_measure_137 rfl rfl (Nat.le_of_ble_eq_true rfl) (by first | exact q_ok0 | exact q_okI rfl | exact q_okR rfl | exact q_okN rfl) rfl ?_
            refine q_goto (tgt := 46) d_Versions_measure_140 rfl ?_
            refine ih2 (s + 1) I3 F3 _ _ rfl rfl (by omega) u1 u2 u3 u4 (fun q st2 hq hst2 hne => ?_) _ _
            exact u5 q st2 (by
              have : q ≠ s := fun z => hne (by rw [z]; exact hwo)
              omega) hst2 hne
          have hwo : ¬ nI s = wo := hc
          have hA1 := k_A_of hst hwo (Or.inl ⟨rfl, rfl⟩)
          have hA2 := k_A_sym hA1
          refine q_aload_n d_Versions_measure_61 rfl rfl ?_
          refine q_getR (ci := 9) (fk := 2) d_Versions_measure_62 rfl (Nat.le_of_ble_eq_true rfl) w_113 (fun _ _ => rfl) hL.1 (hL.2 2 _ _ _ rfl).1 ?_
          refine q_iload d_Versions_measure_65 rfl ?_
          refine q_aaldR (kd := _) d_Versions_measure_67 rfl (Nat.le_of_ble_eq_true rfl) (Nat.le_of_ble_eq_true rfl) (hL.2 2 _ _ _ rfl).2 (by first | assumption | exact vp_in_nI (by omega) (by omega)) (by first | assumption | rfl | (simp (disch := omega) only [q_upT_self, q_upT_ne, q_upR_self, q_upR_nea, q_upR_nk, q_upT_at, *]; done) | (simp (disch := omega) only [q_upT_self, q_upT_ne, q_upR_self, q_upR_nea, q_upR_nk, q_upT_at, *]; rfl)) ?_
          refine q_getI (ci := 7) (fk := 1) d_Versions_measure_68 rfl (Nat.le_of_ble_eq_true rfl) w_646 (fun _ _ => rfl) (by first | assumption | rfl | (simp (disch := omega) only [q_upT_self, q_upT_ne, q_upR_self, q_upR_nea, q_upR_nk, q_upT_at, *]; done) | (simp (disch := omega) only [q_upT_self, q_upT_ne, q_upR_self, q_upR_nea, q_upR_nk, q_upT_at, *]; rfl)) ?_
          rw [u1 t b8, b5]
          refine q_istore d_Versions_measure_71 (Nat.le_of_ble_eq_true rfl) (by first | exact q_ok0 | exact q_okI rfl | exact q_okR rfl | exact q_okN rfl) rfl ?_
          refine q_aload_n d_Versions_measure_73 rfl rfl ?_
          refine q_getR (ci := 9) (fk := 2) d_Versions_measure_74 rfl (Nat.le_of_ble_eq_true rfl) w_113 (fun _ _ => rfl) hL.1 (hL.2 2 _ _ _ rfl).1 ?_
          refine q_iload d_Versions_measure_77 rfl ?_
          refine q_aaldR (kd := _) d_Versions_measure_79 rfl (Nat.le_of_ble_eq_true rfl) (Nat.le_of_ble_eq_true rfl) (hL.2 2 _ _ _ rfl).2 (by first | assumption | exact vp_in_nI (by omega) (by omega)) (by first | assumption | rfl | (simp (disch := omega) only [q_upT_self, q_upT_ne, q_upR_self, q_upR_nea, q_upR_nk, q_upT_at, *]; done) | (simp (disch := omega) only [q_upT_self, q_upT_ne, q_upR_self, q_upR_nea, q_upR_nk, q_upT_at, *]; rfl)) ?_
          refine q_getI (ci := 7) (fk := 2) d_Versions_measure_80 rfl (Nat.le_of_ble_eq_true rfl) w_650 (fun _ _ => rfl) (by first | assumption | rfl | (simp (disch := omega) only [q_upT_self, q_upT_ne, q_upR_self, q_upR_nea, q_upR_nk, q_upT_at, *]; done) | (simp (disch := omega) only [q_upT_self, q_upT_ne, q_upR_self, q_upR_nea, q_upR_nk, q_upT_at, *]; rfl)) ?_
          rw [u1 t b8, b6]
          refine q_istore d_Versions_measure_83 (Nat.le_of_ble_eq_true rfl) (by first | exact q_ok0 | exact q_okI rfl | exact q_okR rfl | exact q_okN rfl) rfl ?_
          refine q_aload_n d_Versions_measure_85 rfl rfl ?_
          refine q_getR (ci := 9) (fk := 5) d_Versions_measure_86 rfl (Nat.le_of_ble_eq_true rfl) w_119 (fun _ _ => rfl) hL.1 (hL.2 5 _ _ _ rfl).1 ?_
          refine q_iload d_Versions_measure_89 rfl ?_
          refine q_aload_n d_Versions_measure_91 rfl rfl ?_
          refine q_getR (ci := 9) (fk := 5) d_Versions_measure_92 rfl (Nat.le_of_ble_eq_true rfl) w_119 (fun _ _ => rfl) hL.1 (hL.2 5 _ _ _ rfl).1 ?_
          refine q_iload d_Versions_measure_95 rfl ?_
          refine q_iald d_Versions_measure_97 (hL.2 5 _ _ _ rfl).2 (by first | assumption | exact vp_in_nI (by omega) (by omega)) ?_
          rw [u2 st.fr n1]
          refine q_aload_n d_Versions_measure_98 rfl rfl ?_
          refine q_getR (ci := 9) (fk := 5) d_Versions_measure_99 rfl (Nat.le_of_ble_eq_true rfl) w_119 (fun _ _ => rfl) hL.1 (hL.2 5 _ _ _ rfl).1 ?_
          refine q_iload d_Versions_measure_102 rfl ?_
          refine q_iald d_Versions_measure_104 (hL.2 5 _ _ _ rfl).2 (by first | assumption | exact vp_in_nI (by omega) (by omega)) ?_
          rw [u2 st.to n2]
          refine q_iconst (v := nI 1) d_Versions_measure_105 (by decide) ?_
          first | refine q_iaddN d_Versions_measure_106 ?_ | refine q_iadd d_Versions_measure_106 ?_
          have f1 := u3.2 st.fr n1
          have f2 := u3.2 st.to n2
          refine q_callSi (M2 := M_Math_min_I) d_Versions_measure_107 ⟨(Nat.le_of_ble_eq_true rfl), (Nat.le_of_ble_eq_true rfl), w_881, w_19, ⟨by decide, by decide⟩, show _ = some 2 by decide +kernel⟩ w_879 w_880 rfl (Nat.le_of_ble_eq_true rfl) (by omega) (by omega) (c_Math_min (by omega) (by omega)) ?_
          rintro _ _ ⟨rfl, rfl⟩
          have v2 := k_tb_up (w := st.to) u2 h8 n1
          have v3 := k_lo_up u3 n1 n2 hA1
          have w1 := v3.2 st.fr n1
          have w2 := v3.2 st.to n2
          refine q_iast d_Versions_measure_110 (hL.2 5 _ _ _ rfl).2 (by first | assumption | exact vp_in_nI (by omega) (by omega)) ?_
          refine q_aload_n d_Versions_measure_111 rfl rfl ?_
          refine q_getR (ci := 9) (fk := 5) d_Versions_measure_112 rfl (Nat.le_of_ble_eq_true rfl) w_119 (fun _ _ => rfl) hL.1 (hL.2 5 _ _ _ rfl).1 ?_
          refine q_iload d_Versions_measure_115 rfl ?_
          refine q_aload_n d_Versions_measure_117 rfl rfl ?_
          refine q_getR (ci := 9) (fk := 5) d_Versions_measure_118 rfl (Nat.le_of_ble_eq_true rfl) w_119 (fun _ _ => rfl) hL.1 (hL.2 5 _ _ _ rfl).1 ?_
          refine q_iload d_Versions_measure_121 rfl ?_
          refine q_iald d_Versions_measure_123 (hL.2 5 _ _ _ rfl).2 (by first | assumption | exact vp_in_nI (by omega) (by omega)) ?_
          rw [v2 st.to n2]
          refine q_aload_n d_Versions_measure_124 rfl rfl ?_
          refine q_getR (ci := 9) (fk := 5) d_Versions_measure_125 rfl (Nat.le_of_ble_eq_true rfl) w_119 (fun _ _ => rfl) hL.1 (hL.2 5 _ _ _ rfl).1 ?_
          refine q_iload d_Versions_measure_128 rfl ?_
          refine q_iald d_Versions_measure_130 (hL.2 5 _ _ _ rfl).2 (by first | assumption | exact vp_in_nI (by omega) (by omega)) ?_
          rw [v2 st.fr n1]
          refine q_iconst (v := nI 1) d_Versions_measure_131 (by decide) ?_
          first | refine q_iaddN d_Versions_measure_132 ?_ | refine q_iadd d_Versions_measure_132 ?_
          refine q_callSi (M2 := M_Math_min_I) d_Versions_measure_133 ⟨(Nat.le_of_ble_eq_true rfl), (Nat.le_of_ble_eq_true rfl), w_881, w_19, ⟨by decide, by decide⟩, show _ = some 2 by decide +kernel⟩ w_879 w_880 rfl (Nat.le_of_ble_eq_true rfl) (by omega) (by omega) (c_Math_min (by omega) (by omega)) ?_
          rintro _ _ ⟨rfl, rfl⟩
          have y2 := k_tb_up (w := st.fr) v2 h8 n2
          have y3 := k_lo_up v3 n2 n1 hA2
          have hle : ∀ v, k_up (k_up F3 st.fr st.to) st.to st.fr v ≤ F3 v := fun v => Nat.le_trans (k_up_le _ _ _ _) (k_up_le _ _ _ _)
          refine q_iast d_Versions_measure_136 (hL.2 5 _ _ _ rfl).2 (by first | assumption | exact vp_in_nI (by omega) (by omega)) ?_
          first | refine q_iincN d_Versions_measure_137 rfl (Nat.le_of_ble_eq_true rfl) (by first | exact q_ok0 | exact q_okI rfl | exact q_okR rfl | exact q_okN rfl) rfl ?_ | refine q_iinc d_Versions_measure_137 rfl rfl (Nat.le_of_ble_eq_true rfl) (by first | exact q_ok0 | exact q_okI rfl | exact q_okR rfl | exact q_okN rfl) rfl ?_
          refine q_goto (tgt := 46) d_Versions_measure_140 rfl ?_
          refine ih2 (s + 1) _ _ _ _ rfl rfl (by omega) (fun b hb => by funext i; rw [q_upI_nea hb, q_upI_nea hb, u1 b hb]) y2 y3 (k_hi_le u4 hle) (fun q st2 hq hst2 hne => ?_) _ _
          by_cases hqs : q = s
          · subst hqs
            obtain rfl : st = st2 := Option.some.inj (hst.symm.trans hst2)
            refine ⟨fun hb => ?_, fun hb => ?_⟩
            · have h1 := u4 st.to (r - 1) n2 (Nat.le_refl _) hb
              have h2 := k_up_at F3 st.fr st.to
              have h3 := k_up_le (k_up F3 st.fr st.to) st.to st.fr st.fr
              omega
            · have h1 := u4 st.fr (r - 1) n1 (Nat.le_refl _) hb
              have h2 := k_up_at (k_up F3 st.fr st.to) st.to st.fr
              have h3 := k_up_le F3 st.fr st.to st.fr
              omega
          · obtain ⟨o1, o2⟩ := u5 q st2 (by omega) hst2 hne
            exact ⟨fun hb => Nat.le_trans (hle _) (o1 hb), fun hb => Nat.le_trans (hle _) (o2 hb)⟩
      refine q_iload_n d_Versions_measure_35 rfl rfl ?_
      refine q_aload_n d_Versions_measure_36 rfl rfl ?_
      refine q_getI (ci := 9) (fk := 1) d_Versions_measure_37 rfl (Nat.le_of_ble_eq_true rfl) w_111 (fun _ _ => rfl) hL.1 ?_
      rw [p1 a (by omega), hn]
      refine q_icmp_ge (tgt := 149) d_Versions_measure_40 rfl (fun hc => ?_) (fun hc => ?_)
      · rw [nI_leI (by omega) (by omega)] at hc
        omega
      refine q_iconst (v := nI 0) d_Versions_measure_43 (by decide) ?_
      refine q_istore d_Versions_measure_44 (Nat.le_of_ble_eq_true rfl) (by first | exact q_ok0 | exact q_okI rfl | exact q_okR rfl | exact q_okN rfl) rfl ?_
      exact inner ss.length 0 I2 F _ _ rfl rfl (by omega) p1 p2 p3 p4 (fun q st hq => absurd hq (Nat.not_lt_zero _)) _ _
  have init : ∀ (j v : Nat) (I2 : q_I), v + j = n → (∀ b, b ≠ a + 4 → I2 b = I b) → (∀ q, q < v → I2 (a + 4) (nI q) = nI (if q = gl then 0 else 8)) → ∀ l4 l5 l6, q_V g M_Versions_measure 0 0 0 0 (sz, T, I2, R, J) (fun o h' => o = .inl none ∧ ∃ (I' : q_I) (F : Nat → Nat), h' = (sz, T, I', R, J) ∧ (∀ b, b ≠ a + 4 → I' b = I b) ∧ k_tb (I' (a + 4)) n F ∧ k_rgt (k_A ss wo) n gl 8 F) 2 [some (.ref a), some (.int (nI gl)), some (.int wo), some (.int (nI v)), l4, l5, l6] [] := by
    intro j
    induction j with
    | zero =>
      intro v I2 hv p1 p2 l4 l5 l6
      obtain rfl : v = n := by omega
      refine q_iload_n d_Versions_measure_2 rfl rfl ?_
      refine q_aload_n d_Versions_measure_3 rfl rfl ?_
      refine q_getI (ci := 9) (fk := 1) d_Versions_measure_4 rfl (Nat.le_of_ble_eq_true rfl) w_111 (fun _ _ => rfl) hL.1 ?_
      rw [p1 a (by omega), hn]
      refine q_icmp_ge (tgt := 33) d_Versions_measure_7 rfl (fun hc => ?_) (fun hc => ?_)
      rotate_left
      · exact absurd (Int32.le_refl _) hc
      refine q_iconst (v := nI 1) d_Versions_measure_33 (by decide) ?_
      refine q_istore_n d_Versions_measure_34 rfl (Nat.le_of_ble_eq_true rfl) (by first | exact q_ok0 | exact q_okI rfl | exact q_okR rfl | exact q_okN rfl) rfl ?_
      refine rounds (v - 1) 1 I2 (fun q => if q = gl then 0 else 8) _ _ rfl rfl (by omega) (by omega) p1 p2 ⟨fun q hq h8 => ?_, fun q hq => ?_⟩ (fun q k hq hk hb => ?_) _ _ _
      · by_cases hqg : q = gl
        · show k_ball _ _ _ (if q = gl then 0 else 8) q = true
          rw [if_pos hqg, k_ball]
          exact decide_eq_true hqg
        · have h9 : (if q = gl then 0 else 8) < 8 := h8
          rw [if_neg hqg] at h9
          omega
      · show (if q = gl then 0 else 8) ≤ 8
        split <;> omega
      · obtain rfl : k = 0 := by omega
        rw [k_ball] at hb
        show (if q = gl then 0 else 8) ≤ 0
        rw [if_pos (of_decide_eq_true hb)]
        omega
    | succ j ih =>
      intro v I2 hv p1 p2 l4 l5 l6
      have fin : ∀ y, y = (if v = gl then 0 else 8) → q_V g M_Versions_measure 0 0 0 0 (sz, T, I2, R, J) (fun o h' => o = .inl none ∧ ∃ (I' : q_I) (F : Nat → Nat), h' = (sz, T, I', R, J) ∧ (∀ b, b ≠ a + 4 → I' b = I b) ∧ k_tb (I' (a + 4)) n F ∧ k_rgt (k_A ss wo) n gl 8 F) 26 [some (.ref a), some (.int (nI gl)), some (.int wo), some (.int (nI v)), l4, l5, l6] [.int (nI y), .int (nI v), .ref (a + 4)] := by
        intro y hy
        have t4 := (hL.2 5 _ _ _ rfl).2
        refine q_iast d_Versions_measure_26 (hL.2 5 _ _ _ rfl).2 (by first | assumption | exact vp_in_nI (by omega) (by omega)) ?_
        first | refine q_iincN d_Versions_measure_27 rfl (Nat.le_of_ble_eq_true rfl) (by first | exact q_ok0 | exact q_okI rfl | exact q_okR rfl | exact q_okN rfl) rfl ?_ | refine q_iinc d_Versions_measure_27 rfl rfl (Nat.le_of_ble_eq_true rfl) (by first | exact q_ok0 | exact q_okI rfl | exact q_okR rfl | exact q_okN rfl) rfl ?_
        refine q_goto (tgt := 2) d_Versions_measure_30 rfl ?_
        refine ih (v + 1) _ (by omega) (fun b hb => by funext i; rw [q_upI_nea hb, p1 b hb]) (fun q hq => ?_) _ _ _
        by_cases hqv : q = v
        · rw [hqv, q_upI_self, hy]
        · rw [q_upI_nk (by omega)]
          exact p2 q (by omega)
      refine q_iload_n d_Versions_measure_2 rfl rfl ?_
      refine q_aload_n d_Versions_measure_3 rfl rfl ?_
      refine q_getI (ci := 9) (fk := 1) d_Versions_measure_4 rfl (Nat.le_of_ble_eq_true rfl) w_111 (fun _ _ => rfl) hL.1 ?_
      rw [p1 a (by omega), hn]
      refine q_icmp_ge (tgt := 33) d_Versions_measure_7 rfl (fun hc => ?_) (fun hc => ?_)
      · rw [nI_leI (by omega) (by omega)] at hc
        omega
      refine q_aload_n d_Versions_measure_10 rfl rfl ?_
      refine q_getR (ci := 9) (fk := 5) d_Versions_measure_11 rfl (Nat.le_of_ble_eq_true rfl) w_119 (fun _ _ => rfl) hL.1 (hL.2 5 _ _ _ rfl).1 ?_
      refine q_iload_n d_Versions_measure_14 rfl rfl ?_
      refine q_iload_n d_Versions_measure_15 rfl rfl ?_
      refine q_iload_n d_Versions_measure_16 rfl rfl ?_
      refine q_icmp_ne (tgt := 24) d_Versions_measure_17 rfl (fun hc => ?_) (fun hc => ?_)
      · have h1 : ¬ v = gl := fun z => hc (by rw [z])
        refine q_bipush (v := nI 8) d_Versions_measure_24 (by decide) ?_
        exact fin 8 (by rw [if_neg h1])
      · have h1 : v = gl := (nI_eq (by omega) (by omega)).mp (by have := hc; exact this)
        refine q_iconst (v := nI 0) d_Versions_measure_20 (by decide) ?_
        refine q_goto (tgt := 26) d_Versions_measure_21 rfl ?_
        exact fin 0 (by rw [if_pos h1])
  refine q_C.of (ls0 := [some (.ref a), some (.int (nI gl)), some (.int wo), none, none, none, none]) (by decide) rfl (by decide) (Nat.le_of_ble_eq_true rfl) rfl ?_
  refine q_iconst (v := nI 0) d_Versions_measure_0 (by decide) ?_
  refine q_istore_n d_Versions_measure_1 rfl (Nat.le_of_ble_eq_true rfl) (by first | exact q_ok0 | exact q_okI rfl | exact q_okR rfl | exact q_okN rfl) rfl ?_
  exact init n 0 I (by omega) (fun b hb => rfl) (fun q hq => absurd hq (Nat.not_lt_zero _)) _ _ _
end CMeas
