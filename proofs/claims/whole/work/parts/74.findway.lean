/-! finding the way, the object's side -/
section CFind
variable {g : q_G} {sz x : Nat} {T : q_T} {I : q_I} {R : q_R} {J : q_J} {S : KA}
theorem k_rgt_is {A : Nat → Nat → Bool} {n gl C v d : Nat} {F : Nat → Nat} (h : k_rgt A n gl C F) (hC : d < C) (hv : v < n) : F v = d ↔ k_far A n gl v = some d := by
  rw [h v hv]
  cases hf : k_far A n gl v with
  | none => exact ⟨fun z => by have : C = d := z; omega, fun z => by cases z⟩
  | some e => exact ⟨fun z => congrArg some z, fun z => Option.some.inj z⟩
theorem c_Versions_nearerStop {a n gl u d : Nat} {ss : List KS} {wo : Int32} {F : Nat → Nat} (hL : q_L 9 t_Versions a T R) (hS : k_ssv a ss T I R) (hn : I a (nI 1) = nI n) (h8 : n ≤ 8) (hg : gl < n) (hF : k_tb (I (a + 4)) n F) (hR : k_rgt (k_A ss wo) n gl 8 F) (hu : u < n) (hd : k_far (k_A ss wo) n gl u = some (d + 1)) : q_Ci g M_Versions_nearerStop [.ref a, .int (nI u), .int wo] (sz, T, I, R, J) 0 0 (fun r h' => r = nI ((k_nx (k_A ss wo) n gl u d).getD u) ∧ h' = (sz, T, I, R, J)) := by
  obtain ⟨d1, -⟩ := k_far_ball hd
  obtain ⟨y, y1, y2, y3, y4⟩ := k_nx_some hg hu hd
  have hFu : F u = d + 1 := (k_rgt_is hR (by omega) hu).mpr hd
  have loop : ∀ (j v mcc msc : Nat), mcc = 0 → msc = 0 → v + j = n → (∀ q, q < v → (k_A ss wo u q && decide (k_far (k_A ss wo) n gl q = some d)) = false) → q_V g M_Versions_nearerStop 0 0 mcc msc (sz, T, I, R, J) (fun o h' => ∃ r : Int32, o = .inl (some (.int r)) ∧ (r = nI ((k_nx (k_A ss wo) n gl u d).getD u) ∧ h' = (sz, T, I, R, J))) 2 [some (.ref a), some (.int (nI u)), some (.int wo), some (.int (nI v))] [] := by
    intro j
    induction j with
    | zero =>
      intro v mcc msc m1 m2 hv hno
      exfalso
      have := hno y (by omega)
      rw [y3, decide_eq_true y4] at this
      cases this
    | succ j ih =>
      intro v mcc msc m1 m2 hv hno
      subst m1 m2
      have next : (k_A ss wo u v && decide (k_far (k_A ss wo) n gl v = some d)) = false → ∀ mcc msc : Nat, mcc = 0 → msc = 0 → q_V g M_Versions_nearerStop 0 0 mcc msc (sz, T, I, R, J) (fun o h' => ∃ r : Int32, o = .inl (some (.int r)) ∧ (r = nI ((k_nx (k_A ss wo) n gl u d).getD u) ∧ h' = (sz, T, I, R, J))) 40 [some (.ref a), some (.int (nI u)), some (.int wo), some (.int (nI v))] [] := by
        intro hf mcc msc m1 m2
        subst m1 m2
        first | refine q_iincN d_Versions_nearerStop_40 rfl (Nat.le_of_ble_eq_true rfl) (by first | exact q_ok0 | exact q_okI rfl | exact q_okR rfl | exact q_okN rfl) rfl ?_ | refine q_iinc d_Versions_nearerStop_40 rfl rfl (Nat.le_of_ble_eq_true rfl) (by first | exact q_ok0 | exact q_okI rfl | exact q_okR rfl | exact q_okN rfl) rfl ?_
        refine q_goto (tgt := 2) d_Versions_nearerStop_43 rfl ?_
        refine ih (v + 1) _ _ rfl rfl (by omega) (fun q hq => ?_)
        by_cases hqv : q = v
        · rw [hqv]; exact hf
        · exact hno q (by omega)
      have hFv : F v ≤ 8 ∨ True := Or.inr trivial
      have hFv2 : F v < 2 ^ 31 := by
        rw [hR v (by omega)]
        cases hf : k_far (k_A ss wo) n gl v with
        | none => show 8 < 2 ^ 31; omega
        | some e => have := (k_far_ball hf).1; show e < 2 ^ 31; omega
      refine q_iload_n d_Versions_nearerStop_2 rfl rfl ?_
      refine q_aload_n d_Versions_nearerStop_3 rfl rfl ?_
      refine q_getI (ci := 9) (fk := 1) d_Versions_nearerStop_4 rfl (Nat.le_of_ble_eq_true rfl) w_111 (fun _ _ => rfl) hL.1 ?_
      rw [hn]
      refine q_icmp_ge (tgt := 46) d_Versions_nearerStop_7 rfl (fun hc => ?_) (fun hc => ?_)
      · rw [nI_leI (by omega) (by omega)] at hc
        omega
      refine q_aload_n d_Versions_nearerStop_10 rfl rfl ?_
      refine q_getR (ci := 9) (fk := 5) d_Versions_nearerStop_11 rfl (Nat.le_of_ble_eq_true rfl) w_119 (fun _ _ => rfl) hL.1 (hL.2 5 _ _ _ rfl).1 ?_
      refine q_iload_n d_Versions_nearerStop_14 rfl rfl ?_
      refine q_iald d_Versions_nearerStop_15 (hL.2 5 _ _ _ rfl).2 (by first | assumption | exact vp_in_nI (by omega) (by omega)) ?_
      rw [hF v (by omega)]
      refine q_aload_n d_Versions_nearerStop_16 rfl rfl ?_
      refine q_getR (ci := 9) (fk := 5) d_Versions_nearerStop_17 rfl (Nat.le_of_ble_eq_true rfl) w_119 (fun _ _ => rfl) hL.1 (hL.2 5 _ _ _ rfl).1 ?_
      refine q_iload_n d_Versions_nearerStop_20 rfl rfl ?_
      refine q_iald d_Versions_nearerStop_21 (hL.2 5 _ _ _ rfl).2 (by first | assumption | exact vp_in_nI (by omega) (by omega)) ?_
      rw [hF u hu, hFu]
      refine q_iconst (v := nI 1) d_Versions_nearerStop_22 (by decide) ?_
      refine q_isub d_Versions_nearerStop_23 ?_
      rw [nI_sb d 1]
      refine q_icmp_ne (tgt := 40) d_Versions_nearerStop_24 rfl (fun hc => ?_) (fun hc => ?_)
      · have h1 : ¬ F v = d := fun z => hc (by rw [z])
        refine next ?_ _ _ rfl rfl
        rw [decide_eq_false (fun z => h1 ((k_rgt_is hR (by omega) (by omega)).mpr z)), Bool.and_false]
      have h1 : F v = d := (nI_eq hFv2 (by omega)).mp (by have := hc; exact this)
      have h2 := (k_rgt_is hR (by omega) (by omega)).mp h1
      refine q_aload_n d_Versions_nearerStop_27 rfl rfl ?_
      refine q_iload_n d_Versions_nearerStop_28 rfl rfl ?_
      refine q_iload_n d_Versions_nearerStop_29 rfl rfl ?_
      refine q_iload_n d_Versions_nearerStop_30 rfl rfl ?_
      refine q_callVi (M2 := M_Versions_firstStep) d_Versions_nearerStop_31 ⟨(Nat.le_of_ble_eq_true rfl), (Nat.le_of_ble_eq_true rfl), w_896, w_2, ⟨by decide, by decide⟩, show _ = some 3 by decide +kernel⟩ w_893 w_895 (ci := 9) rfl s_23 hL.1 rfl (Nat.le_of_ble_eq_true rfl) (by omega) (by omega) (c_Versions_firstStep hL hS (by omega) (by omega) wo) ?_
      rintro _ _ ⟨rfl, rfl⟩
      cases hfs : k_fst ss wo u v with
      | none =>
        refine q_iconst (v := (-1)) d_Versions_nearerStop_34 (by decide) ?_
        refine q_icmp_eq (tgt := 40) d_Versions_nearerStop_35 rfl (fun hc => ?_) (fun hc => ?_)
        · refine next ?_ _ _ rfl rfl
          rw [show k_A ss wo u v = false by unfold k_A; rw [hfs]; rfl, Bool.false_and]
        · exact absurd rfl hc
      | some s =>
        have := k_fst_lt hfs
        have := hS.2.1
        refine q_iconst (v := (-1)) d_Versions_nearerStop_34 (by decide) ?_
        refine q_icmp_eq (tgt := 40) d_Versions_nearerStop_35 rfl (fun hc => ?_) (fun hc => ?_)
        · exact absurd hc (show ¬ nI s = -1 from nI_m1 (by omega))
        refine q_iload_n d_Versions_nearerStop_38 rfl rfl ?_
        refine q_iret d_Versions_nearerStop_39 rfl (by omega) (by omega) ?_
        refine ⟨_, rfl, ?_, rfl⟩
        have : k_nx (k_A ss wo) n gl u d = some v := k_lst_is (by omega) (by omega) (by rw [show k_A ss wo u v = true by unfold k_A; rw [hfs]; rfl, decide_eq_true h2]; rfl) (fun q _ hq => hno q hq)
        rw [this]
        rfl
  refine q_C.of (ls0 := [some (.ref a), some (.int (nI u)), some (.int wo), none]) (by decide) rfl (by decide) (Nat.le_of_ble_eq_true rfl) rfl ?_
  refine q_iconst (v := nI 0) d_Versions_nearerStop_0 (by decide) ?_
  refine q_istore_n d_Versions_nearerStop_1 rfl (Nat.le_of_ble_eq_true rfl) (by first | exact q_ok0 | exact q_okI rfl | exact q_okR rfl | exact q_okN rfl) rfl ?_
  exact loop n 0 _ _ rfl rfl (by omega) (fun q hq => absurd hq (Nat.not_lt_zero _))
/-- a list stands in an array from its start on -/
def k_ar (f : Int32 → Int32) (l : List Nat) : Prop := ∀ i v, l[i]? = some v → f (nI i) = nI v
theorem c_Versions_turnRound {a d : Nat} {l : List Nat} (hL : q_L 9 t_Versions a T R) (hl : l.length = d + 1) (hd : d < 8) (hA : k_ar (I (a + 3)) l) : q_Cv g M_Versions_turnRound [.ref a, .int (nI d)] (sz, T, I, R, J) 0 0 (fun h' => ∃ I' : q_I, h' = (sz, T, I', R, J) ∧ (∀ b, b ≠ a + 3 → I' b = I b) ∧ k_ar (I' (a + 3)) l.reverse) := by
  have at9 : ∀ q, q ≤ d → l[q]? = some (l.getD q 0) := fun q hq => by
    rw [List.getD_eq_getElem?_getD, List.getElem?_eq_getElem (by omega)]; rfl
  have loop : ∀ (n i j : Nat) (I2 : q_I), j ≤ i + n → i + j = d → (∀ b, b ≠ a + 3 → I2 b = I b) → (∀ q, q ≤ d → I2 (a + 3) (nI q) = nI (if q < i ∨ j < q then l.getD (d - q) 0 else l.getD q 0)) → ∀ l4, q_V g M_Versions_turnRound 0 0 0 0 (sz, T, I2, R, J) (fun o h' => o = .inl none ∧ ∃ I' : q_I, h' = (sz, T, I', R, J) ∧ (∀ b, b ≠ a + 3 → I' b = I b) ∧ k_ar (I' (a + 3)) l.reverse) 4 [some (.ref a), some (.int (nI d)), some (.int (nI i)), some (.int (nI j)), l4] [] := by
    intro n
    have stop : ∀ (i j : Nat) (I2 : q_I), j ≤ i → i + j = d → (∀ b, b ≠ a + 3 → I2 b = I b) → (∀ q, q ≤ d → I2 (a + 3) (nI q) = nI (if q < i ∨ j < q then l.getD (d - q) 0 else l.getD q 0)) → ∀ l4, q_V g M_Versions_turnRound 0 0 0 0 (sz, T, I2, R, J) (fun o h' => o = .inl none ∧ ∃ I' : q_I, h' = (sz, T, I', R, J) ∧ (∀ b, b ≠ a + 3 → I' b = I b) ∧ k_ar (I' (a + 3)) l.reverse) 4 [some (.ref a), some (.int (nI d)), some (.int (nI i)), some (.int (nI j)), l4] [] := by
      intro i j I2 h1 h2 p1 p2 l4
      refine q_iload_n d_Versions_turnRound_4 rfl rfl ?_
      refine q_iload_n d_Versions_turnRound_5 rfl rfl ?_
      refine q_icmp_ge (tgt := 46) d_Versions_turnRound_6 rfl (fun hc => ?_) (fun hc => ?_)
      rotate_left
      · exact absurd (by rw [nI_leI (by omega) (by omega)]; exact h1) hc
      refine q_vret d_Versions_turnRound_46 rfl (by omega) (by omega) ?_
      refine ⟨rfl, I2, rfl, p1, fun q v hq => ?_⟩
      have hql := (List.getElem?_eq_some_iff.mp hq).1
      rw [List.length_reverse] at hql
      rw [List.getElem?_reverse hql, show l.length - 1 - q = d - q by omega, at9 (d - q) (by omega)] at hq
      rw [p2 q (by omega), ← Option.some.inj hq]
      by_cases hqi : q < i ∨ j < q
      · rw [if_pos hqi]
      · rw [if_neg hqi, show d - q = q by omega]
    induction n with
    | zero => intro i j I2 h1 h2 p1 p2 l4; exact stop i j I2 (by omega) h2 p1 p2 l4
    | succ n ih =>
      intro i j I2 h1 h2 p1 p2 l4
      by_cases hij : j ≤ i
      · exact stop i j I2 hij h2 p1 p2 l4
      refine q_iload_n d_Versions_turnRound_4 rfl rfl ?_
      refine q_iload_n d_Versions_turnRound_5 rfl rfl ?_
      refine q_icmp_ge (tgt := 46) d_Versions_turnRound_6 rfl (fun hc => ?_) (fun hc => ?_)
      · rw [nI_leI (by omega) (by omega)] at hc
        omega
      refine q_aload_n d_Versions_turnRound_9 rfl rfl ?_
      refine q_getR (ci := 9) (fk := 4) d_Versions_turnRound_10 rfl (Nat.le_of_ble_eq_true rfl) w_117 (fun _ _ => rfl) hL.1 (hL.2 4 _ _ _ rfl).1 ?_
      refine q_iload_n d_Versions_turnRound_13 rfl rfl ?_
      refine q_iald d_Versions_turnRound_14 (hL.2 4 _ _ _ rfl).2 (by first | assumption | exact vp_in_nI (by omega) (by omega)) ?_
      rw [p2 i (by omega), if_neg (by omega)]
      refine q_istore d_Versions_turnRound_15 (Nat.le_of_ble_eq_true rfl) (by first | exact q_ok0 | exact q_okI rfl | exact q_okR rfl | exact q_okN rfl) rfl ?_
      refine q_aload_n d_Versions_turnRound_17 rfl rfl ?_
      refine q_getR (ci := 9) (fk := 4) d_Versions_turnRound_18 rfl (Nat.le_of_ble_eq_true rfl) w_117 (fun _ _ => rfl) hL.1 (hL.2 4 _ _ _ rfl).1 ?_
      refine q_iload_n d_Versions_turnRound_21 rfl rfl ?_
      refine q_aload_n d_Versions_turnRound_22 rfl rfl ?_
      refine q_getR (ci := 9) (fk := 4) d_Versions_turnRound_23 rfl (Nat.le_of_ble_eq_true rfl) w_117 (fun _ _ => rfl) hL.1 (hL.2 4 _ _ _ rfl).1 ?_
      refine q_iload_n d_Versions_turnRound_26 rfl rfl ?_
      refine q_iald d_Versions_turnRound_27 (hL.2 4 _ _ _ rfl).2 (by first | assumption | exact vp_in_nI (by omega) (by omega)) ?_
      rw [p2 j (by omega), if_neg (by omega)]
      refine q_iast d_Versions_turnRound_28 (hL.2 4 _ _ _ rfl).2 (by first | assumption | exact vp_in_nI (by omega) (by omega)) ?_
      refine q_aload_n d_Versions_turnRound_29 rfl rfl ?_
      refine q_getR (ci := 9) (fk := 4) d_Versions_turnRound_30 rfl (Nat.le_of_ble_eq_true rfl) w_117 (fun _ _ => rfl) hL.1 (hL.2 4 _ _ _ rfl).1 ?_
      refine q_iload_n d_Versions_turnRound_33 rfl rfl ?_
      refine q_iload d_Versions_turnRound_34 rfl ?_
      refine q_iast d_Versions_turnRound_36 (hL.2 4 _ _ _ rfl).2 (by first | assumption | exact vp_in_nI (by omega) (by omega)) ?_
      first | refine q_iincN d_Versions_turnRound_37 rfl (Nat.le_of_ble_eq_true rfl) (by first | exact q_ok0 | exact q_okI rfl | exact q_okR rfl | exact q_okN rfl) rfl ?_ | refine q_iinc d_Versions_turnRound_37 rfl rfl (Nat.le_of_ble_eq_true rfl) (by first | exact q_ok0 | exact q_okI rfl | exact q_okR rfl | exact q_okN rfl) rfl ?_
      refine q_iinc (v := nI (j - 1)) d_Versions_turnRound_40 rfl ?_ (Nat.le_of_ble_eq_true rfl) (by first | exact q_ok0 | exact q_okI rfl | exact q_okR rfl | exact q_okN rfl) rfl ?_
      · obtain ⟨e, rfl⟩ : ∃ e, j = e + 1 := ⟨j - 1, by omega⟩
        rw [Nat.add_sub_cancel]
        exact (by
          have h9 : nI (e + 1) + (-1) = nI e := by
            have := nI_sb e 1
            rw [Int32.sub_eq_add_neg] at this
            exact this
          exact h9)
      refine q_goto (tgt := 4) d_Versions_turnRound_43 rfl ?_
      refine ih (i + 1) (j - 1) _ (by omega) (by omega) (fun b hb => by funext q; rw [q_upI_nea hb, q_upI_nea hb, p1 b hb]) (fun q hq => ?_) _
      by_cases hqj : q = j
      · rw [hqj, q_upI_self, if_pos (by omega), show d - j = i by omega]
      · rw [q_upI_nk (by omega)]
        by_cases hqi : q = i
        · rw [hqi, q_upI_self, if_pos (by omega), show d - i = j by omega]
        · rw [q_upI_nk (by omega), p2 q hq]
          by_cases hq2 : q < i ∨ j < q
          · rw [if_pos hq2, if_pos (by omega)]
          · rw [if_neg hq2, if_neg (by omega)]
  refine q_C.of (ls0 := [some (.ref a), some (.int (nI d)), none, none, none]) (by decide) rfl (by decide) (Nat.le_of_ble_eq_true rfl) rfl ?_
  refine q_iconst (v := nI 0) d_Versions_turnRound_0 (by decide) ?_
  refine q_istore_n d_Versions_turnRound_1 rfl (Nat.le_of_ble_eq_true rfl) (by first | exact q_ok0 | exact q_okI rfl | exact q_okR rfl | exact q_okN rfl) rfl ?_
  refine q_iload_n d_Versions_turnRound_2 rfl rfl ?_
  refine q_istore_n d_Versions_turnRound_3 rfl (Nat.le_of_ble_eq_true rfl) (by first | exact q_ok0 | exact q_okI rfl | exact q_okR rfl | exact q_okN rfl) rfl ?_
  refine loop d 0 d I (by omega) (by omega) (fun b hb => rfl) (fun q hq => ?_) none
  rw [if_neg (by omega)]
  exact hA q _ (at9 q hq)
/-- the way from one version to another -/
def k_way (A : Nat → Nat → Bool) (n f t : Nat) : Option (List Nat) := (k_far A n (max f t) (min f t)).map (fun d => if f ≤ t then k_wy A n (max f t) d (min f t) else (k_wy A n (max f t) d (min f t)).reverse)
set_option maxHeartbeats 1000000 in
theorem c_Versions_findWay {a n f t : Nat} {ss : List KS} (hL : q_L 9 t_Versions a T R) (hS : k_ssv a ss T I R) (hn : I a (nI 1) = nI n) (h8 : n ≤ 8) (hf : f < n) (ht : t < n) (hss : ∀ (i : Nat) (st : KS), ss[i]? = some st → st.fr < n ∧ st.to < n) (wo : Int32) : q_Ci g M_Versions_findWay [.ref a, .int (nI f), .int (nI t), .int wo] (sz, T, I, R, J) 0 0 (fun r h' => r = p_idx ((k_way (k_A ss wo) n f t).map (fun l => l.length - 1)) ∧ ∃ I' : q_I, h' = (sz, T, I', R, J) ∧ (∀ b, b ≠ a + 3 → b ≠ a + 4 → I' b = I b) ∧ ∀ l, k_way (k_A ss wo) n f t = some l → k_ar (I' (a + 3)) l) := by
  have hm1 : min f t < n := by omega
  have hm2 : max f t < n := by omega
  obtain ⟨A, hA⟩ : ∃ A, A = k_A ss wo := ⟨_, rfl⟩
  obtain ⟨s0, hs0⟩ : ∃ s0, s0 = min f t := ⟨_, rfl⟩
  obtain ⟨gl, hgl⟩ : ∃ gl, gl = max f t := ⟨_, rfl⟩
  refine q_C.of (ls0 := [some (.ref a), some (.int (nI f)), some (.int (nI t)), some (.int wo), none, none, none]) (by decide) rfl (by decide) (Nat.le_of_ble_eq_true rfl) rfl ?_
  refine q_iload_n d_Versions_findWay_0 rfl rfl ?_
  refine q_iload_n d_Versions_findWay_1 rfl rfl ?_
  refine q_callSi (M2 := M_Math_min_I) d_Versions_findWay_2 ⟨(Nat.le_of_ble_eq_true rfl), (Nat.le_of_ble_eq_true rfl), w_881, w_19, ⟨by decide, by decide⟩, show _ = some 2 by decide +kernel⟩ w_879 w_880 rfl (Nat.le_of_ble_eq_true rfl) (by omega) (by omega) (c_Math_min (by omega) (by omega)) ?_
  rintro _ _ ⟨rfl, rfl⟩
  refine q_istore d_Versions_findWay_5 (Nat.le_of_ble_eq_true rfl) (by first | exact q_ok0 | exact q_okI rfl | exact q_okR rfl | exact q_okN rfl) rfl ?_
  refine q_aload_n d_Versions_findWay_7 rfl rfl ?_
  refine q_iload_n d_Versions_findWay_8 rfl rfl ?_
  refine q_iload_n d_Versions_findWay_9 rfl rfl ?_
  refine q_callSi (M2 := M_Math_max_I) d_Versions_findWay_10 ⟨(Nat.le_of_ble_eq_true rfl), (Nat.le_of_ble_eq_true rfl), w_884, w_19, ⟨by decide, by decide⟩, show _ = some 2 by decide +kernel⟩ w_882 w_883 rfl (Nat.le_of_ble_eq_true rfl) (by omega) (by omega) (c_Math_max (by omega) (by omega)) ?_
  rintro _ _ ⟨rfl, rfl⟩
  refine q_iload_n d_Versions_findWay_13 rfl rfl ?_
  refine q_callVv (M2 := M_Versions_measure) d_Versions_findWay_14 ⟨(Nat.le_of_ble_eq_true rfl), (Nat.le_of_ble_eq_true rfl), w_888, w_2, ⟨by decide, by decide⟩, show _ = some 2 by decide +kernel⟩ w_885 w_887 (ci := 9) rfl s_21 hL.1 rfl (Nat.le_of_ble_eq_true rfl) (by omega) (by omega) (c_Versions_measure hL hS hn h8 hm2 hss wo) ?_
  rintro _ ⟨I1, F, rfl, i1, i2, i3⟩
  rw [← hs0] at hm1 ⊢
  rw [← hgl] at hm2 i3
  rw [← hA] at i3
  have hwy : k_way A n f t = (k_far A n gl s0).map (fun d => if f ≤ t then k_wy A n gl d s0 else (k_wy A n gl d s0).reverse) := by unfold k_way; rw [← hs0, ← hgl]
  rw [← hA, hwy]
  refine q_aload_n d_Versions_findWay_17 rfl rfl ?_
  refine q_getR (ci := 9) (fk := 5) d_Versions_findWay_18 rfl (Nat.le_of_ble_eq_true rfl) w_119 (fun _ _ => rfl) hL.1 (hL.2 5 _ _ _ rfl).1 ?_
  refine q_iload d_Versions_findWay_21 rfl ?_
  refine q_iald d_Versions_findWay_23 (hL.2 5 _ _ _ rfl).2 (by first | assumption | exact vp_in_nI (by omega) (by omega)) ?_
  rw [i2 s0 hm1, i3 s0 hm1]
  cases hfar : k_far A n gl s0 with
  | none =>
    rw [show (none : Option Nat).getD 8 = 8 from rfl]
    refine q_istore d_Versions_findWay_24 (Nat.le_of_ble_eq_true rfl) (by first | exact q_ok0 | exact q_okI rfl | exact q_okR rfl | exact q_okN rfl) rfl ?_
    refine q_iload d_Versions_findWay_26 rfl ?_
    refine q_bipush (v := nI 8) d_Versions_findWay_28 (by decide) ?_
    refine q_icmp_ne (tgt := 35) d_Versions_findWay_30 rfl (fun hc => ?_) (fun hc => ?_)
    · exact absurd rfl hc
    refine q_iconst (v := (-1)) d_Versions_findWay_33 (by decide) ?_
    refine q_iret d_Versions_findWay_34 rfl (by omega) (by omega) ?_
    exact ⟨_, rfl, rfl, I1, rfl, fun b b1 b2 => i1 b b2, fun l hl => by cases hl⟩
  | some d =>
    obtain ⟨d1, -⟩ := k_far_ball hfar
    obtain ⟨o1, o2⟩ := k_wy_ok hm2 d s0 hm1 hfar
    have hlen := k_wy_len A n gl d s0
    rw [show (some d).getD 8 = d from rfl]
    have fin : ∀ (I2 : q_I) (mcc msc : Nat), mcc = 0 → msc = 0 → (∀ b, b ≠ a + 3 → b ≠ a + 4 → I2 b = I b) → k_ar (I2 (a + 3)) (k_wy A n gl d s0) → ∀ l6, q_V g M_Versions_findWay 0 0 mcc msc (sz, T, I2, R, J) (fun o h' => ∃ r : Int32, o = .inl (some (.int r)) ∧ (r = p_idx (((some d).map (fun d => if f ≤ t then k_wy A n gl d s0 else (k_wy A n gl d s0).reverse)).map (fun l => l.length - 1)) ∧ ∃ I' : q_I, h' = (sz, T, I', R, J) ∧ (∀ b, b ≠ a + 3 → b ≠ a + 4 → I' b = I b) ∧ ∀ l, (some d).map (fun d => if f ≤ t then k_wy A n gl d s0 else (k_wy A n gl d s0).reverse) = some l → k_ar (I' (a + 3)) l)) 80 [some (.ref a), some (.int (nI f)), some (.int (nI t)), some (.int wo), some (.int (nI s0)), some (.int (nI d)), l6] [] := by
      intro I2 mcc msc m1 m2 p1 p2 l6
      subst m1 m2
      by_cases hft : f ≤ t
      · refine q_iload_n d_Versions_findWay_80 rfl rfl ?_
        refine q_iload_n d_Versions_findWay_81 rfl rfl ?_
        refine q_icmp_le (tgt := 91) d_Versions_findWay_82 rfl (fun hc => ?_) (fun hc => ?_)
        rotate_left
        · exact absurd (by rw [nI_leI (by omega) (by omega)]; exact hft) hc
        refine q_iload d_Versions_findWay_91 rfl ?_
        refine q_iret d_Versions_findWay_93 rfl (by omega) (by omega) ?_
        refine ⟨_, rfl, ?_, I2, rfl, p1, fun l hl => ?_⟩
        · show nI d = nI ((if f ≤ t then k_wy A n gl d s0 else (k_wy A n gl d s0).reverse).length - 1)
          rw [if_pos hft, hlen, Nat.add_sub_cancel]
        · have : (if f ≤ t then k_wy A n gl d s0 else (k_wy A n gl d s0).reverse) = l := Option.some.inj hl
          rw [← this, if_pos hft]
          exact p2
      · refine q_iload_n d_Versions_findWay_80 rfl rfl ?_
        refine q_iload_n d_Versions_findWay_81 rfl rfl ?_
        refine q_icmp_le (tgt := 91) d_Versions_findWay_82 rfl (fun hc => ?_) (fun hc => ?_)
        · rw [nI_leI (by omega) (by omega)] at hc
          omega
        refine q_aload_n d_Versions_findWay_85 rfl rfl ?_
        refine q_iload d_Versions_findWay_86 rfl ?_
        refine q_callVv (M2 := M_Versions_turnRound) d_Versions_findWay_88 ⟨(Nat.le_of_ble_eq_true rfl), (Nat.le_of_ble_eq_true rfl), w_900, w_2, ⟨by decide, by decide⟩, show _ = some 1 by decide +kernel⟩ w_897 w_899 (ci := 9) rfl s_24 hL.1 rfl (Nat.le_of_ble_eq_true rfl) (by omega) (by omega) (c_Versions_turnRound hL hlen (by omega) p2) ?_
        rintro _ ⟨I3, rfl, j1, j2⟩
        refine q_iload d_Versions_findWay_91 rfl ?_
        refine q_iret d_Versions_findWay_93 rfl (by omega) (by omega) ?_
        refine ⟨_, rfl, ?_, I3, rfl, fun b b1 b2 => by rw [j1 b b1, p1 b b1 b2], fun l hl => ?_⟩
        · show nI d = nI ((if f ≤ t then k_wy A n gl d s0 else (k_wy A n gl d s0).reverse).length - 1)
          rw [if_neg hft, List.length_reverse, hlen, Nat.add_sub_cancel]
        · have : (if f ≤ t then k_wy A n gl d s0 else (k_wy A n gl d s0).reverse) = l := Option.some.inj hl
          rw [← this, if_neg hft]
          exact j2
    have loop : ∀ (j k : Nat) (I2 : q_I) (mcc msc : Nat), mcc = 0 → msc = 0 → k + j = d + 1 → 1 ≤ k → (∀ b, b ≠ a + 3 → I2 b = I1 b) → (∀ i v, i < k → (k_wy A n gl d s0)[i]? = some v → I2 (a + 3) (nI i) = nI v) → q_V g M_Versions_findWay 0 0 mcc msc (sz, T, I2, R, J) (fun o h' => ∃ r : Int32, o = .inl (some (.int r)) ∧ (r = p_idx (((some d).map (fun d => if f ≤ t then k_wy A n gl d s0 else (k_wy A n gl d s0).reverse)).map (fun l => l.length - 1)) ∧ ∃ I' : q_I, h' = (sz, T, I', R, J) ∧ (∀ b, b ≠ a + 3 → b ≠ a + 4 → I' b = I b) ∧ ∀ l, (some d).map (fun d => if f ≤ t then k_wy A n gl d s0 else (k_wy A n gl d s0).reverse) = some l → k_ar (I' (a + 3)) l)) 46 [some (.ref a), some (.int (nI f)), some (.int (nI t)), some (.int wo), some (.int (nI s0)), some (.int (nI d)), some (.int (nI k))] [] := by
      intro j
      induction j with
      | zero =>
        intro k I2 mcc msc m1 m2 hk hk1 p1 p2
        subst m1 m2
        refine q_iload d_Versions_findWay_46 rfl ?_
        refine q_iload d_Versions_findWay_48 rfl ?_
        refine q_icmp_gt (tgt := 80) d_Versions_findWay_50 rfl (fun hc => ?_) (fun hc => ?_)
        · exact fin I2 _ _ rfl rfl (fun b b1 b2 => by rw [p1 b b1, i1 b b2]) (fun i v hv => p2 i v (by
            have := (List.getElem?_eq_some_iff.mp hv).1
            omega) hv) _
        · exact absurd (nI_lt (show d < k by omega) (by omega)) hc
      | succ j ih =>
        intro k I2 mcc msc m1 m2 hk hk1 p1 p2
        subst m1 m2
        obtain ⟨q, rfl⟩ : ∃ q, k = q + 1 := ⟨k - 1, by omega⟩
        obtain ⟨u, hu⟩ : ∃ u, (k_wy A n gl d s0)[q]? = some u := ⟨_, List.getElem?_eq_getElem (by omega)⟩
        obtain ⟨w, hw⟩ : ∃ w, (k_wy A n gl d s0)[q + 1]? = some w := ⟨_, List.getElem?_eq_getElem (by omega)⟩
        obtain ⟨u1, u2⟩ := o1 q u hu
        obtain ⟨-, u3⟩ := o2 q u w hu hw
        refine q_iload d_Versions_findWay_46 rfl ?_
        refine q_iload d_Versions_findWay_48 rfl ?_
        refine q_icmp_gt (tgt := 80) d_Versions_findWay_50 rfl (fun hc => ?_) (fun hc => ?_)
        · exact absurd hc (by rw [Int32.not_lt, nI_leI (by omega) (by omega)]; omega)
        refine q_aload_n d_Versions_findWay_53 rfl rfl ?_
        refine q_getR (ci := 9) (fk := 4) d_Versions_findWay_54 rfl (Nat.le_of_ble_eq_true rfl) w_117 (fun _ _ => rfl) hL.1 (hL.2 4 _ _ _ rfl).1 ?_
        refine q_iload d_Versions_findWay_57 rfl ?_
        refine q_aload_n d_Versions_findWay_59 rfl rfl ?_
        refine q_aload_n d_Versions_findWay_60 rfl rfl ?_
        refine q_getR (ci := 9) (fk := 4) d_Versions_findWay_61 rfl (Nat.le_of_ble_eq_true rfl) w_117 (fun _ _ => rfl) hL.1 (hL.2 4 _ _ _ rfl).1 ?_
        refine q_iload d_Versions_findWay_64 rfl ?_
        refine q_iconst (v := nI 1) d_Versions_findWay_66 (by decide) ?_
        refine q_isub d_Versions_findWay_67 ?_
        rw [nI_sb q 1]
        refine q_iald d_Versions_findWay_68 (hL.2 4 _ _ _ rfl).2 (by first | assumption | exact vp_in_nI (by omega) (by omega)) ?_
        rw [p2 q u (by omega) hu]
        refine q_iload_n d_Versions_findWay_69 rfl rfl ?_
        have hS2 : k_ssv a ss T I2 R := hS.cong (fun b b1 b2 => by rw [p1 b b1, i1 b b2])
        have u2' : k_far (k_A ss wo) n gl u = some ((d - q - 1) + 1) := by rw [← hA, show d - q - 1 + 1 = d - q by omega]; exact u2
        refine q_callVi (M2 := M_Versions_nearerStop) d_Versions_findWay_70 ⟨(Nat.le_of_ble_eq_true rfl), (Nat.le_of_ble_eq_true rfl), w_892, w_2, ⟨by decide, by decide⟩, show _ = some 2 by decide +kernel⟩ w_889 w_891 (ci := 9) rfl s_22 hL.1 rfl (Nat.le_of_ble_eq_true rfl) (by omega) (by omega) (c_Versions_nearerStop (F := F) hL hS2 (by rw [p1 a (by omega), i1 a (by omega)]; exact hn) h8 hm2 (by rw [p1 (a + 4) (by omega)]; exact i2) (by rw [← hA]; exact i3) u1 u2') ?_
        rintro _ _ ⟨rfl, rfl⟩
        rw [← hA, u3]
        refine q_iast d_Versions_findWay_73 (hL.2 4 _ _ _ rfl).2 (by first | assumption | exact vp_in_nI (by omega) (by omega)) ?_
        first | refine q_iincN d_Versions_findWay_74 rfl (Nat.le_of_ble_eq_true rfl) (by first | exact q_ok0 | exact q_okI rfl | exact q_okR rfl | exact q_okN rfl) rfl ?_ | refine q_iinc d_Versions_findWay_74 rfl rfl (Nat.le_of_ble_eq_true rfl) (by first | exact q_ok0 | exact q_okI rfl | exact q_okR rfl | exact q_okN rfl) rfl ?_
        refine q_goto (tgt := 46) d_Versions_findWay_77 rfl ?_
        refine ih (q + 1 + 1) _ _ _ rfl rfl (by omega) (by omega) (fun b hb => by funext z; rw [q_upI_nea hb, p1 b hb]) (fun i v hi hv => ?_)
        by_cases hiq : i = q + 1
        · subst hiq
          rw [q_upI_self]
          obtain rfl : w = v := Option.some.inj (hw.symm.trans hv)
          rfl
        · rw [q_upI_nk (by omega)]
          exact p2 i v (by omega) hv
    refine q_istore d_Versions_findWay_24 (Nat.le_of_ble_eq_true rfl) (by first | exact q_ok0 | exact q_okI rfl | exact q_okR rfl | exact q_okN rfl) rfl ?_
    refine q_iload d_Versions_findWay_26 rfl ?_
    refine q_bipush (v := nI 8) d_Versions_findWay_28 (by decide) ?_
    refine q_icmp_ne (tgt := 35) d_Versions_findWay_30 rfl (fun hc => ?_) (fun hc => ?_)
    rotate_left
    · have := (nI_eq (by omega) (by omega)).mp (show nI d = nI 8 by have := hc; exact this)
      omega
    refine q_aload_n d_Versions_findWay_35 rfl rfl ?_
    refine q_getR (ci := 9) (fk := 4) d_Versions_findWay_36 rfl (Nat.le_of_ble_eq_true rfl) w_117 (fun _ _ => rfl) hL.1 (hL.2 4 _ _ _ rfl).1 ?_
    refine q_iconst (v := nI 0) d_Versions_findWay_39 (by decide) ?_
    refine q_iload d_Versions_findWay_40 rfl ?_
    refine q_iast d_Versions_findWay_42 (hL.2 4 _ _ _ rfl).2 (by first | assumption | exact vp_in_nI (by omega) (by omega)) ?_
    refine q_iconst (v := nI 1) d_Versions_findWay_43 (by decide) ?_
    refine q_istore d_Versions_findWay_44 (Nat.le_of_ble_eq_true rfl) (by first | exact q_ok0 | exact q_okI rfl | exact q_okR rfl | exact q_okN rfl) rfl ?_
    refine loop d 1 _ _ _ rfl rfl (by omega) (by omega) (fun b hb => by funext z; rw [q_upI_nea hb]) (fun i v hi hv => ?_)
    obtain rfl : i = 0 := by omega
    rw [k_wy_hd] at hv
    cases hv
    rw [q_upI_self]
end CFind
