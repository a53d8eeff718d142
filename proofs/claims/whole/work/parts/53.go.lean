/-! the reference's fields go; a version's fields are taken -/
section MGo
variable {g : q_G} {sz : Nat} {T : q_T} {I : q_I} {R : q_R} {J : q_J}
theorem nI_sb (a b : Nat) : nI (a + b) - nI b = nI a := by rw [← nI_add]; exact Int32.add_sub_cancel _ _
/-- the last one takes the place of the one that goes -/
def k_goL (M : List KF) (k : Nat) : List KF := match M[M.length - 1]? with
  | none => []
  | some e => (M.set k e).dropLast
theorem k_goL_snoc (N : List KF) (e : KF) (k : Nat) : k_goL (N ++ [e]) k = if k < N.length then N.set k e else N := by
  have h1 : (N ++ [e]).length - 1 = N.length := by rw [List.length_append]; show N.length + 1 - 1 = _; omega
  unfold k_goL
  rw [h1, List.getElem?_append_right (Nat.le_refl _), Nat.sub_self]
  show ((N ++ [e]).set k e).dropLast = _
  by_cases hk : k < N.length
  · rw [if_pos hk, List.set_append_left _ _ hk, List.dropLast_concat]
  · rw [if_neg hk, List.set_append_right _ _ (by omega)]
    cases hq : k - N.length with
    | zero => show (N ++ [e]).dropLast = N; rw [List.dropLast_concat]
    | succ q => show (N ++ [e]).dropLast = N; rw [List.dropLast_concat]
theorem k_goL_perm {M : List KF} {k : Nat} {f : KF} (hf : M[k]? = some f) : (f :: k_goL M k).Perm M := by
  rcases List.eq_nil_or_concat M with rfl | ⟨N, e, hNe⟩
  · cases hf
  · rw [List.concat_eq_append] at hNe
    subst hNe
    rw [k_goL_snoc]
    by_cases hk : k < N.length
    · rw [if_pos hk]
      rw [List.getElem?_append_left hk] at hf
      have h1 : N = N.take k ++ f :: N.drop (k + 1) := by
        obtain ⟨hk2, h2⟩ := List.getElem?_eq_some_iff.mp hf
        rw [← h2]
        exact (List.take_append_drop k N).symm.trans (by rw [List.drop_eq_getElem_cons hk2])
      have h2 : N.set k e = N.take k ++ e :: N.drop (k + 1) := List.set_eq_take_append_cons_drop.trans (by rw [if_pos hk])
      rw [h2]
      obtain ⟨A, hA⟩ : ∃ A, A = N.take k := ⟨_, rfl⟩
      obtain ⟨B, hB⟩ : ∃ B, B = N.drop (k + 1) := ⟨_, rfl⟩
      rw [← hA, ← hB] at h1 ⊢
      rw [h1]
      have p1 : (f :: (A ++ e :: B)).Perm (f :: (e :: (A ++ B))) := (List.perm_middle).cons f
      have p2 : ((A ++ f :: B) ++ [e]).Perm (e :: (f :: (A ++ B))) := (List.perm_append_singleton e _).trans ((List.perm_middle).cons e)
      exact p1.trans ((List.Perm.swap e f _).trans p2.symm)
    · rw [if_neg hk]
      rw [List.getElem?_append_right (by omega)] at hf
      have h0 := (List.getElem?_eq_some_iff.mp hf).1
      have h1 : k - N.length = 0 := by
        have : ([e] : List KF).length = 1 := rfl
        omega
      rw [h1] at hf
      have : e = f := by simpa using hf
      subst this
      exact (List.perm_append_singleton e N).symm
theorem k_goL_len {M : List KF} {k : Nat} (hk : k < M.length) : (k_goL M k).length = M.length - 1 := by
  have h := (k_goL_perm (List.getElem?_eq_getElem hk)).length_eq
  rw [List.length_cons] at h
  omega
theorem k_goL_at {M : List KF} {k : Nat} (hk : k < M.length) (i : Nat) : (k_goL M k)[i]? = if i < M.length - 1 then (if i = k then M[M.length - 1]? else M[i]?) else none := by
  rcases List.eq_nil_or_concat M with rfl | ⟨N, e, hNe⟩
  · exact absurd hk (Nat.not_lt_zero _)
  · rw [List.concat_eq_append] at hNe
    subst hNe
    have h1 : (N ++ [e]).length - 1 = N.length := by rw [List.length_append]; show N.length + 1 - 1 = _; omega
    rw [k_goL_snoc, h1]
    by_cases hi : i < N.length
    · rw [if_pos hi, List.getElem?_append_right (Nat.le_refl _), Nat.sub_self, List.getElem?_append_left hi]
      by_cases hk : k < N.length
      · rw [if_pos hk, List.getElem?_set]
        by_cases hik : i = k
        · rw [if_pos hik.symm, if_pos hik, if_pos hk]; rfl
        · rw [if_neg (fun z => hik z.symm), if_neg hik]
      · rw [if_neg hk, if_neg (by omega)]
    · rw [if_neg hi]
      by_cases hk : k < N.length
      · rw [if_pos hk]; exact List.getElem?_eq_none (by rw [List.length_set]; omega)
      · rw [if_neg hk]; exact List.getElem?_eq_none (by omega)
def m_go (m : Nat) (M : List KF) (k : Nat) (I I' : q_I) : Prop := k_mw m (k_goL M k) I' ∧ (∀ j, j < 7 → I' (m + 18) (nI (7 * k + j)) = I (m + 18) (nI (7 * (M.length - 1) + j))) ∧ (∀ j, j < 2 ^ 31 → j < 7 * k ∨ 7 * k + 7 ≤ j → I' (m + 18) (nI j) = I (m + 18) (nI j)) ∧ I' (m + 19) (nI k) = I (m + 19) (nI (M.length - 1)) ∧ ∀ j, j < 2 ^ 31 → j ≠ k → I' (m + 19) (nI j) = I (m + 19) (nI j)
set_option maxHeartbeats 1000000 in
theorem c_Model_go {m k : Nat} {M : List KF} (hL : q_L 11 t_Model m T R) (hM : k_mw m M I) (hk : k < M.length) : q_Cv g M_Model_go [.ref m, .int (nI k)] (sz, T, I, R, J) 0 0 (fun h' => ∃ I' : q_I, h' = (sz, T, I', R, J) ∧ m_wk m I I' ∧ m_go m M k I I') := by
  have hn := hM.1
  have h26 := hM.2.1
  obtain ⟨n, hn2⟩ : ∃ n, M.length = n + 1 := ⟨M.length - 1, by omega⟩
  rw [hn2] at hn
  have t18 := (hL.2 23 _ _ _ rfl).2
  refine q_C.of (ls0 := [some (.ref m), some (.int (nI k))]) (by decide) rfl (by decide) (Nat.le_of_ble_eq_true rfl) rfl ?_
  refine q_aload_n d_Model_go_0 rfl rfl ?_
  refine q_dup d_Model_go_1 rfl ?_
  refine q_getI (ci := 11) (fk := 18) d_Model_go_2 rfl (Nat.le_of_ble_eq_true rfl) w_1122 (fun _ _ => rfl) hL.1 ?_
  rw [hn]
  refine q_iconst (v := nI 1) d_Model_go_5 (by decide) ?_
  refine q_isub d_Model_go_6 ?_
  rw [nI_sb n 1]
  have e18 : ∀ (I2 : q_I), (∀ i, I2 m i = q_upI I m (nI 18) (nI n) m i) → I2 m (nI 18) = nI n := fun I2 h => by rw [h, q_upI_self]
  refine q_putI (ci := 11) (fk := 18) d_Model_go_7 rfl (Nat.le_of_ble_eq_true rfl) w_1122 (Or.inl rfl) (fun _ _ => rfl) rfl rfl hL.1 ?_
  refine q_aload_n d_Model_go_10 rfl rfl ?_
  refine q_getR (ci := 11) (fk := 19) d_Model_go_11 rfl (Nat.le_of_ble_eq_true rfl) w_1123 (fun _ _ => rfl) hL.1 (hL.2 19 _ _ _ rfl).1 ?_
  refine q_iload_n d_Model_go_14 rfl rfl ?_
  refine q_aload_n d_Model_go_15 rfl rfl ?_
  refine q_getR (ci := 11) (fk := 19) d_Model_go_16 rfl (Nat.le_of_ble_eq_true rfl) w_1123 (fun _ _ => rfl) hL.1 (hL.2 19 _ _ _ rfl).1 ?_
  refine q_aload_n d_Model_go_19 rfl rfl ?_
  refine q_getI (ci := 11) (fk := 18) d_Model_go_20 rfl (Nat.le_of_ble_eq_true rfl) w_1122 (fun _ _ => rfl) hL.1 ?_
  simp (disch := omega) only [q_upI_nea, q_upI_self, q_upI_nk]
  refine q_iald d_Model_go_23 (hL.2 19 _ _ _ rfl).2 (by first | assumption | exact vp_in_nI (by omega) (by omega)) ?_
  refine q_iast d_Model_go_24 (hL.2 19 _ _ _ rfl).2 (by first | assumption | exact vp_in_nI (by omega) (by omega)) ?_
  refine q_aload_n d_Model_go_25 rfl rfl ?_
  refine q_getR (ci := 11) (fk := 20) d_Model_go_26 rfl (Nat.le_of_ble_eq_true rfl) w_1124 (fun _ _ => rfl) hL.1 (hL.2 20 _ _ _ rfl).1 ?_
  refine q_iload_n d_Model_go_29 rfl rfl ?_
  refine q_aload_n d_Model_go_30 rfl rfl ?_
  refine q_getR (ci := 11) (fk := 20) d_Model_go_31 rfl (Nat.le_of_ble_eq_true rfl) w_1124 (fun _ _ => rfl) hL.1 (hL.2 20 _ _ _ rfl).1 ?_
  refine q_aload_n d_Model_go_34 rfl rfl ?_
  refine q_getI (ci := 11) (fk := 18) d_Model_go_35 rfl (Nat.le_of_ble_eq_true rfl) w_1122 (fun _ _ => rfl) hL.1 ?_
  simp (disch := omega) only [q_upI_nea, q_upI_self, q_upI_nk]
  refine q_iald d_Model_go_38 (hL.2 20 _ _ _ rfl).2 (by first | assumption | exact vp_in_nI (by omega) (by omega)) ?_
  refine q_iast d_Model_go_39 (hL.2 20 _ _ _ rfl).2 (by first | assumption | exact vp_in_nI (by omega) (by omega)) ?_
  refine q_aload_n d_Model_go_40 rfl rfl ?_
  refine q_getR (ci := 11) (fk := 21) d_Model_go_41 rfl (Nat.le_of_ble_eq_true rfl) w_1125 (fun _ _ => rfl) hL.1 (hL.2 21 _ _ _ rfl).1 ?_
  refine q_iload_n d_Model_go_44 rfl rfl ?_
  refine q_aload_n d_Model_go_45 rfl rfl ?_
  refine q_getR (ci := 11) (fk := 21) d_Model_go_46 rfl (Nat.le_of_ble_eq_true rfl) w_1125 (fun _ _ => rfl) hL.1 (hL.2 21 _ _ _ rfl).1 ?_
  refine q_aload_n d_Model_go_49 rfl rfl ?_
  refine q_getI (ci := 11) (fk := 18) d_Model_go_50 rfl (Nat.le_of_ble_eq_true rfl) w_1122 (fun _ _ => rfl) hL.1 ?_
  simp (disch := omega) only [q_upI_nea, q_upI_self, q_upI_nk]
  refine q_iald d_Model_go_53 (hL.2 21 _ _ _ rfl).2 (by first | assumption | exact vp_in_nI (by omega) (by omega)) ?_
  refine q_iast d_Model_go_54 (hL.2 21 _ _ _ rfl).2 (by first | assumption | exact vp_in_nI (by omega) (by omega)) ?_
  refine q_aload_n d_Model_go_55 rfl rfl ?_
  refine q_getR (ci := 11) (fk := 22) d_Model_go_56 rfl (Nat.le_of_ble_eq_true rfl) w_1126 (fun _ _ => rfl) hL.1 (hL.2 22 _ _ _ rfl).1 ?_
  refine q_iload_n d_Model_go_59 rfl rfl ?_
  refine q_aload_n d_Model_go_60 rfl rfl ?_
  refine q_getR (ci := 11) (fk := 22) d_Model_go_61 rfl (Nat.le_of_ble_eq_true rfl) w_1126 (fun _ _ => rfl) hL.1 (hL.2 22 _ _ _ rfl).1 ?_
  refine q_aload_n d_Model_go_64 rfl rfl ?_
  refine q_getI (ci := 11) (fk := 18) d_Model_go_65 rfl (Nat.le_of_ble_eq_true rfl) w_1122 (fun _ _ => rfl) hL.1 ?_
  simp (disch := omega) only [q_upI_nea, q_upI_self, q_upI_nk]
  refine q_iald d_Model_go_68 (hL.2 22 _ _ _ rfl).2 (by first | assumption | exact vp_in_nI (by omega) (by omega)) ?_
  refine q_iast d_Model_go_69 (hL.2 22 _ _ _ rfl).2 (by first | assumption | exact vp_in_nI (by omega) (by omega)) ?_
  refine q_aload_n d_Model_go_70 rfl rfl ?_
  refine q_getR (ci := 11) (fk := 24) d_Model_go_71 rfl (Nat.le_of_ble_eq_true rfl) w_1128 (fun _ _ => rfl) hL.1 (hL.2 24 _ _ _ rfl).1 ?_
  refine q_iload_n d_Model_go_74 rfl rfl ?_
  refine q_aload_n d_Model_go_75 rfl rfl ?_
  refine q_getR (ci := 11) (fk := 24) d_Model_go_76 rfl (Nat.le_of_ble_eq_true rfl) w_1128 (fun _ _ => rfl) hL.1 (hL.2 24 _ _ _ rfl).1 ?_
  refine q_aload_n d_Model_go_79 rfl rfl ?_
  refine q_getI (ci := 11) (fk := 18) d_Model_go_80 rfl (Nat.le_of_ble_eq_true rfl) w_1122 (fun _ _ => rfl) hL.1 ?_
  simp (disch := omega) only [q_upI_nea, q_upI_self, q_upI_nk]
  refine q_iald d_Model_go_83 (hL.2 24 _ _ _ rfl).2 (by first | assumption | exact vp_in_nI (by omega) (by omega)) ?_
  refine q_iast d_Model_go_84 (hL.2 24 _ _ _ rfl).2 (by first | assumption | exact vp_in_nI (by omega) (by omega)) ?_
  refine q_aload_n d_Model_go_85 rfl rfl ?_
  refine q_getR (ci := 11) (fk := 23) d_Model_go_86 rfl (Nat.le_of_ble_eq_true rfl) w_1127 (fun _ _ => rfl) hL.1 (hL.2 23 _ _ _ rfl).1 ?_
  refine q_bipush (v := nI 7) d_Model_go_89 (by decide) ?_
  refine q_aload_n d_Model_go_91 rfl rfl ?_
  refine q_getI (ci := 11) (fk := 18) d_Model_go_92 rfl (Nat.le_of_ble_eq_true rfl) w_1122 (fun _ _ => rfl) hL.1 ?_
  simp (disch := omega) only [q_upI_nea, q_upI_self, q_upI_nk]
  first | refine q_imulN d_Model_go_95 ?_ | refine q_imul d_Model_go_95 ?_
  refine q_aload_n d_Model_go_96 rfl rfl ?_
  refine q_getR (ci := 11) (fk := 23) d_Model_go_97 rfl (Nat.le_of_ble_eq_true rfl) w_1127 (fun _ _ => rfl) hL.1 (hL.2 23 _ _ _ rfl).1 ?_
  refine q_bipush (v := nI 7) d_Model_go_100 (by decide) ?_
  refine q_iload_n d_Model_go_102 rfl rfl ?_
  first | refine q_imulN d_Model_go_103 ?_ | refine q_imul d_Model_go_103 ?_
  refine q_callSv (M2 := M_Model_copyRow) d_Model_go_104 ⟨(Nat.le_of_ble_eq_true rfl), (Nat.le_of_ble_eq_true rfl), w_1321, w_10, ⟨by decide, by decide⟩, show _ = some 4 by decide +kernel⟩ w_1319 w_1320 rfl (Nat.le_of_ble_eq_true rfl) (by omega) (by omega) (c_Model_copyRow t18 t18 (by decide) (by decide) (by omega) (by omega) (by omega)) ?_
  rintro _ ⟨I', rfl, c1, c2, c3⟩
  refine q_vret d_Model_go_107 rfl (by omega) (by omega) ?_
  have f : ∀ b, b ≠ m + 18 → b ≠ m → b < m + 14 ∨ m + 20 ≤ b → I' b = I b := fun b h1 h2 h3 => by
    rw [c1 b h1]; funext i
    rw [q_upI_nea (by omega), q_upI_nea (by omega), q_upI_nea (by omega), q_upI_nea (by omega), q_upI_nea (by omega), q_upI_nea (by omega)]
  have fa : ∀ j, 14 ≤ j → j ≤ 17 → ∀ i, i < 26 → I' (m + j) (nI i) = if i = k then I (m + j) (nI n) else I (m + j) (nI i) := by
    intro j j1 j2 i hi
    rw [c1 (m + j) (by omega)]
    rcases (by omega : j = 14 ∨ j = 15 ∨ j = 16 ∨ j = 17) with rfl | rfl | rfl | rfl <;> by_cases hik : i = k
    · rw [if_pos hik, hik]
      simp (disch := omega) only [q_upI_nea, q_upI_self, q_upI_nk]
    · rw [if_neg hik]
      simp (disch := omega) only [q_upI_nea, q_upI_self, q_upI_nk]
    · rw [if_pos hik, hik]
      simp (disch := omega) only [q_upI_nea, q_upI_self, q_upI_nk]
    · rw [if_neg hik]
      simp (disch := omega) only [q_upI_nea, q_upI_self, q_upI_nk]
    · rw [if_pos hik, hik]
      simp (disch := omega) only [q_upI_nea, q_upI_self, q_upI_nk]
    · rw [if_neg hik]
      simp (disch := omega) only [q_upI_nea, q_upI_self, q_upI_nk]
    · rw [if_pos hik, hik]
      simp (disch := omega) only [q_upI_nea, q_upI_self, q_upI_nk]
    · rw [if_neg hik]
      simp (disch := omega) only [q_upI_nea, q_upI_self, q_upI_nk]
  refine ⟨rfl, I', rfl, ⟨fun b h1 h2 => f b (by omega) h1 h2, fun i hi => ?_⟩, ⟨?_, ?_, fun i e he => ?_⟩, fun j hj => ?_, fun j hj h3 => ?_, ?_, fun j hj h3 => ?_⟩
  · rw [c1 m (by omega), q_upI_nea (by omega), q_upI_nea (by omega), q_upI_nea (by omega), q_upI_nea (by omega), q_upI_nea (by omega), q_upI_nei hi]
  · rw [c1 m (by omega), q_upI_nea (by omega), q_upI_nea (by omega), q_upI_nea (by omega), q_upI_nea (by omega), q_upI_nea (by omega), q_upI_self, k_goL_len hk, hn2, Nat.add_sub_cancel]
  · rw [k_goL_len hk]; omega
  · rw [k_goL_at hk, hn2, Nat.add_sub_cancel] at he
    by_cases hi : i < n
    · rw [if_pos hi] at he
      rw [fa 14 (by omega) (by omega) i (by omega), fa 15 (by omega) (by omega) i (by omega), fa 16 (by omega) (by omega) i (by omega), fa 17 (by omega) (by omega) i (by omega)]
      by_cases hik : i = k
      · rw [if_pos hik] at he
        rw [if_pos hik, if_pos hik, if_pos hik, if_pos hik]
        exact hM.2.2 n e he
      · rw [if_neg hik] at he
        rw [if_neg hik, if_neg hik, if_neg hik, if_neg hik]
        exact hM.2.2 i e he
    · rw [if_neg hi] at he; cases he
  · rw [hn2, Nat.add_sub_cancel, c2 j hj, q_upI_nea (by omega), q_upI_nea (by omega), q_upI_nea (by omega), q_upI_nea (by omega), q_upI_nea (by omega), q_upI_nea (by omega)]
  · rw [c3 j hj h3, q_upI_nea (by omega), q_upI_nea (by omega), q_upI_nea (by omega), q_upI_nea (by omega), q_upI_nea (by omega), q_upI_nea (by omega)]
  · rw [hn2, Nat.add_sub_cancel, c1 (m + 19) (by omega), q_upI_self]
  · rw [c1 (m + 19) (by omega), q_upI_nk (by omega), q_upI_nea (by omega), q_upI_nea (by omega), q_upI_nea (by omega), q_upI_nea (by omega), q_upI_nea (by omega)]
/-- a version's fields, as the reference keeps them -/
def m_vl (m v : Nat) (L : List KF) (I : q_I) : Prop := I (m + 1) (nI v) = nI L.length ∧ ∀ i f, L[i]? = some f → I (m + 2) (nI (24 * v + i)) = nI (k_path f.1) ∧ I (m + 3) (nI (24 * v + i)) = f.2.1 ∧ I (m + 4) (nI (24 * v + i)) = f.2.2.1 ∧ I (m + 5) (nI (24 * v + i)) = f.2.2.2.1
theorem m_vl.cong {m v : Nat} {L : List KF} {I2 : q_I} (h : m_vl m v L I) (hI : ∀ j, 1 ≤ j → j ≤ 5 → I2 (m + j) = I (m + j)) : m_vl m v L I2 := by
  unfold m_vl
  rw [hI 1 (by omega) (by omega), hI 2 (by omega) (by omega), hI 3 (by omega) (by omega), hI 4 (by omega) (by omega), hI 5 (by omega) (by omega)]
  exact h
theorem c_Model_take0 {m v : Nat} {L : List KF} (hL : q_L 11 t_Model m T R) (hV : m_vl m v L I) (hv : v < 8) (h24 : L.length ≤ 24) (hmd : I m (nI 27) ≠ nI 2) : q_Cv g M_Model_take [.ref m, .int (nI v)] (sz, T, I, R, J) 0 0 (fun h' => ∃ I' : q_I, h' = (sz, T, I', R, J) ∧ m_wk m I I' ∧ k_mw m L I' ∧ ∀ i f, L[i]? = some f → k_rw (I' (m + 18)) (7 * i) (k_dfl f.2.1 f.2.2.1 f.2.2.2.1)) := by
  have loop : ∀ (j i : Nat) (I2 : q_I) (mcc msc : Nat), mcc = 0 → msc = 0 → i + j = L.length → m_wk m I I2 → k_mw m (L.take i) I2 → (∀ q f, (L.take i)[q]? = some f → k_rw (I2 (m + 18)) (7 * q) (k_dfl f.2.1 f.2.2.1 f.2.2.2.1)) → q_V g M_Model_take 0 0 mcc msc (sz, T, I2, R, J) (fun o h' => o = .inl none ∧ ∃ I' : q_I, h' = (sz, T, I', R, J) ∧ m_wk m I I' ∧ k_mw m L I' ∧ ∀ i f, L[i]? = some f → k_rw (I' (m + 18)) (7 * i) (k_dfl f.2.1 f.2.2.1 f.2.2.2.1)) 7 [some (.ref m), some (.int (nI v)), some (.int (nI i))] [] := by
    intro j
    induction j with
    | zero =>
      intro i I2 mcc msc hm1 hm2 hij w1 w2 w3
      subst hm1 hm2
      have hV2 := hV.cong (fun j h1 h2 => w1.1 (m + j) (by omega) (by omega))
      rw [show L.take i = L from List.take_of_length_le (by omega)] at w2 w3
      refine q_iload_n d_Model_take_7 rfl rfl ?_
      refine q_aload_n d_Model_take_8 rfl rfl ?_
      refine q_getR (ci := 11) (fk := 2) d_Model_take_9 rfl (Nat.le_of_ble_eq_true rfl) w_1106 (fun _ _ => rfl) hL.1 (hL.2 2 _ _ _ rfl).1 ?_
      refine q_iload_n d_Model_take_12 rfl rfl ?_
      refine q_iald d_Model_take_13 (hL.2 2 _ _ _ rfl).2 (by first | assumption | exact vp_in_nI (by omega) (by omega)) ?_
      rw [hV2.1]
      refine q_icmp_ge (tgt := 72) d_Model_take_14 rfl (fun hc => ?_) (fun hc => ?_)
      · refine q_vret d_Model_take_72 rfl (by omega) (by omega) ?_
        exact ⟨rfl, I2, rfl, w1, w2, w3⟩
      · exact absurd (by rw [nI_leI (by omega) (by omega)]; omega) hc
    | succ j ih =>
      intro i I2 mcc msc hm1 hm2 hij w1 w2 w3
      subst hm1 hm2
      have hV2 := hV.cong (fun j h1 h2 => w1.1 (m + j) (by omega) (by omega))
      have hi : i < L.length := by omega
      have hf : L[i]? = some L[i] := List.getElem?_eq_getElem hi
      obtain ⟨f, hf2⟩ : ∃ f, f = L[i] := ⟨_, rfl⟩
      rw [← hf2] at hf
      obtain ⟨v1, v2, v3, v4⟩ := hV2.2 i f hf
      have hlen : (L.take i).length = i := by rw [List.length_take]; omega
      refine q_iload_n d_Model_take_7 rfl rfl ?_
      refine q_aload_n d_Model_take_8 rfl rfl ?_
      refine q_getR (ci := 11) (fk := 2) d_Model_take_9 rfl (Nat.le_of_ble_eq_true rfl) w_1106 (fun _ _ => rfl) hL.1 (hL.2 2 _ _ _ rfl).1 ?_
      refine q_iload_n d_Model_take_12 rfl rfl ?_
      refine q_iald d_Model_take_13 (hL.2 2 _ _ _ rfl).2 (by first | assumption | exact vp_in_nI (by omega) (by omega)) ?_
      rw [hV2.1]
      refine q_icmp_ge (tgt := 72) d_Model_take_14 rfl (fun hc => ?_) (fun hc => ?_)
      · rw [nI_leI (by omega) (by omega)] at hc
        omega
      · refine q_aload_n d_Model_take_17 rfl rfl ?_
        refine q_aload_n d_Model_take_18 rfl rfl ?_
        refine q_getR (ci := 11) (fk := 3) d_Model_take_19 rfl (Nat.le_of_ble_eq_true rfl) w_1107 (fun _ _ => rfl) hL.1 (hL.2 3 _ _ _ rfl).1 ?_
        refine q_bipush (v := nI 24) d_Model_take_22 (by decide) ?_
        refine q_iload_n d_Model_take_24 rfl rfl ?_
        first | refine q_imulN d_Model_take_25 ?_ | refine q_imul d_Model_take_25 ?_
        refine q_iload_n d_Model_take_26 rfl rfl ?_
        first | refine q_iaddN d_Model_take_27 ?_ | refine q_iadd d_Model_take_27 ?_
        refine q_iald d_Model_take_28 (hL.2 3 _ _ _ rfl).2 (by first | assumption | exact vp_in_nI (by omega) (by omega)) ?_
        rw [v1]
        refine q_aload_n d_Model_take_29 rfl rfl ?_
        refine q_getR (ci := 11) (fk := 4) d_Model_take_30 rfl (Nat.le_of_ble_eq_true rfl) w_1108 (fun _ _ => rfl) hL.1 (hL.2 4 _ _ _ rfl).1 ?_
        refine q_bipush (v := nI 24) d_Model_take_33 (by decide) ?_
        refine q_iload_n d_Model_take_35 rfl rfl ?_
        first | refine q_imulN d_Model_take_36 ?_ | refine q_imul d_Model_take_36 ?_
        refine q_iload_n d_Model_take_37 rfl rfl ?_
        first | refine q_iaddN d_Model_take_38 ?_ | refine q_iadd d_Model_take_38 ?_
        refine q_iald d_Model_take_39 (hL.2 4 _ _ _ rfl).2 (by first | assumption | exact vp_in_nI (by omega) (by omega)) ?_
        rw [v2]
        refine q_aload_n d_Model_take_40 rfl rfl ?_
        refine q_getR (ci := 11) (fk := 5) d_Model_take_41 rfl (Nat.le_of_ble_eq_true rfl) w_1109 (fun _ _ => rfl) hL.1 (hL.2 5 _ _ _ rfl).1 ?_
        refine q_bipush (v := nI 24) d_Model_take_44 (by decide) ?_
        refine q_iload_n d_Model_take_46 rfl rfl ?_
        first | refine q_imulN d_Model_take_47 ?_ | refine q_imul d_Model_take_47 ?_
        refine q_iload_n d_Model_take_48 rfl rfl ?_
        first | refine q_iaddN d_Model_take_49 ?_ | refine q_iadd d_Model_take_49 ?_
        refine q_iald d_Model_take_50 (hL.2 5 _ _ _ rfl).2 (by first | assumption | exact vp_in_nI (by omega) (by omega)) ?_
        rw [v3]
        refine q_aload_n d_Model_take_51 rfl rfl ?_
        refine q_getR (ci := 11) (fk := 6) d_Model_take_52 rfl (Nat.le_of_ble_eq_true rfl) w_1110 (fun _ _ => rfl) hL.1 (hL.2 6 _ _ _ rfl).1 ?_
        refine q_bipush (v := nI 24) d_Model_take_55 (by decide) ?_
        refine q_iload_n d_Model_take_57 rfl rfl ?_
        first | refine q_imulN d_Model_take_58 ?_ | refine q_imul d_Model_take_58 ?_
        refine q_iload_n d_Model_take_59 rfl rfl ?_
        first | refine q_iaddN d_Model_take_60 ?_ | refine q_iadd d_Model_take_60 ?_
        refine q_iald d_Model_take_61 (hL.2 6 _ _ _ rfl).2 (by first | assumption | exact vp_in_nI (by omega) (by omega)) ?_
        rw [v4]
        refine q_callVi (M2 := M_Model_come) d_Model_take_62 ⟨(Nat.le_of_ble_eq_true rfl), (Nat.le_of_ble_eq_true rfl), w_1237, w_10, ⟨by decide, by decide⟩, show _ = some 4 by decide +kernel⟩ w_1234 w_1236 (ci := 11) rfl s_48 hL.1 rfl (Nat.le_of_ble_eq_true rfl) (by omega) (by omega) (c_Model_come0 hL w2 (by omega) (by rw [w1.2 _ (fun z => absurd (q_nI_inj z) (by decide))]; exact hmd) f) ?_
        rintro _ _ ⟨rfl, I3, rfl, u1, u2, u3, u4, u5⟩
        refine q_pop d_Model_take_65 rfl ?_
        first | refine q_iincN d_Model_take_66 rfl (Nat.le_of_ble_eq_true rfl) (by first | exact q_ok0 | exact q_okI rfl | exact q_okR rfl | exact q_okN rfl) rfl ?_ | refine q_iinc d_Model_take_66 rfl rfl (Nat.le_of_ble_eq_true rfl) (by first | exact q_ok0 | exact q_okI rfl | exact q_okR rfl | exact q_okN rfl) rfl ?_
        refine q_goto (tgt := 7) d_Model_take_69 rfl ?_
        have ht : L.take i ++ [f] = L.take (i + 1) := by rw [List.take_add_one, hf]; rfl
        rw [ht] at u2
        rw [hlen] at u3 u4
        refine ih (i + 1) I3 _ _ rfl rfl (by omega) (w1.trans u1) u2 (fun q e he => ?_)
        by_cases hq : q < i
        · rw [← ht, List.getElem?_append_left (by omega)] at he
          obtain ⟨r1, r2, r3⟩ := w3 q e he
          refine ⟨r1, ?_, fun z x hx => ?_⟩
          · rw [u4 _ (by omega)]; exact r2
          · have := (List.getElem?_eq_some_iff.mp hx).1
            rw [u4 _ (by omega)]; exact r3 z x hx
        · have hq2 : q = i := by
            have := (List.getElem?_eq_some_iff.mp he).1
            rw [List.length_take] at this
            omega
          subst hq2
          have : e = f := by
            rw [← ht, List.getElem?_append_right (by omega), hlen, Nat.sub_self] at he
            simpa using he.symm
          subst this
          exact u3
  refine q_C.of (ls0 := [some (.ref m), some (.int (nI v)), none]) (by decide) rfl (by decide) (Nat.le_of_ble_eq_true rfl) rfl ?_
  refine q_aload_n d_Model_take_0 rfl rfl ?_
  refine q_iconst (v := nI 0) d_Model_take_1 (by decide) ?_
  refine q_putI (ci := 11) (fk := 18) d_Model_take_2 rfl (Nat.le_of_ble_eq_true rfl) w_1122 (Or.inl rfl) (fun _ _ => rfl) rfl rfl hL.1 ?_
  refine q_iconst (v := nI 0) d_Model_take_5 (by decide) ?_
  refine q_istore_n d_Model_take_6 rfl (Nat.le_of_ble_eq_true rfl) (by first | exact q_ok0 | exact q_okI rfl | exact q_okR rfl | exact q_okN rfl) rfl ?_
  refine loop L.length 0 _ _ _ rfl rfl (by omega) ⟨fun b h1 h2 => ?_, fun i hi => q_upI_nei hi⟩ ⟨by rw [q_upI_self]; rfl, by show 0 ≤ 26; omega, fun i e he => by cases he⟩ (fun q f hq => by cases hq)
  funext i
  rw [q_upI_nea h1]
end MGo
