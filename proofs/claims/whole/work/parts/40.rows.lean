/-! rows, on: all of them, and the reference's -/
section RowsC
variable {g : q_G} {sz : Nat} {T : q_T} {I : q_I} {R : q_R} {J : q_J}
def k_ag (u v : Nat → List Int32) : Nat → Nat → Bool
  | _, 0 => true
  | i, j + 1 => decide (u i = v i) && k_ag u v (i + 1) j
theorem c_Cells_agree {c c2 N N2 n : Nat} (hL : q_L 1 (t_Cells N) c T R) (hL2 : q_L 1 (t_Cells N2) c2 T R) (hN : N < 2 ^ 31) (hN2 : N2 < 2 ^ 31) (hn : n * 7 ≤ N) (hn2 : n * 7 ≤ N2) {u v : Nat → List Int32} (hu : ∀ i, i < n → k_rw (I (c + 1)) (i * 7) (u i)) (hv : ∀ i, i < n → k_rw (I (c2 + 1)) (i * 7) (v i)) :
    q_Ci g M_Cells_agree [.ref c, .ref c2, .int (nI n)] (sz, T, I, R, J) 0 0 (fun r h' => r = p_b (k_ag u v 0 n) ∧ h' = (sz, T, I, R, J)) := by
  refine q_C.of (ls0 := [some (.ref c), some (.ref c2), some (.int (nI n)), none]) (by decide) rfl (by decide) (Nat.le_of_ble_eq_true rfl) rfl ?_
  have loop : ∀ (j i mcc msc : Nat), mcc = 0 → msc = 0 → i + j = n → q_V g M_Cells_agree 0 0 mcc msc (sz, T, I, R, J) (fun o h' => ∃ r : Int32, o = .inl (some (.int r)) ∧ (r = p_b (k_ag u v i j) ∧ h' = (sz, T, I, R, J))) 2 [some (.ref c), some (.ref c2), some (.int (nI n)), some (.int (nI i))] [] := by
    intro j
    induction j with
    | zero =>
      intro i mcc msc e1 e2 hij
      subst e1; subst e2
      refine q_iload_n d_Cells_agree_2 rfl rfl ?_
      refine q_iload_n d_Cells_agree_3 rfl rfl ?_
      refine q_icmp_ge (tgt := 25) d_Cells_agree_4 rfl (fun hc => ?_) (fun hc => ?_)
      · refine q_iconst (v := nI 1) d_Cells_agree_25 (by decide) ?_
        refine q_zret d_Cells_agree_26 rfl (by first | exact Or.inl rfl | exact Or.inr rfl | assumption) (by omega) (by omega) ?_
        exact ⟨_, rfl, rfl, rfl⟩
      · rw [nI_leI (by omega) (by omega)] at hc
        omega
    | succ j ih =>
      intro i mcc msc e1 e2 hij
      subst e1; subst e2
      refine q_iload_n d_Cells_agree_2 rfl rfl ?_
      refine q_iload_n d_Cells_agree_3 rfl rfl ?_
      refine q_icmp_ge (tgt := 25) d_Cells_agree_4 rfl (fun hc => ?_) (fun hc => ?_)
      · rw [nI_leI (by omega) (by omega)] at hc
        omega
      · refine q_aload_n d_Cells_agree_7 rfl rfl ?_
        refine q_iload_n d_Cells_agree_8 rfl rfl ?_
        refine q_aload_n d_Cells_agree_9 rfl rfl ?_
        refine q_iload_n d_Cells_agree_10 rfl rfl ?_
        refine q_callVi (M2 := M_Cells_matches) d_Cells_agree_11 ⟨(Nat.le_of_ble_eq_true rfl), (Nat.le_of_ble_eq_true rfl), w_864, w_7, ⟨by decide, by decide⟩, show _ = some 3 by decide +kernel⟩ w_861 w_862 (ci := 1) rfl w_863 hL.1 rfl (Nat.le_of_ble_eq_true rfl) (by omega) (by omega) (c_Cells_matches hL hL2 hN hN2 (by omega) (by omega) (hu i (by omega)) (hv i (by omega))) ?_
        rintro _ _ ⟨rfl, rfl⟩
        rw [k_ag]
        by_cases he : u i = v i
        · rw [decide_eq_true he, Bool.true_and]
          refine q_if_ne (tgt := 19) d_Cells_agree_14 rfl (fun hc => ?_) (fun hc => ?_)
          · first | refine q_iincN d_Cells_agree_19 rfl (Nat.le_of_ble_eq_true rfl) (by first | exact q_ok0 | exact q_okI rfl | exact q_okR rfl | exact q_okN rfl) rfl ?_ | refine q_iinc d_Cells_agree_19 rfl rfl (Nat.le_of_ble_eq_true rfl) (by first | exact q_ok0 | exact q_okI rfl | exact q_okR rfl | exact q_okN rfl) rfl ?_
            refine q_goto (tgt := 2) d_Cells_agree_22 rfl ?_
            exact ih (i + 1) _ _ rfl rfl (by omega)
          · exact absurd hc (by decide)
        · rw [decide_eq_false he, Bool.false_and]
          refine q_if_ne (tgt := 19) d_Cells_agree_14 rfl (fun hc => ?_) (fun hc => ?_)
          · exact absurd rfl hc
          · refine q_iconst (v := nI 0) d_Cells_agree_17 (by decide) ?_
            refine q_zret d_Cells_agree_18 rfl (by first | exact Or.inl rfl | exact Or.inr rfl | assumption) (by omega) (by omega) ?_
            exact ⟨_, rfl, rfl, rfl⟩
  refine q_iconst (v := nI 0) d_Cells_agree_0 (by decide) ?_
  refine q_istore_n d_Cells_agree_1 rfl (Nat.le_of_ble_eq_true rfl) (by first | exact q_ok0 | exact q_okI rfl | exact q_okR rfl | exact q_okN rfl) rfl ?_
  exact loop n 0 _ _ rfl rfl (by omega)
theorem k_ag_iff {u v : Nat → List Int32} : ∀ (j i : Nat), k_ag u v i j = true ↔ ∀ q, i ≤ q → q < i + j → u q = v q
  | 0, i => by
    constructor
    · intro _ q h1 h2; omega
    · intro _; rfl
  | j + 1, i => by
    rw [k_ag, Bool.and_eq_true, decide_eq_true_iff, k_ag_iff j (i + 1)]
    constructor
    · rintro ⟨h1, h2⟩ q h3 h4
      by_cases h : q = i
      · rw [h]; exact h1
      · exact h2 q (by omega) (by omega)
    · intro h
      exact ⟨h i (by omega) (by omega), fun q h1 h2 => h q (by omega) (by omega)⟩
/-- seven numbers go from one place to another -/
def k_cp (I : q_I) (a at0 a2 pl : Nat) (I' : q_I) : Prop := (∀ b, b ≠ a2 → I' b = I b) ∧ (∀ j, j < 7 → I' a2 (nI (pl + j)) = I a (nI (at0 + j))) ∧ ∀ j, j < 2 ^ 31 → j < pl ∨ pl + 7 ≤ j → I' a2 (nI j) = I a2 (nI j)
theorem k_cp.rw {a at0 a2 pl : Nat} {I' : q_I} (h : k_cp I a at0 a2 pl I') {v : List Int32} (hv : k_rw (I a) at0 v) : k_rw (I' a2) pl v := by
  obtain ⟨h1, h2, h3⟩ := hv
  refine ⟨h1, ?_, fun i x hx => ?_⟩
  · have := h.2.1 0 (by omega)
    rw [Nat.add_zero, Nat.add_zero] at this
    rw [this]; exact h2
  · have hi := (List.getElem?_eq_some_iff.mp hx).1
    have := h.2.1 (1 + i) (by omega)
    rw [← Nat.add_assoc, ← Nat.add_assoc] at this
    rw [this]; exact h3 i x hx
theorem c_Model_copyRow {a a2 Na N2 at0 pl : Nat} (ha : T a = some (0, Na)) (ha2 : T a2 = some (0, N2)) (hNa : Na < 2 ^ 31) (hN2 : N2 < 2 ^ 31) (h1 : at0 + 7 ≤ Na) (h2 : pl + 7 ≤ N2) (hd : a ≠ a2 ∨ at0 = pl ∨ at0 + 7 ≤ pl ∨ pl + 7 ≤ at0) :
    q_Cv g M_Model_copyRow [.ref a, .int (nI at0), .ref a2, .int (nI pl)] (sz, T, I, R, J) 0 0 (fun h' => ∃ I' : q_I, h' = (sz, T, I', R, J) ∧ k_cp I a at0 a2 pl I') := by
  refine q_C.of (ls0 := [some (.ref a), some (.int (nI at0)), some (.ref a2), some (.int (nI pl)), none]) (by decide) rfl (by decide) (Nat.le_of_ble_eq_true rfl) rfl ?_
  have loop : ∀ (j i : Nat) (Ii : q_I), i + j = 7 → (∀ b, b ≠ a2 → Ii b = I b) → (∀ q, q < i → Ii a2 (nI (pl + q)) = I a (nI (at0 + q))) → (∀ q, q < 2 ^ 31 → q < pl ∨ pl + i ≤ q → Ii a2 (nI q) = I a2 (nI q)) → q_V g M_Model_copyRow 0 0 0 0 (sz, T, Ii, R, J) (fun o h' => o = .inl none ∧ ∃ I' : q_I, h' = (sz, T, I', R, J) ∧ k_cp I a at0 a2 pl I') 3 [some (.ref a), some (.int (nI at0)), some (.ref a2), some (.int (nI pl)), some (.int (nI i))] [] := by
    intro j
    induction j with
    | zero =>
      intro i Ii hij p1 p2 p3
      obtain rfl : i = 7 := by omega
      refine q_iload d_Model_copyRow_3 rfl ?_
      refine q_bipush (v := nI 7) d_Model_copyRow_5 (by decide) ?_
      refine q_icmp_ge (tgt := 28) d_Model_copyRow_7 rfl (fun hc => ?_) (fun hc => ?_)
      · refine q_vret d_Model_copyRow_28 rfl (by omega) (by omega) ?_
        exact ⟨rfl, Ii, rfl, p1, p2, p3⟩
      · exact absurd (Int32.le_refl _) hc
    | succ j ih =>
      intro i Ii hij p1 p2 p3
      refine q_iload d_Model_copyRow_3 rfl ?_
      refine q_bipush (v := nI 7) d_Model_copyRow_5 (by decide) ?_
      refine q_icmp_ge (tgt := 28) d_Model_copyRow_7 rfl (fun hc => ?_) (fun hc => ?_)
      · rw [nI_leI (by omega) (by omega)] at hc
        omega
      · have hrd : Ii a (nI (at0 + i)) = I a (nI (at0 + i)) := by
          by_cases haa : a = a2
          · subst haa
            rcases hd with h | h | h
            · exact absurd rfl h
            · subst h
              exact p3 _ (by omega) (by omega)
            · exact p3 _ (by omega) (by omega)
          · rw [p1 a haa]
        refine q_aload_n d_Model_copyRow_10 rfl rfl ?_
        refine q_iload_n d_Model_copyRow_11 rfl rfl ?_
        refine q_iload d_Model_copyRow_12 rfl ?_
        first | refine q_iaddN d_Model_copyRow_14 ?_ | refine q_iadd d_Model_copyRow_14 ?_
        refine q_aload_n d_Model_copyRow_15 rfl rfl ?_
        refine q_iload_n d_Model_copyRow_16 rfl rfl ?_
        refine q_iload d_Model_copyRow_17 rfl ?_
        first | refine q_iaddN d_Model_copyRow_19 ?_ | refine q_iadd d_Model_copyRow_19 ?_
        refine q_iald d_Model_copyRow_20 (by first | assumption | rfl | (simp (disch := omega) only [q_upT_self, q_upT_ne, q_upR_self, q_upR_nea, q_upR_nk, q_upT_at, *]; done) | (simp (disch := omega) only [q_upT_self, q_upT_ne, q_upR_self, q_upR_nea, q_upR_nk, q_upT_at, *]; rfl)) (by first | assumption | exact vp_in_nI (by omega) (by omega)) ?_
        rw [hrd]
        refine q_iast d_Model_copyRow_21 (by first | assumption | rfl | (simp (disch := omega) only [q_upT_self, q_upT_ne, q_upR_self, q_upR_nea, q_upR_nk, q_upT_at, *]; done) | (simp (disch := omega) only [q_upT_self, q_upT_ne, q_upR_self, q_upR_nea, q_upR_nk, q_upT_at, *]; rfl)) (by first | assumption | exact vp_in_nI (by omega) (by omega)) ?_
        first | refine q_iincN d_Model_copyRow_22 rfl (Nat.le_of_ble_eq_true rfl) (by first | exact q_ok0 | exact q_okI rfl | exact q_okR rfl | exact q_okN rfl) rfl ?_ | refine q_iinc d_Model_copyRow_22 rfl rfl (Nat.le_of_ble_eq_true rfl) (by first | exact q_ok0 | exact q_okI rfl | exact q_okR rfl | exact q_okN rfl) rfl ?_
        refine q_goto (tgt := 3) d_Model_copyRow_25 rfl ?_
        refine ih (i + 1) _ (by omega) (fun b hb => ?_) (fun q hq => ?_) (fun q hq hq2 => ?_)
        · funext z
          rw [q_upI_nea hb, p1 b hb]
        · by_cases hqi : q = i
          · rw [hqi, q_upI_self]
          · rw [q_upI_nei (fun z => by have := (nI_eq (by omega) (by omega)).mp z; omega)]
            exact p2 q (by omega)
        · rw [q_upI_nei (fun z => by have := (nI_eq hq (by omega)).mp z; omega)]
          exact p3 q hq (by omega)
  refine q_iconst (v := nI 0) d_Model_copyRow_0 (by decide) ?_
  refine q_istore d_Model_copyRow_1 (Nat.le_of_ble_eq_true rfl) (by first | exact q_ok0 | exact q_okI rfl | exact q_okR rfl | exact q_okN rfl) rfl ?_
  exact loop 7 0 I (by omega) (fun b hb => rfl) (fun q hq => absurd hq (Nat.not_lt_zero _)) (fun q hq hq2 => rfl)
theorem c_Model_sameRow {a a2 Na N2 at0 pl : Nat} (ha : T a = some (0, Na)) (ha2 : T a2 = some (0, N2)) (hNa : Na < 2 ^ 31) (hN2 : N2 < 2 ^ 31) (h1 : at0 + 7 ≤ Na) (h2 : pl + 7 ≤ N2) {u v : List Int32} (hu : k_rw (I a) at0 u) (hv : k_rw (I a2) pl v) :
    q_Ci g M_Model_sameRow [.ref a, .int (nI at0), .ref a2, .int (nI pl)] (sz, T, I, R, J) 0 0 (fun r h' => r = p_b (decide (u = v)) ∧ h' = (sz, T, I, R, J)) := by
  have hu1 := hu.1
  have hv1 := hv.1
  refine q_C.of (ls0 := [some (.ref a), some (.int (nI at0)), some (.ref a2), some (.int (nI pl)), none, none]) (by decide) rfl (by decide) (Nat.le_of_ble_eq_true rfl) rfl ?_
  have out : ∀ (x5 : Option Value), q_V g M_Model_sameRow 0 0 0 0 (sz, T, I, R, J) (fun o h' => ∃ r : Int32, o = .inl (some (.int r)) ∧ (r = nI 0 ∧ h' = (sz, T, I, R, J))) 19 [some (.ref a), some (.int (nI at0)), some (.ref a2), some (.int (nI pl)), some (.int (nI 0)), x5] [] := by
    intro x5
    refine q_iload d_Model_sameRow_19 rfl ?_
    refine q_if_eq (tgt := 60) d_Model_sameRow_21 rfl (fun hc => ?_) (fun hc => ?_)
    · refine q_iload d_Model_sameRow_60 rfl ?_
      refine q_zret d_Model_sameRow_62 rfl (by first | exact Or.inl rfl | exact Or.inr rfl | assumption) (by omega) (by omega) ?_
      exact ⟨_, rfl, rfl, rfl⟩
    · exact absurd rfl hc
  have loop : u.length = v.length → ∀ (t t2 : List Int32) (i : Nat), u.drop i = t → v.drop i = t2 → i ≤ u.length → q_V g M_Model_sameRow 0 0 0 0 (sz, T, I, R, J) (fun o h' => ∃ r : Int32, o = .inl (some (.int r)) ∧ (r = p_b (decide (t = t2)) ∧ h' = (sz, T, I, R, J))) 19 [some (.ref a), some (.int (nI at0)), some (.ref a2), some (.int (nI pl)), some (.int (nI 1)), some (.int (nI (i + 1)))] [] := by
    intro hlen t
    induction t with
    | nil =>
      intro t2 i ht ht2 hi
      have e1 := k_drop0 ht
      have e : t2 = [] := by rw [← ht2]; exact List.drop_of_length_le (by omega)
      refine q_iload d_Model_sameRow_19 rfl ?_
      refine q_if_eq (tgt := 60) d_Model_sameRow_21 rfl (fun hc => ?_) (fun hc => ?_)
      · exact absurd hc (by decide)
      · refine q_iload d_Model_sameRow_24 rfl ?_
        refine q_aload_n d_Model_sameRow_26 rfl rfl ?_
        refine q_iload_n d_Model_sameRow_27 rfl rfl ?_
        refine q_iald d_Model_sameRow_28 (by first | assumption | rfl | (simp (disch := omega) only [q_upT_self, q_upT_ne, q_upR_self, q_upR_nea, q_upR_nk, q_upT_at, *]; done) | (simp (disch := omega) only [q_upT_self, q_upT_ne, q_upR_self, q_upR_nea, q_upR_nk, q_upT_at, *]; rfl)) (by first | assumption | exact vp_in_nI (by omega) (by omega)) ?_
        rw [hu.2.1]
        refine q_icmp_gt (tgt := 60) d_Model_sameRow_29 rfl (fun hc => ?_) (fun hc => ?_)
        · refine q_iload d_Model_sameRow_60 rfl ?_
          refine q_zret d_Model_sameRow_62 rfl (by first | exact Or.inl rfl | exact Or.inr rfl | assumption) (by omega) (by omega) ?_
          exact ⟨_, rfl, by rw [e]; rfl, rfl⟩
        · rw [nI_ltI (by omega) (by omega)] at hc
          omega
    | cons x t ih =>
      intro t2 i ht ht2 hi
      obtain ⟨e1, e2, e3⟩ := k_drop1 ht
      obtain ⟨y, w2, rfl⟩ : ∃ y w2, t2 = y :: w2 := ⟨_, _, by rw [← ht2]; exact List.drop_eq_getElem_cons (by omega)⟩
      obtain ⟨e4, e5, e6⟩ := k_drop1 ht2
      have r1 : I a (nI (at0 + (i + 1))) = x := by rw [show at0 + (i + 1) = at0 + 1 + i by omega]; exact hu.2.2 i x e2
      have r2 : I a2 (nI (pl + (i + 1))) = y := by rw [show pl + (i + 1) = pl + 1 + i by omega]; exact hv.2.2 i y e5
      refine q_iload d_Model_sameRow_19 rfl ?_
      refine q_if_eq (tgt := 60) d_Model_sameRow_21 rfl (fun hc => ?_) (fun hc => ?_)
      · exact absurd hc (by decide)
      · refine q_iload d_Model_sameRow_24 rfl ?_
        refine q_aload_n d_Model_sameRow_26 rfl rfl ?_
        refine q_iload_n d_Model_sameRow_27 rfl rfl ?_
        refine q_iald d_Model_sameRow_28 (by first | assumption | rfl | (simp (disch := omega) only [q_upT_self, q_upT_ne, q_upR_self, q_upR_nea, q_upR_nk, q_upT_at, *]; done) | (simp (disch := omega) only [q_upT_self, q_upT_ne, q_upR_self, q_upR_nea, q_upR_nk, q_upT_at, *]; rfl)) (by first | assumption | exact vp_in_nI (by omega) (by omega)) ?_
        rw [hu.2.1]
        refine q_icmp_gt (tgt := 60) d_Model_sameRow_29 rfl (fun hc => ?_) (fun hc => ?_)
        · rw [nI_ltI (by omega) (by omega)] at hc
          omega
        · refine q_aload_n d_Model_sameRow_32 rfl rfl ?_
          refine q_iload_n d_Model_sameRow_33 rfl rfl ?_
          refine q_iload d_Model_sameRow_34 rfl ?_
          first | refine q_iaddN d_Model_sameRow_36 ?_ | refine q_iadd d_Model_sameRow_36 ?_
          refine q_iald d_Model_sameRow_37 (by first | assumption | rfl | (simp (disch := omega) only [q_upT_self, q_upT_ne, q_upR_self, q_upR_nea, q_upR_nk, q_upT_at, *]; done) | (simp (disch := omega) only [q_upT_self, q_upT_ne, q_upR_self, q_upR_nea, q_upR_nk, q_upT_at, *]; rfl)) (by first | assumption | exact vp_in_nI (by omega) (by omega)) ?_
          rw [r1]
          refine q_aload_n d_Model_sameRow_38 rfl rfl ?_
          refine q_iload_n d_Model_sameRow_39 rfl rfl ?_
          refine q_iload d_Model_sameRow_40 rfl ?_
          first | refine q_iaddN d_Model_sameRow_42 ?_ | refine q_iadd d_Model_sameRow_42 ?_
          refine q_iald d_Model_sameRow_43 (by first | assumption | rfl | (simp (disch := omega) only [q_upT_self, q_upT_ne, q_upR_self, q_upR_nea, q_upR_nk, q_upT_at, *]; done) | (simp (disch := omega) only [q_upT_self, q_upT_ne, q_upR_self, q_upR_nea, q_upR_nk, q_upT_at, *]; rfl)) (by first | assumption | exact vp_in_nI (by omega) (by omega)) ?_
          rw [r2]
          refine q_icmp_ne (tgt := 51) d_Model_sameRow_44 rfl (fun hc => ?_) (fun hc => ?_)
          · have z2 : ¬ (x :: t = y :: w2) := fun q => hc (List.cons.inj q).1
            rw [decide_eq_false z2]
            refine q_iconst (v := nI 0) d_Model_sameRow_51 (by decide) ?_
            refine q_istore d_Model_sameRow_52 (Nat.le_of_ble_eq_true rfl) (by first | exact q_ok0 | exact q_okI rfl | exact q_okR rfl | exact q_okN rfl) rfl ?_
            first | refine q_iincN d_Model_sameRow_54 rfl (Nat.le_of_ble_eq_true rfl) (by first | exact q_ok0 | exact q_okI rfl | exact q_okR rfl | exact q_okN rfl) rfl ?_ | refine q_iinc d_Model_sameRow_54 rfl rfl (Nat.le_of_ble_eq_true rfl) (by first | exact q_ok0 | exact q_okI rfl | exact q_okR rfl | exact q_okN rfl) rfl ?_
            refine q_goto (tgt := 19) d_Model_sameRow_57 rfl ?_
            exact out _
          · refine q_iconst (v := nI 1) d_Model_sameRow_47 (by decide) ?_
            refine q_goto (tgt := 52) d_Model_sameRow_48 rfl ?_
            refine q_istore d_Model_sameRow_52 (Nat.le_of_ble_eq_true rfl) (by first | exact q_ok0 | exact q_okI rfl | exact q_okR rfl | exact q_okN rfl) rfl ?_
            first | refine q_iincN d_Model_sameRow_54 rfl (Nat.le_of_ble_eq_true rfl) (by first | exact q_ok0 | exact q_okI rfl | exact q_okR rfl | exact q_okN rfl) rfl ?_ | refine q_iinc d_Model_sameRow_54 rfl rfl (Nat.le_of_ble_eq_true rfl) (by first | exact q_ok0 | exact q_okI rfl | exact q_okR rfl | exact q_okN rfl) rfl ?_
            refine q_goto (tgt := 19) d_Model_sameRow_57 rfl ?_
            subst hc
            have ed : decide (x :: t = x :: w2) = decide (t = w2) := by simp
            rw [ed]
            exact ih w2 (i + 1) e3 e6 (by omega)
  refine q_aload_n d_Model_sameRow_0 rfl rfl ?_
  refine q_iload_n d_Model_sameRow_1 rfl rfl ?_
  refine q_iald d_Model_sameRow_2 (by first | assumption | rfl | (simp (disch := omega) only [q_upT_self, q_upT_ne, q_upR_self, q_upR_nea, q_upR_nk, q_upT_at, *]; done) | (simp (disch := omega) only [q_upT_self, q_upT_ne, q_upR_self, q_upR_nea, q_upR_nk, q_upT_at, *]; rfl)) (by first | assumption | exact vp_in_nI (by omega) (by omega)) ?_
  rw [hu.2.1]
  refine q_aload_n d_Model_sameRow_3 rfl rfl ?_
  refine q_iload_n d_Model_sameRow_4 rfl rfl ?_
  refine q_iald d_Model_sameRow_5 (by first | assumption | rfl | (simp (disch := omega) only [q_upT_self, q_upT_ne, q_upR_self, q_upR_nea, q_upR_nk, q_upT_at, *]; done) | (simp (disch := omega) only [q_upT_self, q_upT_ne, q_upR_self, q_upR_nea, q_upR_nk, q_upT_at, *]; rfl)) (by first | assumption | exact vp_in_nI (by omega) (by omega)) ?_
  rw [hv.2.1]
  refine q_icmp_ne (tgt := 13) d_Model_sameRow_6 rfl (fun hc => ?_) (fun hc => ?_)
  · have z2 : ¬ (u = v) := fun q => hc (by rw [q])
    rw [decide_eq_false z2]
    refine q_iconst (v := nI 0) d_Model_sameRow_13 (by decide) ?_
    refine q_istore d_Model_sameRow_14 (Nat.le_of_ble_eq_true rfl) (by first | exact q_ok0 | exact q_okI rfl | exact q_okR rfl | exact q_okN rfl) rfl ?_
    refine q_iconst (v := nI 1) d_Model_sameRow_16 (by decide) ?_
    refine q_istore d_Model_sameRow_17 (Nat.le_of_ble_eq_true rfl) (by first | exact q_ok0 | exact q_okI rfl | exact q_okR rfl | exact q_okN rfl) rfl ?_
    exact out _
  · have hlen := (nI_eq (by omega) (by omega)).mp hc
    refine q_iconst (v := nI 1) d_Model_sameRow_9 (by decide) ?_
    refine q_goto (tgt := 14) d_Model_sameRow_10 rfl ?_
    refine q_istore d_Model_sameRow_14 (Nat.le_of_ble_eq_true rfl) (by first | exact q_ok0 | exact q_okI rfl | exact q_okR rfl | exact q_okN rfl) rfl ?_
    refine q_iconst (v := nI 1) d_Model_sameRow_16 (by decide) ?_
    refine q_istore d_Model_sameRow_17 (Nat.le_of_ble_eq_true rfl) (by first | exact q_ok0 | exact q_okI rfl | exact q_okR rfl | exact q_okN rfl) rfl ?_
    exact loop hlen u v 0 rfl rfl (by omega)
end RowsC
