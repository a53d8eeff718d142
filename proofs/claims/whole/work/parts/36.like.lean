/-! a schema of the class becomes like another -/
section SchemaK
variable {g : q_G} {sz : Nat} {T : q_T} {I : q_I} {R : q_R} {J : q_J}
theorem c_Field_makeLike {a b : Nat} {f : KF} (ha : T a = some (103, 0)) (hb : T b = some (103, 0)) (hba : b ≠ a) (hf : k_fd I b f) : q_Cv g M_Field_makeLike [.ref a, .ref b] (sz, T, I, R, J) 0 0 (fun h' => ∃ I' : q_I, h' = (sz, T, I', R, J) ∧ (∀ c, c ≠ a → I' c = I c) ∧ k_fd I' a f) := by
  have hL : q_L 3 [] a T R := ⟨ha, fun fk off kd n z => nomatch z⟩
  refine q_C.of (ls0 := [some (.ref a), some (.ref b)]) (by decide) rfl (by decide) (Nat.le_of_ble_eq_true rfl) rfl ?_
  refine q_aload_n d_Field_makeLike_0 rfl rfl ?_
  refine q_aload_n d_Field_makeLike_1 rfl rfl ?_
  refine q_getI (ci := 3) (fk := 0) d_Field_makeLike_2 rfl (Nat.le_of_ble_eq_true rfl) w_54 (fun _ _ => rfl) (by first | assumption | rfl | (simp (disch := omega) only [q_upT_self, q_upT_ne, q_upR_self, q_upR_nea, q_upR_nk, q_upT_at, *]; done) | (simp (disch := omega) only [q_upT_self, q_upT_ne, q_upR_self, q_upR_nea, q_upR_nk, q_upT_at, *]; rfl)) ?_
  rw [hf.1]
  refine q_putI (ci := 3) (fk := 0) d_Field_makeLike_5 rfl (Nat.le_of_ble_eq_true rfl) w_54 (Or.inl rfl) (fun _ _ => rfl) rfl rfl hL.1 ?_
  refine q_aload_n d_Field_makeLike_8 rfl rfl ?_
  refine q_aload_n d_Field_makeLike_9 rfl rfl ?_
  refine q_getI (ci := 3) (fk := 1) d_Field_makeLike_10 rfl (Nat.le_of_ble_eq_true rfl) w_59 (fun _ _ => rfl) (by first | assumption | rfl | (simp (disch := omega) only [q_upT_self, q_upT_ne, q_upR_self, q_upR_nea, q_upR_nk, q_upT_at, *]; done) | (simp (disch := omega) only [q_upT_self, q_upT_ne, q_upR_self, q_upR_nea, q_upR_nk, q_upT_at, *]; rfl)) ?_
  rw [q_upI_nea hba, hf.2.1]
  refine q_putI (ci := 3) (fk := 1) d_Field_makeLike_13 rfl (Nat.le_of_ble_eq_true rfl) w_59 (Or.inl rfl) (fun _ _ => rfl) rfl rfl hL.1 ?_
  refine q_aload_n d_Field_makeLike_16 rfl rfl ?_
  refine q_aload_n d_Field_makeLike_17 rfl rfl ?_
  refine q_getI (ci := 3) (fk := 2) d_Field_makeLike_18 rfl (Nat.le_of_ble_eq_true rfl) w_65 (fun _ _ => rfl) (by first | assumption | rfl | (simp (disch := omega) only [q_upT_self, q_upT_ne, q_upR_self, q_upR_nea, q_upR_nk, q_upT_at, *]; done) | (simp (disch := omega) only [q_upT_self, q_upT_ne, q_upR_self, q_upR_nea, q_upR_nk, q_upT_at, *]; rfl)) ?_
  rw [q_upI_nea hba, q_upI_nea hba, hf.2.2.1]
  refine q_putI (ci := 3) (fk := 2) d_Field_makeLike_21 rfl (Nat.le_of_ble_eq_true rfl) w_65 (Or.inl rfl) (fun _ _ => rfl) rfl rfl hL.1 ?_
  refine q_aload_n d_Field_makeLike_24 rfl rfl ?_
  refine q_aload_n d_Field_makeLike_25 rfl rfl ?_
  refine q_getI (ci := 3) (fk := 3) d_Field_makeLike_26 rfl (Nat.le_of_ble_eq_true rfl) w_71 (fun _ _ => rfl) (by first | assumption | rfl | (simp (disch := omega) only [q_upT_self, q_upT_ne, q_upR_self, q_upR_nea, q_upR_nk, q_upT_at, *]; done) | (simp (disch := omega) only [q_upT_self, q_upT_ne, q_upR_self, q_upR_nea, q_upR_nk, q_upT_at, *]; rfl)) ?_
  rw [q_upI_nea hba, q_upI_nea hba, q_upI_nea hba, hf.2.2.2.1]
  refine q_putI (ci := 3) (fk := 3) d_Field_makeLike_29 rfl (Nat.le_of_ble_eq_true rfl) w_71 (Or.inl rfl) (fun _ _ => rfl) rfl rfl hL.1 ?_
  refine q_aload_n d_Field_makeLike_32 rfl rfl ?_
  refine q_aload_n d_Field_makeLike_33 rfl rfl ?_
  refine q_getI (ci := 3) (fk := 4) d_Field_makeLike_34 rfl (Nat.le_of_ble_eq_true rfl) w_79 (fun _ _ => rfl) (by first | assumption | rfl | (simp (disch := omega) only [q_upT_self, q_upT_ne, q_upR_self, q_upR_nea, q_upR_nk, q_upT_at, *]; done) | (simp (disch := omega) only [q_upT_self, q_upT_ne, q_upR_self, q_upR_nea, q_upR_nk, q_upT_at, *]; rfl)) ?_
  rw [q_upI_nea hba, q_upI_nea hba, q_upI_nea hba, q_upI_nea hba, hf.2.2.2.2]
  refine q_putI (ci := 3) (fk := 4) d_Field_makeLike_37 rfl (Nat.le_of_ble_eq_true rfl) w_79 (Or.inl rfl) (fun _ _ => rfl) rfl rfl hL.1 ?_
  refine q_vret d_Field_makeLike_40 rfl (by omega) (by omega) ?_
  refine ⟨rfl, _, rfl, fun c hc => ?_, ?_, ?_, ?_, ?_, ?_⟩
  · funext i
    rw [q_upI_nea hc, q_upI_nea hc, q_upI_nea hc, q_upI_nea hc, q_upI_nea hc]
  · rw [q_upI_nk (by decide), q_upI_nk (by decide), q_upI_nk (by decide), q_upI_nk (by decide), q_upI_self]
  · rw [q_upI_nk (by decide), q_upI_nk (by decide), q_upI_nk (by decide), q_upI_self]
  · rw [q_upI_nk (by decide), q_upI_nk (by decide), q_upI_self]
  · rw [q_upI_nk (by decide), q_upI_self]
  · rw [q_upI_self]
theorem k_sl.dis {s s2 : Nat} {w w2 : Nat → Nat} (h1 : k_sl s w T R) (h2 : k_sl s2 w2 T R) (hne : s ≠ s2) : s + 26 ≤ s2 ∨ s2 + 26 ≤ s := by
  have key : ∀ {s s2 : Nat} {w w2 : Nat → Nat}, k_sl s w T R → k_sl s2 w2 T R → s < s2 → s + 26 ≤ s2 := by
    intro s s2 w w2 h1 h2 hlt
    by_cases h : s + 26 ≤ s2
    · exact h
    · exfalso
      have t2 : T s2 = some (106, 0) := h2.1.1
      by_cases h3 : s2 = s + 1
      · have t1 : T (s + 1) = some (2, 24) := (h1.1.2 0 _ _ _ rfl).2
        rw [h3, t1] at t2
        cases t2
      · have t1 := h1.2.2.2 (s2 - s - 2) (by omega)
        rw [show s + 2 + (s2 - s - 2) = s2 by omega, t2] at t1
        cases t1
  rcases Nat.lt_or_gt_of_ne hne with h | h
  · exact Or.inl (key h1 h2 h)
  · exact Or.inr (key h2 h1 h)
theorem k_fd.cong {I2 : q_I} {a : Nat} {f : KF} (h : k_fd I a f) (hI : I2 a = I a) : k_fd I2 a f := by
  unfold k_fd at h ⊢
  rw [hI]
  exact h
theorem k_sc.cong {s : Nat} {L : List KF} {w : Nat → Nat} {I2 : q_I} (h : k_sc s L w T I R) (hI : ∀ b, s ≤ b → b < s + 26 → I2 b = I b) : k_sc s L w T I2 R := by
  obtain ⟨h1, h2, h3, h4⟩ := h
  refine ⟨h1, by rw [hI s (by omega) (by omega)]; exact h2, h3, fun i f hf => (h4 i f hf).cong (hI _ (by omega) ?_)⟩
  have hi : i < L.length := (List.getElem?_eq_some_iff.mp hf).1
  have := (h1.2.1 i (by omega)).2
  omega
/-- slots by place -/
def k_rs : Nat → List KF → List KF
  | _, [] => []
  | i, f :: t => (f.1, f.2.1, f.2.2.1, f.2.2.2.1, i) :: k_rs (i + 1) t
theorem k_rs_len : ∀ (i : Nat) (L : List KF), (k_rs i L).length = L.length
  | _, [] => rfl
  | i, f :: t => by rw [k_rs, List.length_cons, List.length_cons, k_rs_len (i + 1) t]
theorem k_rs_at : ∀ (L : List KF) (i j : Nat), (k_rs i L)[j]? = (L[j]?).map (fun f => (f.1, f.2.1, f.2.2.1, f.2.2.2.1, i + j))
  | [], i, j => by simp [k_rs]
  | f :: t, i, 0 => rfl
  | f :: t, i, j + 1 => by
    rw [k_rs, List.getElem?_cons_succ, List.getElem?_cons_succ, k_rs_at t (i + 1) j, show i + 1 + j = i + (j + 1) by omega]
theorem c_Schema_makeLike {s s2 : Nat} {w w2 : Nat → Nat} {L : List KF} (hl : k_sl s w T R) (hS2 : k_sc s2 L w2 T I R) (hne : s ≠ s2) : q_Cv g M_Schema_makeLike [.ref s, .ref s2] (sz, T, I, R, J) 0 0 (fun h' => ∃ I' : q_I, h' = (sz, T, I', R, J) ∧ (∀ b, b < s ∨ s + 26 ≤ b → I' b = I b) ∧ k_sc s (k_rs 0 L) w T I' R) := by
  have hL := hl.1
  have h24 := hS2.2.2.1
  have hdis := hl.dis hS2.1 hne
  have t2 := hS2.1.1.1
  have r2 : R s2 (nI 0) = some (s2 + 1) := (hS2.1.1.2 0 _ _ _ rfl).1
  have q2 : T (s2 + 1) = some (2, 24) := (hS2.1.1.2 0 _ _ _ rfl).2
  refine q_C.of (ls0 := [some (.ref s), some (.ref s2), none]) (by decide) rfl (by decide) (Nat.le_of_ble_eq_true rfl) rfl ?_
  have loop : ∀ (j i : Nat) (Ii : q_I), i + j = L.length → (∀ b, b < s ∨ s + 26 ≤ b → Ii b = I b) → Ii s (nI 1) = nI L.length → (∀ k f, k < i → L[k]? = some f → k_fd Ii (s + 2 + w k) (f.1, f.2.1, f.2.2.1, f.2.2.2.1, k)) → q_V g M_Schema_makeLike 0 0 0 0 (sz, T, Ii, R, J) (fun o h' => o = .inl none ∧ ∃ I' : q_I, h' = (sz, T, I', R, J) ∧ (∀ b, b < s ∨ s + 26 ≤ b → I' b = I b) ∧ k_sc s (k_rs 0 L) w T I' R) 10 [some (.ref s), some (.ref s2), some (.int (nI i))] [] := by
    intro j
    induction j with
    | zero =>
      intro i Ii hij hfr hn hd
      refine q_iload_n d_Schema_makeLike_10 rfl rfl ?_
      refine q_aload_n d_Schema_makeLike_11 rfl rfl ?_
      refine q_getI (ci := 6) (fk := 1) d_Schema_makeLike_12 rfl (Nat.le_of_ble_eq_true rfl) w_99 (fun _ _ => rfl) hL.1 ?_
      rw [hn]
      refine q_icmp_ge (tgt := 49) d_Schema_makeLike_15 rfl (fun hc => ?_) (fun hc => ?_)
      · refine q_vret d_Schema_makeLike_49 rfl (by omega) (by omega) ?_
        refine ⟨rfl, Ii, rfl, hfr, hl, by rw [k_rs_len]; exact hn, by rw [k_rs_len]; omega, fun k e he => ?_⟩
        rw [k_rs_at, Nat.zero_add] at he
        cases hk : L[k]? with
        | none => rw [hk] at he; cases he
        | some f =>
          rw [hk] at he
          cases he
          have := (List.getElem?_eq_some_iff.mp hk).1
          exact hd k f (by omega) hk
      · rw [nI_leI (by omega) (by omega)] at hc
        omega
    | succ j ih =>
      intro i Ii hij hfr hn hd
      obtain ⟨f, hf⟩ : ∃ f, L[i]? = some f := ⟨_, List.getElem?_eq_getElem (by omega)⟩
      have hS3 : k_sc s2 L w2 T Ii R := hS2.cong (fun b b1 b2 => hfr b (by omega))
      obtain ⟨b1, b2, b3, b4⟩ := hS3.at hf
      have hr := (hl.2.1 i (by omega)).1
      have hw := (hl.2.1 i (by omega)).2
      have ht := hl.2.2.2 _ hw
      have hw2 := (hS2.1.2.1 i (by omega)).2
      have hne2 : s2 + 2 + w2 i ≠ s + 2 + w i := by omega
      refine q_iload_n d_Schema_makeLike_10 rfl rfl ?_
      refine q_aload_n d_Schema_makeLike_11 rfl rfl ?_
      refine q_getI (ci := 6) (fk := 1) d_Schema_makeLike_12 rfl (Nat.le_of_ble_eq_true rfl) w_99 (fun _ _ => rfl) hL.1 ?_
      rw [hn]
      refine q_icmp_ge (tgt := 49) d_Schema_makeLike_15 rfl (fun hc => ?_) (fun hc => ?_)
      · rw [nI_leI (by omega) (by omega)] at hc
        omega
      · refine q_aload_n d_Schema_makeLike_18 rfl rfl ?_
        refine q_getR (ci := 6) (fk := 0) d_Schema_makeLike_19 rfl (Nat.le_of_ble_eq_true rfl) w_92 (fun _ _ => rfl) hL.1 (hL.2 0 _ _ _ rfl).1 ?_
        refine q_iload_n d_Schema_makeLike_22 rfl rfl ?_
        refine q_aaldR (kd := _) d_Schema_makeLike_23 rfl (Nat.le_of_ble_eq_true rfl) (Nat.le_of_ble_eq_true rfl) (hL.2 0 _ _ _ rfl).2 (by first | assumption | exact vp_in_nI (by omega) (by omega)) (by first | assumption | rfl | (simp (disch := omega) only [q_upT_self, q_upT_ne, q_upR_self, q_upR_nea, q_upR_nk, q_upT_at, *]; done) | (simp (disch := omega) only [q_upT_self, q_upT_ne, q_upR_self, q_upR_nea, q_upR_nk, q_upT_at, *]; rfl)) ?_
        refine q_aload_n d_Schema_makeLike_24 rfl rfl ?_
        refine q_getR (ci := 6) (fk := 0) d_Schema_makeLike_25 rfl (Nat.le_of_ble_eq_true rfl) w_92 (fun _ _ => rfl) (by first | assumption | rfl | (simp (disch := omega) only [q_upT_self, q_upT_ne, q_upR_self, q_upR_nea, q_upR_nk, q_upT_at, *]; done) | (simp (disch := omega) only [q_upT_self, q_upT_ne, q_upR_self, q_upR_nea, q_upR_nk, q_upT_at, *]; rfl)) (by first | assumption | rfl | (simp (disch := omega) only [q_upT_self, q_upT_ne, q_upR_self, q_upR_nea, q_upR_nk, q_upT_at, *]; done) | (simp (disch := omega) only [q_upT_self, q_upT_ne, q_upR_self, q_upR_nea, q_upR_nk, q_upT_at, *]; rfl)) ?_
        refine q_iload_n d_Schema_makeLike_28 rfl rfl ?_
        refine q_aaldR (kd := _) d_Schema_makeLike_29 rfl (Nat.le_of_ble_eq_true rfl) (Nat.le_of_ble_eq_true rfl) (by first | assumption | rfl | (simp (disch := omega) only [q_upT_self, q_upT_ne, q_upR_self, q_upR_nea, q_upR_nk, q_upT_at, *]; done) | (simp (disch := omega) only [q_upT_self, q_upT_ne, q_upR_self, q_upR_nea, q_upR_nk, q_upT_at, *]; rfl)) (by first | assumption | exact vp_in_nI (by omega) (by omega)) (by first | assumption | rfl | (simp (disch := omega) only [q_upT_self, q_upT_ne, q_upR_self, q_upR_nea, q_upR_nk, q_upT_at, *]; done) | (simp (disch := omega) only [q_upT_self, q_upT_ne, q_upR_self, q_upR_nea, q_upR_nk, q_upT_at, *]; rfl)) ?_
        refine q_callVv (M2 := M_Field_makeLike) d_Schema_makeLike_30 ⟨(Nat.le_of_ble_eq_true rfl), (Nat.le_of_ble_eq_true rfl), w_461, w_4, ⟨by decide, by decide⟩, show _ = some 1 by decide +kernel⟩ w_458 w_459 (ci := 3) rfl w_460 (by first | assumption | rfl | (simp (disch := omega) only [q_upT_self, q_upT_ne, q_upR_self, q_upR_nea, q_upR_nk, q_upT_at, *]; done) | (simp (disch := omega) only [q_upT_self, q_upT_ne, q_upR_self, q_upR_nea, q_upR_nk, q_upT_at, *]; rfl)) rfl (Nat.le_of_ble_eq_true rfl) (by omega) (by omega) (c_Field_makeLike ht b3 hne2 b4) ?_
        rintro _ ⟨I', rfl, hfr2, hk⟩
        refine q_aload_n d_Schema_makeLike_33 rfl rfl ?_
        refine q_getR (ci := 6) (fk := 0) d_Schema_makeLike_34 rfl (Nat.le_of_ble_eq_true rfl) w_92 (fun _ _ => rfl) hL.1 (hL.2 0 _ _ _ rfl).1 ?_
        refine q_iload_n d_Schema_makeLike_37 rfl rfl ?_
        refine q_aaldR (kd := _) d_Schema_makeLike_38 rfl (Nat.le_of_ble_eq_true rfl) (Nat.le_of_ble_eq_true rfl) (hL.2 0 _ _ _ rfl).2 (by first | assumption | exact vp_in_nI (by omega) (by omega)) (by first | assumption | rfl | (simp (disch := omega) only [q_upT_self, q_upT_ne, q_upR_self, q_upR_nea, q_upR_nk, q_upT_at, *]; done) | (simp (disch := omega) only [q_upT_self, q_upT_ne, q_upR_self, q_upR_nea, q_upR_nk, q_upT_at, *]; rfl)) ?_
        refine q_iload_n d_Schema_makeLike_39 rfl rfl ?_
        refine q_putI (ci := 3) (fk := 4) d_Schema_makeLike_40 rfl (Nat.le_of_ble_eq_true rfl) w_78 (Or.inl rfl) (fun _ _ => rfl) rfl rfl (by first | assumption | rfl | (simp (disch := omega) only [q_upT_self, q_upT_ne, q_upR_self, q_upR_nea, q_upR_nk, q_upT_at, *]; done) | (simp (disch := omega) only [q_upT_self, q_upT_ne, q_upR_self, q_upR_nea, q_upR_nk, q_upT_at, *]; rfl)) ?_
        first | refine q_iincN d_Schema_makeLike_43 rfl (Nat.le_of_ble_eq_true rfl) (by first | exact q_ok0 | exact q_okI rfl | exact q_okR rfl | exact q_okN rfl) rfl ?_ | refine q_iinc d_Schema_makeLike_43 rfl rfl (Nat.le_of_ble_eq_true rfl) (by first | exact q_ok0 | exact q_okI rfl | exact q_okR rfl | exact q_okN rfl) rfl ?_
        refine q_goto (tgt := 10) d_Schema_makeLike_46 rfl ?_
        refine ih (i + 1) _ (by omega) (fun b hb => ?_) ?_ (fun k e hki he => ?_)
        · funext q
          rw [q_upI_nea (by omega), hfr2 b (by omega), hfr b hb]
        · rw [q_upI_nea (by omega), hfr2 s (by omega)]; exact hn
        · by_cases hki2 : k = i
          · subst hki2
            rw [hf] at he
            cases he
            obtain ⟨d1, d2, d3, d4, d5⟩ := hk
            refine ⟨?_, ?_, ?_, ?_, ?_⟩
            · rw [q_upI_nk (by decide)]; exact d1
            · rw [q_upI_nk (by decide)]; exact d2
            · rw [q_upI_nk (by decide)]; exact d3
            · rw [q_upI_nk (by decide)]; exact d4
            · rw [q_upI_self]
          · have hwk : w k ≠ w i := fun z => hki2 (hl.2.2.1 _ _ (by omega) (by omega) z)
            refine (hd k e (by omega) he).cong ?_
            funext q
            rw [q_upI_nea (by omega), hfr2 _ (by omega)]
  refine q_aload_n d_Schema_makeLike_0 rfl rfl ?_
  refine q_aload_n d_Schema_makeLike_1 rfl rfl ?_
  refine q_getI (ci := 6) (fk := 1) d_Schema_makeLike_2 rfl (Nat.le_of_ble_eq_true rfl) w_99 (fun _ _ => rfl) (by first | assumption | rfl | (simp (disch := omega) only [q_upT_self, q_upT_ne, q_upR_self, q_upR_nea, q_upR_nk, q_upT_at, *]; done) | (simp (disch := omega) only [q_upT_self, q_upT_ne, q_upR_self, q_upR_nea, q_upR_nk, q_upT_at, *]; rfl)) ?_
  rw [hS2.2.1]
  refine q_putI (ci := 6) (fk := 1) d_Schema_makeLike_5 rfl (Nat.le_of_ble_eq_true rfl) w_99 (Or.inl rfl) (fun _ _ => rfl) rfl rfl hL.1 ?_
  refine q_iconst (v := nI 0) d_Schema_makeLike_8 (by decide) ?_
  refine q_istore_n d_Schema_makeLike_9 rfl (Nat.le_of_ble_eq_true rfl) (by first | exact q_ok0 | exact q_okI rfl | exact q_okR rfl | exact q_okN rfl) rfl ?_
  refine loop L.length 0 _ (by omega) (fun b hb => ?_) q_upI_self (fun k f hk => absurd hk (Nat.not_lt_zero _))
  funext q
  rw [q_upI_nea (by omega)]
end SchemaK
