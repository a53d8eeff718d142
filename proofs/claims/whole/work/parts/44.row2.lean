/-! a record of the class becomes like another -/
section RowD
variable {g : q_G} {sz : Nat} {T : q_T} {I : q_I} {R : q_R} {J : q_J}
set_option maxHeartbeats 1000000 in
theorem c_Row_makeLike {r r2 : Nat} (hr : r_new r T R) (hr2 : r_new r2 T R) (hne : r ≠ r2) (hlv : I r2 (nI 0) = 1) : q_Cv g M_Row_makeLike [.ref r, .ref r2] (sz, T, I, R, J) 0 0 (fun h' => ∃ I' : q_I, h' = (sz, T, I', R, J) ∧ (∀ b, b ≠ r → b ≠ r + 2 → b ≠ r + 3 → b ≠ r + 5 → b ≠ r + 7 → I' b = I b) ∧ I' r (nI 0) = 1 ∧ I' r (nI 1) = I r2 (nI 1) ∧ (∀ i, i < 168 → I' (r + 2) (nI i) = I (r2 + 2) (nI i)) ∧ (∀ i, i < 128 → I' (r + 3) (nI i) = I (r2 + 3) (nI i)) ∧ (∀ i, i < 896 → I' (r + 5) (nI i) = I (r2 + 5) (nI i)) ∧ ∀ i, i < 896 → I' (r + 7) (nI i) = I (r2 + 7) (nI i)) := by
  have hL := hr.1
  have hd := r_dis hr hr2 hne
  obtain ⟨a0, a1, a2, a3, a4, a5, a6, a7⟩ := r_T0 hr
  obtain ⟨b0, b1, b2, b3, b4, b5, b6, b7⟩ := r_T0 hr2
  have e1 : R r2 (nI 2) = some (r2 + 1) := (hr2.1.2 2 _ _ _ rfl).1
  have e2 : R r2 (nI 3) = some (r2 + 3) := (hr2.1.2 3 _ _ _ rfl).1
  have e3 : R r2 (nI 4) = some (r2 + 4) := (hr2.1.2 4 _ _ _ rfl).1
  have e4 : R r2 (nI 5) = some (r2 + 6) := (hr2.1.2 5 _ _ _ rfl).1
  refine q_C.of (ls0 := [some (.ref r), some (.ref r2)]) (by decide) rfl (by decide) (Nat.le_of_ble_eq_true rfl) rfl ?_
  refine q_aload_n d_Row_makeLike_0 rfl rfl ?_
  refine q_aload_n d_Row_makeLike_1 rfl rfl ?_
  refine q_getI (ci := 5) (fk := 0) d_Row_makeLike_2 rfl (Nat.le_of_ble_eq_true rfl) w_191 (fun _ _ => rfl) (by first | assumption | rfl | (simp (disch := omega) only [q_upT_self, q_upT_ne, q_upR_self, q_upR_nea, q_upR_nk, q_upT_at, *]; done) | (simp (disch := omega) only [q_upT_self, q_upT_ne, q_upR_self, q_upR_nea, q_upR_nk, q_upT_at, *]; rfl)) ?_
  rw [hlv]
  refine q_putI (ci := 5) (fk := 0) d_Row_makeLike_5 rfl (Nat.le_of_ble_eq_true rfl) w_191 (Or.inl rfl) (fun _ _ => rfl) (by first | rfl | decide | assumption) (by first | rfl | decide | assumption) hL.1 ?_
  refine q_aload_n d_Row_makeLike_8 rfl rfl ?_
  refine q_aload_n d_Row_makeLike_9 rfl rfl ?_
  refine q_getI (ci := 5) (fk := 1) d_Row_makeLike_10 rfl (Nat.le_of_ble_eq_true rfl) w_193 (fun _ _ => rfl) (by first | assumption | rfl | (simp (disch := omega) only [q_upT_self, q_upT_ne, q_upR_self, q_upR_nea, q_upR_nk, q_upT_at, *]; done) | (simp (disch := omega) only [q_upT_self, q_upT_ne, q_upR_self, q_upR_nea, q_upR_nk, q_upT_at, *]; rfl)) ?_
  rw [q_upI_nea (Ne.symm hne)]
  refine q_putI (ci := 5) (fk := 1) d_Row_makeLike_13 rfl (Nat.le_of_ble_eq_true rfl) w_193 (Or.inl rfl) (fun _ _ => rfl) rfl rfl hL.1 ?_
  refine q_aload_n d_Row_makeLike_16 rfl rfl ?_
  refine q_getR (ci := 5) (fk := 2) d_Row_makeLike_17 rfl (Nat.le_of_ble_eq_true rfl) w_196 (fun _ _ => rfl) hL.1 (hL.2 2 _ _ _ rfl).1 ?_
  refine q_aload_n d_Row_makeLike_20 rfl rfl ?_
  refine q_getR (ci := 5) (fk := 2) d_Row_makeLike_21 rfl (Nat.le_of_ble_eq_true rfl) w_196 (fun _ _ => rfl) (by first | assumption | rfl | (simp (disch := omega) only [q_upT_self, q_upT_ne, q_upR_self, q_upR_nea, q_upR_nk, q_upT_at, *]; done) | (simp (disch := omega) only [q_upT_self, q_upT_ne, q_upR_self, q_upR_nea, q_upR_nk, q_upT_at, *]; rfl)) (by first | assumption | rfl | (simp (disch := omega) only [q_upT_self, q_upT_ne, q_upR_self, q_upR_nea, q_upR_nk, q_upT_at, *]; done) | (simp (disch := omega) only [q_upT_self, q_upT_ne, q_upR_self, q_upR_nea, q_upR_nk, q_upT_at, *]; rfl)) ?_
  refine q_callVv (M2 := M_Cells_takeAll) d_Row_makeLike_24 ⟨(Nat.le_of_ble_eq_true rfl), (Nat.le_of_ble_eq_true rfl), w_755, w_7, ⟨by decide, by decide⟩, show _ = some 1 by decide +kernel⟩ w_752 w_753 (ci := 1) rfl w_754 (by first | assumption | rfl | (simp (disch := omega) only [q_upT_self, q_upT_ne, q_upR_self, q_upR_nea, q_upR_nk, q_upT_at, *]; done) | (simp (disch := omega) only [q_upT_self, q_upT_ne, q_upR_self, q_upR_nea, q_upR_nk, q_upT_at, *]; rfl)) rfl (Nat.le_of_ble_eq_true rfl) (by omega) (by omega) (c_Cells_takeAll hr.2.1 hr2.2.1 (by omega)) ?_
  rintro _ rfl
  refine q_aload_n d_Row_makeLike_27 rfl rfl ?_
  refine q_getR (ci := 5) (fk := 3) d_Row_makeLike_28 rfl (Nat.le_of_ble_eq_true rfl) w_199 (fun _ _ => rfl) (by first | assumption | rfl | (simp (disch := omega) only [q_upT_self, q_upT_ne, q_upR_self, q_upR_nea, q_upR_nk, q_upT_at, *]; done) | (simp (disch := omega) only [q_upT_self, q_upT_ne, q_upR_self, q_upR_nea, q_upR_nk, q_upT_at, *]; rfl)) (by first | assumption | rfl | (simp (disch := omega) only [q_upT_self, q_upT_ne, q_upR_self, q_upR_nea, q_upR_nk, q_upT_at, *]; done) | (simp (disch := omega) only [q_upT_self, q_upT_ne, q_upR_self, q_upR_nea, q_upR_nk, q_upT_at, *]; rfl)) ?_
  refine q_iconst (v := nI 0) d_Row_makeLike_31 (by decide) ?_
  refine q_aload_n d_Row_makeLike_32 rfl rfl ?_
  refine q_getR (ci := 5) (fk := 3) d_Row_makeLike_33 rfl (Nat.le_of_ble_eq_true rfl) w_199 (fun _ _ => rfl) hL.1 (hL.2 3 _ _ _ rfl).1 ?_
  refine q_iconst (v := nI 0) d_Row_makeLike_36 (by decide) ?_
  refine q_sipush (v := nI 128) d_Row_makeLike_37 (by decide) ?_
  refine q_acopy d_Row_makeLike_40 w_759 w_757 w_758 w_22 (by first | assumption | rfl | (simp (disch := omega) only [q_upT_self, q_upT_ne, q_upR_self, q_upR_nea, q_upR_nk, q_upT_at, *]; done) | (simp (disch := omega) only [q_upT_self, q_upT_ne, q_upR_self, q_upR_nea, q_upR_nk, q_upT_at, *]; rfl)) (hL.2 3 _ _ _ rfl).2 (by omega) (by omega) (Nat.le_of_ble_eq_true rfl) (by decide +kernel) (Nat.le_of_ble_eq_true rfl) ?_
  refine q_aload_n d_Row_makeLike_43 rfl rfl ?_
  refine q_getR (ci := 5) (fk := 4) d_Row_makeLike_44 rfl (Nat.le_of_ble_eq_true rfl) w_201 (fun _ _ => rfl) hL.1 (hL.2 4 _ _ _ rfl).1 ?_
  refine q_aload_n d_Row_makeLike_47 rfl rfl ?_
  refine q_getR (ci := 5) (fk := 4) d_Row_makeLike_48 rfl (Nat.le_of_ble_eq_true rfl) w_201 (fun _ _ => rfl) (by first | assumption | rfl | (simp (disch := omega) only [q_upT_self, q_upT_ne, q_upR_self, q_upR_nea, q_upR_nk, q_upT_at, *]; done) | (simp (disch := omega) only [q_upT_self, q_upT_ne, q_upR_self, q_upR_nea, q_upR_nk, q_upT_at, *]; rfl)) (by first | assumption | rfl | (simp (disch := omega) only [q_upT_self, q_upT_ne, q_upR_self, q_upR_nea, q_upR_nk, q_upT_at, *]; done) | (simp (disch := omega) only [q_upT_self, q_upT_ne, q_upR_self, q_upR_nea, q_upR_nk, q_upT_at, *]; rfl)) ?_
  refine q_callVv (M2 := M_Cells_takeAll) d_Row_makeLike_51 ⟨(Nat.le_of_ble_eq_true rfl), (Nat.le_of_ble_eq_true rfl), w_755, w_7, ⟨by decide, by decide⟩, show _ = some 1 by decide +kernel⟩ w_752 w_753 (ci := 1) rfl w_754 (by first | assumption | rfl | (simp (disch := omega) only [q_upT_self, q_upT_ne, q_upR_self, q_upR_nea, q_upR_nk, q_upT_at, *]; done) | (simp (disch := omega) only [q_upT_self, q_upT_ne, q_upR_self, q_upR_nea, q_upR_nk, q_upT_at, *]; rfl)) rfl (Nat.le_of_ble_eq_true rfl) (by omega) (by omega) (c_Cells_takeAll hr.2.2.1 hr2.2.2.1 (by omega)) ?_
  rintro _ rfl
  refine q_aload_n d_Row_makeLike_54 rfl rfl ?_
  refine q_getR (ci := 5) (fk := 5) d_Row_makeLike_55 rfl (Nat.le_of_ble_eq_true rfl) w_203 (fun _ _ => rfl) hL.1 (hL.2 5 _ _ _ rfl).1 ?_
  refine q_aload_n d_Row_makeLike_58 rfl rfl ?_
  refine q_getR (ci := 5) (fk := 5) d_Row_makeLike_59 rfl (Nat.le_of_ble_eq_true rfl) w_203 (fun _ _ => rfl) (by first | assumption | rfl | (simp (disch := omega) only [q_upT_self, q_upT_ne, q_upR_self, q_upR_nea, q_upR_nk, q_upT_at, *]; done) | (simp (disch := omega) only [q_upT_self, q_upT_ne, q_upR_self, q_upR_nea, q_upR_nk, q_upT_at, *]; rfl)) (by first | assumption | rfl | (simp (disch := omega) only [q_upT_self, q_upT_ne, q_upR_self, q_upR_nea, q_upR_nk, q_upT_at, *]; done) | (simp (disch := omega) only [q_upT_self, q_upT_ne, q_upR_self, q_upR_nea, q_upR_nk, q_upT_at, *]; rfl)) ?_
  refine q_callVv (M2 := M_Cells_takeAll) d_Row_makeLike_62 ⟨(Nat.le_of_ble_eq_true rfl), (Nat.le_of_ble_eq_true rfl), w_755, w_7, ⟨by decide, by decide⟩, show _ = some 1 by decide +kernel⟩ w_752 w_753 (ci := 1) rfl w_754 (by first | assumption | rfl | (simp (disch := omega) only [q_upT_self, q_upT_ne, q_upR_self, q_upR_nea, q_upR_nk, q_upT_at, *]; done) | (simp (disch := omega) only [q_upT_self, q_upT_ne, q_upR_self, q_upR_nea, q_upR_nk, q_upT_at, *]; rfl)) rfl (Nat.le_of_ble_eq_true rfl) (by omega) (by omega) (c_Cells_takeAll hr.2.2.2 hr2.2.2.2 (by omega)) ?_
  rintro _ rfl
  refine q_vret d_Row_makeLike_65 rfl (by omega) (by omega) ?_
  have up : ∀ b i, b ≠ r → q_upI (q_upI I r (nI 0) 1) r (nI 1) (I r2 (nI 1)) b i = I b i := fun b i hb => by rw [q_upI_nea hb, q_upI_nea hb]
  refine ⟨rfl, _, rfl, fun b h1 h2 h3 h4 h5 => ?_, ?_, ?_, fun i hi => ?_, fun i hi => ?_, fun i hi => ?_, fun i hi => ?_⟩
  · rw [k_acp_ne h5, k_acp_ne h4, k_acp_ne h3, k_acp_ne h2]
    funext i
    exact up b i h1
  · rw [k_acp_ne (by omega), k_acp_ne (by omega), k_acp_ne (by omega), k_acp_ne (by omega), q_upI_nk (by decide), q_upI_self]
  · rw [k_acp_ne (by omega), k_acp_ne (by omega), k_acp_ne (by omega), k_acp_ne (by omega), q_upI_self]
  · rw [k_acp_ne (by omega), k_acp_ne (by omega), k_acp_ne (by omega), k_acp_in (by omega) (by omega) (by omega), up _ _ (by omega), show 0 + (i - 0) = i by omega]
  · rw [k_acp_ne (by omega), k_acp_ne (by omega), k_acp_in (by omega) (by omega) (by omega), k_acp_ne (by omega), up _ _ (by omega), show 0 + (i - 0) = i by omega]
  · rw [k_acp_ne (by omega), k_acp_in (by omega) (by omega) (by omega), k_acp_ne (by omega), k_acp_ne (by omega), up _ _ (by omega), show 0 + (i - 0) = i by omega]
  · rw [k_acp_in (by omega) (by omega) (by omega), k_acp_ne (by omega), k_acp_ne (by omega), k_acp_ne (by omega), up _ _ (by omega), show 0 + (i - 0) = i by omega]
end RowD
