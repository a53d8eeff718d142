/-! records come: rowFor, record, copy -/
abbrev M_Lens_rowFor : q_M := (⟨"LensPaths", "rowFor", "(I)LLensPaths$Row;"⟩, prog_1_method_30_code, 2, (some (.object "LensPaths$Row")), "LensPaths", [], false, 3, 61)
theorem d_Lens_rowFor_0 : decode prog_1_method_30_code 0 = .ok (.aload_n 0, 1) := by decide +kernel
theorem d_Lens_rowFor_1 : decode prog_1_method_30_code 1 = .ok (.getfield 25, 3) := by decide +kernel
theorem d_Lens_rowFor_4 : decode prog_1_method_30_code 4 = .ok (.iload_n 1, 1) := by decide +kernel
theorem d_Lens_rowFor_5 : decode prog_1_method_30_code 5 = .ok (.aaload, 1) := by decide +kernel
theorem d_Lens_rowFor_6 : decode prog_1_method_30_code 6 = .ok (.ifnonnull 16, 3) := by decide +kernel
theorem d_Lens_rowFor_9 : decode prog_1_method_30_code 9 = .ok (.aload_n 0, 1) := by decide +kernel
theorem d_Lens_rowFor_10 : decode prog_1_method_30_code 10 = .ok (.getfield 25, 3) := by decide +kernel
theorem d_Lens_rowFor_13 : decode prog_1_method_30_code 13 = .ok (.iload_n 1, 1) := by decide +kernel
theorem d_Lens_rowFor_14 : decode prog_1_method_30_code 14 = .ok (.new 23, 3) := by decide +kernel
theorem d_Lens_rowFor_17 : decode prog_1_method_30_code 17 = .ok (.dup, 1) := by decide +kernel
theorem d_Lens_rowFor_18 : decode prog_1_method_30_code 18 = .ok (.invokespecial 29, 3) := by decide +kernel
theorem d_Lens_rowFor_21 : decode prog_1_method_30_code 21 = .ok (.aastore, 1) := by decide +kernel
theorem d_Lens_rowFor_22 : decode prog_1_method_30_code 22 = .ok (.aload_n 0, 1) := by decide +kernel
theorem d_Lens_rowFor_23 : decode prog_1_method_30_code 23 = .ok (.getfield 25, 3) := by decide +kernel
theorem d_Lens_rowFor_26 : decode prog_1_method_30_code 26 = .ok (.iload_n 1, 1) := by decide +kernel
theorem d_Lens_rowFor_27 : decode prog_1_method_30_code 27 = .ok (.aaload, 1) := by decide +kernel
theorem d_Lens_rowFor_28 : decode prog_1_method_30_code 28 = .ok (.areturn, 1) := by decide +kernel
abbrev M_Lens_record : q_M := (⟨"LensPaths", "record", "(I)I"⟩, prog_1_method_9_code, 3, (some .int), "LensPaths", [], false, 7, 111)
theorem d_Lens_record_0 : decode prog_1_method_9_code 0 = .ok (.aload_n 0, 1) := by decide +kernel
theorem d_Lens_record_1 : decode prog_1_method_9_code 1 = .ok (.iload_n 1, 1) := by decide +kernel
theorem d_Lens_record_2 : decode prog_1_method_9_code 2 = .ok (.invokevirtual 86, 3) := by decide +kernel
theorem d_Lens_record_5 : decode prog_1_method_9_code 5 = .ok (.aload_n 0, 1) := by decide +kernel
theorem d_Lens_record_6 : decode prog_1_method_9_code 6 = .ok (.invokevirtual 153, 3) := by decide +kernel
theorem d_Lens_record_9 : decode prog_1_method_9_code 9 = .ok (.istore_n 2, 1) := by decide +kernel
theorem d_Lens_record_10 : decode prog_1_method_9_code 10 = .ok (.iload_n 2, 1) := by decide +kernel
theorem d_Lens_record_11 : decode prog_1_method_9_code 11 = .ok (.iconst (-1), 1) := by decide +kernel
theorem d_Lens_record_12 : decode prog_1_method_9_code 12 = .ok (.if_icmp .ne 11, 3) := by decide +kernel
theorem d_Lens_record_15 : decode prog_1_method_9_code 15 = .ok (.new 117, 3) := by decide +kernel
theorem d_Lens_record_18 : decode prog_1_method_9_code 18 = .ok (.dup, 1) := by decide +kernel
theorem d_Lens_record_19 : decode prog_1_method_9_code 19 = .ok (.invokespecial 119, 3) := by decide +kernel
theorem d_Lens_record_22 : decode prog_1_method_9_code 22 = .ok (.athrow, 1) := by decide +kernel
theorem d_Lens_record_23 : decode prog_1_method_9_code 23 = .ok (.aload_n 0, 1) := by decide +kernel
theorem d_Lens_record_24 : decode prog_1_method_9_code 24 = .ok (.iconst 1, 1) := by decide +kernel
theorem d_Lens_record_25 : decode prog_1_method_9_code 25 = .ok (.putfield 52, 3) := by decide +kernel
theorem d_Lens_record_28 : decode prog_1_method_9_code 28 = .ok (.aload_n 0, 1) := by decide +kernel
theorem d_Lens_record_29 : decode prog_1_method_9_code 29 = .ok (.iload_n 2, 1) := by decide +kernel
theorem d_Lens_record_30 : decode prog_1_method_9_code 30 = .ok (.invokevirtual 156, 3) := by decide +kernel
theorem d_Lens_record_33 : decode prog_1_method_9_code 33 = .ok (.iload_n 1, 1) := by decide +kernel
theorem d_Lens_record_34 : decode prog_1_method_9_code 34 = .ok (.aload_n 0, 1) := by decide +kernel
theorem d_Lens_record_35 : decode prog_1_method_9_code 35 = .ok (.getfield 12, 3) := by decide +kernel
theorem d_Lens_record_38 : decode prog_1_method_9_code 38 = .ok (.getfield 48, 3) := by decide +kernel
theorem d_Lens_record_41 : decode prog_1_method_9_code 41 = .ok (.iload_n 1, 1) := by decide +kernel
theorem d_Lens_record_42 : decode prog_1_method_9_code 42 = .ok (.aaload, 1) := by decide +kernel
theorem d_Lens_record_43 : decode prog_1_method_9_code 43 = .ok (.invokevirtual 160, 3) := by decide +kernel
theorem d_Lens_record_46 : decode prog_1_method_9_code 46 = .ok (.iload_n 2, 1) := by decide +kernel
theorem d_Lens_record_47 : decode prog_1_method_9_code 47 = .ok (.ireturn, 1) := by decide +kernel
abbrev M_Lens_copy : q_M := (⟨"LensPaths", "copy", "(I)I"⟩, prog_1_method_10_code, 3, (some .int), "LensPaths", [], false, 7, 111)
theorem d_Lens_copy_0 : decode prog_1_method_10_code 0 = .ok (.aload_n 0, 1) := by decide +kernel
theorem d_Lens_copy_1 : decode prog_1_method_10_code 1 = .ok (.iload_n 1, 1) := by decide +kernel
theorem d_Lens_copy_2 : decode prog_1_method_10_code 2 = .ok (.invokevirtual 163, 3) := by decide +kernel
theorem d_Lens_copy_5 : decode prog_1_method_10_code 5 = .ok (.aload_n 0, 1) := by decide +kernel
theorem d_Lens_copy_6 : decode prog_1_method_10_code 6 = .ok (.invokevirtual 153, 3) := by decide +kernel
theorem d_Lens_copy_9 : decode prog_1_method_10_code 9 = .ok (.istore_n 2, 1) := by decide +kernel
theorem d_Lens_copy_10 : decode prog_1_method_10_code 10 = .ok (.iload_n 2, 1) := by decide +kernel
theorem d_Lens_copy_11 : decode prog_1_method_10_code 11 = .ok (.iconst (-1), 1) := by decide +kernel
theorem d_Lens_copy_12 : decode prog_1_method_10_code 12 = .ok (.if_icmp .ne 11, 3) := by decide +kernel
theorem d_Lens_copy_15 : decode prog_1_method_10_code 15 = .ok (.new 117, 3) := by decide +kernel
theorem d_Lens_copy_18 : decode prog_1_method_10_code 18 = .ok (.dup, 1) := by decide +kernel
theorem d_Lens_copy_19 : decode prog_1_method_10_code 19 = .ok (.invokespecial 119, 3) := by decide +kernel
theorem d_Lens_copy_22 : decode prog_1_method_10_code 22 = .ok (.athrow, 1) := by decide +kernel
theorem d_Lens_copy_23 : decode prog_1_method_10_code 23 = .ok (.aload_n 0, 1) := by decide +kernel
theorem d_Lens_copy_24 : decode prog_1_method_10_code 24 = .ok (.iload_n 2, 1) := by decide +kernel
theorem d_Lens_copy_25 : decode prog_1_method_10_code 25 = .ok (.invokevirtual 156, 3) := by decide +kernel
theorem d_Lens_copy_28 : decode prog_1_method_10_code 28 = .ok (.aload_n 0, 1) := by decide +kernel
theorem d_Lens_copy_29 : decode prog_1_method_10_code 29 = .ok (.getfield 25, 3) := by decide +kernel
theorem d_Lens_copy_32 : decode prog_1_method_10_code 32 = .ok (.iload_n 1, 1) := by decide +kernel
theorem d_Lens_copy_33 : decode prog_1_method_10_code 33 = .ok (.aaload, 1) := by decide +kernel
theorem d_Lens_copy_34 : decode prog_1_method_10_code 34 = .ok (.invokevirtual 166, 3) := by decide +kernel
theorem d_Lens_copy_37 : decode prog_1_method_10_code 37 = .ok (.iload_n 2, 1) := by decide +kernel
theorem d_Lens_copy_38 : decode prog_1_method_10_code 38 = .ok (.ireturn, 1) := by decide +kernel
section RowFor
variable {g : q_G} {sz x : Nat} {T : q_T} {I : q_I} {R : q_R} {J : q_J} {S : KA}
/-- a new row stands under a handle that was free -/
theorem relC.newrow (h : relC S x sz T I R) {i sz' : Nat} {o : Option KR} {T' : q_T} {I' : q_I} {R' : q_R} (hi : i < 16) (hsz : sz + 8 ≤ sz') (hT : ∀ a q, T a = some q → T' a = some q) (hT' : ∀ a q, T' a = some q → a < sz') (hI : ∀ b, b < sz → I' b = I b) (hR : ∀ b, b < sz → b ≠ x + 60 → R' b = R b) (hR1 : R' (x + 60) (nI i) = some sz) (hR2 : ∀ j, j < 16 → j ≠ i → R' (x + 60) (nI j) = R (x + 60) (nI j)) (hr : r_new sz T' R') (h0 : I' sz (nI 0) = p_b o.isSome) (hk : ∀ c, o = some c → k_rec sz c I') : relC (S.setR i o) x sz' T' I' R' ∧ c_fr x sz T I R sz' T' I' R' := by
  obtain ⟨h1, h2, h3, h4, h5, h6, h7, h8⟩ := h
  have t60 := (h1.1.2 2 _ _ _ rfl).2
  have hlt : ∀ b, ¬ c_reg x b → b < sz ∧ b ≠ x + 60 := fun b hb => by unfold c_reg at hb; omega
  have hsc : ∀ s L w, k_sc s L w T I R → k_sc s L w T' I' R' := fun s L w hs => hs.cong3 hT (fun b z1 z2 => by
    obtain ⟨q, hq⟩ := hs.1.tys z1 z2
    exact hI b (h8 b q hq)) (fun b z1 z2 => by
    obtain ⟨q, hq⟩ := hs.1.tys z1 z2
    exact hR b (h8 b q hq) (hs.1.ne z1 z2 t60 (by decide) (by decide) (by decide)))
  have hrn : ∀ r, r_new r T R → r_new r T' R' ∧ (∀ b, r ≤ b → b < r + 8 → I' b = I b) ∧ r + 8 ≤ sz := fun r hr => by
    have hl : ∀ b, r ≤ b → b < r + 8 → b < sz ∧ b ≠ x + 60 := fun b z1 z2 => by
      obtain ⟨q, q1, q2⟩ := hr.tys z1 z2
      exact ⟨h8 b q q1, fun z => by rw [z, t60] at q1; cases q1; simp at q2⟩
    have := (hl (r + 7) (by omega) (by omega)).1
    exact ⟨hr.keep hT (fun b z1 z2 => hR b (hl b z1 z2).1 (hl b z1 z2).2), fun b z1 z2 => hI b (hl b z1 z2).1, by omega⟩
  refine ⟨⟨⟨?_, ?_, ?_, ?_, ?_, ?_⟩, ⟨?_, fun v L hv => ?_⟩, ⟨?_, fun j st hj => ?_⟩, ?_, ⟨fun j hj => ?_, ?_⟩, by rw [hI x (by omega)]; exact h6, by omega, hT'⟩, by omega, hT, fun b hb => hI b (hlt b hb).1, fun b hb => hR b (hlt b hb).1 (hlt b hb).2⟩
  · exact h1.1.keep hT (fun fk off kd n z => by rw [hR x (by omega) (by omega)])
  · exact h1.2.1.keep hT (fun fk off kd n z => by rw [hR (x + 1) (by omega) (by omega)])
  · exact h1.2.2.1.keep hT (fun fk off kd n z => by rw [hR (x + 32) (by omega) (by omega)])
  · exact h1.2.2.2.1.keep hT (fun fk off kd n z => by rw [hR (x + 69) (by omega) (by omega)])
  · exact h1.2.2.2.2.1.keep hT (fun fk off kd n z => by rw [hR (x + 70) (by omega) (by omega)])
  · exact h1.2.2.2.2.2.keep hT (fun fk off kd n z => by rw [hR (x + 72) (by omega) (by omega)])
  · rw [hI (x + 1) (by omega)]; exact h2.1
  · obtain ⟨s, w, a1, a2, a3, a4⟩ := h2.2 v L hv
    exact ⟨s, w, by rw [hR (x + 2) (by omega) (by omega)]; exact a1, a2, a3, hsc _ _ _ a4⟩
  · rw [hI (x + 1) (by omega)]; exact h3.1
  · obtain ⟨t, a1, a2⟩ := h3.2 j st hj
    exact ⟨t, by rw [hR (x + 3) (by omega) (by omega)]; exact a1, a2.cong3 hT (fun b q z1 z2 => hI b (h8 b q z2)) (fun b q z1 z2 => hR b (h8 b q z2) (by omega))⟩
  · obtain ⟨a1, D, w, a2, a3⟩ := h4
    refine ⟨by rw [hI (x + 32) (by omega)]; exact a1, D, w, hsc _ _ _ a2, fun ho => ?_⟩
    obtain ⟨d1, d2, d3, d4, d5, d6⟩ := a3 ho
    rw [hI (x + 32) (by omega), hR (x + 59) (by omega) (by omega)]
    refine ⟨d1, d2, d3, d4, d5, fun j q hq => ?_⟩
    obtain ⟨p, p1, p2, p3⟩ := d6 j q hq
    exact ⟨p, p1, p2, p3.cong3 hT (hI p (h8 p _ p3.1))⟩
  · by_cases hji : j = i
    · subst hji
      have e : (S.setR j o).rs j = o := if_pos rfl
      rw [e]
      refine ⟨fun z => (by rw [hR1] at z; cases z), fun r hr2 => ?_⟩
      obtain rfl : sz = r := Option.some.inj (hR1.symm.trans hr2)
      refine ⟨Or.inr h7, hr, h0, hk, fun j2 hj2 hr3 => ?_⟩
      by_cases hj3 : j2 = j
      · exact hj3
      · rw [hR2 j2 hj2 hj3] at hr3
        have := (hrn sz ((h5.1 j2 hj2).2 sz hr3).2.1).2.2
        omega
    · have e : (S.setR i o).rs j = S.rs j := if_neg hji
      rw [e, hR2 j hj hji]
      obtain ⟨e1, e2⟩ := h5.1 j hj
      refine ⟨e1, fun r hr2 => ?_⟩
      obtain ⟨f1, f2, f3, f4, f5⟩ := e2 r hr2
      obtain ⟨g1, g2, g3⟩ := hrn r f2
      refine ⟨f1, g1, by rw [g2 r (by omega) (by omega)]; exact f3, fun c hc => (f4 c hc).cong g2, fun j2 hj2 hr3 => ?_⟩
      by_cases hj3 : j2 = i
      · subst hj3
        rw [hR1] at hr3
        cases hr3
        omega
      · rw [hR2 j2 hj2 hj3] at hr3
        exact f5 j2 hj2 hr3
  · obtain ⟨q, q1, q2, q3, q4⟩ := h5.2
    obtain ⟨g1, g2, g3⟩ := hrn q q3
    refine ⟨q, by rw [hR x (by omega) (by omega)]; exact q1, q2, g1, fun j hj hz => ?_⟩
    by_cases hji : j = i
    · subst hji
      rw [hR1] at hz
      cases hz
      omega
    · rw [hR2 j hj hji] at hz
      exact q4 j hj hz
/-- where a record may be written -/
def c_hole (S : KA) (x i r sz : Nat) (T : q_T) (I : q_I) (R : q_R) (sz' : Nat) (T' : q_T) (R' : q_R) : Prop := r_new r T' R' ∧ c_lay x T' R' ∧ c_ver x S.vs T' I R' ∧ (∀ j q, j < 16 → j ≠ i → R (x + 60) (nI j) = some q → R' (x + 60) (nI j) = some q ∧ r_new q T' R' ∧ q ≠ r) ∧
  ∀ (I' : q_I) (o : Option KR), (∀ b, b < r ∨ r + 8 ≤ b → I' b = I b) → I' r (nI 0) = p_b o.isSome → (∀ c, o = some c → k_rec r c I') → relC (S.setR i o) x sz' T' I' R' ∧ c_fr x sz T I R sz' T' I' R'
set_option maxHeartbeats 1000000 in
theorem c_Lens_rowFor (hC : relC S x sz T I R) {i : Nat} (hi : i < 16) (hn : S.rs i = none) : q_Cr g M_Lens_rowFor [.ref x, .int (nI i)] (sz, T, I, R, J) 8 2097 (fun q h' => ∃ (r sz' : Nat) (T' : q_T) (R' : q_R), q = some r ∧ h' = (sz', T', I, R', J) ∧ c_hole S x i r sz T I R sz' T' R') := by
  have hL := hC.1.1
  have t60 := (hL.2 2 _ _ _ rfl).2
  have r60 := (hL.2 2 _ _ _ rfl).1
  have h7 := hC.2.2.2.2.2.2.1
  have h8 := hC.2.2.2.2.2.2.2
  refine q_C.of (ls0 := [some (.ref x), some (.int (nI i))]) (by decide) rfl (by decide) (Nat.le_of_ble_eq_true rfl) rfl ?_
  cases hr : R (x + 60) (nI i) with
  | some r =>
    obtain ⟨b1, b2, b3, b4, b5⟩ := (hC.2.2.2.2.1.1 i hi).2 r hr
    refine q_aload_n d_Lens_rowFor_0 rfl rfl ?_
    refine q_getR (ci := 10) (fk := 2) d_Lens_rowFor_1 rfl (Nat.le_of_ble_eq_true rfl) w_274 (fun _ _ => rfl) hL.1 (hL.2 2 _ _ _ rfl).1 ?_
    refine q_iload_n d_Lens_rowFor_4 rfl rfl ?_
    refine q_aaldR (kd := _) d_Lens_rowFor_5 rfl (Nat.le_of_ble_eq_true rfl) (Nat.le_of_ble_eq_true rfl) (hL.2 2 _ _ _ rfl).2 (by first | assumption | exact vp_in_nI (by omega) (by omega)) (by first | assumption | rfl | (simp (disch := omega) only [q_upT_self, q_upT_ne, q_upR_self, q_upR_nea, q_upR_nk, q_upT_at, *]; done) | (simp (disch := omega) only [q_upT_self, q_upT_ne, q_upR_self, q_upR_nea, q_upR_nk, q_upT_at, *]; rfl)) ?_
    refine q_ifnonnull (tgt := 22) d_Lens_rowFor_6 rfl ?_
    refine q_aload_n d_Lens_rowFor_22 rfl rfl ?_
    refine q_getR (ci := 10) (fk := 2) d_Lens_rowFor_23 rfl (Nat.le_of_ble_eq_true rfl) w_274 (fun _ _ => rfl) hL.1 (hL.2 2 _ _ _ rfl).1 ?_
    refine q_iload_n d_Lens_rowFor_26 rfl rfl ?_
    refine q_aaldR (kd := _) d_Lens_rowFor_27 rfl (Nat.le_of_ble_eq_true rfl) (Nat.le_of_ble_eq_true rfl) (hL.2 2 _ _ _ rfl).2 (by first | assumption | exact vp_in_nI (by omega) (by omega)) (by first | assumption | rfl | (simp (disch := omega) only [q_upT_self, q_upT_ne, q_upR_self, q_upR_nea, q_upR_nk, q_upT_at, *]; done) | (simp (disch := omega) only [q_upT_self, q_upT_ne, q_upR_self, q_upR_nea, q_upR_nk, q_upT_at, *]; rfl)) ?_
    first | refine q_aret (v := some _) d_Lens_rowFor_28 rfl (by omega) (by omega) ?_ | refine q_aret (v := none) d_Lens_rowFor_28 rfl (by omega) (by omega) ?_ | refine q_aret d_Lens_rowFor_28 rfl (by omega) (by omega) ?_
    exact ⟨_, rfl, r, sz, T, R, rfl, rfl, b2, hC.1, hC.2.1, fun j q hj hji hq => ⟨hq, ((hC.2.2.2.2.1.1 j hj).2 q hq).2.1, fun z => hji (b5 j hj (by rw [← z]; exact hq))⟩, fun I' o i1 i2 i3 => hC.row hi hr i1 i2 i3⟩
  | none =>
    refine q_aload_n d_Lens_rowFor_0 rfl rfl ?_
    refine q_getR (ci := 10) (fk := 2) d_Lens_rowFor_1 rfl (Nat.le_of_ble_eq_true rfl) w_274 (fun _ _ => rfl) hL.1 (hL.2 2 _ _ _ rfl).1 ?_
    refine q_iload_n d_Lens_rowFor_4 rfl rfl ?_
    refine q_aald (kd := 4) (v := .null) d_Lens_rowFor_5 rfl (Nat.le_of_ble_eq_true rfl) (Nat.le_of_ble_eq_true rfl) t60 (vp_in_nI (by omega) (by omega)) (by rw [hr]; rfl) ?_
    refine q_ifnonnullN d_Lens_rowFor_6 ?_
    refine q_aload_n d_Lens_rowFor_9 rfl rfl ?_
    refine q_getR (ci := 10) (fk := 2) d_Lens_rowFor_10 rfl (Nat.le_of_ble_eq_true rfl) w_274 (fun _ _ => rfl) hL.1 (hL.2 2 _ _ _ rfl).1 ?_
    refine q_iload_n d_Lens_rowFor_13 rfl rfl ?_
    refine q_newN (ci := 5) (N := 6) d_Lens_rowFor_14 rfl rfl w_174 w_176 w_6 (by omega) (by omega) ?_
    refine q_dup d_Lens_rowFor_17 rfl ?_
    refine q_callINv (M2 := M_Row_init) d_Lens_rowFor_18 ⟨(Nat.le_of_ble_eq_true rfl), (Nat.le_of_ble_eq_true rfl), w_179, w_6, ⟨by decide, by decide⟩, show _ = some 0 by decide +kernel⟩ rfl rfl rfl w_177 w_178 rfl (Nat.le_of_ble_eq_true rfl) (by omega) (by omega) (c_Row_init _ q_upT_self (by omega)) ?_
    rintro _ rfl
    have tx : r_T (q_upT T sz (100 + 5, 0)) (sz + 1) x = some (110, 0) := by
      simp (disch := omega) only [r_T, q_upT_ne]; exact hL.1
    have t60b : r_T (q_upT T sz (100 + 5, 0)) (sz + 1) (x + 60) = some (4, 16) := by
      simp (disch := omega) only [r_T, q_upT_ne]; exact t60
    have tsz : r_T (q_upT T sz (100 + 5, 0)) (sz + 1) sz = some (105, 0) := by
      simp (disch := omega) only [r_T, q_upT_ne, q_upT_self]
    obtain ⟨T1, hT1⟩ : ∃ T1, T1 = r_T (q_upT T sz (100 + 5, 0)) (sz + 1) := ⟨_, rfl⟩
    obtain ⟨R1, hR1⟩ : ∃ R1, R1 = r_R R sz (sz + 1) := ⟨_, rfl⟩
    have hR1x : R1 x = R x := by rw [hR1]; funext j; simp (disch := omega) only [r_R, q_upR_nea]
    have x60 : q_upR R1 (x + 60) (nI i) (some sz) x (nI 2) = some (x + 60) := by rw [q_upR_nea (by omega), hR1x]; exact r60
    rw [← hT1] at tx t60b tsz ⊢
    rw [← hR1]
    refine q_aast (kd := 4) (ci := 5) d_Lens_rowFor_21 rfl rfl (Nat.le_of_ble_eq_true rfl) (Nat.le_of_ble_eq_true rfl) t60b tsz (vp_in_nI (by omega) (by omega)) ?_
    have hL2 : q_L 10 t_Lens x T1 (q_upR R1 (x + 60) (nI i) (some sz)) := hL.keep (fun a q z => by
      have := h8 a q z
      rw [hT1]; simp (disch := omega) only [r_T, q_upT_ne]; exact z) (fun fk off kd n z => by rw [q_upR_nea (by omega), hR1x])
    have s60 : q_upR R1 (x + 60) (nI i) (some sz) (x + 60) (nI i) = some sz := q_upR_self
    have hL := hL2
    refine q_aload_n d_Lens_rowFor_22 rfl rfl ?_
    refine q_getR (ci := 10) (fk := 2) d_Lens_rowFor_23 rfl (Nat.le_of_ble_eq_true rfl) w_274 (fun _ _ => rfl) hL.1 (hL.2 2 _ _ _ rfl).1 ?_
    refine q_iload_n d_Lens_rowFor_26 rfl rfl ?_
    refine q_aaldR (kd := _) d_Lens_rowFor_27 rfl (Nat.le_of_ble_eq_true rfl) (Nat.le_of_ble_eq_true rfl) (hL.2 2 _ _ _ rfl).2 (by first | assumption | exact vp_in_nI (by omega) (by omega)) (by first | assumption | rfl | (simp (disch := omega) only [q_upT_self, q_upT_ne, q_upR_self, q_upR_nea, q_upR_nk, q_upT_at, *]; done) | (simp (disch := omega) only [q_upT_self, q_upT_ne, q_upR_self, q_upR_nea, q_upR_nk, q_upT_at, *]; rfl)) ?_
    first | refine q_aret (v := some _) d_Lens_rowFor_28 rfl (by omega) (by omega) ?_ | refine q_aret (v := none) d_Lens_rowFor_28 rfl (by omega) (by omega) ?_ | refine q_aret d_Lens_rowFor_28 rfl (by omega) (by omega) ?_
    have hTe : ∀ a q, T a = some q → T1 a = some q := fun a q z => by
      have := h8 a q z
      rw [hT1]; simp (disch := omega) only [r_T, q_upT_ne]; exact z
    have hTf : ∀ a q, T1 a = some q → a < sz + 1 + 1 + 1 + 1 + 1 + 1 + 1 + 1 := fun a q z => by
      refine Classical.byContradiction fun hn => ?_
      rw [hT1] at z
      simp (disch := omega) only [r_T, q_upT_ne] at z
      exact absurd (h8 a q z) (by omega)
    have hRe : ∀ b, b < sz → b ≠ x + 60 → q_upR R1 (x + 60) (nI i) (some sz) b = R b := fun b b1 b2 => by
      funext j
      rw [q_upR_nea b2, hR1]
      simp (disch := omega) only [r_R, q_upR_nea]
    have hR2 : ∀ j, j < 16 → j ≠ i → q_upR R1 (x + 60) (nI i) (some sz) (x + 60) (nI j) = R (x + 60) (nI j) := fun j hj hji => by
      rw [q_upR_nk (by omega), hR1]
      simp (disch := omega) only [r_R, q_upR_nea]
    have hrn : r_new sz T1 (q_upR R1 (x + 60) (nI i) (some sz)) := by
      rw [hT1, hR1]
      refine ⟨q_L.mk ?_ ?_, q_L.mk ?_ ?_, q_L.mk ?_ ?_, q_L.mk ?_ ?_⟩
      all_goals simp (disch := omega) only [q_La, t_Row, t_Cells, r_T, q_upT_at, q_upT_ne, r_R, q_upR_at, q_upR_nea, q_upR_nk, and_self]
    have hall : ∀ (I' : q_I) (o : Option KR), (∀ b, b < sz ∨ sz + 8 ≤ b → I' b = I b) → I' sz (nI 0) = p_b o.isSome → (∀ c, o = some c → k_rec sz c I') → relC (S.setR i o) x (sz + 1 + 1 + 1 + 1 + 1 + 1 + 1 + 1) T1 I' (q_upR R1 (x + 60) (nI i) (some sz)) ∧ c_fr x sz T I R (sz + 1 + 1 + 1 + 1 + 1 + 1 + 1 + 1) T1 I' (q_upR R1 (x + 60) (nI i) (some sz)) :=
      fun I' o i1 i2 i3 => hC.newrow hi (by omega) hTe hTf (fun b hb => i1 b (Or.inl hb)) hRe s60 hR2 hrn i2 i3
    have hI0 : (fun b j => if b = sz then (0 : Int32) else I b j) sz (nI 0) = p_b (none : Option KR).isSome := if_pos rfl
    have hno := (hall (fun b j => if b = sz then (0 : Int32) else I b j) none (fun b hb => by funext j; exact if_neg (by omega)) hI0 (fun c hc => by cases hc)).1
    refine ⟨_, rfl, sz, _, T1, _, rfl, rfl, hrn, hno.1, ⟨hC.2.1.1, fun v L hv => ?_⟩, fun j q hj hji hq => ?_, hall⟩
    · obtain ⟨s, w, a1, a2, a3, a4⟩ := hC.2.1.2 v L hv
      refine ⟨s, w, by rw [hRe (x + 2) (by omega) (by omega)]; exact a1, a2, a3, a4.cong3 hTe (fun _ _ _ => rfl) (fun b z1 z2 => ?_)⟩
      obtain ⟨q, hq⟩ := a4.1.tys z1 z2
      exact hRe b (h8 b q hq) (a4.1.ne z1 z2 t60 (by decide) (by decide) (by decide))
    · have hq2 := (hC.2.2.2.2.1.1 j hj).2 q hq
      refine ⟨by rw [hR2 j hj hji]; exact hq, hq2.2.1.keep hTe (fun b z1 z2 => ?_), fun z => ?_⟩
      · obtain ⟨u, u1, u2⟩ := hq2.2.1.tys z1 z2
        exact hRe b (h8 b u u1) (fun z => by rw [z, t60] at u1; cases u1; simp at u2)
      · have := h8 q _ (r_T0 hq2.2.1).1
        omega
end RowFor
