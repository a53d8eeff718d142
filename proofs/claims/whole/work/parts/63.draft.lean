/-! the draft alone is changed: leave, begin -/
abbrev M_Draft_openAt : q_M := (⟨"LensPaths$Draft", "openAt", "(ILLensPaths$Schema;)V"⟩, prog_4_method_2_code, 3, none, "LensPaths$Draft", [], false, 2, 43)
theorem d_Draft_openAt_0 : decode prog_4_method_2_code 0 = .ok (.aload_n 0, 1) := by decide +kernel
theorem d_Draft_openAt_1 : decode prog_4_method_2_code 1 = .ok (.iconst 1, 1) := by decide +kernel
theorem d_Draft_openAt_2 : decode prog_4_method_2_code 2 = .ok (.putfield 24, 3) := by decide +kernel
theorem d_Draft_openAt_5 : decode prog_4_method_2_code 5 = .ok (.aload_n 0, 1) := by decide +kernel
theorem d_Draft_openAt_6 : decode prog_4_method_2_code 6 = .ok (.iload_n 1, 1) := by decide +kernel
theorem d_Draft_openAt_7 : decode prog_4_method_2_code 7 = .ok (.putfield 28, 3) := by decide +kernel
theorem d_Draft_openAt_10 : decode prog_4_method_2_code 10 = .ok (.aload_n 0, 1) := by decide +kernel
theorem d_Draft_openAt_11 : decode prog_4_method_2_code 11 = .ok (.getfield 12, 3) := by decide +kernel
theorem d_Draft_openAt_14 : decode prog_4_method_2_code 14 = .ok (.aload_n 2, 1) := by decide +kernel
theorem d_Draft_openAt_15 : decode prog_4_method_2_code 15 = .ok (.invokevirtual 32, 3) := by decide +kernel
theorem d_Draft_openAt_18 : decode prog_4_method_2_code 18 = .ok (.aload_n 0, 1) := by decide +kernel
theorem d_Draft_openAt_19 : decode prog_4_method_2_code 19 = .ok (.aload_n 2, 1) := by decide +kernel
theorem d_Draft_openAt_20 : decode prog_4_method_2_code 20 = .ok (.getfield 36, 3) := by decide +kernel
theorem d_Draft_openAt_23 : decode prog_4_method_2_code 23 = .ok (.putfield 39, 3) := by decide +kernel
theorem d_Draft_openAt_26 : decode prog_4_method_2_code 26 = .ok (.aload_n 0, 1) := by decide +kernel
theorem d_Draft_openAt_27 : decode prog_4_method_2_code 27 = .ok (.aload_n 2, 1) := by decide +kernel
theorem d_Draft_openAt_28 : decode prog_4_method_2_code 28 = .ok (.getfield 36, 3) := by decide +kernel
theorem d_Draft_openAt_31 : decode prog_4_method_2_code 31 = .ok (.putfield 42, 3) := by decide +kernel
theorem d_Draft_openAt_34 : decode prog_4_method_2_code 34 = .ok (.aload_n 0, 1) := by decide +kernel
theorem d_Draft_openAt_35 : decode prog_4_method_2_code 35 = .ok (.iconst 0, 1) := by decide +kernel
theorem d_Draft_openAt_36 : decode prog_4_method_2_code 36 = .ok (.putfield 45, 3) := by decide +kernel
theorem d_Draft_openAt_39 : decode prog_4_method_2_code 39 = .ok (.return_, 1) := by decide +kernel
abbrev M_Lens_begin : q_M := (⟨"LensPaths", "begin", "(I)V"⟩, prog_1_method_3_code, 2, none, "LensPaths", [], false, 7, 111)
theorem d_Lens_begin_0 : decode prog_1_method_3_code 0 = .ok (.aload_n 0, 1) := by decide +kernel
theorem d_Lens_begin_1 : decode prog_1_method_3_code 1 = .ok (.iload_n 1, 1) := by decide +kernel
theorem d_Lens_begin_2 : decode prog_1_method_3_code 2 = .ok (.invokevirtual 86, 3) := by decide +kernel
theorem d_Lens_begin_5 : decode prog_1_method_3_code 5 = .ok (.aload_n 0, 1) := by decide +kernel
theorem d_Lens_begin_6 : decode prog_1_method_3_code 6 = .ok (.getfield 19, 3) := by decide +kernel
theorem d_Lens_begin_9 : decode prog_1_method_3_code 9 = .ok (.getfield 90, 3) := by decide +kernel
theorem d_Lens_begin_12 : decode prog_1_method_3_code 12 = .ok (.ifCond .eq 11, 3) := by decide +kernel
theorem d_Lens_begin_15 : decode prog_1_method_3_code 15 = .ok (.new 62, 3) := by decide +kernel
theorem d_Lens_begin_18 : decode prog_1_method_3_code 18 = .ok (.dup, 1) := by decide +kernel
theorem d_Lens_begin_19 : decode prog_1_method_3_code 19 = .ok (.invokespecial 64, 3) := by decide +kernel
theorem d_Lens_begin_22 : decode prog_1_method_3_code 22 = .ok (.athrow, 1) := by decide +kernel
theorem d_Lens_begin_23 : decode prog_1_method_3_code 23 = .ok (.aload_n 0, 1) := by decide +kernel
theorem d_Lens_begin_24 : decode prog_1_method_3_code 24 = .ok (.iconst 1, 1) := by decide +kernel
theorem d_Lens_begin_25 : decode prog_1_method_3_code 25 = .ok (.putfield 52, 3) := by decide +kernel
theorem d_Lens_begin_28 : decode prog_1_method_3_code 28 = .ok (.aload_n 0, 1) := by decide +kernel
theorem d_Lens_begin_29 : decode prog_1_method_3_code 29 = .ok (.getfield 19, 3) := by decide +kernel
theorem d_Lens_begin_32 : decode prog_1_method_3_code 32 = .ok (.iload_n 1, 1) := by decide +kernel
theorem d_Lens_begin_33 : decode prog_1_method_3_code 33 = .ok (.aload_n 0, 1) := by decide +kernel
theorem d_Lens_begin_34 : decode prog_1_method_3_code 34 = .ok (.getfield 12, 3) := by decide +kernel
theorem d_Lens_begin_37 : decode prog_1_method_3_code 37 = .ok (.getfield 48, 3) := by decide +kernel
theorem d_Lens_begin_40 : decode prog_1_method_3_code 40 = .ok (.iload_n 1, 1) := by decide +kernel
theorem d_Lens_begin_41 : decode prog_1_method_3_code 41 = .ok (.aaload, 1) := by decide +kernel
theorem d_Lens_begin_42 : decode prog_1_method_3_code 42 = .ok (.invokevirtual 93, 3) := by decide +kernel
theorem d_Lens_begin_45 : decode prog_1_method_3_code 45 = .ok (.return_, 1) := by decide +kernel
abbrev M_Model_begin : q_M := (⟨"LensPathsModel", "begin", "(I)V"⟩, prog_14_method_45_code, 2, none, "LensPathsModel", [], false, 1, 21)
theorem d_Model_begin_0 : decode prog_14_method_45_code 0 = .ok (.aload_n 0, 1) := by decide +kernel
theorem d_Model_begin_1 : decode prog_14_method_45_code 1 = .ok (.aload_n 0, 1) := by decide +kernel
theorem d_Model_begin_2 : decode prog_14_method_45_code 2 = .ok (.iload_n 1, 1) := by decide +kernel
theorem d_Model_begin_3 : decode prog_14_method_45_code 3 = .ok (.invokevirtual 254, 3) := by decide +kernel
theorem d_Model_begin_6 : decode prog_14_method_45_code 6 = .ok (.ifCond .ne 7, 3) := by decide +kernel
theorem d_Model_begin_9 : decode prog_14_method_45_code 9 = .ok (.iconst 1, 1) := by decide +kernel
theorem d_Model_begin_10 : decode prog_14_method_45_code 10 = .ok (.goto 15, 3) := by decide +kernel
theorem d_Model_begin_13 : decode prog_14_method_45_code 13 = .ok (.aload_n 0, 1) := by decide +kernel
theorem d_Model_begin_14 : decode prog_14_method_45_code 14 = .ok (.getfield 257, 3) := by decide +kernel
theorem d_Model_begin_17 : decode prog_14_method_45_code 17 = .ok (.ifCond .eq 7, 3) := by decide +kernel
theorem d_Model_begin_20 : decode prog_14_method_45_code 20 = .ok (.iconst 2, 1) := by decide +kernel
theorem d_Model_begin_21 : decode prog_14_method_45_code 21 = .ok (.goto 4, 3) := by decide +kernel
theorem d_Model_begin_24 : decode prog_14_method_45_code 24 = .ok (.iconst 0, 1) := by decide +kernel
theorem d_Model_begin_25 : decode prog_14_method_45_code 25 = .ok (.putfield 101, 3) := by decide +kernel
theorem d_Model_begin_28 : decode prog_14_method_45_code 28 = .ok (.aload_n 0, 1) := by decide +kernel
theorem d_Model_begin_29 : decode prog_14_method_45_code 29 = .ok (.getfield 101, 3) := by decide +kernel
theorem d_Model_begin_32 : decode prog_14_method_45_code 32 = .ok (.ifCond .le 4, 3) := by decide +kernel
theorem d_Model_begin_35 : decode prog_14_method_45_code 35 = .ok (.return_, 1) := by decide +kernel
theorem d_Model_begin_36 : decode prog_14_method_45_code 36 = .ok (.aload_n 0, 1) := by decide +kernel
theorem d_Model_begin_37 : decode prog_14_method_45_code 37 = .ok (.iconst 1, 1) := by decide +kernel
theorem d_Model_begin_38 : decode prog_14_method_45_code 38 = .ok (.putfield 257, 3) := by decide +kernel
theorem d_Model_begin_41 : decode prog_14_method_45_code 41 = .ok (.aload_n 0, 1) := by decide +kernel
theorem d_Model_begin_42 : decode prog_14_method_45_code 42 = .ok (.iconst 1, 1) := by decide +kernel
theorem d_Model_begin_43 : decode prog_14_method_45_code 43 = .ok (.putfield 234, 3) := by decide +kernel
theorem d_Model_begin_46 : decode prog_14_method_45_code 46 = .ok (.aload_n 0, 1) := by decide +kernel
theorem d_Model_begin_47 : decode prog_14_method_45_code 47 = .ok (.getfield 29, 3) := by decide +kernel
theorem d_Model_begin_50 : decode prog_14_method_45_code 50 = .ok (.aload_n 0, 1) := by decide +kernel
theorem d_Model_begin_51 : decode prog_14_method_45_code 51 = .ok (.getfield 260, 3) := by decide +kernel
theorem d_Model_begin_54 : decode prog_14_method_45_code 54 = .ok (.iload_n 1, 1) := by decide +kernel
theorem d_Model_begin_55 : decode prog_14_method_45_code 55 = .ok (.iastore, 1) := by decide +kernel
theorem d_Model_begin_56 : decode prog_14_method_45_code 56 = .ok (.aload_n 0, 1) := by decide +kernel
theorem d_Model_begin_57 : decode prog_14_method_45_code 57 = .ok (.getfield 35, 3) := by decide +kernel
theorem d_Model_begin_60 : decode prog_14_method_45_code 60 = .ok (.aload_n 0, 1) := by decide +kernel
theorem d_Model_begin_61 : decode prog_14_method_45_code 61 = .ok (.getfield 260, 3) := by decide +kernel
theorem d_Model_begin_64 : decode prog_14_method_45_code 64 = .ok (.iconst 0, 1) := by decide +kernel
theorem d_Model_begin_65 : decode prog_14_method_45_code 65 = .ok (.iastore, 1) := by decide +kernel
theorem d_Model_begin_66 : decode prog_14_method_45_code 66 = .ok (.return_, 1) := by decide +kernel
section DraftC
variable {g : q_G} {sz x : Nat} {T : q_T} {I : q_I} {R : q_R} {J : q_J} {S : KA}
theorem k_sl.cong {s : Nat} {w : Nat → Nat} {T2 : q_T} {R2 : q_R} (h : k_sl s w T R) (hT : ∀ a q, T a = some q → T2 a = some q) (hR : ∀ b, s ≤ b → b < s + 26 → R2 b = R b) : k_sl s w T2 R2 :=
  ⟨h.1.keep hT (fun fk off kd n z => by rw [hR s (by omega) (by omega)]), fun i hi => ⟨by rw [hR (s + 1) (by omega) (by omega)]; exact (h.2.1 i hi).1, (h.2.1 i hi).2⟩, h.2.2.1, fun j hj => hT _ _ (h.2.2.2 j hj)⟩
theorem k_sl.tys {s b : Nat} {w : Nat → Nat} (h : k_sl s w T R) (h1 : s ≤ b) (h2 : b < s + 26) : ∃ q, T b = some q := by
  by_cases e0 : b = s
  · exact ⟨_, by rw [e0]; exact h.1.1⟩
  by_cases e1 : b = s + 1
  · exact ⟨_, by rw [e1]; exact (h.1.2 0 _ _ _ rfl).2⟩
  · exact ⟨_, by rw [show b = s + 2 + (b - s - 2) by omega]; exact h.2.2.2 (b - s - 2) (by omega)⟩
theorem k_sc.cong3 {s : Nat} {L : List KF} {w : Nat → Nat} {T2 : q_T} {I2 : q_I} {R2 : q_R} (h : k_sc s L w T I R) (hT : ∀ a q, T a = some q → T2 a = some q) (hI : ∀ b, s ≤ b → b < s + 26 → I2 b = I b) (hR : ∀ b, s ≤ b → b < s + 26 → R2 b = R b) : k_sc s L w T2 I2 R2 := by
  have h2 := h.cong hI
  exact ⟨h2.1.cong hT hR, h2.2⟩
theorem r_new.keep {r : Nat} {T2 : q_T} {R2 : q_R} (h : r_new r T R) (hT : ∀ a q, T a = some q → T2 a = some q) (hR : ∀ b, r ≤ b → b < r + 8 → R2 b = R b) : r_new r T2 R2 :=
  ⟨h.1.keep hT (fun fk off kd n z => by rw [hR r (by omega) (by omega)]), h.2.1.keep hT (fun fk off kd n z => by rw [hR (r + 1) (by omega) (by omega)]), h.2.2.1.keep hT (fun fk off kd n z => by rw [hR (r + 4) (by omega) (by omega)]), h.2.2.2.keep hT (fun fk off kd n z => by rw [hR (r + 6) (by omega) (by omega)])⟩
theorem r_new.tys {r b : Nat} (h : r_new r T R) (h1 : r ≤ b) (h2 : b < r + 8) : ∃ q, T b = some q ∧ (q.1 = 105 ∨ q.1 = 101 ∨ q.1 = 0) := by
  obtain ⟨t0, t1, t2, t3, t4, t5, t6, t7⟩ := r_T0 h
  have : b = r ∨ b = r + 1 ∨ b = r + 2 ∨ b = r + 3 ∨ b = r + 4 ∨ b = r + 5 ∨ b = r + 6 ∨ b = r + 7 := by omega
  rcases this with rfl | rfl | rfl | rfl | rfl | rfl | rfl | rfl
  · exact ⟨_, t0, Or.inl rfl⟩
  · exact ⟨_, t1, Or.inr (Or.inl rfl)⟩
  · exact ⟨_, t2, Or.inr (Or.inr rfl)⟩
  · exact ⟨_, t3, Or.inr (Or.inr rfl)⟩
  · exact ⟨_, t4, Or.inr (Or.inl rfl)⟩
  · exact ⟨_, t5, Or.inr (Or.inr rfl)⟩
  · exact ⟨_, t6, Or.inr (Or.inl rfl)⟩
  · exact ⟨_, t7, Or.inr (Or.inr rfl)⟩
theorem k_prm.cong3 {p : Nat} {q : KP} {T2 : q_T} {I2 : q_I} (h : k_prm p q T I) (hT : ∀ a q, T a = some q → T2 a = some q) (hI : I2 p = I p) : k_prm p q T2 I2 := by
  unfold k_prm
  rw [hI]
  exact ⟨hT _ _ h.1, h.2⟩
theorem k_stp.cong3 {t i : Nat} {st : KS} {T2 : q_T} {I2 : q_I} {R2 : q_R} (h : k_stp x t i st T I R) (hT : ∀ a q, T a = some q → T2 a = some q) (hI : ∀ b q, x + 114 ≤ b → T b = some q → I2 b = I b) (hR : ∀ b q, x + 114 ≤ b → T b = some q → R2 b = R b) : k_stp x t i st T2 I2 R2 := by
  obtain ⟨a1, a2, a3, a4, a5, a6, a7, a8, a9, a10, a11, a12, a13⟩ := h
  have e1 := hI t _ a1 a2
  have e2 := hI (t + 2) _ (by omega) a11
  have e3 := hR t _ a1 a2
  have e4 := hR (t + 1) _ (by omega) a9
  unfold k_stp
  rw [e1, e2, e3, e4]
  refine ⟨a1, hT _ _ a2, a3, a4, a5, a6, a7, a8, hT _ _ a9, a10, hT _ _ a11, fun j q hq => ?_, a13⟩
  obtain ⟨p, p1, p2, p3⟩ := a12 j q hq
  exact ⟨p, p1, p2, p3.cong3 hT (hI p _ p2 p3.1)⟩
theorem relC.draft (h : relC S x sz T I R) {S' : KA} {sz' : Nat} {T' : q_T} {I' : q_I} {R' : q_R} (hsz : sz ≤ sz') (hT : ∀ a q, T a = some q → T' a = some q) (hT' : ∀ a q, T' a = some q → a < sz') (hI : ∀ b, b < sz → b ≠ x → b < x + 32 ∨ x + 59 ≤ b → I' b = I b) (hR : ∀ b, b < sz → b ≠ x + 34 → b ≠ x + 59 → R' b = R b) (e1 : S'.vs = S.vs) (e2 : S'.ss = S.ss) (e3 : S'.rs = S.rs) (hb : I' x (nI 6) = p_b S'.bg) (hd : c_drf x S' T' I' R') : relC S' x sz' T' I' R' ∧ c_fr x sz T I R sz' T' I' R' := by
  obtain ⟨h1, h2, h3, h4, h5, h6, h7, h8⟩ := h
  obtain ⟨d1, D, wd, d2, d3⟩ := h4
  have t59 := (h1.2.2.1.2 1 _ _ _ rfl).2
  have l34 : ∀ off kd n, t_Lens.lookup 0 = some (off, kd, n) → True := fun _ _ _ _ => trivial
  have hRx : ∀ b, b < x + 32 → x ≤ b → R' b = R b := fun b b1 b2 => hR b (by omega) (by omega) (by omega)
  refine ⟨⟨⟨?_, ?_, ?_, ?_, ?_, ?_⟩, ⟨?_, fun v L hv => ?_⟩, ⟨?_, fun i st hi => ?_⟩, hd, ⟨fun i hi => ?_, ?_⟩, hb, by omega, hT'⟩, hsz, hT, fun b hb => hI b (by unfold c_reg at hb; omega) (by unfold c_reg at hb; omega) (by unfold c_reg at hb; omega), fun b hb => hR b (by unfold c_reg at hb; omega) (by unfold c_reg at hb; omega) (by unfold c_reg at hb; omega)⟩
  · exact h1.1.keep hT (fun fk off kd n z => by rw [hR x (by omega) (by omega) (by omega)])
  · exact h1.2.1.keep hT (fun fk off kd n z => by rw [hR (x + 1) (by omega) (by omega) (by omega)])
  · exact h1.2.2.1.keep hT (fun fk off kd n z => by rw [hR (x + 32) (by omega) (by omega) (by omega)])
  · exact h1.2.2.2.1.keep hT (fun fk off kd n z => by rw [hR (x + 69) (by omega) (by omega) (by omega)])
  · exact h1.2.2.2.2.1.keep hT (fun fk off kd n z => by rw [hR (x + 70) (by omega) (by omega) (by omega)])
  · exact h1.2.2.2.2.2.keep hT (fun fk off kd n z => by rw [hR (x + 72) (by omega) (by omega) (by omega)])
  · rw [hI (x + 1) (by omega) (by omega) (by omega), e1]; exact h2.1
  · rw [e1] at hv
    obtain ⟨s, w, a1, a2, a3, a4⟩ := h2.2 v L hv
    have hdis := k_sl.dis a4.1 d2.1 a3
    have n1 : ∀ b, s ≤ b → b < s + 26 → b ≠ x := fun b z1 z2 => a4.1.ne z1 z2 h1.1.1 (by decide) (by decide) (by decide)
    have n2 : ∀ b, s ≤ b → b < s + 26 → b ≠ x + 32 := fun b z1 z2 => a4.1.ne z1 z2 h1.2.2.1.1 (by decide) (by decide) (by decide)
    have n3 : ∀ b, s ≤ b → b < s + 26 → b ≠ x + 59 := fun b z1 z2 => a4.1.ne z1 z2 t59 (by decide) (by decide) (by decide)
    have n4 : ∀ b, s ≤ b → b < s + 26 → b < sz := fun b z1 z2 => by
      obtain ⟨q, hq⟩ := a4.1.tys z1 z2
      exact h8 b q hq
    refine ⟨s, w, by rw [hR (x + 2) (by omega) (by omega) (by omega)]; exact a1, a2, a3, a4.cong3 hT (fun b z1 z2 => hI b (n4 b z1 z2) (n1 b z1 z2) ?_) (fun b z1 z2 => hR b (n4 b z1 z2) (by omega) (n3 b z1 z2))⟩
    have := n2 b z1 z2
    omega
  · rw [hI (x + 1) (by omega) (by omega) (by omega), e2]; exact h3.1
  · rw [e2] at hi
    obtain ⟨t, a1, a2⟩ := h3.2 i st hi
    exact ⟨t, by rw [hR (x + 3) (by omega) (by omega) (by omega)]; exact a1, a2.cong3 hT (fun b q z1 z2 => hI b (h8 b q z2) (by omega) (by omega)) (fun b q z1 z2 => hR b (h8 b q z2) (by omega) (by omega))⟩
  · rw [e3, hR (x + 60) (by omega) (by omega) (by omega)]
    obtain ⟨a1, a2⟩ := h5.1 i hi
    refine ⟨a1, fun r hr => ?_⟩
    obtain ⟨b1, b2, b3, b4, b5⟩ := a2 r hr
    have hn : ∀ b, r ≤ b → b < r + 8 → b < sz ∧ b ≠ x ∧ (b < x + 32 ∨ x + 59 ≤ b) ∧ b ≠ x + 34 ∧ b ≠ x + 59 := by
      intro b z1 z2
      obtain ⟨q, q1, q2⟩ := b2.tys z1 z2
      have m1 : b ≠ x := fun z => by rw [z, h1.1.1] at q1; cases q1; simp at q2
      have m2 : b ≠ x + 32 := fun z => by rw [z, h1.2.2.1.1] at q1; cases q1; simp at q2
      have m3 : b ≠ x + 59 := fun z => by rw [z, t59] at q1; cases q1; simp at q2
      have m4 : ¬ (x + 33 ≤ b ∧ b < x + 59) := fun z => by
        refine d2.1.ne z.1 (by omega) q1 ?_ ?_ ?_ rfl
        · rcases q2 with q2 | q2 | q2 <;> rw [q2] <;> decide
        · rcases q2 with q2 | q2 | q2 <;> rw [q2] <;> decide
        · rcases q2 with q2 | q2 | q2 <;> rw [q2] <;> decide
      exact ⟨h8 b q q1, m1, by omega, by omega, m3⟩
    have hIr : ∀ b, r ≤ b → b < r + 8 → I' b = I b := fun b z1 z2 => hI b (hn b z1 z2).1 (hn b z1 z2).2.1 (hn b z1 z2).2.2.1
    have hRr : ∀ b, r ≤ b → b < r + 8 → R' b = R b := fun b z1 z2 => hR b (hn b z1 z2).1 (hn b z1 z2).2.2.2.1 (hn b z1 z2).2.2.2.2
    exact ⟨b1, b2.keep hT hRr, by rw [hIr r (by omega) (by omega)]; exact b3, fun c hc => (b4 c hc).cong hIr, b5⟩
  · obtain ⟨q, q1, q2, q3, q4⟩ := h5.2
    rw [hR x (by omega) (by omega) (by omega), hR (x + 60) (by omega) (by omega) (by omega)]
    refine ⟨q, q1, q2, q3.keep hT (fun b z1 z2 => ?_), q4⟩
    obtain ⟨u, u1, u2⟩ := q3.tys z1 z2
    refine hR b (h8 b u u1) (fun z => ?_) (fun z => by rw [z, t59] at u1; cases u1; simp at u2)
    refine d2.1.ne (b := x + 34) (by omega) (by omega) (z ▸ u1) ?_ ?_ ?_ rfl
    · rcases u2 with u2 | u2 | u2 <;> rw [u2] <;> decide
    · rcases u2 with u2 | u2 | u2 <;> rw [u2] <;> decide
    · rcases u2 with u2 | u2 | u2 <;> rw [u2] <;> decide
def KA.leave (S : KA) : KA := (S.vs, S.ss, S.bg, false, S.df, S.dp, S.dD, S.dn, S.rs)
theorem relC.leave (h : relC S x sz T I R) : relC S.leave x sz T (q_upI I (x + 32) (nI 5) 0) R ∧ c_fr x sz T I R sz T (q_upI I (x + 32) (nI 5) 0) R := by
  obtain ⟨d1, D, wd, d2, d3⟩ := h.2.2.2.1
  refine h.draft (S' := S.leave) (Nat.le_refl _) (fun _ _ z => z) h.2.2.2.2.2.2.2 (fun b b1 b2 b3 => by funext i; rw [q_upI_nea (by omega)]) (fun _ _ _ _ => rfl) rfl rfl rfl (by rw [q_upI_nea (by omega)]; exact h.2.2.2.2.2.1) ⟨by rw [q_upI_self]; rfl, D, wd, d2.cong (fun b b1 b2 => by funext i; rw [q_upI_nea (by omega)]), fun z => by cases z⟩
theorem c_Lens_leaveS (h : relC S x sz T I R) : q_Ci g M_Lens_leave [.ref x] (sz, T, I, R, J) 1000 14000 (fun r h' => c_sp x sz T I R J (0, p_b S.op, S.leave) 0 r h') := by
  have hL := h.1.1
  have hD1 := h.1.2.2.1.1
  have ho := h.2.2.2.1.1
  obtain ⟨h1, h2⟩ := h.leave
  refine q_C.of (ls0 := [some (.ref x), none]) (by decide) rfl (by decide) (Nat.le_of_ble_eq_true rfl) rfl ?_
  refine q_aload_n d_Lens_leave_0 rfl rfl ?_
  refine q_getR (ci := 10) (fk := 1) d_Lens_leave_1 rfl (Nat.le_of_ble_eq_true rfl) w_273 (fun _ _ => rfl) hL.1 (hL.2 1 _ _ _ rfl).1 ?_
  refine q_getI (ci := 2) (fk := 5) d_Lens_leave_4 rfl (Nat.le_of_ble_eq_true rfl) w_157 (fun _ _ => rfl) (by first | assumption | rfl | (simp (disch := omega) only [q_upT_self, q_upT_ne, q_upR_self, q_upR_nea, q_upR_nk, q_upT_at, *]; done) | (simp (disch := omega) only [q_upT_self, q_upT_ne, q_upR_self, q_upR_nea, q_upR_nk, q_upT_at, *]; rfl)) ?_
  rw [ho]
  refine q_istore_n d_Lens_leave_7 rfl (Nat.le_of_ble_eq_true rfl) (by first | exact q_ok0 | exact q_okI rfl | exact q_okR rfl | exact q_okN rfl) rfl ?_
  refine q_aload_n d_Lens_leave_8 rfl rfl ?_
  refine q_getR (ci := 10) (fk := 1) d_Lens_leave_9 rfl (Nat.le_of_ble_eq_true rfl) w_273 (fun _ _ => rfl) hL.1 (hL.2 1 _ _ _ rfl).1 ?_
  refine q_iconst (v := nI 0) d_Lens_leave_12 (by decide) ?_
  refine q_putI (ci := 2) (fk := 5) d_Lens_leave_13 rfl (Nat.le_of_ble_eq_true rfl) w_157 (Or.inl rfl) (fun _ _ => rfl) (by first | rfl | decide | assumption) (by first | rfl | decide | assumption) (by first | assumption | rfl | (simp (disch := omega) only [q_upT_self, q_upT_ne, q_upR_self, q_upR_nea, q_upR_nk, q_upT_at, *]; done) | (simp (disch := omega) only [q_upT_self, q_upT_ne, q_upR_self, q_upR_nea, q_upR_nk, q_upT_at, *]; rfl)) ?_
  refine q_iload_n d_Lens_leave_16 rfl rfl ?_
  have fin : c_sp x sz T I R J (0, p_b S.op, S.leave) 0 (p_b S.op) (sz, T, q_upI I (x + 32) (nI 5) 0, R, J) := ⟨rfl, fun _ => rfl, _, _, _, _, rfl, h2, h1⟩
  cases hop : S.op with
  | false =>
    rw [hop] at fin
    refine q_zret d_Lens_leave_17 rfl (by first | exact Or.inl rfl | exact Or.inr rfl | assumption) (by omega) (by omega) ?_
    exact ⟨_, rfl, fin⟩
  | true =>
    rw [hop] at fin
    refine q_zret d_Lens_leave_17 rfl (by first | exact Or.inl rfl | exact Or.inr rfl | assumption) (by omega) (by omega) ?_
    exact ⟨_, rfl, fin⟩
theorem c_Draft_openAt {d s : Nat} {w w2 : Nat → Nat} {L : List KF} {v : Int32} (hL : q_L 2 t_Draft d T R) (hl : k_sl (d + 1) w T R) (hS : k_sc s L w2 T I R) (hne : d + 1 ≠ s) : q_Cv g M_Draft_openAt [.ref d, .int v, .ref s] (sz, T, I, R, J) 0 0 (fun h' => ∃ I' : q_I, h' = (sz, T, I', R, J) ∧ (∀ b, b < d ∨ d + 27 ≤ b → I' b = I b) ∧ k_sc (d + 1) (k_rs 0 L) w T I' R ∧ I' d (nI 5) = nI 1 ∧ I' d (nI 3) = v ∧ I' d (nI 4) = nI L.length ∧ I' d (nI 6) = nI L.length ∧ I' d (nI 2) = nI 0) := by
  have hs1 := hS.1.1.1
  have hl1 := hl.1.1
  have nd : ∀ b, s ≤ b → b < s + 26 → b ≠ d := fun b z1 z2 => hS.1.ne z1 z2 hL.1 (by decide) (by decide) (by decide)
  have hdis := k_sl.dis hl hS.1 hne
  have hsd : s ≠ d := nd s (by omega) (by omega)
  refine q_C.of (ls0 := [some (.ref d), some (.int v), some (.ref s)]) (by decide) rfl (by decide) (Nat.le_of_ble_eq_true rfl) rfl ?_
  refine q_aload_n d_Draft_openAt_0 rfl rfl ?_
  refine q_iconst (v := nI 1) d_Draft_openAt_1 (by decide) ?_
  refine q_putI (ci := 2) (fk := 5) d_Draft_openAt_2 rfl (Nat.le_of_ble_eq_true rfl) w_156 (Or.inl rfl) (fun _ _ => rfl) (by first | rfl | decide | assumption) (by first | rfl | decide | assumption) hL.1 ?_
  refine q_aload_n d_Draft_openAt_5 rfl rfl ?_
  refine q_iload_n d_Draft_openAt_6 rfl rfl ?_
  refine q_putI (ci := 2) (fk := 3) d_Draft_openAt_7 rfl (Nat.le_of_ble_eq_true rfl) w_152 (Or.inl rfl) (fun _ _ => rfl) rfl rfl hL.1 ?_
  refine q_aload_n d_Draft_openAt_10 rfl rfl ?_
  refine q_getR (ci := 2) (fk := 0) d_Draft_openAt_11 rfl (Nat.le_of_ble_eq_true rfl) w_143 (fun _ _ => rfl) hL.1 (hL.2 0 _ _ _ rfl).1 ?_
  refine q_aload_n d_Draft_openAt_14 rfl rfl ?_
  have hS2 : k_sc s L w2 T (q_upI (q_upI I d (nI 5) (nI 1)) d (nI 3) v) R := hS.cong (fun b z1 z2 => by funext i; rw [q_upI_nea (nd b z1 z2), q_upI_nea (nd b z1 z2)])
  refine q_callVv (M2 := M_Schema_makeLike) d_Draft_openAt_15 ⟨(Nat.le_of_ble_eq_true rfl), (Nat.le_of_ble_eq_true rfl), w_457, w_3, ⟨by decide, by decide⟩, show _ = some 1 by decide +kernel⟩ w_454 w_455 (ci := 6) rfl w_456 (by first | assumption | rfl | (simp (disch := omega) only [q_upT_self, q_upT_ne, q_upR_self, q_upR_nea, q_upR_nk, q_upT_at, *]; done) | (simp (disch := omega) only [q_upT_self, q_upT_ne, q_upR_self, q_upR_nea, q_upR_nk, q_upT_at, *]; rfl)) rfl (Nat.le_of_ble_eq_true rfl) (by omega) (by omega) (c_Schema_makeLike hl hS2 hne) ?_
  rintro _ ⟨I1, rfl, i1, i2⟩
  have hS3 : I1 s (nI 1) = nI L.length := by rw [i1 s (by omega)]; exact hS2.2.1
  refine q_aload_n d_Draft_openAt_18 rfl rfl ?_
  refine q_aload_n d_Draft_openAt_19 rfl rfl ?_
  refine q_getI (ci := 6) (fk := 1) d_Draft_openAt_20 rfl (Nat.le_of_ble_eq_true rfl) w_102 (fun _ _ => rfl) (by first | assumption | rfl | (simp (disch := omega) only [q_upT_self, q_upT_ne, q_upR_self, q_upR_nea, q_upR_nk, q_upT_at, *]; done) | (simp (disch := omega) only [q_upT_self, q_upT_ne, q_upR_self, q_upR_nea, q_upR_nk, q_upT_at, *]; rfl)) ?_
  rw [hS3]
  refine q_putI (ci := 2) (fk := 4) d_Draft_openAt_23 rfl (Nat.le_of_ble_eq_true rfl) w_155 (Or.inl rfl) (fun _ _ => rfl) rfl rfl hL.1 ?_
  refine q_aload_n d_Draft_openAt_26 rfl rfl ?_
  refine q_aload_n d_Draft_openAt_27 rfl rfl ?_
  refine q_getI (ci := 6) (fk := 1) d_Draft_openAt_28 rfl (Nat.le_of_ble_eq_true rfl) w_102 (fun _ _ => rfl) (by first | assumption | rfl | (simp (disch := omega) only [q_upT_self, q_upT_ne, q_upR_self, q_upR_nea, q_upR_nk, q_upT_at, *]; done) | (simp (disch := omega) only [q_upT_self, q_upT_ne, q_upR_self, q_upR_nea, q_upR_nk, q_upT_at, *]; rfl)) ?_
  rw [q_upI_nea hsd, hS3]
  refine q_putI (ci := 2) (fk := 6) d_Draft_openAt_31 rfl (Nat.le_of_ble_eq_true rfl) w_158 (Or.inl rfl) (fun _ _ => rfl) rfl rfl hL.1 ?_
  refine q_aload_n d_Draft_openAt_34 rfl rfl ?_
  refine q_iconst (v := nI 0) d_Draft_openAt_35 (by decide) ?_
  refine q_putI (ci := 2) (fk := 2) d_Draft_openAt_36 rfl (Nat.le_of_ble_eq_true rfl) w_149 (Or.inl rfl) (fun _ _ => rfl) rfl rfl hL.1 ?_
  refine q_vret d_Draft_openAt_39 rfl (by omega) (by omega) ?_
  have e1 : I1 d = q_upI (q_upI I d (nI 5) (nI 1)) d (nI 3) v d := i1 d (by omega)
  refine ⟨rfl, _, rfl, fun b hb => ?_, i2.cong (fun b z1 z2 => ?_), ?_, ?_, ?_, ?_, ?_⟩
  · funext i
    rw [q_upI_nea (by omega), q_upI_nea (by omega), q_upI_nea (by omega), i1 b (by omega), q_upI_nea (by omega), q_upI_nea (by omega)]
  · funext i
    rw [q_upI_nea (by omega), q_upI_nea (by omega), q_upI_nea (by omega)]
  · rw [q_upI_nk (by omega), q_upI_nk (by omega), q_upI_nk (by omega), e1, q_upI_nk (by omega), q_upI_self]
  · rw [q_upI_nk (by omega), q_upI_nk (by omega), q_upI_nk (by omega), e1, q_upI_self]
  · rw [q_upI_nk (by omega), q_upI_nk (by omega), q_upI_self]
  · rw [q_upI_nk (by omega), q_upI_self]
  · rw [q_upI_self]
/-- a step is begun -/
def KA.begin (S : KA) (v : Nat) (L : List KF) : KA := (S.vs, S.ss, true, true, v, [], k_rs 0 L, L.length, S.rs)
theorem k_rs_id {L : List KF} (h : ∀ (i : Nat) (f : KF), L[i]? = some f → f.2.2.2.2 = i) : k_rs 0 L = L := by
  refine List.ext_getElem? fun j => ?_
  rw [k_rs_at]
  cases hj : L[j]? with
  | none => rfl
  | some f =>
    have := h j f hj
    obtain ⟨a, b, c, d, e⟩ := f
    have he : e = j := this
    show some (a, b, c, d, 0 + j) = some (a, b, c, d, e)
    rw [he, Nat.zero_add]
theorem c_Lens_begin_no (hC : relC S x sz T I R) {v : Int32} (hb : k_bel S.vs.length v = false) : q_C g M_Lens_begin [.ref x, .int v] (sz, T, I, R, J) 1000 14000 (q_Xv [2, 0] (c_spv x sz T I R J (nI 1, 0, S))) := by
  have hL := hC.1.1
  refine q_C.of (ls0 := [some (.ref x), some (.int v)]) (by decide) rfl (by decide) (Nat.le_of_ble_eq_true rfl) rfl ?_
  refine q_aload_n d_Lens_begin_0 rfl rfl ?_
  refine q_iload_n d_Lens_begin_1 rfl rfl ?_
  refine q_callV (M2 := M_Lens_needVersion) d_Lens_begin_2 ⟨(Nat.le_of_ble_eq_true rfl), (Nat.le_of_ble_eq_true rfl), w_430, w_1, ⟨by decide, by decide⟩, show _ = some 1 by decide +kernel⟩ w_427 w_429 (ci := 10) rfl s_3 hL.1 rfl (Nat.le_of_ble_eq_true rfl) (by omega) (by omega) (c_needVersion_no hC hb) (fun v h' z => ?_) (fun z9 h' z => ?_)
  · cases z.1
  · obtain ⟨e9, rfl⟩ := z
    cases e9
    exact q_VX.out (by decide) (by omega) (by omega) (c_xv_no hC rfl)
theorem c_Lens_begin_no2 (hC : relC S x sz T I R) {v : Int32} (hb : k_bel S.vs.length v = true) (ho : S.op = true) : q_C g M_Lens_begin [.ref x, .int v] (sz, T, I, R, J) 1000 14000 (q_Xv [2, 0] (c_spv x sz T I R J (nI 2, 0, S))) := by
  have hL := hC.1.1
  have hD1 := hC.1.2.2.1.1
  refine q_C.of (ls0 := [some (.ref x), some (.int v)]) (by decide) rfl (by decide) (Nat.le_of_ble_eq_true rfl) rfl ?_
  refine q_aload_n d_Lens_begin_0 rfl rfl ?_
  refine q_iload_n d_Lens_begin_1 rfl rfl ?_
  refine q_callVv (M2 := M_Lens_needVersion) d_Lens_begin_2 ⟨(Nat.le_of_ble_eq_true rfl), (Nat.le_of_ble_eq_true rfl), w_430, w_1, ⟨by decide, by decide⟩, show _ = some 1 by decide +kernel⟩ w_427 w_429 (ci := 10) rfl s_3 hL.1 rfl (Nat.le_of_ble_eq_true rfl) (by omega) (by omega) (c_needVersion_ok hC hb) ?_
  rintro _ rfl
  refine q_aload_n d_Lens_begin_5 rfl rfl ?_
  refine q_getR (ci := 10) (fk := 1) d_Lens_begin_6 rfl (Nat.le_of_ble_eq_true rfl) w_273 (fun _ _ => rfl) hL.1 (hL.2 1 _ _ _ rfl).1 ?_
  refine q_getI (ci := 2) (fk := 5) d_Lens_begin_9 rfl (Nat.le_of_ble_eq_true rfl) w_157 (fun _ _ => rfl) (by first | assumption | rfl | (simp (disch := omega) only [q_upT_self, q_upT_ne, q_upR_self, q_upR_nea, q_upR_nk, q_upT_at, *]; done) | (simp (disch := omega) only [q_upT_self, q_upT_ne, q_upR_self, q_upR_nea, q_upR_nk, q_upT_at, *]; rfl)) ?_
  rw [hC.2.2.2.1.1, ho]
  refine q_if_eq (tgt := 23) d_Lens_begin_12 rfl (fun hc => ?_) (fun hc => ?_)
  · exact absurd hc (by decide)
  · refine q_throw (x := 0) d_Lens_begin_15 d_Lens_begin_18 d_Lens_begin_19 d_Lens_begin_22 (by decide +kernel) x_nmf (Nat.le_of_ble_eq_true rfl) (Nat.le_of_ble_eq_true rfl) (Nat.le_of_ble_eq_true rfl) w_307 w_14 x_at0 rfl (Nat.le_of_ble_eq_true rfl) (by omega) (by omega) ?_
    exact c_xv_no hC rfl
theorem c_Lens_begin (hw : wf S) (hC : relC S x sz T I R) {v : Nat} {L : List KF} (hv : S.vs[v]? = some L) (ho : S.op = false) : q_C g M_Lens_begin [.ref x, .int (nI v)] (sz, T, I, R, J) 1000 14000 (q_Xv [2, 0] (c_spv x sz T I R J (0, 0, S.begin v L))) := by
  have hL := hC.1.1
  have hD := hC.1.2.2.1
  have hD1 := hD.1
  have hV1 := hC.1.2.1.1
  have hV2 := (hC.1.2.1.2 0 _ _ _ rfl).1
  have hV3 := (hC.1.2.1.2 0 _ _ _ rfl).2
  have hvl := (List.getElem?_eq_some_iff.mp hv).1
  have hv8 := hw.1.2.1
  have hwf := hw.1.2.2 L (List.mem_of_getElem? hv)
  obtain ⟨s, w, a1, a2, a3, a4⟩ := hC.verAt hv
  obtain ⟨d1, D, wd, d2, d3⟩ := hC.2.2.2.1
  refine q_C.of (ls0 := [some (.ref x), some (.int (nI v))]) (by decide) rfl (by decide) (Nat.le_of_ble_eq_true rfl) rfl ?_
  refine q_aload_n d_Lens_begin_0 rfl rfl ?_
  refine q_iload_n d_Lens_begin_1 rfl rfl ?_
  refine q_callVv (M2 := M_Lens_needVersion) d_Lens_begin_2 ⟨(Nat.le_of_ble_eq_true rfl), (Nat.le_of_ble_eq_true rfl), w_430, w_1, ⟨by decide, by decide⟩, show _ = some 1 by decide +kernel⟩ w_427 w_429 (ci := 10) rfl s_3 hL.1 rfl (Nat.le_of_ble_eq_true rfl) (by omega) (by omega) (c_needVersion_ok hC (k_bel_nI (by omega) hvl)) ?_
  rintro _ rfl
  refine q_aload_n d_Lens_begin_5 rfl rfl ?_
  refine q_getR (ci := 10) (fk := 1) d_Lens_begin_6 rfl (Nat.le_of_ble_eq_true rfl) w_273 (fun _ _ => rfl) hL.1 (hL.2 1 _ _ _ rfl).1 ?_
  refine q_getI (ci := 2) (fk := 5) d_Lens_begin_9 rfl (Nat.le_of_ble_eq_true rfl) w_157 (fun _ _ => rfl) (by first | assumption | rfl | (simp (disch := omega) only [q_upT_self, q_upT_ne, q_upR_self, q_upR_nea, q_upR_nk, q_upT_at, *]; done) | (simp (disch := omega) only [q_upT_self, q_upT_ne, q_upR_self, q_upR_nea, q_upR_nk, q_upT_at, *]; rfl)) ?_
  rw [d1, ho]
  refine q_if_eq (tgt := 23) d_Lens_begin_12 rfl (fun hc => ?_) (fun hc => ?_)
  rotate_left
  · exact absurd rfl hc
  refine q_aload_n d_Lens_begin_23 rfl rfl ?_
  refine q_iconst (v := nI 1) d_Lens_begin_24 (by decide) ?_
  refine q_putI (ci := 10) (fk := 6) d_Lens_begin_25 rfl (Nat.le_of_ble_eq_true rfl) w_278 (Or.inl rfl) (fun _ _ => rfl) (by first | rfl | decide | assumption) (by first | rfl | decide | assumption) hL.1 ?_
  refine q_aload_n d_Lens_begin_28 rfl rfl ?_
  refine q_getR (ci := 10) (fk := 1) d_Lens_begin_29 rfl (Nat.le_of_ble_eq_true rfl) w_273 (fun _ _ => rfl) hL.1 (hL.2 1 _ _ _ rfl).1 ?_
  refine q_iload_n d_Lens_begin_32 rfl rfl ?_
  refine q_aload_n d_Lens_begin_33 rfl rfl ?_
  refine q_getR (ci := 10) (fk := 0) d_Lens_begin_34 rfl (Nat.le_of_ble_eq_true rfl) w_272 (fun _ _ => rfl) hL.1 (hL.2 0 _ _ _ rfl).1 ?_
  refine q_getR (ci := 9) (fk := 0) d_Lens_begin_37 rfl (Nat.le_of_ble_eq_true rfl) w_110 (fun _ _ => rfl) (by first | assumption | rfl | (simp (disch := omega) only [q_upT_self, q_upT_ne, q_upR_self, q_upR_nea, q_upR_nk, q_upT_at, *]; done) | (simp (disch := omega) only [q_upT_self, q_upT_ne, q_upR_self, q_upR_nea, q_upR_nk, q_upT_at, *]; rfl)) (by first | assumption | rfl | (simp (disch := omega) only [q_upT_self, q_upT_ne, q_upR_self, q_upR_nea, q_upR_nk, q_upT_at, *]; done) | (simp (disch := omega) only [q_upT_self, q_upT_ne, q_upR_self, q_upR_nea, q_upR_nk, q_upT_at, *]; rfl)) ?_
  refine q_iload_n d_Lens_begin_40 rfl rfl ?_
  refine q_aaldR (kd := _) d_Lens_begin_41 rfl (Nat.le_of_ble_eq_true rfl) (Nat.le_of_ble_eq_true rfl) (by first | assumption | rfl | (simp (disch := omega) only [q_upT_self, q_upT_ne, q_upR_self, q_upR_nea, q_upR_nk, q_upT_at, *]; done) | (simp (disch := omega) only [q_upT_self, q_upT_ne, q_upR_self, q_upR_nea, q_upR_nk, q_upT_at, *]; rfl)) (by first | assumption | exact vp_in_nI (by omega) (by omega)) (by first | assumption | rfl | (simp (disch := omega) only [q_upT_self, q_upT_ne, q_upR_self, q_upR_nea, q_upR_nk, q_upT_at, *]; done) | (simp (disch := omega) only [q_upT_self, q_upT_ne, q_upR_self, q_upR_nea, q_upR_nk, q_upT_at, *]; rfl)) ?_
  have nx : ∀ b, s ≤ b → b < s + 26 → b ≠ x := fun b z1 z2 => a4.1.ne z1 z2 hL.1 (by decide) (by decide) (by decide)
  refine q_callVv (M2 := M_Draft_openAt) d_Lens_begin_42 ⟨(Nat.le_of_ble_eq_true rfl), (Nat.le_of_ble_eq_true rfl), w_453, w_5, ⟨by decide, by decide⟩, show _ = some 2 by decide +kernel⟩ w_450 w_451 (ci := 2) rfl w_452 (by first | assumption | rfl | (simp (disch := omega) only [q_upT_self, q_upT_ne, q_upR_self, q_upR_nea, q_upR_nk, q_upT_at, *]; done) | (simp (disch := omega) only [q_upT_self, q_upT_ne, q_upR_self, q_upR_nea, q_upR_nk, q_upT_at, *]; rfl)) rfl (Nat.le_of_ble_eq_true rfl) (by omega) (by omega) (c_Draft_openAt hD d2.1 (a4.cong (I2 := q_upI I x (nI 6) (nI 1)) (fun b z1 z2 => by funext i; rw [q_upI_nea (nx b z1 z2)])) (fun z => a3 z.symm)) ?_
  rintro _ ⟨I1, rfl, i1, i2, i3, i4, i5, i6, i7⟩
  refine q_vret d_Lens_begin_45 rfl (by omega) (by omega) ?_
  obtain ⟨h1, h2⟩ := hC.draft (S' := S.begin v L) (T' := T) (I' := I1) (R' := R) (Nat.le_refl _) (fun _ _ z => z) hC.2.2.2.2.2.2.2 (fun b b1 b2 b3 => by rw [i1 b (by omega)]; funext i; rw [q_upI_nea b2]) (fun _ _ _ _ => rfl) rfl rfl rfl (by rw [i1 x (by omega), q_upI_self]; rfl) ⟨i3, k_rs 0 L, wd, i2, fun _ => ⟨rfl, i7, i4, fun L2 hL2 => by rw [i5, Option.some.inj (hv.symm.trans hL2)], i6, fun j q hq => by cases hq⟩⟩
  exact Or.inl ⟨rfl, rfl, fun _ => rfl, _, _, _, _, rfl, h2, h1⟩
end DraftC
