/-! field, both sides -/
abbrev M_Lens_field : q_M := (⟨"LensPaths", "field", "(IIII)I"⟩, prog_1_method_2_code, 7, (some .int), "LensPaths", [], false, 6, 90)
theorem d_Lens_field_0 : decode prog_1_method_2_code 0 = .ok (.aload_n 0, 1) := by decide +kernel
theorem d_Lens_field_1 : decode prog_1_method_2_code 1 = .ok (.getfield 12, 3) := by decide +kernel
theorem d_Lens_field_4 : decode prog_1_method_2_code 4 = .ok (.getfield 48, 3) := by decide +kernel
theorem d_Lens_field_7 : decode prog_1_method_2_code 7 = .ok (.iconst 0, 1) := by decide +kernel
theorem d_Lens_field_8 : decode prog_1_method_2_code 8 = .ok (.aaload, 1) := by decide +kernel
theorem d_Lens_field_9 : decode prog_1_method_2_code 9 = .ok (.astore 5, 2) := by decide +kernel
theorem d_Lens_field_11 : decode prog_1_method_2_code 11 = .ok (.aload_n 0, 1) := by decide +kernel
theorem d_Lens_field_12 : decode prog_1_method_2_code 12 = .ok (.getfield 52, 3) := by decide +kernel
theorem d_Lens_field_15 : decode prog_1_method_2_code 15 = .ok (.ifCond .ne 13, 3) := by decide +kernel
theorem d_Lens_field_18 : decode prog_1_method_2_code 18 = .ok (.aload 5, 2) := by decide +kernel
theorem d_Lens_field_20 : decode prog_1_method_2_code 20 = .ok (.getfield 56, 3) := by decide +kernel
theorem d_Lens_field_23 : decode prog_1_method_2_code 23 = .ok (.bipush 24, 2) := by decide +kernel
theorem d_Lens_field_25 : decode prog_1_method_2_code 25 = .ok (.if_icmp .ne 11, 3) := by decide +kernel
theorem d_Lens_field_28 : decode prog_1_method_2_code 28 = .ok (.new 62, 3) := by decide +kernel
theorem d_Lens_field_31 : decode prog_1_method_2_code 31 = .ok (.dup, 1) := by decide +kernel
theorem d_Lens_field_32 : decode prog_1_method_2_code 32 = .ok (.invokespecial 64, 3) := by decide +kernel
theorem d_Lens_field_35 : decode prog_1_method_2_code 35 = .ok (.athrow, 1) := by decide +kernel
theorem d_Lens_field_36 : decode prog_1_method_2_code 36 = .ok (.iload_n 1, 1) := by decide +kernel
theorem d_Lens_field_37 : decode prog_1_method_2_code 37 = .ok (.invokestatic 65, 3) := by decide +kernel
theorem d_Lens_field_40 : decode prog_1_method_2_code 40 = .ok (.istore 6, 2) := by decide +kernel
theorem d_Lens_field_42 : decode prog_1_method_2_code 42 = .ok (.aload 5, 2) := by decide +kernel
theorem d_Lens_field_44 : decode prog_1_method_2_code 44 = .ok (.iload 6, 2) := by decide +kernel
theorem d_Lens_field_46 : decode prog_1_method_2_code 46 = .ok (.invokevirtual 71, 3) := by decide +kernel
theorem d_Lens_field_49 : decode prog_1_method_2_code 49 = .ok (.ifCond .eq 13, 3) := by decide +kernel
theorem d_Lens_field_52 : decode prog_1_method_2_code 52 = .ok (.iload_n 2, 1) := by decide +kernel
theorem d_Lens_field_53 : decode prog_1_method_2_code 53 = .ok (.iload_n 3, 1) := by decide +kernel
theorem d_Lens_field_54 : decode prog_1_method_2_code 54 = .ok (.iload 4, 2) := by decide +kernel
theorem d_Lens_field_56 : decode prog_1_method_2_code 56 = .ok (.invokestatic 75, 3) := by decide +kernel
theorem d_Lens_field_59 : decode prog_1_method_2_code 59 = .ok (.ifCond .ne 11, 3) := by decide +kernel
theorem d_Lens_field_62 : decode prog_1_method_2_code 62 = .ok (.new 79, 3) := by decide +kernel
theorem d_Lens_field_65 : decode prog_1_method_2_code 65 = .ok (.dup, 1) := by decide +kernel
theorem d_Lens_field_66 : decode prog_1_method_2_code 66 = .ok (.invokespecial 81, 3) := by decide +kernel
theorem d_Lens_field_69 : decode prog_1_method_2_code 69 = .ok (.athrow, 1) := by decide +kernel
theorem d_Lens_field_70 : decode prog_1_method_2_code 70 = .ok (.aload 5, 2) := by decide +kernel
theorem d_Lens_field_72 : decode prog_1_method_2_code 72 = .ok (.iload 6, 2) := by decide +kernel
theorem d_Lens_field_74 : decode prog_1_method_2_code 74 = .ok (.iload_n 2, 1) := by decide +kernel
theorem d_Lens_field_75 : decode prog_1_method_2_code 75 = .ok (.iload_n 3, 1) := by decide +kernel
theorem d_Lens_field_76 : decode prog_1_method_2_code 76 = .ok (.iload 4, 2) := by decide +kernel
theorem d_Lens_field_78 : decode prog_1_method_2_code 78 = .ok (.aload 5, 2) := by decide +kernel
theorem d_Lens_field_80 : decode prog_1_method_2_code 80 = .ok (.getfield 56, 3) := by decide +kernel
theorem d_Lens_field_83 : decode prog_1_method_2_code 83 = .ok (.invokevirtual 82, 3) := by decide +kernel
theorem d_Lens_field_86 : decode prog_1_method_2_code 86 = .ok (.pop, 1) := by decide +kernel
theorem d_Lens_field_87 : decode prog_1_method_2_code 87 = .ok (.aload 5, 2) := by decide +kernel
theorem d_Lens_field_89 : decode prog_1_method_2_code 89 = .ok (.getfield 56, 3) := by decide +kernel
theorem d_Lens_field_92 : decode prog_1_method_2_code 92 = .ok (.ireturn, 1) := by decide +kernel
abbrev M_Model_field : q_M := (⟨"LensPathsModel", "field", "(IIII)I"⟩, prog_14_method_41_code, 5, (some .int), "LensPathsModel", [], false, 4, 97)
theorem d_Model_field_0 : decode prog_14_method_41_code 0 = .ok (.aload_n 0, 1) := by decide +kernel
theorem d_Model_field_1 : decode prog_14_method_41_code 1 = .ok (.aload_n 0, 1) := by decide +kernel
theorem d_Model_field_2 : decode prog_14_method_41_code 2 = .ok (.getfield 234, 3) := by decide +kernel
theorem d_Model_field_5 : decode prog_14_method_41_code 5 = .ok (.ifCond .ne 14, 3) := by decide +kernel
theorem d_Model_field_8 : decode prog_14_method_41_code 8 = .ok (.aload_n 0, 1) := by decide +kernel
theorem d_Model_field_9 : decode prog_14_method_41_code 9 = .ok (.getfield 13, 3) := by decide +kernel
theorem d_Model_field_12 : decode prog_14_method_41_code 12 = .ok (.iconst 0, 1) := by decide +kernel
theorem d_Model_field_13 : decode prog_14_method_41_code 13 = .ok (.iaload, 1) := by decide +kernel
theorem d_Model_field_14 : decode prog_14_method_41_code 14 = .ok (.bipush 24, 2) := by decide +kernel
theorem d_Model_field_16 : decode prog_14_method_41_code 16 = .ok (.if_icmp .ne 7, 3) := by decide +kernel
theorem d_Model_field_19 : decode prog_14_method_41_code 19 = .ok (.iconst 1, 1) := by decide +kernel
theorem d_Model_field_20 : decode prog_14_method_41_code 20 = .ok (.goto 4, 3) := by decide +kernel
theorem d_Model_field_23 : decode prog_14_method_41_code 23 = .ok (.iconst 0, 1) := by decide +kernel
theorem d_Model_field_24 : decode prog_14_method_41_code 24 = .ok (.putfield 101, 3) := by decide +kernel
theorem d_Model_field_27 : decode prog_14_method_41_code 27 = .ok (.aload_n 0, 1) := by decide +kernel
theorem d_Model_field_28 : decode prog_14_method_41_code 28 = .ok (.getfield 101, 3) := by decide +kernel
theorem d_Model_field_31 : decode prog_14_method_41_code 31 = .ok (.ifCond .le 5, 3) := by decide +kernel
theorem d_Model_field_34 : decode prog_14_method_41_code 34 = .ok (.iconst 0, 1) := by decide +kernel
theorem d_Model_field_35 : decode prog_14_method_41_code 35 = .ok (.ireturn, 1) := by decide +kernel
theorem d_Model_field_36 : decode prog_14_method_41_code 36 = .ok (.aload_n 0, 1) := by decide +kernel
theorem d_Model_field_37 : decode prog_14_method_41_code 37 = .ok (.iconst 0, 1) := by decide +kernel
theorem d_Model_field_38 : decode prog_14_method_41_code 38 = .ok (.putfield 118, 3) := by decide +kernel
theorem d_Model_field_41 : decode prog_14_method_41_code 41 = .ok (.aload_n 0, 1) := by decide +kernel
theorem d_Model_field_42 : decode prog_14_method_41_code 42 = .ok (.iconst 0, 1) := by decide +kernel
theorem d_Model_field_43 : decode prog_14_method_41_code 43 = .ok (.invokevirtual 237, 3) := by decide +kernel
theorem d_Model_field_46 : decode prog_14_method_41_code 46 = .ok (.aload_n 0, 1) := by decide +kernel
theorem d_Model_field_47 : decode prog_14_method_41_code 47 = .ok (.aload_n 0, 1) := by decide +kernel
theorem d_Model_field_48 : decode prog_14_method_41_code 48 = .ok (.iload_n 1, 1) := by decide +kernel
theorem d_Model_field_49 : decode prog_14_method_41_code 49 = .ok (.iload_n 2, 1) := by decide +kernel
theorem d_Model_field_50 : decode prog_14_method_41_code 50 = .ok (.iload_n 3, 1) := by decide +kernel
theorem d_Model_field_51 : decode prog_14_method_41_code 51 = .ok (.iload 4, 2) := by decide +kernel
theorem d_Model_field_53 : decode prog_14_method_41_code 53 = .ok (.invokevirtual 240, 3) := by decide +kernel
theorem d_Model_field_56 : decode prog_14_method_41_code 56 = .ok (.ifCond .eq 7, 3) := by decide +kernel
theorem d_Model_field_59 : decode prog_14_method_41_code 59 = .ok (.iconst 0, 1) := by decide +kernel
theorem d_Model_field_60 : decode prog_14_method_41_code 60 = .ok (.goto 4, 3) := by decide +kernel
theorem d_Model_field_63 : decode prog_14_method_41_code 63 = .ok (.iconst 2, 1) := by decide +kernel
theorem d_Model_field_64 : decode prog_14_method_41_code 64 = .ok (.putfield 101, 3) := by decide +kernel
theorem d_Model_field_67 : decode prog_14_method_41_code 67 = .ok (.aload_n 0, 1) := by decide +kernel
theorem d_Model_field_68 : decode prog_14_method_41_code 68 = .ok (.getfield 101, 3) := by decide +kernel
theorem d_Model_field_71 : decode prog_14_method_41_code 71 = .ok (.ifCond .le 5, 3) := by decide +kernel
theorem d_Model_field_74 : decode prog_14_method_41_code 74 = .ok (.iconst 0, 1) := by decide +kernel
theorem d_Model_field_75 : decode prog_14_method_41_code 75 = .ok (.ireturn, 1) := by decide +kernel
theorem d_Model_field_76 : decode prog_14_method_41_code 76 = .ok (.aload_n 0, 1) := by decide +kernel
theorem d_Model_field_77 : decode prog_14_method_41_code 77 = .ok (.iload_n 1, 1) := by decide +kernel
theorem d_Model_field_78 : decode prog_14_method_41_code 78 = .ok (.iload_n 2, 1) := by decide +kernel
theorem d_Model_field_79 : decode prog_14_method_41_code 79 = .ok (.iload_n 2, 1) := by decide +kernel
theorem d_Model_field_80 : decode prog_14_method_41_code 80 = .ok (.iconst 2, 1) := by decide +kernel
theorem d_Model_field_81 : decode prog_14_method_41_code 81 = .ok (.if_icmp .ne 7, 3) := by decide +kernel
theorem d_Model_field_84 : decode prog_14_method_41_code 84 = .ok (.iconst 0, 1) := by decide +kernel
theorem d_Model_field_85 : decode prog_14_method_41_code 85 = .ok (.goto 4, 3) := by decide +kernel
theorem d_Model_field_88 : decode prog_14_method_41_code 88 = .ok (.iload_n 3, 1) := by decide +kernel
theorem d_Model_field_89 : decode prog_14_method_41_code 89 = .ok (.iload_n 2, 1) := by decide +kernel
theorem d_Model_field_90 : decode prog_14_method_41_code 90 = .ok (.iconst 2, 1) := by decide +kernel
theorem d_Model_field_91 : decode prog_14_method_41_code 91 = .ok (.if_icmp .ne 7, 3) := by decide +kernel
theorem d_Model_field_94 : decode prog_14_method_41_code 94 = .ok (.iconst 0, 1) := by decide +kernel
theorem d_Model_field_95 : decode prog_14_method_41_code 95 = .ok (.goto 5, 3) := by decide +kernel
theorem d_Model_field_98 : decode prog_14_method_41_code 98 = .ok (.iload 4, 2) := by decide +kernel
theorem d_Model_field_100 : decode prog_14_method_41_code 100 = .ok (.invokevirtual 139, 3) := by decide +kernel
theorem d_Model_field_103 : decode prog_14_method_41_code 103 = .ok (.pop, 1) := by decide +kernel
theorem d_Model_field_104 : decode prog_14_method_41_code 104 = .ok (.aload_n 0, 1) := by decide +kernel
theorem d_Model_field_105 : decode prog_14_method_41_code 105 = .ok (.iconst 0, 1) := by decide +kernel
theorem d_Model_field_106 : decode prog_14_method_41_code 106 = .ok (.invokevirtual 244, 3) := by decide +kernel
theorem d_Model_field_109 : decode prog_14_method_41_code 109 = .ok (.aload_n 0, 1) := by decide +kernel
theorem d_Model_field_110 : decode prog_14_method_41_code 110 = .ok (.getfield 13, 3) := by decide +kernel
theorem d_Model_field_113 : decode prog_14_method_41_code 113 = .ok (.iconst 0, 1) := by decide +kernel
theorem d_Model_field_114 : decode prog_14_method_41_code 114 = .ok (.iaload, 1) := by decide +kernel
theorem d_Model_field_115 : decode prog_14_method_41_code 115 = .ok (.ireturn, 1) := by decide +kernel
section FieldP
variable {g : q_G} {sz x m : Nat} {T : q_T} {I : q_I} {R : q_R} {J : q_J} {S : KA}
def KA.setF (S : KA) (L : List KF) : KA := ([L], S.ss, S.bg, S.op, S.df, S.dp, S.dD, S.dn, S.rs)
/-- what field may lead to -/
def o_field (S : KA) (L : List KF) (l : List Nat) (so lo hi : Int32) (o : KO) : Prop := ∃ L' : List KF, L'.Perm (k_new l so lo hi L.length :: L) ∧ k_srt L' ∧ o = (0, nI L'.length, S.setF L')
theorem relC.sch (h : relC S x sz T I R) (hs0 : S.ss = []) (ho : S.op = false) {s : Nat} {w w' : Nat → Nat} {L L' : List KF} {I' : q_I} {R' : q_R} (hv : S.vs[0]? = some L) (hs : R (x + 2) (nI 0) = some s) (h1 : c_out x s 26) (h2 : s ≠ x + 33) (hS : k_sc s L w T I R) (hS' : k_sc s L' w' T I' R') (hI : ∀ b, b < s ∨ s + 26 ≤ b → I' b = I b) (hR : ∀ b, b ≠ s + 1 → R' b = R b) (hv1 : S.vs.length = 1) : relC (S.setF L') x sz T I' R' ∧ c_fr x sz T I R sz T I' R' := by
  obtain ⟨g1, g2, g3, g4, g5, g6, g7, g8⟩ := h
  have nI' : ∀ a q, T a = some q → q.1 ≠ 106 → q.1 ≠ 2 → q.1 ≠ 103 → I' a = I a ∧ R' a = R a := fun a q z z1 z2 z3 => by
    have hn : ∀ b, s ≤ b → b < s + 26 → b ≠ a := fun b b1 b2 => hS.1.ne b1 b2 z z1 z2 z3
    have h9 : a < s ∨ s + 26 ≤ a := Classical.byContradiction fun hh => hn a (by omega) (by omega) rfl
    exact ⟨hI a h9, hR a (by omega)⟩
  have t2 := (g1.2.1.2 0 _ _ _ rfl).2
  have t3 := (g1.2.1.2 2 _ _ _ rfl).2
  have t60 := (g1.1.2 2 _ _ _ rfl).2
  have ex := nI' x _ g1.1.1 (by decide) (by decide) (by decide)
  have ex1 := nI' (x + 1) _ g1.2.1.1 (by decide) (by decide) (by decide)
  have ex2 := nI' (x + 2) _ t2 (by decide) (by decide) (by decide)
  have ex3 := nI' (x + 3) _ t3 (by decide) (by decide) (by decide)
  have ex32 := nI' (x + 32) _ g1.2.2.1.1 (by decide) (by decide) (by decide)
  have ex60 := nI' (x + 60) _ t60 (by decide) (by decide) (by decide)
  have ex69 := nI' (x + 69) _ g1.2.2.2.1.1 (by decide) (by decide) (by decide)
  have ex70 := nI' (x + 70) _ g1.2.2.2.2.1.1 (by decide) (by decide) (by decide)
  have ex72 := nI' (x + 72) _ g1.2.2.2.2.2.1 (by decide) (by decide) (by decide)
  have rrow : ∀ r, r_new r T R → (∀ b, r ≤ b → b < r + 8 → I' b = I b) ∧ r_new r T R' := fun r hr => by
    have : ∀ b, r ≤ b → b < r + 8 → I' b = I b ∧ R' b = R b := fun b b1 b2 => by
      obtain ⟨q, q1, q2⟩ := hr.tys b1 b2
      refine nI' b q q1 ?_ ?_ ?_
      · rcases q2 with q2 | q2 | q2 <;> rw [q2] <;> decide
      · rcases q2 with q2 | q2 | q2 <;> rw [q2] <;> decide
      · rcases q2 with q2 | q2 | q2 <;> rw [q2] <;> decide
    exact ⟨fun b b1 b2 => (this b b1 b2).1, hr.keep (fun _ _ z => z) (fun b b1 b2 => (this b b1 b2).2)⟩
  have hreg : ∀ b, ¬ c_reg x b → b < s ∨ s + 26 ≤ b := fun b hb => Classical.byContradiction fun hh => hb (h1.reg (by omega) (by omega))
  refine ⟨⟨⟨?_, ?_, ?_, ?_, ?_, ?_⟩, ⟨?_, fun v L2 hv2 => ?_⟩, ⟨?_, fun i st hi => ?_⟩, ?_, ⟨fun i hi => ?_, ?_⟩, by rw [ex.1]; exact g6, g7, g8⟩, Nat.le_refl _, fun _ _ z => z, fun b hb => hI b (hreg b hb), fun b hb => hR b (by have := hreg b hb; omega)⟩
  · exact g1.1.keep (fun _ _ z => z) (fun fk off kd n z => by rw [ex.2])
  · exact g1.2.1.keep (fun _ _ z => z) (fun fk off kd n z => by rw [ex1.2])
  · exact g1.2.2.1.keep (fun _ _ z => z) (fun fk off kd n z => by rw [ex32.2])
  · exact g1.2.2.2.1.keep (fun _ _ z => z) (fun fk off kd n z => by rw [ex69.2])
  · exact g1.2.2.2.2.1.keep (fun _ _ z => z) (fun fk off kd n z => by rw [ex70.2])
  · exact g1.2.2.2.2.2.keep (fun _ _ z => z) (fun fk off kd n z => by rw [ex72.2])
  · rw [ex1.1, g2.1, hv1]; rfl
  · have hv0 : v = 0 := by
      have h9 : ([L'] : List (List KF))[v]? = some L2 := hv2
      have := (List.getElem?_eq_some_iff.mp h9).1
      have h8 : ([L'] : List (List KF)).length = 1 := rfl
      omega
    subst hv0
    have h9 : L' = L2 := Option.some.inj hv2
    subst h9
    exact ⟨s, w', by rw [ex2.2]; exact hs, h1, h2, hS'⟩
  · rw [ex1.1]; exact g3.1
  · have hi2 : S.ss[i]? = some st := hi
    rw [hs0] at hi2
    cases hi2
  · obtain ⟨a1, D, wd, a2, a3⟩ := g4
    have hdis := k_sl.dis a2.1 hS.1 (fun z => h2 z.symm)
    refine ⟨by rw [ex32.1]; exact a1, D, wd, a2.cong3 (fun _ _ z => z) (fun b b1 b2 => hI b (by omega)) (fun b b1 b2 => hR b (by omega)), fun z => ?_⟩
    have z2 : S.op = true := z
    rw [ho] at z2
    cases z2
  · show (R' (x + 60) (nI i) = none → S.rs i = none) ∧ _
    rw [ex60.2]
    obtain ⟨a1, a2⟩ := g5.1 i hi
    refine ⟨a1, fun r hr => ?_⟩
    obtain ⟨b1, b2, b3, b4, b5⟩ := a2 r hr
    obtain ⟨c1, c2⟩ := rrow r b2
    exact ⟨b1, c2, by rw [c1 r (by omega) (by omega)]; exact b3, fun c hc => (b4 c hc).cong c1, b5⟩
  · obtain ⟨q, q1, q2, q3, q4⟩ := g5.2
    rw [ex.2, ex60.2]
    exact ⟨q, q1, q2, (rrow q q3).2, q4⟩
theorem c_Lens_field_no (hw : wf S) (hC : relC S x sz T I R) {p so lo hi : Int32} {L : List KF} (hv : S.vs[0]? = some L) (hb : S.bg = true ∨ L.length = 24) : q_C g M_Lens_field [.ref x, .int p, .int so, .int lo, .int hi] (sz, T, I, R, J) 1000 14000 (q_Xi [0, 1] (c_sp x sz T I R J (nI 1, 0, S))) := by
  have hL := hC.1.1
  have hV1 := hC.1.2.1.1
  have hV2 := (hC.1.2.1.2 0 _ _ _ rfl).1
  have hV3 := (hC.1.2.1.2 0 _ _ _ rfl).2
  obtain ⟨s, w, a1, a2, a3, a4⟩ := hC.verAt hv
  have hs1 := a4.1.1.1
  refine q_C.of (ls0 := [some (.ref x), some (.int p), some (.int so), some (.int lo), some (.int hi), none, none]) (by decide) rfl (by decide) (Nat.le_of_ble_eq_true rfl) rfl ?_
  refine q_aload_n d_Lens_field_0 rfl rfl ?_
  refine q_getR (ci := 10) (fk := 0) d_Lens_field_1 rfl (Nat.le_of_ble_eq_true rfl) w_272 (fun _ _ => rfl) hL.1 (hL.2 0 _ _ _ rfl).1 ?_
  refine q_getR (ci := 9) (fk := 0) d_Lens_field_4 rfl (Nat.le_of_ble_eq_true rfl) w_110 (fun _ _ => rfl) (by first | assumption | rfl | (simp (disch := omega) only [q_upT_self, q_upT_ne, q_upR_self, q_upR_nea, q_upR_nk, q_upT_at, *]; done) | (simp (disch := omega) only [q_upT_self, q_upT_ne, q_upR_self, q_upR_nea, q_upR_nk, q_upT_at, *]; rfl)) (by first | assumption | rfl | (simp (disch := omega) only [q_upT_self, q_upT_ne, q_upR_self, q_upR_nea, q_upR_nk, q_upT_at, *]; done) | (simp (disch := omega) only [q_upT_self, q_upT_ne, q_upR_self, q_upR_nea, q_upR_nk, q_upT_at, *]; rfl)) ?_
  refine q_iconst (v := nI 0) d_Lens_field_7 (by decide) ?_
  refine q_aaldR (kd := _) d_Lens_field_8 rfl (Nat.le_of_ble_eq_true rfl) (Nat.le_of_ble_eq_true rfl) (by first | assumption | rfl | (simp (disch := omega) only [q_upT_self, q_upT_ne, q_upR_self, q_upR_nea, q_upR_nk, q_upT_at, *]; done) | (simp (disch := omega) only [q_upT_self, q_upT_ne, q_upR_self, q_upR_nea, q_upR_nk, q_upT_at, *]; rfl)) (by first | assumption | exact vp_in_nI (by omega) (by omega)) (by first | assumption | rfl | (simp (disch := omega) only [q_upT_self, q_upT_ne, q_upR_self, q_upR_nea, q_upR_nk, q_upT_at, *]; done) | (simp (disch := omega) only [q_upT_self, q_upT_ne, q_upR_self, q_upR_nea, q_upR_nk, q_upT_at, *]; rfl)) ?_
  refine q_astore d_Lens_field_9 (Nat.le_of_ble_eq_true rfl) (by first | exact q_ok0 | exact q_okI rfl | exact q_okR rfl | exact q_okN rfl) rfl ?_
  refine q_aload_n d_Lens_field_11 rfl rfl ?_
  refine q_getI (ci := 10) (fk := 6) d_Lens_field_12 rfl (Nat.le_of_ble_eq_true rfl) w_278 (fun _ _ => rfl) hL.1 ?_
  rw [hC.2.2.2.2.2.1]
  cases hbg : S.bg with
  | true =>
    refine q_if_ne (tgt := 28) d_Lens_field_15 rfl (fun hc => ?_) (fun hc => ?_)
    · refine q_throw (x := 0) d_Lens_field_28 d_Lens_field_31 d_Lens_field_32 d_Lens_field_35 (by decide +kernel) x_nmf (Nat.le_of_ble_eq_true rfl) (Nat.le_of_ble_eq_true rfl) (Nat.le_of_ble_eq_true rfl) w_307 w_14 x_at0 rfl (Nat.le_of_ble_eq_true rfl) (by omega) (by omega) ?_
      exact c_xi_no hC rfl
    · exact absurd hc (by decide)
  | false =>
    refine q_if_ne (tgt := 28) d_Lens_field_15 rfl (fun hc => ?_) (fun hc => ?_)
    · exact absurd rfl hc
    refine q_aload d_Lens_field_18 rfl ?_
    refine q_getI (ci := 6) (fk := 1) d_Lens_field_20 rfl (Nat.le_of_ble_eq_true rfl) w_101 (fun _ _ => rfl) (by first | assumption | rfl | (simp (disch := omega) only [q_upT_self, q_upT_ne, q_upR_self, q_upR_nea, q_upR_nk, q_upT_at, *]; done) | (simp (disch := omega) only [q_upT_self, q_upT_ne, q_upR_self, q_upR_nea, q_upR_nk, q_upT_at, *]; rfl)) ?_
    have h24 : L.length = 24 := by
      rcases hb with z | z
      · rw [hbg] at z; cases z
      · exact z
    rw [a4.2.1, h24]
    refine q_bipush (v := nI 24) d_Lens_field_23 (by decide) ?_
    refine q_icmp_ne (tgt := 36) d_Lens_field_25 rfl (fun hc => ?_) (fun hc => ?_)
    · exact absurd rfl hc
    · refine q_throw (x := 0) d_Lens_field_28 d_Lens_field_31 d_Lens_field_32 d_Lens_field_35 (by decide +kernel) x_nmf (Nat.le_of_ble_eq_true rfl) (Nat.le_of_ble_eq_true rfl) (Nat.le_of_ble_eq_true rfl) w_307 w_14 x_at0 rfl (Nat.le_of_ble_eq_true rfl) (by omega) (by omega) ?_
      exact c_xi_no hC rfl
theorem c_Lens_field_no2 (hw : wf S) (hC : relC S x sz T I R) {p so lo hi : Int32} {L : List KF} (hv : S.vs[0]? = some L) (hb : S.bg = false) (h24 : L.length ≠ 24) (hk : (k_room L (k_of p) && k_shape so lo hi) = false) : q_C g M_Lens_field [.ref x, .int p, .int so, .int lo, .int hi] (sz, T, I, R, J) 1000 14000 (q_Xi [0, 1] (c_sp x sz T I R J (nI 2, 0, S))) := by
  have hL := hC.1.1
  have hV1 := hC.1.2.1.1
  have hV2 := (hC.1.2.1.2 0 _ _ _ rfl).1
  have hV3 := (hC.1.2.1.2 0 _ _ _ rfl).2
  obtain ⟨s, w, a1, a2, a3, a4⟩ := hC.verAt hv
  have hs1 := a4.1.1.1
  have hwf := hw.1.2.2 L (List.mem_of_getElem? hv)
  have hl24 := hwf.1.1
  refine q_C.of (ls0 := [some (.ref x), some (.int p), some (.int so), some (.int lo), some (.int hi), none, none]) (by decide) rfl (by decide) (Nat.le_of_ble_eq_true rfl) rfl ?_
  refine q_aload_n d_Lens_field_0 rfl rfl ?_
  refine q_getR (ci := 10) (fk := 0) d_Lens_field_1 rfl (Nat.le_of_ble_eq_true rfl) w_272 (fun _ _ => rfl) hL.1 (hL.2 0 _ _ _ rfl).1 ?_
  refine q_getR (ci := 9) (fk := 0) d_Lens_field_4 rfl (Nat.le_of_ble_eq_true rfl) w_110 (fun _ _ => rfl) (by first | assumption | rfl | (simp (disch := omega) only [q_upT_self, q_upT_ne, q_upR_self, q_upR_nea, q_upR_nk, q_upT_at, *]; done) | (simp (disch := omega) only [q_upT_self, q_upT_ne, q_upR_self, q_upR_nea, q_upR_nk, q_upT_at, *]; rfl)) (by first | assumption | rfl | (simp (disch := omega) only [q_upT_self, q_upT_ne, q_upR_self, q_upR_nea, q_upR_nk, q_upT_at, *]; done) | (simp (disch := omega) only [q_upT_self, q_upT_ne, q_upR_self, q_upR_nea, q_upR_nk, q_upT_at, *]; rfl)) ?_
  refine q_iconst (v := nI 0) d_Lens_field_7 (by decide) ?_
  refine q_aaldR (kd := _) d_Lens_field_8 rfl (Nat.le_of_ble_eq_true rfl) (Nat.le_of_ble_eq_true rfl) (by first | assumption | rfl | (simp (disch := omega) only [q_upT_self, q_upT_ne, q_upR_self, q_upR_nea, q_upR_nk, q_upT_at, *]; done) | (simp (disch := omega) only [q_upT_self, q_upT_ne, q_upR_self, q_upR_nea, q_upR_nk, q_upT_at, *]; rfl)) (by first | assumption | exact vp_in_nI (by omega) (by omega)) (by first | assumption | rfl | (simp (disch := omega) only [q_upT_self, q_upT_ne, q_upR_self, q_upR_nea, q_upR_nk, q_upT_at, *]; done) | (simp (disch := omega) only [q_upT_self, q_upT_ne, q_upR_self, q_upR_nea, q_upR_nk, q_upT_at, *]; rfl)) ?_
  refine q_astore d_Lens_field_9 (Nat.le_of_ble_eq_true rfl) (by first | exact q_ok0 | exact q_okI rfl | exact q_okR rfl | exact q_okN rfl) rfl ?_
  refine q_aload_n d_Lens_field_11 rfl rfl ?_
  refine q_getI (ci := 10) (fk := 6) d_Lens_field_12 rfl (Nat.le_of_ble_eq_true rfl) w_278 (fun _ _ => rfl) hL.1 ?_
  rw [hC.2.2.2.2.2.1, hb]
  refine q_if_ne (tgt := 28) d_Lens_field_15 rfl (fun hc => ?_) (fun hc => ?_)
  · exact absurd rfl hc
  refine q_aload d_Lens_field_18 rfl ?_
  refine q_getI (ci := 6) (fk := 1) d_Lens_field_20 rfl (Nat.le_of_ble_eq_true rfl) w_101 (fun _ _ => rfl) (by first | assumption | rfl | (simp (disch := omega) only [q_upT_self, q_upT_ne, q_upR_self, q_upR_nea, q_upR_nk, q_upT_at, *]; done) | (simp (disch := omega) only [q_upT_self, q_upT_ne, q_upR_self, q_upR_nea, q_upR_nk, q_upT_at, *]; rfl)) ?_
  rw [a4.2.1]
  refine q_bipush (v := nI 24) d_Lens_field_23 (by decide) ?_
  refine q_icmp_ne (tgt := 36) d_Lens_field_25 rfl (fun hc => ?_) (fun hc => ?_)
  rotate_left
  · exact absurd ((nI_eq (by omega) (by omega)).mp (by have := hc; simpa using this)) h24
  refine q_iload_n d_Lens_field_36 rfl rfl ?_
  refine q_callSi (M2 := M_Key_ofPath) d_Lens_field_37 ⟨(Nat.le_of_ble_eq_true rfl), (Nat.le_of_ble_eq_true rfl), w_374, w_15, ⟨by decide, by decide⟩, show _ = some 1 by decide +kernel⟩ w_372 w_373 rfl (Nat.le_of_ble_eq_true rfl) (by omega) (by omega) (c_Key_ofPath p) ?_
  rintro _ _ ⟨rfl, rfl⟩
  refine q_istore d_Lens_field_40 (Nat.le_of_ble_eq_true rfl) (by first | exact q_ok0 | exact q_okI rfl | exact q_okR rfl | exact q_okN rfl) rfl ?_
  refine q_aload d_Lens_field_42 rfl ?_
  refine q_iload d_Lens_field_44 rfl ?_
  refine q_callVi (M2 := M_Schema_hasRoomAt) d_Lens_field_46 ⟨(Nat.le_of_ble_eq_true rfl), (Nat.le_of_ble_eq_true rfl), w_378, w_3, ⟨by decide, by decide⟩, show _ = some 1 by decide +kernel⟩ w_375 w_376 (ci := 6) rfl w_377 (by first | assumption | rfl | (simp (disch := omega) only [q_upT_self, q_upT_ne, q_upR_self, q_upR_nea, q_upR_nk, q_upT_at, *]; done) | (simp (disch := omega) only [q_upT_self, q_upT_ne, q_upR_self, q_upR_nea, q_upR_nk, q_upT_at, *]; rfl)) rfl (Nat.le_of_ble_eq_true rfl) (by omega) (by omega) (c_Schema_hasRoomAt a4 hwf.1.2.1 hwf.1.2.2.1 (fun l hl => k_of_ok hl)) ?_
  rintro _ _ ⟨rfl, rfl⟩
  cases hr : k_room L (k_of p) with
  | false =>
    refine q_if_eq (tgt := 62) d_Lens_field_49 rfl (fun hc => ?_) (fun hc => ?_)
    · refine q_throw (x := 1) d_Lens_field_62 d_Lens_field_65 d_Lens_field_66 d_Lens_field_69 (by decide +kernel) x_nmf (Nat.le_of_ble_eq_true rfl) (Nat.le_of_ble_eq_true rfl) (Nat.le_of_ble_eq_true rfl) w_396 w_16 x_at1 rfl (Nat.le_of_ble_eq_true rfl) (by omega) (by omega) ?_
      exact c_xi_no hC rfl
    · exact absurd rfl hc
  | true =>
    rw [hr, Bool.true_and] at hk
    refine q_if_eq (tgt := 62) d_Lens_field_49 rfl (fun hc => ?_) (fun hc => ?_)
    · exact absurd hc (by decide)
    refine q_iload_n d_Lens_field_52 rfl rfl ?_
    refine q_iload_n d_Lens_field_53 rfl rfl ?_
    refine q_iload d_Lens_field_54 rfl ?_
    refine q_callSi (M2 := M_Lens_isShape) d_Lens_field_56 ⟨(Nat.le_of_ble_eq_true rfl), (Nat.le_of_ble_eq_true rfl), w_395, w_1, ⟨by decide, by decide⟩, show _ = some 3 by decide +kernel⟩ w_393 w_394 rfl (Nat.le_of_ble_eq_true rfl) (by omega) (by omega) (c_Lens_isShape so lo hi) ?_
    rintro _ _ ⟨rfl, rfl⟩
    rw [hk]
    refine q_if_ne (tgt := 70) d_Lens_field_59 rfl (fun hc => ?_) (fun hc => ?_)
    · exact absurd rfl hc
    · refine q_throw (x := 1) d_Lens_field_62 d_Lens_field_65 d_Lens_field_66 d_Lens_field_69 (by decide +kernel) x_nmf (Nat.le_of_ble_eq_true rfl) (Nat.le_of_ble_eq_true rfl) (Nat.le_of_ble_eq_true rfl) w_396 w_16 x_at1 rfl (Nat.le_of_ble_eq_true rfl) (by omega) (by omega) ?_
      exact c_xi_no hC rfl
theorem c_Lens_field (hw : wf S) (hC : relC S x sz T I R) {p so lo hi : Int32} {L : List KF} {l : List Nat} (hv : S.vs[0]? = some L) (hb : S.bg = false) (h24 : L.length ≠ 24) (hp : k_of p = some l) (hk : (k_room L (k_of p) && k_shape so lo hi) = true) : q_C g M_Lens_field [.ref x, .int p, .int so, .int lo, .int hi] (sz, T, I, R, J) 1000 14000 (q_Xi [0, 1] (fun k r h' => ∃ o, o_field S L l so lo hi o ∧ c_sp x sz T I R J o k r h')) := by
  have hL := hC.1.1
  have hV1 := hC.1.2.1.1
  have hV2 := (hC.1.2.1.2 0 _ _ _ rfl).1
  have hV3 := (hC.1.2.1.2 0 _ _ _ rfl).2
  obtain ⟨s, w, a1, a2, a3, a4⟩ := hC.verAt hv
  have hs1 := a4.1.1.1
  have hwf := hw.1.2.2 L (List.mem_of_getElem? hv)
  have hl24 := hwf.1.1
  obtain ⟨w1, w2, w3, w4⟩ := hw.2.2.2.2 hb
  rw [Bool.and_eq_true] at hk
  have hl0 : l ≠ [] := by
    have := hk.1
    rw [hp] at this
    intro z
    rw [z] at this
    cases this
  refine q_C.of (ls0 := [some (.ref x), some (.int p), some (.int so), some (.int lo), some (.int hi), none, none]) (by decide) rfl (by decide) (Nat.le_of_ble_eq_true rfl) rfl ?_
  refine q_aload_n d_Lens_field_0 rfl rfl ?_
  refine q_getR (ci := 10) (fk := 0) d_Lens_field_1 rfl (Nat.le_of_ble_eq_true rfl) w_272 (fun _ _ => rfl) hL.1 (hL.2 0 _ _ _ rfl).1 ?_
  refine q_getR (ci := 9) (fk := 0) d_Lens_field_4 rfl (Nat.le_of_ble_eq_true rfl) w_110 (fun _ _ => rfl) (by first | assumption | rfl | (simp (disch := omega) only [q_upT_self, q_upT_ne, q_upR_self, q_upR_nea, q_upR_nk, q_upT_at, *]; done) | (simp (disch := omega) only [q_upT_self, q_upT_ne, q_upR_self, q_upR_nea, q_upR_nk, q_upT_at, *]; rfl)) (by first | assumption | rfl | (simp (disch := omega) only [q_upT_self, q_upT_ne, q_upR_self, q_upR_nea, q_upR_nk, q_upT_at, *]; done) | (simp (disch := omega) only [q_upT_self, q_upT_ne, q_upR_self, q_upR_nea, q_upR_nk, q_upT_at, *]; rfl)) ?_
  refine q_iconst (v := nI 0) d_Lens_field_7 (by decide) ?_
  refine q_aaldR (kd := _) d_Lens_field_8 rfl (Nat.le_of_ble_eq_true rfl) (Nat.le_of_ble_eq_true rfl) (by first | assumption | rfl | (simp (disch := omega) only [q_upT_self, q_upT_ne, q_upR_self, q_upR_nea, q_upR_nk, q_upT_at, *]; done) | (simp (disch := omega) only [q_upT_self, q_upT_ne, q_upR_self, q_upR_nea, q_upR_nk, q_upT_at, *]; rfl)) (by first | assumption | exact vp_in_nI (by omega) (by omega)) (by first | assumption | rfl | (simp (disch := omega) only [q_upT_self, q_upT_ne, q_upR_self, q_upR_nea, q_upR_nk, q_upT_at, *]; done) | (simp (disch := omega) only [q_upT_self, q_upT_ne, q_upR_self, q_upR_nea, q_upR_nk, q_upT_at, *]; rfl)) ?_
  refine q_astore d_Lens_field_9 (Nat.le_of_ble_eq_true rfl) (by first | exact q_ok0 | exact q_okI rfl | exact q_okR rfl | exact q_okN rfl) rfl ?_
  refine q_aload_n d_Lens_field_11 rfl rfl ?_
  refine q_getI (ci := 10) (fk := 6) d_Lens_field_12 rfl (Nat.le_of_ble_eq_true rfl) w_278 (fun _ _ => rfl) hL.1 ?_
  rw [hC.2.2.2.2.2.1, hb]
  refine q_if_ne (tgt := 28) d_Lens_field_15 rfl (fun hc => ?_) (fun hc => ?_)
  · exact absurd rfl hc
  refine q_aload d_Lens_field_18 rfl ?_
  refine q_getI (ci := 6) (fk := 1) d_Lens_field_20 rfl (Nat.le_of_ble_eq_true rfl) w_101 (fun _ _ => rfl) (by first | assumption | rfl | (simp (disch := omega) only [q_upT_self, q_upT_ne, q_upR_self, q_upR_nea, q_upR_nk, q_upT_at, *]; done) | (simp (disch := omega) only [q_upT_self, q_upT_ne, q_upR_self, q_upR_nea, q_upR_nk, q_upT_at, *]; rfl)) ?_
  rw [a4.2.1]
  refine q_bipush (v := nI 24) d_Lens_field_23 (by decide) ?_
  refine q_icmp_ne (tgt := 36) d_Lens_field_25 rfl (fun hc => ?_) (fun hc => ?_)
  rotate_left
  · exact absurd ((nI_eq (by omega) (by omega)).mp (by have := hc; simpa using this)) h24
  refine q_iload_n d_Lens_field_36 rfl rfl ?_
  refine q_callSi (M2 := M_Key_ofPath) d_Lens_field_37 ⟨(Nat.le_of_ble_eq_true rfl), (Nat.le_of_ble_eq_true rfl), w_374, w_15, ⟨by decide, by decide⟩, show _ = some 1 by decide +kernel⟩ w_372 w_373 rfl (Nat.le_of_ble_eq_true rfl) (by omega) (by omega) (c_Key_ofPath p) ?_
  rintro _ _ ⟨rfl, rfl⟩
  refine q_istore d_Lens_field_40 (Nat.le_of_ble_eq_true rfl) (by first | exact q_ok0 | exact q_okI rfl | exact q_okR rfl | exact q_okN rfl) rfl ?_
  refine q_aload d_Lens_field_42 rfl ?_
  refine q_iload d_Lens_field_44 rfl ?_
  refine q_callVi (M2 := M_Schema_hasRoomAt) d_Lens_field_46 ⟨(Nat.le_of_ble_eq_true rfl), (Nat.le_of_ble_eq_true rfl), w_378, w_3, ⟨by decide, by decide⟩, show _ = some 1 by decide +kernel⟩ w_375 w_376 (ci := 6) rfl w_377 (by first | assumption | rfl | (simp (disch := omega) only [q_upT_self, q_upT_ne, q_upR_self, q_upR_nea, q_upR_nk, q_upT_at, *]; done) | (simp (disch := omega) only [q_upT_self, q_upT_ne, q_upR_self, q_upR_nea, q_upR_nk, q_upT_at, *]; rfl)) rfl (Nat.le_of_ble_eq_true rfl) (by omega) (by omega) (c_Schema_hasRoomAt a4 hwf.1.2.1 hwf.1.2.2.1 (fun l hl => k_of_ok hl)) ?_
  rintro _ _ ⟨rfl, rfl⟩
  rw [hk.1]
  refine q_if_eq (tgt := 62) d_Lens_field_49 rfl (fun hc => ?_) (fun hc => ?_)
  · exact absurd hc (by decide)
  refine q_iload_n d_Lens_field_52 rfl rfl ?_
  refine q_iload_n d_Lens_field_53 rfl rfl ?_
  refine q_iload d_Lens_field_54 rfl ?_
  refine q_callSi (M2 := M_Lens_isShape) d_Lens_field_56 ⟨(Nat.le_of_ble_eq_true rfl), (Nat.le_of_ble_eq_true rfl), w_395, w_1, ⟨by decide, by decide⟩, show _ = some 3 by decide +kernel⟩ w_393 w_394 rfl (Nat.le_of_ble_eq_true rfl) (by omega) (by omega) (c_Lens_isShape so lo hi) ?_
  rintro _ _ ⟨rfl, rfl⟩
  rw [hk.2]
  refine q_if_ne (tgt := 70) d_Lens_field_59 rfl (fun hc => ?_) (fun hc => ?_)
  rotate_left
  · exact absurd hc (by decide)
  rw [hp, show p_key (some l) = nI (k_key l) from rfl]
  refine q_aload d_Lens_field_70 rfl ?_
  refine q_iload d_Lens_field_72 rfl ?_
  refine q_iload_n d_Lens_field_74 rfl rfl ?_
  refine q_iload_n d_Lens_field_75 rfl rfl ?_
  refine q_iload d_Lens_field_76 rfl ?_
  refine q_aload d_Lens_field_78 rfl ?_
  refine q_getI (ci := 6) (fk := 1) d_Lens_field_80 rfl (Nat.le_of_ble_eq_true rfl) w_101 (fun _ _ => rfl) (by first | assumption | rfl | (simp (disch := omega) only [q_upT_self, q_upT_ne, q_upR_self, q_upR_nea, q_upR_nk, q_upT_at, *]; done) | (simp (disch := omega) only [q_upT_self, q_upT_ne, q_upR_self, q_upR_nea, q_upR_nk, q_upT_at, *]; rfl)) ?_
  rw [a4.2.1]
  refine q_callVr (M2 := M_Schema_insert) d_Lens_field_83 ⟨(Nat.le_of_ble_eq_true rfl), (Nat.le_of_ble_eq_true rfl), w_414, w_3, ⟨by decide, by decide⟩, show _ = some 5 by decide +kernel⟩ w_411 w_412 (ci := 6) rfl w_413 (by first | assumption | rfl | (simp (disch := omega) only [q_upT_self, q_upT_ne, q_upR_self, q_upR_nea, q_upR_nk, q_upT_at, *]; done) | (simp (disch := omega) only [q_upT_self, q_upT_ne, q_upR_self, q_upR_nea, q_upR_nk, q_upT_at, *]; rfl)) rfl (Nat.le_of_ble_eq_true rfl) (by omega) (by omega) (c_Schema_insert a4 hwf.1.2.1 (k_of_ok hp) hl0 (by omega) so lo hi L.length) ?_
  rintro _ _ ⟨I1, R1, w5, L1, a, rfl, rfl, i1, i2, i3, i4, i5, i6, i7, i8, i9⟩
  refine q_pop d_Lens_field_86 rfl ?_
  refine q_aload d_Lens_field_87 rfl ?_
  refine q_getI (ci := 6) (fk := 1) d_Lens_field_89 rfl (Nat.le_of_ble_eq_true rfl) w_101 (fun _ _ => rfl) (by first | assumption | rfl | (simp (disch := omega) only [q_upT_self, q_upT_ne, q_upR_self, q_upR_nea, q_upR_nk, q_upT_at, *]; done) | (simp (disch := omega) only [q_upT_self, q_upT_ne, q_upR_self, q_upR_nea, q_upR_nk, q_upT_at, *]; rfl)) ?_
  rw [i3.2.1]
  refine q_iret d_Lens_field_92 rfl (by omega) (by omega) ?_
  obtain ⟨h1, h2⟩ := hC.sch w2 w3 hv a1 a2 a3 a4 i3 i1 i2 w1
  exact Or.inl ⟨_, rfl, _, ⟨L1, i4, i5, rfl⟩, rfl, fun _ => rfl, _, _, _, _, rfl, h2, h1⟩
theorem c_Model_field_no (hw : wf S) (hM : relM S m T I R) {p so lo hi : Int32} {L : List KF} (hv : S.vs[0]? = some L) (hb : S.bg = true ∨ L.length = 24) : q_Ci g M_Model_field [.ref m, .int p, .int so, .int lo, .int hi] (sz, T, I, R, J) 0 0 (m_spm m sz T I R J (nI 1, 0, S)) := by
  have hL := hM.1
  have hV := hM.vl hv
  have fin : q_V g M_Model_field 0 0 0 0 (sz, T, I, R, J) (fun o h' => ∃ r : Int32, o = .inl (some (.int r)) ∧ m_spm m sz T I R J (nI 1, 0, S) r h') 19 [some (.ref m), some (.int p), some (.int so), some (.int lo), some (.int hi)] [.ref m] := by
    refine q_iconst (v := nI 1) d_Model_field_19 (by decide) ?_
    refine q_goto (tgt := 24) d_Model_field_20 rfl ?_
    refine q_putI (ci := 11) (fk := 0) d_Model_field_24 rfl (Nat.le_of_ble_eq_true rfl) w_1104 (Or.inl rfl) (fun _ _ => rfl) rfl rfl hL.1 ?_
    refine q_aload_n d_Model_field_27 rfl rfl ?_
    refine q_getI (ci := 11) (fk := 0) d_Model_field_28 rfl (Nat.le_of_ble_eq_true rfl) w_1104 (fun _ _ => rfl) hL.1 ?_
    rw [q_upI_self]
    refine q_if_le (tgt := 36) d_Model_field_31 rfl (fun hc => ?_) (fun hc => ?_)
    · exact absurd hc (by decide)
    · refine q_iconst (v := nI 0) d_Model_field_34 (by decide) ?_
      refine q_iret d_Model_field_35 rfl (by omega) (by omega) ?_
      exact ⟨_, rfl, m_no hM (by decide) _⟩
  refine q_C.of (ls0 := [some (.ref m), some (.int p), some (.int so), some (.int lo), some (.int hi)]) (by decide) rfl (by decide) (Nat.le_of_ble_eq_true rfl) rfl ?_
  refine q_aload_n d_Model_field_0 rfl rfl ?_
  refine q_aload_n d_Model_field_1 rfl rfl ?_
  refine q_getI (ci := 11) (fk := 7) d_Model_field_2 rfl (Nat.le_of_ble_eq_true rfl) w_1111 (fun _ _ => rfl) hL.1 ?_
  rw [hM.2.2.2.2]
  cases hbg : S.bg with
  | true =>
    refine q_if_ne (tgt := 19) d_Model_field_5 rfl (fun hc => ?_) (fun hc => ?_)
    · exact fin
    · exact absurd hc (by decide)
  | false =>
    refine q_if_ne (tgt := 19) d_Model_field_5 rfl (fun hc => ?_) (fun hc => ?_)
    · exact absurd rfl hc
    have h24 : L.length = 24 := by
      rcases hb with z | z
      · rw [hbg] at z; cases z
      · exact z
    refine q_aload_n d_Model_field_8 rfl rfl ?_
    refine q_getR (ci := 11) (fk := 2) d_Model_field_9 rfl (Nat.le_of_ble_eq_true rfl) w_1106 (fun _ _ => rfl) hL.1 (hL.2 2 _ _ _ rfl).1 ?_
    refine q_iconst (v := nI 0) d_Model_field_12 (by decide) ?_
    refine q_iald d_Model_field_13 (hL.2 2 _ _ _ rfl).2 (by first | assumption | exact vp_in_nI (by omega) (by omega)) ?_
    rw [hV.1, h24]
    refine q_bipush (v := nI 24) d_Model_field_14 (by decide) ?_
    refine q_icmp_ne (tgt := 23) d_Model_field_16 rfl (fun hc => ?_) (fun hc => ?_)
    · exact absurd rfl hc
    · exact fin
theorem c_Model_field_pre (hw : wf S) (hM : relM S m T I R) {p so lo hi : Int32} {L : List KF} (hv : S.vs[0]? = some L) (hb : S.bg = false) (h24 : L.length ≠ 24) {Q : q_O → q_H → Prop} (kk : ∀ I2 : q_I, m_ps m I I2 → I2 m (nI 27) ≠ nI 2 → k_mw m L I2 → q_V g M_Model_field 0 0 0 0 (sz, T, I2, R, J) Q 56 [some (.ref m), some (.int p), some (.int so), some (.int lo), some (.int hi)] [.int (p_b (k_room L (k_of p) && k_shape so lo hi)), .ref m]) : q_C g M_Model_field [.ref m, .int p, .int so, .int lo, .int hi] (sz, T, I, R, J) 0 0 Q := by
  have hL := hM.1
  have hV := hM.vl hv
  have hwf := hw.1.2.2 L (List.mem_of_getElem? hv)
  have hl24 := hwf.1.1
  obtain ⟨I1, hI1⟩ : ∃ I1, I1 = q_upI (q_upI I m (nI 0) (nI 0)) m (nI 27) (nI 0) := ⟨_, rfl⟩
  have hps : m_ps m I I1 := by
    rw [hI1]
    exact (m_ps.int (by decide) (by decide) (by decide) (by decide) (by decide)).trans (m_ps.int (by decide) (by decide) (by decide) (by decide) (by decide))
  refine q_C.of (ls0 := [some (.ref m), some (.int p), some (.int so), some (.int lo), some (.int hi)]) (by decide) rfl (by decide) (Nat.le_of_ble_eq_true rfl) rfl ?_
  refine q_aload_n d_Model_field_0 rfl rfl ?_
  refine q_aload_n d_Model_field_1 rfl rfl ?_
  refine q_getI (ci := 11) (fk := 7) d_Model_field_2 rfl (Nat.le_of_ble_eq_true rfl) w_1111 (fun _ _ => rfl) hL.1 ?_
  rw [hM.2.2.2.2, hb]
  refine q_if_ne (tgt := 19) d_Model_field_5 rfl (fun hc => ?_) (fun hc => ?_)
  · exact absurd rfl hc
  refine q_aload_n d_Model_field_8 rfl rfl ?_
  refine q_getR (ci := 11) (fk := 2) d_Model_field_9 rfl (Nat.le_of_ble_eq_true rfl) w_1106 (fun _ _ => rfl) hL.1 (hL.2 2 _ _ _ rfl).1 ?_
  refine q_iconst (v := nI 0) d_Model_field_12 (by decide) ?_
  refine q_iald d_Model_field_13 (hL.2 2 _ _ _ rfl).2 (by first | assumption | exact vp_in_nI (by omega) (by omega)) ?_
  rw [hV.1]
  refine q_bipush (v := nI 24) d_Model_field_14 (by decide) ?_
  refine q_icmp_ne (tgt := 23) d_Model_field_16 rfl (fun hc => ?_) (fun hc => ?_)
  rotate_left
  · exact absurd ((nI_eq (by omega) (by omega)).mp (by have := hc; simpa using this)) h24
  refine q_iconst (v := nI 0) d_Model_field_23 (by decide) ?_
  refine q_putI (ci := 11) (fk := 0) d_Model_field_24 rfl (Nat.le_of_ble_eq_true rfl) w_1104 (Or.inl rfl) (fun _ _ => rfl) rfl rfl hL.1 ?_
  refine q_aload_n d_Model_field_27 rfl rfl ?_
  refine q_getI (ci := 11) (fk := 0) d_Model_field_28 rfl (Nat.le_of_ble_eq_true rfl) w_1104 (fun _ _ => rfl) hL.1 ?_
  rw [q_upI_self]
  refine q_if_le (tgt := 36) d_Model_field_31 rfl (fun hc => ?_) (fun hc => ?_)
  rotate_left
  · exact absurd (Int32.le_refl _) hc
  refine q_aload_n d_Model_field_36 rfl rfl ?_
  refine q_iconst (v := nI 0) d_Model_field_37 (by decide) ?_
  refine q_putI (ci := 11) (fk := 27) d_Model_field_38 rfl (Nat.le_of_ble_eq_true rfl) w_1131 (Or.inl rfl) (fun _ _ => rfl) rfl rfl hL.1 ?_
  refine q_aload_n d_Model_field_41 rfl rfl ?_
  refine q_iconst (v := nI 0) d_Model_field_42 (by decide) ?_
  rw [← hI1]
  refine q_callVv (M2 := M_Model_take) d_Model_field_43 ⟨(Nat.le_of_ble_eq_true rfl), (Nat.le_of_ble_eq_true rfl), w_1233, w_10, ⟨by decide, by decide⟩, show _ = some 1 by decide +kernel⟩ w_1230 w_1232 (ci := 11) rfl s_47 hL.1 rfl (Nat.le_of_ble_eq_true rfl) (by omega) (by omega) (c_Model_take0 hL ((hM.ps hps).vl hv) (by omega) hl24 (by rw [hI1, q_upI_self]; decide)) ?_
  rintro _ ⟨I2, rfl, k1, k2, -⟩
  refine q_aload_n d_Model_field_46 rfl rfl ?_
  refine q_aload_n d_Model_field_47 rfl rfl ?_
  refine q_iload_n d_Model_field_48 rfl rfl ?_
  refine q_iload_n d_Model_field_49 rfl rfl ?_
  refine q_iload_n d_Model_field_50 rfl rfl ?_
  refine q_iload d_Model_field_51 rfl ?_
  refine q_callVi (M2 := M_Model_canAdd) d_Model_field_53 ⟨(Nat.le_of_ble_eq_true rfl), (Nat.le_of_ble_eq_true rfl), w_1252, w_10, ⟨by decide, by decide⟩, show _ = some 4 by decide +kernel⟩ w_1249 w_1251 (ci := 11) rfl s_51 hL.1 rfl (Nat.le_of_ble_eq_true rfl) (by omega) (by omega) (c_Model_canAdd (p := p) (so := so) (lo := lo) (hi := hi) hL k2 hwf.1.2.1 hwf.1.2.2.1) ?_
  rintro _ _ ⟨rfl, rfl⟩
  refine kk I2 (hps.trans k1.ps) ?_ k2
  rw [k1.2 _ (fun z => absurd (q_nI_inj z) (by decide)), hI1, q_upI_self]
  decide
theorem c_Model_field_no2 (hw : wf S) (hM : relM S m T I R) {p so lo hi : Int32} {L : List KF} (hv : S.vs[0]? = some L) (hb : S.bg = false) (h24 : L.length ≠ 24) (hk : (k_room L (k_of p) && k_shape so lo hi) = false) : q_Ci g M_Model_field [.ref m, .int p, .int so, .int lo, .int hi] (sz, T, I, R, J) 0 0 (m_spm m sz T I R J (nI 2, 0, S)) := by
  have hL := hM.1
  refine c_Model_field_pre hw hM hv hb h24 fun I2 k1 k2 k3 => ?_
  rw [hk]
  refine q_if_eq (tgt := 63) d_Model_field_56 rfl (fun hc => ?_) (fun hc => ?_)
  rotate_left
  · exact absurd rfl hc
  refine q_iconst (v := nI 2) d_Model_field_63 (by decide) ?_
  refine q_putI (ci := 11) (fk := 0) d_Model_field_64 rfl (Nat.le_of_ble_eq_true rfl) w_1104 (Or.inl rfl) (fun _ _ => rfl) rfl rfl hL.1 ?_
  refine q_aload_n d_Model_field_67 rfl rfl ?_
  refine q_getI (ci := 11) (fk := 0) d_Model_field_68 rfl (Nat.le_of_ble_eq_true rfl) w_1104 (fun _ _ => rfl) hL.1 ?_
  rw [q_upI_self]
  refine q_if_le (tgt := 76) d_Model_field_71 rfl (fun hc => ?_) (fun hc => ?_)
  · exact absurd hc (by decide)
  · refine q_iconst (v := nI 0) d_Model_field_74 (by decide) ?_
    refine q_iret d_Model_field_75 rfl (by omega) (by omega) ?_
    have hps := k1.trans (m_ps.int (I := I2) (m := m) (k := 0) (v := nI 2) (by decide) (by decide) (by decide) (by decide) (by decide))
    exact ⟨_, rfl, fun z => absurd (show nI 2 = 0 from z) (by decide), _, rfl, q_upI_self, hps.1.1, hM.ps hps⟩
/-- a version's list is another: the first one, where no step is made yet -/
theorem relM.sch (hM : relM S m T I R) (hs0 : S.ss = []) (ho : S.op = false) (hr : ∀ h, h < 16 → S.rs h = none) (hv1 : S.vs.length = 1) {L : List KF} {I' : q_I} (hV : m_vl m 0 L I') (h1 : I' m (nI 1) = I m (nI 1)) (h7 : I' m (nI 7) = I m (nI 7)) (h8 : I' m (nI 8) = I m (nI 8)) (h13 : I' m (nI 13) = I m (nI 13)) (h10 : I' (m + 10) = I (m + 10)) : relM (S.setF L) m T I' R := by
  obtain ⟨g1, g2, g3, g4, g5⟩ := hM
  refine ⟨g1, ⟨by rw [h1, g2.1, hv1]; rfl, fun v L2 hv => ?_⟩, ⟨by rw [h8]; exact g3.1, fun i st hi => ?_, by rw [h13]; exact g3.2.2.1, fun z => ?_⟩, fun h hh => ⟨fun _ => ?_, fun c hc => ?_⟩, by rw [h7]; exact g5⟩
  · have hv0 : v = 0 := by
      have h9 : ([L] : List (List KF))[v]? = some L2 := hv
      have := (List.getElem?_eq_some_iff.mp h9).1
      have h8 : ([L] : List (List KF)).length = 1 := rfl
      omega
    subst hv0
    have h9 : L = L2 := Option.some.inj hv
    subst h9
    exact hV
  · have hi2 : S.ss[i]? = some st := hi
    rw [hs0] at hi2
    cases hi2
  · have z2 : S.op = true := z
    rw [ho] at z2
    cases z2
  · rw [h10]; exact (g4 h hh).1 (hr h hh)
  · have hc2 : S.rs h = some c := hc
    rw [hr h hh] at hc2
    cases hc2
theorem c_Model_field (hw : wf S) (hM : relM S m T I R) {p so lo hi : Int32} {L : List KF} {l : List Nat} (hv : S.vs[0]? = some L) (hb : S.bg = false) (h24 : L.length ≠ 24) (hp : k_of p = some l) (hk : (k_room L (k_of p) && k_shape so lo hi) = true) {o : KO} (ho : o_field S L l so lo hi o) : q_Ci g M_Model_field [.ref m, .int p, .int so, .int lo, .int hi] (sz, T, I, R, J) 0 0 (m_spm m sz T I R J o) := by
  have hL := hM.1
  have hwf := hw.1.2.2 L (List.mem_of_getElem? hv)
  have hl24 := hwf.1.1
  obtain ⟨w1, w2, w3, w4⟩ := hw.2.2.2.2 hb
  obtain ⟨L1, l1, l2, rfl⟩ := ho
  have hlok := k_of_ok hp
  have hpl : p = nI (k_path l) := ((k_of_iff hlok p).mpr hp).symm
  have hroom := hk
  rw [Bool.and_eq_true, hp] at hroom
  have hl0 : l ≠ [] := fun z => by rw [z] at hroom; cases hroom.1
  have hfi : k_fi L l = none := by
    have h9 : (decide (l ≠ []) && k_grp L l.dropLast && (k_fi L l).isNone) = true := hroom.1
    rw [Bool.and_eq_true] at h9
    exact Option.isNone_iff_eq_none.mp h9.2
  obtain ⟨f, hf⟩ : ∃ f : KF, f = k_new l so lo hi L.length := ⟨_, rfl⟩
  rw [← hf] at l1
  have hok2 : k_okf (L ++ [f]) := fun e he => by
    rcases List.mem_append.mp he with he | he
    · exact hwf.1.2.1 e he
    · rw [List.mem_singleton.mp he, hf]; exact ⟨hlok, hl0⟩
  have hd2 : k_dis (L ++ [f]) := by
    have : k_dis (f :: L) := List.nodup_cons.mpr ⟨fun z => by
      obtain ⟨e, e1, e2⟩ := List.mem_map.mp z
      exact k_fi_none hfi e e1 (by rw [e2, hf]; rfl), hwf.1.2.2.1⟩
    exact this.perm (List.perm_append_singleton f L)
  have l3 : L1.Perm (L ++ [f]) := l1.trans (List.perm_append_singleton f L).symm
  refine c_Model_field_pre hw hM hv hb h24 fun I2 k1 k2 k3 => ?_
  rw [hk]
  refine q_if_eq (tgt := 63) d_Model_field_56 rfl (fun hc => ?_) (fun hc => ?_)
  · exact absurd hc (by decide)
  refine q_iconst (v := nI 0) d_Model_field_59 (by decide) ?_
  refine q_goto (tgt := 64) d_Model_field_60 rfl ?_
  refine q_putI (ci := 11) (fk := 0) d_Model_field_64 rfl (Nat.le_of_ble_eq_true rfl) w_1104 (Or.inl rfl) (fun _ _ => rfl) rfl rfl hL.1 ?_
  refine q_aload_n d_Model_field_67 rfl rfl ?_
  refine q_getI (ci := 11) (fk := 0) d_Model_field_68 rfl (Nat.le_of_ble_eq_true rfl) w_1104 (fun _ _ => rfl) hL.1 ?_
  rw [q_upI_self]
  refine q_if_le (tgt := 76) d_Model_field_71 rfl (fun hc => ?_) (fun hc => ?_)
  rotate_left
  · exact absurd (Int32.le_refl _) hc
  obtain ⟨I3, hI3⟩ : ∃ I3, I3 = q_upI I2 m (nI 0) (nI 0) := ⟨_, rfl⟩
  have hps : m_ps m I I3 := by
    rw [hI3]
    exact k1.trans (m_ps.int (by decide) (by decide) (by decide) (by decide) (by decide))
  have z3 : I3 m (nI 0) = 0 := by rw [hI3, q_upI_self]; rfl
  have k3' : k_mw m L I3 := by
    rw [hI3]
    unfold k_mw
    rw [q_upI_nk (by omega)]
    refine ⟨k3.1, k3.2.1, fun i e he => ?_⟩
    rw [q_upI_nea (by omega), q_upI_nea (by omega), q_upI_nea (by omega), q_upI_nea (by omega)]
    exact k3.2.2 i e he
  have k2' : I3 m (nI 27) ≠ nI 2 := by rw [hI3, q_upI_nk (by omega)]; exact k2
  rw [← hI3]
  have fin : ∀ (a b : Int32) (mcc msc : Nat), mcc = 0 → msc = 0 → a = f.2.2.1 → b = f.2.2.2.1 → q_V g M_Model_field 0 0 mcc msc (sz, T, I3, R, J) (fun o h' => ∃ r : Int32, o = .inl (some (.int r)) ∧ m_spm m sz T I R J (0, nI L1.length, S.setF L1) r h') 100 [some (.ref m), some (.int p), some (.int so), some (.int lo), some (.int hi)] [.int b, .int a, .int so, .int p, .ref m] := by
    intro a b mcc msc m1 m2 ha hb2
    subst m1 m2 ha hb2
    rw [hpl, show k_path l = k_path f.1 by rw [hf]; rfl, show so = f.2.1 by rw [hf]; rfl]
    refine q_callVi (M2 := M_Model_come) d_Model_field_100 ⟨(Nat.le_of_ble_eq_true rfl), (Nat.le_of_ble_eq_true rfl), w_1237, w_10, ⟨by decide, by decide⟩, show _ = some 4 by decide +kernel⟩ w_1234 w_1236 (ci := 11) rfl s_48 hL.1 rfl (Nat.le_of_ble_eq_true rfl) (by omega) (by omega) (c_Model_come0 hL k3' (by omega) k2' f) ?_
    rintro _ _ ⟨rfl, I4, rfl, j1, j2, -, -, -⟩
    refine q_pop d_Model_field_103 rfl ?_
    refine q_aload_n d_Model_field_104 rfl rfl ?_
    refine q_iconst (v := nI 0) d_Model_field_105 (by decide) ?_
    refine q_callVv (M2 := M_Model_settle) d_Model_field_106 ⟨(Nat.le_of_ble_eq_true rfl), (Nat.le_of_ble_eq_true rfl), w_1270, w_10, ⟨by decide, by decide⟩, show _ = some 1 by decide +kernel⟩ w_1267 w_1269 (ci := 11) rfl s_54 hL.1 rfl (Nat.le_of_ble_eq_true rfl) (by omega) (by omega) (c_Model_settle (v := 0) hL j2 hok2 hd2 l3 l2 (by rw [List.length_append]; show L.length + 1 ≤ 24; omega) (by decide)) ?_
    rintro _ ⟨I5, rfl, s1, s2, s3, s4⟩
    refine q_aload_n d_Model_field_109 rfl rfl ?_
    refine q_getR (ci := 11) (fk := 2) d_Model_field_110 rfl (Nat.le_of_ble_eq_true rfl) w_1106 (fun _ _ => rfl) hL.1 (hL.2 2 _ _ _ rfl).1 ?_
    refine q_iconst (v := nI 0) d_Model_field_113 (by decide) ?_
    refine q_iald d_Model_field_114 (hL.2 2 _ _ _ rfl).2 (by first | assumption | exact vp_in_nI (by omega) (by omega)) ?_
    rw [show I5 (m + 1) (nI 0) = nI L1.length from s1.1]
    refine q_iret d_Model_field_115 rfl (by omega) (by omega) ?_
    have e5 : I5 m = I4 m := s2 m (by omega)
    have hps4 := hps.trans j1.ps
    refine ⟨_, rfl, fun _ => rfl, I5, rfl, ?_, fun b hb => ?_, hM.sch w2 w3 w4 w1 s1 ?_ ?_ ?_ ?_ ?_⟩
    · rw [e5, j1.2 _ (fun z => absurd (q_nI_inj z) (by decide))]; exact z3
    · rw [s2 b (by omega)]; exact hps4.1.1 b hb
    · rw [e5]; exact hps4.1.2.2.1
    · rw [e5]; exact hps4.1.2.2.2.1
    · rw [e5]; exact hps4.1.2.2.2.2.1
    · rw [e5]; exact hps4.1.2.2.2.2.2
    · rw [s2 (m + 10) (by omega)]; exact hps4.2 10 (by omega) (by omega)
  by_cases h2 : so = 2
  · refine q_aload_n d_Model_field_76 rfl rfl ?_
    refine q_iload_n d_Model_field_77 rfl rfl ?_
    refine q_iload_n d_Model_field_78 rfl rfl ?_
    refine q_iload_n d_Model_field_79 rfl rfl ?_
    refine q_iconst (v := nI 2) d_Model_field_80 (by decide) ?_
    refine q_icmp_ne (tgt := 88) d_Model_field_81 rfl (fun hc => ?_) (fun hc => ?_)
    · exact absurd h2 hc
    refine q_iconst (v := nI 0) d_Model_field_84 (by decide) ?_
    refine q_goto (tgt := 89) d_Model_field_85 rfl ?_
    refine q_iload_n d_Model_field_89 rfl rfl ?_
    refine q_iconst (v := nI 2) d_Model_field_90 (by decide) ?_
    refine q_icmp_ne (tgt := 98) d_Model_field_91 rfl (fun hc => ?_) (fun hc => ?_)
    · exact absurd h2 hc
    refine q_iconst (v := nI 0) d_Model_field_94 (by decide) ?_
    refine q_goto (tgt := 100) d_Model_field_95 rfl ?_
    exact fin _ _ _ _ rfl rfl (by rw [hf]; exact (if_pos h2).symm) (by rw [hf]; exact (if_pos h2).symm)
  · refine q_aload_n d_Model_field_76 rfl rfl ?_
    refine q_iload_n d_Model_field_77 rfl rfl ?_
    refine q_iload_n d_Model_field_78 rfl rfl ?_
    refine q_iload_n d_Model_field_79 rfl rfl ?_
    refine q_iconst (v := nI 2) d_Model_field_80 (by decide) ?_
    refine q_icmp_ne (tgt := 88) d_Model_field_81 rfl (fun hc => ?_) (fun hc => ?_)
    rotate_left
    · exact absurd (show so = 2 by have := hc; exact this) h2
    refine q_iload_n d_Model_field_88 rfl rfl ?_
    refine q_iload_n d_Model_field_89 rfl rfl ?_
    refine q_iconst (v := nI 2) d_Model_field_90 (by decide) ?_
    refine q_icmp_ne (tgt := 98) d_Model_field_91 rfl (fun hc => ?_) (fun hc => ?_)
    rotate_left
    · exact absurd (show so = 2 by have := hc; exact this) h2
    refine q_iload d_Model_field_98 rfl ?_
    exact fin _ _ _ _ rfl rfl (by rw [hf]; exact (if_neg h2).symm) (by rw [hf]; exact (if_neg h2).symm)
end FieldP
