/-! route, both sides -/
abbrev M_Lens_route : q_M := (⟨"LensPaths", "route", "(III)I"⟩, prog_1_method_22_code, 5, (some .int), "LensPaths", [], false, 7, 111)
theorem d_Lens_route_0 : decode prog_1_method_22_code 0 = .ok (.aload_n 0, 1) := by decide +kernel
theorem d_Lens_route_1 : decode prog_1_method_22_code 1 = .ok (.iload_n 1, 1) := by decide +kernel
theorem d_Lens_route_2 : decode prog_1_method_22_code 2 = .ok (.invokevirtual 86, 3) := by decide +kernel
theorem d_Lens_route_5 : decode prog_1_method_22_code 5 = .ok (.aload_n 0, 1) := by decide +kernel
theorem d_Lens_route_6 : decode prog_1_method_22_code 6 = .ok (.iload_n 2, 1) := by decide +kernel
theorem d_Lens_route_7 : decode prog_1_method_22_code 7 = .ok (.invokevirtual 86, 3) := by decide +kernel
theorem d_Lens_route_10 : decode prog_1_method_22_code 10 = .ok (.aload_n 0, 1) := by decide +kernel
theorem d_Lens_route_11 : decode prog_1_method_22_code 11 = .ok (.getfield 12, 3) := by decide +kernel
theorem d_Lens_route_14 : decode prog_1_method_22_code 14 = .ok (.iload_n 1, 1) := by decide +kernel
theorem d_Lens_route_15 : decode prog_1_method_22_code 15 = .ok (.iload_n 2, 1) := by decide +kernel
theorem d_Lens_route_16 : decode prog_1_method_22_code 16 = .ok (.iconst (-1), 1) := by decide +kernel
theorem d_Lens_route_17 : decode prog_1_method_22_code 17 = .ok (.invokevirtual 217, 3) := by decide +kernel
theorem d_Lens_route_20 : decode prog_1_method_22_code 20 = .ok (.istore 4, 2) := by decide +kernel
theorem d_Lens_route_22 : decode prog_1_method_22_code 22 = .ok (.iload 4, 2) := by decide +kernel
theorem d_Lens_route_24 : decode prog_1_method_22_code 24 = .ok (.iconst (-1), 1) := by decide +kernel
theorem d_Lens_route_25 : decode prog_1_method_22_code 25 = .ok (.if_icmp .eq 13, 3) := by decide +kernel
theorem d_Lens_route_28 : decode prog_1_method_22_code 28 = .ok (.iload_n 3, 1) := by decide +kernel
theorem d_Lens_route_29 : decode prog_1_method_22_code 29 = .ok (.ifCond .lt 9, 3) := by decide +kernel
theorem d_Lens_route_32 : decode prog_1_method_22_code 32 = .ok (.iload_n 3, 1) := by decide +kernel
theorem d_Lens_route_33 : decode prog_1_method_22_code 33 = .ok (.iload 4, 2) := by decide +kernel
theorem d_Lens_route_35 : decode prog_1_method_22_code 35 = .ok (.if_icmp .le 7, 3) := by decide +kernel
theorem d_Lens_route_38 : decode prog_1_method_22_code 38 = .ok (.iconst (-1), 1) := by decide +kernel
theorem d_Lens_route_39 : decode prog_1_method_22_code 39 = .ok (.goto 12, 3) := by decide +kernel
theorem d_Lens_route_42 : decode prog_1_method_22_code 42 = .ok (.aload_n 0, 1) := by decide +kernel
theorem d_Lens_route_43 : decode prog_1_method_22_code 43 = .ok (.getfield 12, 3) := by decide +kernel
theorem d_Lens_route_46 : decode prog_1_method_22_code 46 = .ok (.getfield 226, 3) := by decide +kernel
theorem d_Lens_route_49 : decode prog_1_method_22_code 49 = .ok (.iload_n 3, 1) := by decide +kernel
theorem d_Lens_route_50 : decode prog_1_method_22_code 50 = .ok (.iaload, 1) := by decide +kernel
theorem d_Lens_route_51 : decode prog_1_method_22_code 51 = .ok (.ireturn, 1) := by decide +kernel
abbrev M_Model_route : q_M := (⟨"LensPathsModel", "route", "(III)I"⟩, prog_14_method_76_code, 4, (some .int), "LensPathsModel", [], false, 2, 53)
theorem d_Model_route_0 : decode prog_14_method_76_code 0 = .ok (.aload_n 0, 1) := by decide +kernel
theorem d_Model_route_1 : decode prog_14_method_76_code 1 = .ok (.aload_n 0, 1) := by decide +kernel
theorem d_Model_route_2 : decode prog_14_method_76_code 2 = .ok (.iload_n 1, 1) := by decide +kernel
theorem d_Model_route_3 : decode prog_14_method_76_code 3 = .ok (.invokevirtual 254, 3) := by decide +kernel
theorem d_Model_route_6 : decode prog_14_method_76_code 6 = .ok (.ifCond .eq 15, 3) := by decide +kernel
theorem d_Model_route_9 : decode prog_14_method_76_code 9 = .ok (.aload_n 0, 1) := by decide +kernel
theorem d_Model_route_10 : decode prog_14_method_76_code 10 = .ok (.iload_n 2, 1) := by decide +kernel
theorem d_Model_route_11 : decode prog_14_method_76_code 11 = .ok (.invokevirtual 254, 3) := by decide +kernel
theorem d_Model_route_14 : decode prog_14_method_76_code 14 = .ok (.ifCond .eq 7, 3) := by decide +kernel
theorem d_Model_route_17 : decode prog_14_method_76_code 17 = .ok (.iconst 0, 1) := by decide +kernel
theorem d_Model_route_18 : decode prog_14_method_76_code 18 = .ok (.goto 4, 3) := by decide +kernel
theorem d_Model_route_21 : decode prog_14_method_76_code 21 = .ok (.iconst 1, 1) := by decide +kernel
theorem d_Model_route_22 : decode prog_14_method_76_code 22 = .ok (.putfield 101, 3) := by decide +kernel
theorem d_Model_route_25 : decode prog_14_method_76_code 25 = .ok (.aload_n 0, 1) := by decide +kernel
theorem d_Model_route_26 : decode prog_14_method_76_code 26 = .ok (.getfield 101, 3) := by decide +kernel
theorem d_Model_route_29 : decode prog_14_method_76_code 29 = .ok (.ifCond .le 5, 3) := by decide +kernel
theorem d_Model_route_32 : decode prog_14_method_76_code 32 = .ok (.iconst 0, 1) := by decide +kernel
theorem d_Model_route_33 : decode prog_14_method_76_code 33 = .ok (.ireturn, 1) := by decide +kernel
theorem d_Model_route_34 : decode prog_14_method_76_code 34 = .ok (.aload_n 0, 1) := by decide +kernel
theorem d_Model_route_35 : decode prog_14_method_76_code 35 = .ok (.iload_n 1, 1) := by decide +kernel
theorem d_Model_route_36 : decode prog_14_method_76_code 36 = .ok (.iload_n 2, 1) := by decide +kernel
theorem d_Model_route_37 : decode prog_14_method_76_code 37 = .ok (.iconst (-1), 1) := by decide +kernel
theorem d_Model_route_38 : decode prog_14_method_76_code 38 = .ok (.invokevirtual 308, 3) := by decide +kernel
theorem d_Model_route_41 : decode prog_14_method_76_code 41 = .ok (.ifCond .eq 24, 3) := by decide +kernel
theorem d_Model_route_44 : decode prog_14_method_76_code 44 = .ok (.iload_n 3, 1) := by decide +kernel
theorem d_Model_route_45 : decode prog_14_method_76_code 45 = .ok (.ifCond .lt 20, 3) := by decide +kernel
theorem d_Model_route_48 : decode prog_14_method_76_code 48 = .ok (.iload_n 3, 1) := by decide +kernel
theorem d_Model_route_49 : decode prog_14_method_76_code 49 = .ok (.aload_n 0, 1) := by decide +kernel
theorem d_Model_route_50 : decode prog_14_method_76_code 50 = .ok (.getfield 299, 3) := by decide +kernel
theorem d_Model_route_53 : decode prog_14_method_76_code 53 = .ok (.if_icmp .ge 12, 3) := by decide +kernel
theorem d_Model_route_56 : decode prog_14_method_76_code 56 = .ok (.aload_n 0, 1) := by decide +kernel
theorem d_Model_route_57 : decode prog_14_method_76_code 57 = .ok (.getfield 86, 3) := by decide +kernel
theorem d_Model_route_60 : decode prog_14_method_76_code 60 = .ok (.iload_n 3, 1) := by decide +kernel
theorem d_Model_route_61 : decode prog_14_method_76_code 61 = .ok (.iaload, 1) := by decide +kernel
theorem d_Model_route_62 : decode prog_14_method_76_code 62 = .ok (.goto 4, 3) := by decide +kernel
theorem d_Model_route_65 : decode prog_14_method_76_code 65 = .ok (.iconst (-1), 1) := by decide +kernel
theorem d_Model_route_66 : decode prog_14_method_76_code 66 = .ok (.ireturn, 1) := by decide +kernel
section RouteP
variable {g : q_G} {sz x m : Nat} {T : q_T} {I : q_I} {R : q_R} {J : q_J} {S : KA}
/-- cells that nothing of the state stands in: the stops, the carrier's and the terms' -/
theorem relC.scratch (h : relC S x sz T I R) {I' : q_I} (hI : ∀ b, b ≠ x + 4 → b ≠ x + 5 → b < x + 69 ∨ x + 83 ≤ b → I' b = I b) : relC S x sz T I' R ∧ c_fr x sz T I R sz T I' R := by
  obtain ⟨h1, h2, h3, h4, h5, h6, h7, h8⟩ := h
  have t4 := (h1.2.1.2 4 _ _ _ rfl).2
  have t5 := (h1.2.1.2 5 _ _ _ rfl).2
  have t69 := h1.2.2.2.1.1
  have t70 := h1.2.2.2.2.1.1
  have t71 := (h1.2.2.2.2.1.2 0 _ _ _ rfl).2
  have tT := h1.2.2.2.2.2
  have t72 := tT.1
  have t73 := (tT.2 0 _ _ _ rfl).2
  have t74 := (tT.2 1 _ _ _ rfl).2
  have t75 := (tT.2 2 _ _ _ rfl).2
  have t76 := (tT.2 3 _ _ _ rfl).2
  have t77 := (tT.2 4 _ _ _ rfl).2
  have t78 := (tT.2 5 _ _ _ rfl).2
  have t79 := (tT.2 6 _ _ _ rfl).2
  have t80 := (tT.2 7 _ _ _ rfl).2
  have t81 := (tT.2 8 _ _ _ rfl).2
  have t82 := (tT.2 9 _ _ _ rfl).2
  -- the kinds of these cells
  have kinds : ∀ b, (b = x + 4 ∨ b = x + 5 ∨ (x + 69 ≤ b ∧ b < x + 83)) → ∃ q, T b = some q ∧ q.1 ≠ 106 ∧ q.1 ≠ 2 ∧ q.1 ≠ 103 ∧ q.1 ≠ 105 ∧ q.1 ≠ 107 ∧ q.1 ≠ 104 ∧ q ≠ (0, 168) ∧ q ≠ (0, 128) ∧ q ≠ (0, 896) ∧ (q.1 = 101 → b = x + 70) := by
    intro b hb
    rcases hb with rfl | rfl | hb
    · exact ⟨_, t4, by decide, by decide, by decide, by decide, by decide, by decide, by decide, by decide, by decide, fun z => by cases z⟩
    · exact ⟨_, t5, by decide, by decide, by decide, by decide, by decide, by decide, by decide, by decide, by decide, fun z => by cases z⟩
    · rcases (by omega : b = x + 69 ∨ b = x + 70 ∨ b = x + 71 ∨ b = x + 72 ∨ b = x + 73 ∨ b = x + 74 ∨ b = x + 75 ∨ b = x + 76 ∨ b = x + 77 ∨ b = x + 78 ∨ b = x + 79 ∨ b = x + 80 ∨ b = x + 81 ∨ b = x + 82) with rfl | rfl | rfl | rfl | rfl | rfl | rfl | rfl | rfl | rfl | rfl | rfl | rfl | rfl
      · exact ⟨_, t69, by decide, by decide, by decide, by decide, by decide, by decide, by decide, by decide, by decide, fun z => by cases z⟩
      · exact ⟨_, t70, by decide, by decide, by decide, by decide, by decide, by decide, by decide, by decide, by decide, fun z => rfl⟩
      · exact ⟨_, t71, by decide, by decide, by decide, by decide, by decide, by decide, by decide, by decide, by decide, fun z => by cases z⟩
      · exact ⟨_, t72, by decide, by decide, by decide, by decide, by decide, by decide, by decide, by decide, by decide, fun z => by cases z⟩
      · exact ⟨_, t73, by decide, by decide, by decide, by decide, by decide, by decide, by decide, by decide, by decide, fun z => by cases z⟩
      · exact ⟨_, t74, by decide, by decide, by decide, by decide, by decide, by decide, by decide, by decide, by decide, fun z => by cases z⟩
      · exact ⟨_, t75, by decide, by decide, by decide, by decide, by decide, by decide, by decide, by decide, by decide, fun z => by cases z⟩
      · exact ⟨_, t76, by decide, by decide, by decide, by decide, by decide, by decide, by decide, by decide, by decide, fun z => by cases z⟩
      · exact ⟨_, t77, by decide, by decide, by decide, by decide, by decide, by decide, by decide, by decide, by decide, fun z => by cases z⟩
      · exact ⟨_, t78, by decide, by decide, by decide, by decide, by decide, by decide, by decide, by decide, by decide, fun z => by cases z⟩
      · exact ⟨_, t79, by decide, by decide, by decide, by decide, by decide, by decide, by decide, by decide, by decide, fun z => by cases z⟩
      · exact ⟨_, t80, by decide, by decide, by decide, by decide, by decide, by decide, by decide, by decide, by decide, fun z => by cases z⟩
      · exact ⟨_, t81, by decide, by decide, by decide, by decide, by decide, by decide, by decide, by decide, by decide, fun z => by cases z⟩
      · exact ⟨_, t82, by decide, by decide, by decide, by decide, by decide, by decide, by decide, by decide, by decide, fun z => by cases z⟩
  have out : ∀ b, ¬ (b = x + 4 ∨ b = x + 5 ∨ (x + 69 ≤ b ∧ b < x + 83)) → I' b = I b := fun b hb => hI b (fun z => hb (Or.inl z)) (fun z => hb (Or.inr (Or.inl z))) (by omega)
  have hsc : ∀ s L w, k_sc s L w T I R → k_sc s L w T I' R := fun s L w hs => hs.cong (fun b z1 z2 => by
    refine out b (fun hb => ?_)
    obtain ⟨q, q1, q2, q3, q4, -⟩ := kinds b hb
    exact hs.1.ne z1 z2 q1 q2 q3 q4 rfl)
  have hrw : ∀ r, r_new r T R → ∀ b, r ≤ b → b < r + 8 → I' b = I b := fun r hr b z1 z2 => by
    refine out b (fun hb => ?_)
    obtain ⟨q, q1, q2, q3, q4, q5, q6, q7, q8, q9, q10, q11⟩ := kinds b hb
    obtain ⟨u0, u1, u2, u3, u4, u5, u6, u7⟩ := r_T0 hr
    rcases (by omega : b = r ∨ b = r + 1 ∨ b = r + 2 ∨ b = r + 3 ∨ b = r + 4 ∨ b = r + 5 ∨ b = r + 6 ∨ b = r + 7) with e | e | e | e | e | e | e | e
    · rw [e, u0] at q1; cases q1; exact q5 rfl
    · have e2 := q11 (by rw [e, u1] at q1; cases q1; rfl)
      have e3 : r = x + 69 := by omega
      rw [e3, t69] at u0; cases u0
    · rw [e, u2] at q1; cases q1; exact q8 rfl
    · rw [e, u3] at q1; cases q1; exact q9 rfl
    · have e2 := q11 (by rw [e, u4] at q1; cases q1; rfl)
      have e3 : r + 3 = x + 69 := by omega
      rw [e3, t69] at u3; cases u3
    · rw [e, u5] at q1; cases q1; exact q10 rfl
    · have e2 := q11 (by rw [e, u6] at q1; cases q1; rfl)
      have e3 : r + 5 = x + 69 := by omega
      rw [e3, t69] at u5; cases u5
    · rw [e, u7] at q1; cases q1; exact q10 rfl
  refine ⟨⟨h1, ⟨by rw [hI (x + 1) (by omega) (by omega) (by omega)]; exact h2.1, fun v L hv => ?_⟩, ⟨by rw [hI (x + 1) (by omega) (by omega) (by omega)]; exact h3.1, fun i st hi => ?_⟩, ?_, ⟨fun i hi => ?_, h5.2⟩, by rw [hI x (by omega) (by omega) (by omega)]; exact h6, h7, h8⟩, Nat.le_refl _, fun _ _ z => z, fun b hb => hI b (by unfold c_reg at hb; omega) (by unfold c_reg at hb; omega) (by unfold c_reg at hb; omega), fun _ _ => rfl⟩
  · obtain ⟨s, w, a1, a2, a3, a4⟩ := h2.2 v L hv
    exact ⟨s, w, a1, a2, a3, hsc _ _ _ a4⟩
  · obtain ⟨t, a1, a2⟩ := h3.2 i st hi
    exact ⟨t, a1, a2.cong (fun b hb => hI b (by omega) (by omega) (by omega))⟩
  · obtain ⟨a1, D, w, a2, a3⟩ := h4
    refine ⟨by rw [hI (x + 32) (by omega) (by omega) (by omega)]; exact a1, D, w, hsc _ _ _ a2, fun ho => ?_⟩
    obtain ⟨b1, b2, b3, b4, b5, b6⟩ := a3 ho
    rw [hI (x + 32) (by omega) (by omega) (by omega)]
    refine ⟨b1, b2, b3, b4, b5, fun j q hq => ?_⟩
    obtain ⟨p, p1, p2, p3⟩ := b6 j q hq
    exact ⟨p, p1, p2, p3.cong (hI p (by omega) (by omega) (by omega))⟩
  · obtain ⟨a1, a2⟩ := h5.1 i hi
    refine ⟨a1, fun r hr => ?_⟩
    obtain ⟨b1, b2, b3, b4, b5⟩ := a2 r hr
    have e := hrw r b2
    exact ⟨b1, b2, by rw [e r (by omega) (by omega)]; exact b3, fun c hc => (b4 c hc).cong e, b5⟩
/-- what route answers -/
def a_rt (w : Option (List Nat)) (k : Int32) : Int32 := match w with
  | none => -1
  | some l => if k < 0 then -1 else match l[k.toNatClampNeg]? with
    | none => -1
    | some v => nI v
theorem wf.st8 (hw : wf S) : ∀ (i : Nat) (st : KS), S.ss[i]? = some st → st.fr < S.vs.length ∧ st.to < S.vs.length := fun i st hi => by
  obtain ⟨w1, w2, -⟩ := hw.2.1.2 st (List.mem_of_getElem? hi)
  exact ⟨w1, w2⟩
theorem k_way_len {A : Nat → Nat → Bool} {n f t : Nat} {l : List Nat} (hn : n ≤ 8) (h : k_way A n f t = some l) : 1 ≤ l.length ∧ l.length ≤ 8 := by
  unfold k_way at h
  cases hf : k_far A n (max f t) (min f t) with
  | none => rw [hf] at h; cases h
  | some d =>
    rw [hf] at h
    have h1 : (if f ≤ t then k_wy A n (max f t) d (min f t) else (k_wy A n (max f t) d (min f t)).reverse) = l := Option.some.inj h
    have h2 := k_wy_len A n (max f t) d (min f t)
    have h3 := (k_far_ball hf).1
    have h4 : l.length = d + 1 := by
      rw [← h1]
      split
      · exact h2
      · rw [List.length_reverse]; exact h2
    omega
theorem c_Lens_route_no (hC : relC S x sz T I R) {f t k : Int32} (hb : k_bel S.vs.length f = false) : q_C g M_Lens_route [.ref x, .int f, .int t, .int k] (sz, T, I, R, J) 1000 14000 (q_Xi [2] (c_sp x sz T I R J (nI 1, 0, S))) := by
  have hL := hC.1.1
  refine q_C.of (ls0 := [some (.ref x), some (.int f), some (.int t), some (.int k), none]) (by decide) rfl (by decide) (Nat.le_of_ble_eq_true rfl) rfl ?_
  refine q_aload_n d_Lens_route_0 rfl rfl ?_
  refine q_iload_n d_Lens_route_1 rfl rfl ?_
  refine q_callV (M2 := M_Lens_needVersion) d_Lens_route_2 ⟨(Nat.le_of_ble_eq_true rfl), (Nat.le_of_ble_eq_true rfl), w_430, w_1, ⟨by decide, by decide⟩, show _ = some 1 by decide +kernel⟩ w_427 w_429 (ci := 10) rfl s_3 hL.1 rfl (Nat.le_of_ble_eq_true rfl) (by omega) (by omega) (c_needVersion_no hC hb) (fun v h' z => ?_) (fun z9 h' z => ?_)
  · cases z.1
  · obtain ⟨e9, rfl⟩ := z
    cases e9
    exact q_VX.out (by decide) (by omega) (by omega) (c_xi_no hC rfl)
theorem c_Lens_route_no2 (hC : relC S x sz T I R) {f t k : Int32} (hb : k_bel S.vs.length f = true) (hb2 : k_bel S.vs.length t = false) : q_C g M_Lens_route [.ref x, .int f, .int t, .int k] (sz, T, I, R, J) 1000 14000 (q_Xi [2] (c_sp x sz T I R J (nI 1, 0, S))) := by
  have hL := hC.1.1
  refine q_C.of (ls0 := [some (.ref x), some (.int f), some (.int t), some (.int k), none]) (by decide) rfl (by decide) (Nat.le_of_ble_eq_true rfl) rfl ?_
  refine q_aload_n d_Lens_route_0 rfl rfl ?_
  refine q_iload_n d_Lens_route_1 rfl rfl ?_
  refine q_callVv (M2 := M_Lens_needVersion) d_Lens_route_2 ⟨(Nat.le_of_ble_eq_true rfl), (Nat.le_of_ble_eq_true rfl), w_430, w_1, ⟨by decide, by decide⟩, show _ = some 1 by decide +kernel⟩ w_427 w_429 (ci := 10) rfl s_3 hL.1 rfl (Nat.le_of_ble_eq_true rfl) (by omega) (by omega) (c_needVersion_ok hC hb) ?_
  rintro _ rfl
  refine q_aload_n d_Lens_route_5 rfl rfl ?_
  refine q_iload_n d_Lens_route_6 rfl rfl ?_
  refine q_callV (M2 := M_Lens_needVersion) d_Lens_route_7 ⟨(Nat.le_of_ble_eq_true rfl), (Nat.le_of_ble_eq_true rfl), w_430, w_1, ⟨by decide, by decide⟩, show _ = some 1 by decide +kernel⟩ w_427 w_429 (ci := 10) rfl s_3 hL.1 rfl (Nat.le_of_ble_eq_true rfl) (by omega) (by omega) (c_needVersion_no hC hb2) (fun v h' z => ?_) (fun z9 h' z => ?_)
  · cases z.1
  · obtain ⟨e9, rfl⟩ := z
    cases e9
    exact q_VX.out (by decide) (by omega) (by omega) (c_xi_no hC rfl)
theorem c_Lens_route (hw : wf S) (hC : relC S x sz T I R) {f t : Nat} {k : Int32} (hf : f < S.vs.length) (ht : t < S.vs.length) : q_C g M_Lens_route [.ref x, .int (nI f), .int (nI t), .int k] (sz, T, I, R, J) 1000 14000 (q_Xi [2] (c_sp x sz T I R J (0, a_rt (k_way (k_A S.ss (-1)) S.vs.length f t) k, S))) := by
  have hL := hC.1.1
  have hv8 := hw.1.2.1
  have hV := hC.1.2.1
  have hV1 := hV.1
  refine q_C.of (ls0 := [some (.ref x), some (.int (nI f)), some (.int (nI t)), some (.int k), none]) (by decide) rfl (by decide) (Nat.le_of_ble_eq_true rfl) rfl ?_
  refine q_aload_n d_Lens_route_0 rfl rfl ?_
  refine q_iload_n d_Lens_route_1 rfl rfl ?_
  refine q_callVv (M2 := M_Lens_needVersion) d_Lens_route_2 ⟨(Nat.le_of_ble_eq_true rfl), (Nat.le_of_ble_eq_true rfl), w_430, w_1, ⟨by decide, by decide⟩, show _ = some 1 by decide +kernel⟩ w_427 w_429 (ci := 10) rfl s_3 hL.1 rfl (Nat.le_of_ble_eq_true rfl) (by omega) (by omega) (c_needVersion_ok hC (k_bel_nI (by omega) hf)) ?_
  rintro _ rfl
  refine q_aload_n d_Lens_route_5 rfl rfl ?_
  refine q_iload_n d_Lens_route_6 rfl rfl ?_
  refine q_callVv (M2 := M_Lens_needVersion) d_Lens_route_7 ⟨(Nat.le_of_ble_eq_true rfl), (Nat.le_of_ble_eq_true rfl), w_430, w_1, ⟨by decide, by decide⟩, show _ = some 1 by decide +kernel⟩ w_427 w_429 (ci := 10) rfl s_3 hL.1 rfl (Nat.le_of_ble_eq_true rfl) (by omega) (by omega) (c_needVersion_ok hC (k_bel_nI (by omega) ht)) ?_
  rintro _ rfl
  refine q_aload_n d_Lens_route_10 rfl rfl ?_
  refine q_getR (ci := 10) (fk := 0) d_Lens_route_11 rfl (Nat.le_of_ble_eq_true rfl) w_272 (fun _ _ => rfl) hL.1 (hL.2 0 _ _ _ rfl).1 ?_
  refine q_iload_n d_Lens_route_14 rfl rfl ?_
  refine q_iload_n d_Lens_route_15 rfl rfl ?_
  refine q_iconst (v := (-1)) d_Lens_route_16 (by decide) ?_
  refine q_callVi (M2 := M_Versions_findWay) d_Lens_route_17 ⟨(Nat.le_of_ble_eq_true rfl), (Nat.le_of_ble_eq_true rfl), w_878, w_2, ⟨by decide, by decide⟩, show _ = some 3 by decide +kernel⟩ w_875 w_876 (ci := 9) rfl w_877 (by first | assumption | rfl | (simp (disch := omega) only [q_upT_self, q_upT_ne, q_upR_self, q_upR_nea, q_upR_nk, q_upT_at, *]; done) | (simp (disch := omega) only [q_upT_self, q_upT_ne, q_upR_self, q_upR_nea, q_upR_nk, q_upT_at, *]; rfl)) rfl (Nat.le_of_ble_eq_true rfl) (by omega) (by omega) (c_Versions_findWay hV (hC.ssv hw) hC.2.1.1 hv8 hf ht hw.st8 (-1)) ?_
  rintro _ _ ⟨rfl, I1, rfl, i1, i2⟩
  obtain ⟨hC1, hF1⟩ := hC.scratch (I' := I1) (fun b b1 b2 b3 => i1 b b1 b2)
  obtain ⟨o, ho⟩ : ∃ o, o = k_way (k_A S.ss (-1)) S.vs.length f t := ⟨_, rfl⟩
  rw [← ho] at i2 ⊢
  have done : ∀ r, r = a_rt o k → q_Xi [2] (c_sp x sz T I R J (0, a_rt o k, S)) (.inl (some (.int r))) (sz, T, I1, R, J) := fun r hr => Or.inl ⟨r, rfl, rfl, fun _ => hr, _, _, _, _, rfl, hF1, hC1⟩
  have no : ∀ (mcc msc : Nat) (d : Int32), mcc ≤ 10 → msc ≤ 100 → -1 = a_rt o k → q_V g M_Lens_route 1000 14000 mcc msc (sz, T, I1, R, J) (q_Xi [2] (c_sp x sz T I R J (0, a_rt o k, S))) 38 [some (.ref x), some (.int (nI f)), some (.int (nI t)), some (.int k), some (.int d)] [] := by
    intro mcc msc d m1 m2 hr
    refine q_iconst (v := (-1)) d_Lens_route_38 (by decide) ?_
    refine q_goto (tgt := 51) d_Lens_route_39 rfl ?_
    refine q_iret d_Lens_route_51 rfl (by omega) (by omega) ?_
    exact done _ hr
  cases o with
  | none =>
    refine q_istore d_Lens_route_20 (Nat.le_of_ble_eq_true rfl) (by first | exact q_ok0 | exact q_okI rfl | exact q_okR rfl | exact q_okN rfl) rfl ?_
    refine q_iload d_Lens_route_22 rfl ?_
    refine q_iconst (v := (-1)) d_Lens_route_24 (by decide) ?_
    refine q_icmp_eq (tgt := 38) d_Lens_route_25 rfl (fun hc => ?_) (fun hc => ?_)
    · exact no _ _ _ (by omega) (by omega) rfl
    · exact absurd rfl hc
  | some l =>
    obtain ⟨l1, l2⟩ := k_way_len hv8 ho.symm
    have har := i2 l rfl
    have t4 := (hV.2 4 _ _ _ rfl).2
    have r4 := (hV.2 4 _ _ _ rfl).1
    rw [show p_idx ((some l).map (fun l => l.length - 1)) = nI (l.length - 1) from rfl]
    refine q_istore d_Lens_route_20 (Nat.le_of_ble_eq_true rfl) (by first | exact q_ok0 | exact q_okI rfl | exact q_okR rfl | exact q_okN rfl) rfl ?_
    refine q_iload d_Lens_route_22 rfl ?_
    refine q_iconst (v := (-1)) d_Lens_route_24 (by decide) ?_
    refine q_icmp_eq (tgt := 38) d_Lens_route_25 rfl (fun hc => ?_) (fun hc => ?_)
    · exact absurd hc (nI_m1 (by omega))
    refine q_iload_n d_Lens_route_28 rfl rfl ?_
    refine q_if_lt (tgt := 38) d_Lens_route_29 rfl (fun hc => ?_) (fun hc => ?_)
    · exact no _ _ _ (by omega) (by omega) (by show -1 = if k < 0 then _ else _; rw [if_pos hc])
    have hk := hc
    obtain ⟨j, j1, rfl⟩ := nI_of hk
    refine q_iload_n d_Lens_route_32 rfl rfl ?_
    refine q_iload d_Lens_route_33 rfl ?_
    refine q_icmp_le (tgt := 42) d_Lens_route_35 rfl (fun hc => ?_) (fun hc => ?_)
    · have hj : j ≤ l.length - 1 := by rw [nI_leI j1 (by omega)] at hc; exact hc
      obtain ⟨v, hv⟩ : ∃ v, l[j]? = some v := ⟨_, List.getElem?_eq_getElem (by omega)⟩
      refine q_aload_n d_Lens_route_42 rfl rfl ?_
      refine q_getR (ci := 10) (fk := 0) d_Lens_route_43 rfl (Nat.le_of_ble_eq_true rfl) w_272 (fun _ _ => rfl) hL.1 (hL.2 0 _ _ _ rfl).1 ?_
      refine q_getR (ci := 9) (fk := 4) d_Lens_route_46 rfl (Nat.le_of_ble_eq_true rfl) w_118 (fun _ _ => rfl) (by first | assumption | rfl | (simp (disch := omega) only [q_upT_self, q_upT_ne, q_upR_self, q_upR_nea, q_upR_nk, q_upT_at, *]; done) | (simp (disch := omega) only [q_upT_self, q_upT_ne, q_upR_self, q_upR_nea, q_upR_nk, q_upT_at, *]; rfl)) (by first | assumption | rfl | (simp (disch := omega) only [q_upT_self, q_upT_ne, q_upR_self, q_upR_nea, q_upR_nk, q_upT_at, *]; done) | (simp (disch := omega) only [q_upT_self, q_upT_ne, q_upR_self, q_upR_nea, q_upR_nk, q_upT_at, *]; rfl)) ?_
      refine q_iload_n d_Lens_route_49 rfl rfl ?_
      refine q_iald d_Lens_route_50 (by first | assumption | rfl | (simp (disch := omega) only [q_upT_self, q_upT_ne, q_upR_self, q_upR_nea, q_upR_nk, q_upT_at, *]; done) | (simp (disch := omega) only [q_upT_self, q_upT_ne, q_upR_self, q_upR_nea, q_upR_nk, q_upT_at, *]; rfl)) (by first | assumption | exact vp_in_nI (by omega) (by omega)) ?_
      rw [har j v hv]
      refine q_iret d_Lens_route_51 rfl (by omega) (by omega) ?_
      refine done _ ?_
      show nI v = if nI j < 0 then _ else _
      rw [if_neg hk, nI_clamp j1, hv]
    · have hj : ¬ j ≤ l.length - 1 := fun z => hc (by rw [nI_leI j1 (by omega)]; exact z)
      refine no _ _ _ (by omega) (by omega) ?_
      show -1 = if nI j < 0 then _ else _
      rw [if_neg hk, nI_clamp j1, List.getElem?_eq_none (by omega)]
theorem m_rt.ps {I' : q_I} (h : m_rt m I I') : m_ps m I I' := by
  have e : ∀ k : Nat, k < 33 → I' m (nI k) = I m (nI k) := fun k hk => h.2 _ (fun z => by have := q_nI_inj z; omega)
  exact ⟨⟨fun b hb => h.1 b (by omega) (by omega) (by omega) (by omega), fun j j1 j2 => h.1 (m + j) (by omega) (by omega) (by omega) (by omega), e 1 (by omega), e 7 (by omega), e 8 (by omega), e 13 (by omega)⟩, fun j j1 j2 => h.1 (m + j) (by omega) (by omega) (by omega) (by omega)⟩
theorem c_Model_route_no (hM : relM S m T I R) {f t k : Int32} (hb : k_bel S.vs.length f = false ∨ k_bel S.vs.length t = false) : q_Ci g M_Model_route [.ref m, .int f, .int t, .int k] (sz, T, I, R, J) 0 0 (m_spm m sz T I R J (nI 1, 0, S)) := by
  have hL := hM.1
  have fin : ∀ mcc msc : Nat, mcc = 0 → msc = 0 → q_V g M_Model_route 0 0 mcc msc (sz, T, I, R, J) (fun o h' => ∃ r : Int32, o = .inl (some (.int r)) ∧ m_spm m sz T I R J (nI 1, 0, S) r h') 21 [some (.ref m), some (.int f), some (.int t), some (.int k)] [.ref m] := by
    intro mcc msc m1 m2
    subst m1 m2
    refine q_iconst (v := nI 1) d_Model_route_21 (by decide) ?_
    refine q_putI (ci := 11) (fk := 0) d_Model_route_22 rfl (Nat.le_of_ble_eq_true rfl) w_1104 (Or.inl rfl) (fun _ _ => rfl) rfl rfl hL.1 ?_
    refine q_aload_n d_Model_route_25 rfl rfl ?_
    refine q_getI (ci := 11) (fk := 0) d_Model_route_26 rfl (Nat.le_of_ble_eq_true rfl) w_1104 (fun _ _ => rfl) hL.1 ?_
    rw [q_upI_self]
    refine q_if_le (tgt := 34) d_Model_route_29 rfl (fun hc => ?_) (fun hc => ?_)
    · exact absurd hc (by decide)
    · refine q_iconst (v := nI 0) d_Model_route_32 (by decide) ?_
      refine q_iret d_Model_route_33 rfl (by omega) (by omega) ?_
      exact ⟨_, rfl, m_no hM (by decide) _⟩
  refine q_C.of (ls0 := [some (.ref m), some (.int f), some (.int t), some (.int k)]) (by decide) rfl (by decide) (Nat.le_of_ble_eq_true rfl) rfl ?_
  refine q_aload_n d_Model_route_0 rfl rfl ?_
  refine q_aload_n d_Model_route_1 rfl rfl ?_
  refine q_iload_n d_Model_route_2 rfl rfl ?_
  refine q_callVi (M2 := M_Model_isVersion) d_Model_route_3 ⟨(Nat.le_of_ble_eq_true rfl), (Nat.le_of_ble_eq_true rfl), w_1281, w_10, ⟨by decide, by decide⟩, show _ = some 1 by decide +kernel⟩ w_1278 w_1280 (ci := 11) rfl s_55 hL.1 rfl (Nat.le_of_ble_eq_true rfl) (by omega) (by omega) (c_Model_isVersion hL hM.2.1.1 f) ?_
  rintro _ _ ⟨rfl, rfl⟩
  cases hv : k_bel S.vs.length f with
  | false =>
    refine q_if_eq (tgt := 21) d_Model_route_6 rfl (fun hc => ?_) (fun hc => ?_)
    · exact fin _ _ rfl rfl
    · exact absurd rfl hc
  | true =>
    have hu : k_bel S.vs.length t = false := by
      rcases hb with hb | hb
      · rw [hv] at hb; cases hb
      · exact hb
    refine q_if_eq (tgt := 21) d_Model_route_6 rfl (fun hc => ?_) (fun hc => ?_)
    · exact absurd hc (by decide)
    refine q_aload_n d_Model_route_9 rfl rfl ?_
    refine q_iload_n d_Model_route_10 rfl rfl ?_
    refine q_callVi (M2 := M_Model_isVersion) d_Model_route_11 ⟨(Nat.le_of_ble_eq_true rfl), (Nat.le_of_ble_eq_true rfl), w_1281, w_10, ⟨by decide, by decide⟩, show _ = some 1 by decide +kernel⟩ w_1278 w_1280 (ci := 11) rfl s_55 hL.1 rfl (Nat.le_of_ble_eq_true rfl) (by omega) (by omega) (c_Model_isVersion hL hM.2.1.1 t) ?_
    rintro _ _ ⟨rfl, rfl⟩
    rw [hu]
    refine q_if_eq (tgt := 21) d_Model_route_14 rfl (fun hc => ?_) (fun hc => ?_)
    · exact fin _ _ rfl rfl
    · exact absurd rfl hc
theorem c_Model_route (hw : wf S) (hM : relM S m T I R) {f t : Nat} {k : Int32} (hf : f < S.vs.length) (ht : t < S.vs.length) : q_Ci g M_Model_route [.ref m, .int (nI f), .int (nI t), .int k] (sz, T, I, R, J) 0 0 (m_spm m sz T I R J (0, a_rt (k_way (k_A S.ss (-1)) S.vs.length f t) k, S)) := by
  have hL := hM.1
  have hv8 := hw.1.2.1
  obtain ⟨I0, hI0⟩ : ∃ I0, I0 = q_upI I m (nI 0) (nI 0) := ⟨_, rfl⟩
  have hps : m_ps m I I0 := by rw [hI0]; exact m_ps.int (by decide) (by decide) (by decide) (by decide) (by decide)
  have hM0 := hM.ps hps
  have z0 : I0 m (nI 0) = 0 := by rw [hI0, q_upI_self]; rfl
  refine q_C.of (ls0 := [some (.ref m), some (.int (nI f)), some (.int (nI t)), some (.int k)]) (by decide) rfl (by decide) (Nat.le_of_ble_eq_true rfl) rfl ?_
  refine q_aload_n d_Model_route_0 rfl rfl ?_
  refine q_aload_n d_Model_route_1 rfl rfl ?_
  refine q_iload_n d_Model_route_2 rfl rfl ?_
  refine q_callVi (M2 := M_Model_isVersion) d_Model_route_3 ⟨(Nat.le_of_ble_eq_true rfl), (Nat.le_of_ble_eq_true rfl), w_1281, w_10, ⟨by decide, by decide⟩, show _ = some 1 by decide +kernel⟩ w_1278 w_1280 (ci := 11) rfl s_55 hL.1 rfl (Nat.le_of_ble_eq_true rfl) (by omega) (by omega) (c_Model_isVersion hL hM.2.1.1 _) ?_
  rintro _ _ ⟨rfl, rfl⟩
  rw [k_bel_nI (by omega) hf]
  refine q_if_eq (tgt := 21) d_Model_route_6 rfl (fun hc => ?_) (fun hc => ?_)
  · exact absurd hc (by decide)
  refine q_aload_n d_Model_route_9 rfl rfl ?_
  refine q_iload_n d_Model_route_10 rfl rfl ?_
  refine q_callVi (M2 := M_Model_isVersion) d_Model_route_11 ⟨(Nat.le_of_ble_eq_true rfl), (Nat.le_of_ble_eq_true rfl), w_1281, w_10, ⟨by decide, by decide⟩, show _ = some 1 by decide +kernel⟩ w_1278 w_1280 (ci := 11) rfl s_55 hL.1 rfl (Nat.le_of_ble_eq_true rfl) (by omega) (by omega) (c_Model_isVersion hL hM.2.1.1 _) ?_
  rintro _ _ ⟨rfl, rfl⟩
  rw [k_bel_nI (by omega) ht]
  refine q_if_eq (tgt := 21) d_Model_route_14 rfl (fun hc => ?_) (fun hc => ?_)
  · exact absurd hc (by decide)
  refine q_iconst (v := nI 0) d_Model_route_17 (by decide) ?_
  refine q_goto (tgt := 22) d_Model_route_18 rfl ?_
  refine q_putI (ci := 11) (fk := 0) d_Model_route_22 rfl (Nat.le_of_ble_eq_true rfl) w_1104 (Or.inl rfl) (fun _ _ => rfl) rfl rfl hL.1 ?_
  refine q_aload_n d_Model_route_25 rfl rfl ?_
  refine q_getI (ci := 11) (fk := 0) d_Model_route_26 rfl (Nat.le_of_ble_eq_true rfl) w_1104 (fun _ _ => rfl) hL.1 ?_
  rw [q_upI_self]
  refine q_if_le (tgt := 34) d_Model_route_29 rfl (fun hc => ?_) (fun hc => ?_)
  rotate_left
  · exact absurd (Int32.le_refl _) hc
  rw [← hI0]
  refine q_aload_n d_Model_route_34 rfl rfl ?_
  refine q_iload_n d_Model_route_35 rfl rfl ?_
  refine q_iload_n d_Model_route_36 rfl rfl ?_
  refine q_iconst (v := (-1)) d_Model_route_37 (by decide) ?_
  refine q_callVi (M2 := M_Model_findRoute) d_Model_route_38 ⟨(Nat.le_of_ble_eq_true rfl), (Nat.le_of_ble_eq_true rfl), w_1477, w_10, ⟨by decide, by decide⟩, show _ = some 3 by decide +kernel⟩ w_1474 w_1476 (ci := 11) rfl s_78 hL.1 rfl (Nat.le_of_ble_eq_true rfl) (by omega) (by omega) (c_Model_findRoute hL (hM0.ssv hw) hM0.2.1.1 hv8 hf ht (-1)) ?_
  rintro _ _ ⟨rfl, I1, rfl, i1, i2⟩
  obtain ⟨o, ho⟩ : ∃ o, o = k_way (k_A S.ss (-1)) S.vs.length f t := ⟨_, rfl⟩
  rw [← ho] at i2 ⊢
  have hps1 := hps.trans i1.ps
  have done : ∀ r, r = a_rt o k → m_spm m sz T I R J (0, a_rt o k, S) r (sz, T, I1, R, J) := fun r hr => ⟨fun _ => hr, I1, rfl, by rw [i1.2 _ (fun z => absurd (q_nI_inj z) (by decide))]; exact z0, hps1.1.1, hM.ps hps1⟩
  have no : ∀ (mcc msc : Nat), mcc = 0 → msc = 0 → -1 = a_rt o k → q_V g M_Model_route 0 0 mcc msc (sz, T, I1, R, J) (fun o' h' => ∃ r : Int32, o' = .inl (some (.int r)) ∧ m_spm m sz T I R J (0, a_rt o k, S) r h') 65 [some (.ref m), some (.int (nI f)), some (.int (nI t)), some (.int k)] [] := by
    intro mcc msc m1 m2 hr
    subst m1 m2
    refine q_iconst (v := (-1)) d_Model_route_65 (by decide) ?_
    refine q_iret d_Model_route_66 rfl (by omega) (by omega) ?_
    exact ⟨_, rfl, done _ hr⟩
  cases o with
  | none =>
    refine q_if_eq (tgt := 65) d_Model_route_41 rfl (fun hc => ?_) (fun hc => ?_)
    · exact no _ _ rfl rfl rfl
    · exact absurd rfl hc
  | some l =>
    obtain ⟨l1, l2⟩ := k_way_len hv8 ho.symm
    obtain ⟨j2, j3, -⟩ := i2 l rfl
    refine q_if_eq (tgt := 65) d_Model_route_41 rfl (fun hc => ?_) (fun hc => ?_)
    · exact absurd (show nI 1 = 0 from hc) (by decide)
    refine q_iload_n d_Model_route_44 rfl rfl ?_
    refine q_if_lt (tgt := 65) d_Model_route_45 rfl (fun hc => ?_) (fun hc => ?_)
    · exact no _ _ rfl rfl (by show -1 = if k < 0 then _ else _; rw [if_pos hc])
    have hk := hc
    obtain ⟨j, j1, rfl⟩ := nI_of hk
    refine q_iload_n d_Model_route_48 rfl rfl ?_
    refine q_aload_n d_Model_route_49 rfl rfl ?_
    refine q_getI (ci := 11) (fk := 33) d_Model_route_50 rfl (Nat.le_of_ble_eq_true rfl) w_1137 (fun _ _ => rfl) hL.1 ?_
    rw [j2]
    refine q_icmp_ge (tgt := 65) d_Model_route_53 rfl (fun hc => ?_) (fun hc => ?_)
    · have hj : l.length ≤ j := by rw [nI_leI (by omega) j1] at hc; exact hc
      refine no _ _ rfl rfl ?_
      show -1 = if nI j < 0 then _ else _
      rw [if_neg hk, nI_clamp j1, List.getElem?_eq_none hj]
    · have hj : ¬ l.length ≤ j := fun z => hc (by rw [nI_leI (by omega) j1]; exact z)
      obtain ⟨v, hv⟩ : ∃ v, l[j]? = some v := ⟨_, List.getElem?_eq_getElem (by omega)⟩
      refine q_aload_n d_Model_route_56 rfl rfl ?_
      refine q_getR (ci := 11) (fk := 34) d_Model_route_57 rfl (Nat.le_of_ble_eq_true rfl) w_1138 (fun _ _ => rfl) hL.1 (hL.2 34 _ _ _ rfl).1 ?_
      refine q_iload_n d_Model_route_60 rfl rfl ?_
      refine q_iald d_Model_route_61 (hL.2 34 _ _ _ rfl).2 (by first | assumption | exact vp_in_nI (by omega) (by omega)) ?_
      rw [j3 j v hv]
      refine q_goto (tgt := 66) d_Model_route_62 rfl ?_
      refine q_iret d_Model_route_66 rfl (by omega) (by omega) ?_
      refine ⟨_, rfl, done _ ?_⟩
      show nI v = if nI j < 0 then _ else _
      rw [if_neg hk, nI_clamp j1, hv]
end RouteP
