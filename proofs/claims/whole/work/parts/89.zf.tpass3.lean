/-! clash: a primitive forth and back on the class's terms -/
section TPass3
variable {g : q_G} {sz te po : Nat} {T : q_T} {I : q_I} {R : q_R} {J : q_J} {tb : List KT} {p : KP} {t u : KT} {D : List KF} {Z : KZ}
theorem o_wr {L L' : List (Nat × Bool)} {s : Nat} {I1 : q_I} {tb1 : List KT} (hs : o_sl te L Z tb I) (a1 : o_fi te I I1) (a2 : o_tb te tb1 I1) (a3 : z_ex tb tb1) (a4 : tb1.length ≤ tb.length + 2) (a5 : t ∈ tb1) (hL : ∀ q ∈ L, q.1 < 32) (hs32 : s < 32) (hL' : ∀ q ∈ L', (q ∈ L ∧ q.1 ≠ s) ∨ (q.1 = s ∧ q.2 = false)) : o_ps te L' (k_ud Z s t) tb sz T I R J (sz, T, q_upI I1 (te + 3) (nI s) (nI (tb1.idxOf t)), R, J) := by
  refine ⟨_, tb1, rfl, a1.ft.trans o_ft.up, a2.up, a3, a4, hs.put a3 (fun q hq hne => ?_) (fun q hq => ?_)⟩
  · have := hL q hq
    rw [q_upI_nk (by omega), a1 (te + 3) (by omega)]
  · rcases hL' q hq with z | ⟨z1, z2⟩
    · exact Or.inl z
    · refine Or.inr ⟨z1, ?_⟩
      rw [z2]
      exact ⟨fun z => (by cases z), fun _ => ⟨a5, by rw [q_upI_self]⟩⟩
theorem o_wn {L L' : List (Nat × Bool)} {s : Nat} (hs : o_sl te L Z tb I) (h : o_tb te tb I) (hL : ∀ q ∈ L, q.1 < 32) (hs32 : s < 32) (hL' : ∀ q ∈ L', (q ∈ L ∧ q.1 ≠ s) ∨ (q.1 = s ∧ q.2 = true)) : o_ps te L' (k_ud Z s t) tb sz T I R J (sz, T, q_upI I (te + 3) (nI s) (-1), R, J) := by
  refine ⟨_, tb, rfl, o_ft.up, h.up, z_ex.refl tb, by omega, hs.put (z_ex.refl tb) (fun q hq hne => ?_) (fun q hq => ?_)⟩
  · have := hL q hq
    rw [q_upI_nk (by omega)]
  · rcases hL' q hq with z | ⟨z1, z2⟩
    · exact Or.inl z
    · refine Or.inr ⟨z1, ?_⟩
      rw [z2]
      exact ⟨fun _ => q_upI_self, fun z => (by cases z)⟩
theorem z_go_0 {fw : Bool} (h : p.kind = 0 ∨ p.kind = 4) : z_go fw p Z = Z := by
  unfold z_go
  rcases h with h | h <;> (rw [h]; try rfl)
theorem z_go_1 {fw : Bool} (h : p.kind = 1) : z_go fw p Z = if fw = true then k_ud Z p.sl (z_dft p) else Z := by unfold z_go; rw [h]; try rfl
theorem z_go_2 {fw : Bool} (h : p.kind = 2) : z_go fw p Z = if fw = true then Z else k_ud Z p.sl (z_dft p) := by unfold z_go; rw [h]; try rfl
theorem z_go_3 {fw : Bool} (h : p.kind = 3) : z_go fw p Z = if fw = true then k_ud Z p.sl (z_wrp (Z p.sl)) else k_ud Z p.sl (z_unw p (Z p.sl)) := by unfold z_go; rw [h]; try rfl
theorem z_go_5 {fw : Bool} (h : p.kind = 5) : z_go fw p Z = if fw = true then k_ud (k_ud Z p.sl (z_sp1 p (Z p.sl))) p.rs (z_sp2 p (Z p.sl)) else k_ud Z p.sl (z_jn p (Z p.sl) (Z p.rs)) := by unfold z_go; rw [h]; try rfl
theorem z_go_6 {fw : Bool} (h : p.kind = 6) : z_go fw p Z = if fw = true then k_ud Z p.sl (z_sf p (Z p.sl)) else k_ud Z p.sl (z_sb p (Z p.sl)) := by unfold z_go; rw [h]; try rfl
theorem z_go_7 {fw : Bool} (h : p.kind = 7) : z_go fw p Z = if fw = true then k_ud Z p.sl (z_mp p (Z p.sl)) else Z := by unfold z_go; rw [h]; try rfl
theorem z_go_8 {fw : Bool} (h : p.kind = 8) : z_go fw p Z = if fw = true then k_ud Z p.sl (z_so (Z p.sl)) else Z := by unfold z_go; rw [h]; try rfl
set_option maxHeartbeats 1000000 in
theorem c_Terms_passForth (hL : q_L 8 t_Terms te T R) (h : o_tb te tb I) (hlen : tb.length + 2 ≤ 152) (hp : k_prm po p T I) (hw : k_wfL D) (hn : k_nds D) (hcn : k_can p D) (hs : o_sl te (k_pr D) Z tb I) (hD : ∀ f ∈ D, f.2.2.2.2 < 32) (hsl : p.sl < 32) (hrs : p.kind = 5 → p.rs < 32) (hpo : po < te ∨ te + 10 < po) : q_Cv g M_Terms_passForth [.ref te, .ref po] (sz, T, I, R, J) 0 0 (o_ps te (k_pr (k_fw p D)) (z_go true p Z) tb sz T I R J) := by
  have tp := hp.1
  have psl := hp.2.2.1
  have h8 := hcn.2.1
  have hL32 : ∀ q ∈ k_pr D, q.1 < 32 := fun q hq => by
    obtain ⟨f, f1, f2, -⟩ := k_pr_mem hq
    rw [← f2]; exact hD f f1
  obtain ⟨tv, htv⟩ : ∃ tv, tv = I (te + 3) (nI p.sl) := ⟨_, rfl⟩
  have live : p.kind = 3 ∨ p.kind = 5 ∨ p.kind = 6 ∨ p.kind = 7 ∨ p.kind = 8 → Z p.sl ∈ tb ∧ tv = nI (tb.idxOf (Z p.sl)) := fun z => by
    have := hs _ (k_pr_of (hcn.mem (by omega)))
    rw [htv]
    exact this.2 (hcn.ng z)
  have same : p.kind = 3 ∨ p.kind = 6 ∨ p.kind = 7 ∨ p.kind = 8 → ∀ q ∈ k_pr (k_fw p D), (q ∈ k_pr D ∧ q.1 ≠ p.sl) ∨ (q.1 = p.sl ∧ q.2 = false) := fun z q hq => by
    rw [k_fw_pr hw hcn (by omega) (by omega) (by omega)] at hq
    by_cases e : q.1 = p.sl
    · exact Or.inr ⟨e, by rw [hcn.pr hn (by omega) hq e]; exact hcn.ng (by omega)⟩
    · exact Or.inl ⟨hq, e⟩
  refine q_C.of (ls0 := [some (.ref te), some (.ref po), none]) (by decide) rfl (by decide) (Nat.le_of_ble_eq_true rfl) rfl ?_
  refine q_aload_n d_Terms_passForth_0 rfl rfl ?_
  refine q_getR (ci := 8) (fk := 2) d_Terms_passForth_1 rfl (Nat.le_of_ble_eq_true rfl) w_240 (fun _ _ => rfl) hL.1 (hL.2 2 _ _ _ rfl).1 ?_
  refine q_aload_n d_Terms_passForth_4 rfl rfl ?_
  refine q_getI (ci := 4) (fk := 1) d_Terms_passForth_5 rfl (Nat.le_of_ble_eq_true rfl) w_494 (fun _ _ => rfl) (by first | assumption | rfl | (simp (disch := omega) only [q_upT_self, q_upT_ne, q_upR_self, q_upR_nea, q_upR_nk, s_T_lo, s_T_hi, s_R_ne, *]; done) | (simp (disch := omega) only [q_upT_self, q_upT_ne, q_upR_self, q_upR_nea, q_upR_nk, s_T_lo, s_T_hi, s_R_ne, *]; rfl)) ?_
  rw [psl]
  refine q_iald d_Terms_passForth_8 (hL.2 2 _ _ _ rfl).2 (by first | assumption | exact vp_in_nI (by omega) (by omega)) ?_
  rw [← htv]
  refine q_istore_n d_Terms_passForth_9 rfl (Nat.le_of_ble_eq_true rfl) (by first | exact q_ok0 | exact q_okI rfl | exact q_okR rfl | exact q_okN rfl) rfl ?_
  refine q_aload_n d_Terms_passForth_10 rfl rfl ?_
  refine q_getI (ci := 4) (fk := 0) d_Terms_passForth_11 rfl (Nat.le_of_ble_eq_true rfl) w_492 (fun _ _ => rfl) (by first | assumption | rfl | (simp (disch := omega) only [q_upT_self, q_upT_ne, q_upR_self, q_upR_nea, q_upR_nk, s_T_lo, s_T_hi, s_R_ne, *]; done) | (simp (disch := omega) only [q_upT_self, q_upT_ne, q_upR_self, q_upR_nea, q_upR_nk, s_T_lo, s_T_hi, s_R_ne, *]; rfl)) ?_
  rw [hp.2.1]
  have kt : (nI p.kind).toInt = p.kind := nI_toInt (by omega)
  have dflt : (p.kind = 0 ∨ p.kind = 2 ∨ p.kind = 4) → ∀ mcc msc : Nat, mcc ≤ 0 → msc ≤ 0 → q_V g M_Terms_passForth 0 0 mcc msc (sz, T, I, R, J) (fun o h' => o = .inl none ∧ o_ps te (k_pr (k_fw p D)) (z_go true p Z) tb sz T I R J h') 234 [some (.ref te), some (.ref po), some (.int tv)] [] := by
    intro hz mcc msc m1 m2
    refine q_vret d_Terms_passForth_234 rfl (by omega) (by omega) ?_
    refine ⟨rfl, I, tb, rfl, o_ft.refl, h, z_ex.refl tb, by omega, ?_⟩
    by_cases k2 : p.kind = 2
    · rw [z_go_2 k2, if_pos rfl, k_fw_2 k2]
      refine hs.imp fun q hq => ?_
      obtain ⟨f, f1, f2, f3⟩ := k_pr_mem hq
      have := k_pr_of (List.mem_filter.mp f1).1
      rw [f2, f3] at this
      exact this
    · rw [z_go_0 (by omega), k_fw_pr hw hcn (by omega) k2 (by omega)]
      exact hs
  rcases (by omega : p.kind = 0 ∨ p.kind = 1 ∨ p.kind = 2 ∨ p.kind = 3 ∨ p.kind = 4 ∨ p.kind = 5 ∨ p.kind = 6 ∨ p.kind = 7 ∨ p.kind = 8) with hz | hz | hz | hz | hz | hz | hz | hz | hz
  · exact q_tableOut (tgt := 234) d_Terms_passForth_14 (Or.inl (by omega)) (by omega) (dflt (Or.inl hz) _ _ (by omega) (by omega))
  · refine q_tableIn (tgt := 60) (off := 46) d_Terms_passForth_14 (by omega) (by omega) (by rw [kt, hz]; rfl) (by omega) ?_
    rw [z_go_1 hz, if_pos rfl, k_fw_pr1 hz]
    have hno := (hcn.2.2.1 hz).2.2.2
    have lst : ∀ (gb : Bool), decide (p.so = 2) = gb → ∀ q ∈ k_pr D ++ [(p.sl, decide (p.so = 2))], (q ∈ k_pr D ∧ q.1 ≠ p.sl) ∨ (q.1 = p.sl ∧ q.2 = gb) := fun gb hg q hq => by
      rcases List.mem_append.mp hq with z | z
      · obtain ⟨f, f1, f2, -⟩ := k_pr_mem z
        exact Or.inl ⟨z, by rw [← f2]; exact hno f f1⟩
      · rw [List.mem_singleton.mp z]; exact Or.inr ⟨rfl, hg⟩
    refine q_aload_n d_Terms_passForth_60 rfl rfl ?_
    refine q_getR (ci := 8) (fk := 2) d_Terms_passForth_61 rfl (Nat.le_of_ble_eq_true rfl) w_240 (fun _ _ => rfl) hL.1 (hL.2 2 _ _ _ rfl).1 ?_
    refine q_aload_n d_Terms_passForth_64 rfl rfl ?_
    refine q_getI (ci := 4) (fk := 1) d_Terms_passForth_65 rfl (Nat.le_of_ble_eq_true rfl) w_494 (fun _ _ => rfl) (by first | assumption | rfl | (simp (disch := omega) only [q_upT_self, q_upT_ne, q_upR_self, q_upR_nea, q_upR_nk, s_T_lo, s_T_hi, s_R_ne, *]; done) | (simp (disch := omega) only [q_upT_self, q_upT_ne, q_upR_self, q_upR_nea, q_upR_nk, s_T_lo, s_T_hi, s_R_ne, *]; rfl)) ?_
    rw [psl]
    refine q_aload_n d_Terms_passForth_68 rfl rfl ?_
    refine q_aload_n d_Terms_passForth_69 rfl rfl ?_
    by_cases h2 : p.so = 2
    · refine q_callVi (M2 := M_Terms_defaultTerm) d_Terms_passForth_70 ⟨(Nat.le_of_ble_eq_true rfl), (Nat.le_of_ble_eq_true rfl), w_1063, w_9, ⟨by decide, by decide⟩, show _ = some 1 by decide +kernel⟩ w_1060 w_1062 (ci := 8) rfl s_40 hL.1 rfl (Nat.le_of_ble_eq_true rfl) (by omega) (by omega) (c_Terms_defaultTerm_no hL hp h2) ?_
      rintro _ _ ⟨rfl, rfl⟩
      refine q_iast d_Terms_passForth_73 (hL.2 2 _ _ _ rfl).2 (by first | assumption | exact vp_in_nI (by omega) (by omega)) ?_
      refine q_goto (tgt := 234) d_Terms_passForth_74 rfl ?_
      refine q_vret d_Terms_passForth_234 rfl (by omega) (by omega) ?_
      exact ⟨rfl, o_wn hs h hL32 hsl (lst true (decide_eq_true h2))⟩
    · refine q_callVi (M2 := M_Terms_defaultTerm) d_Terms_passForth_70 ⟨(Nat.le_of_ble_eq_true rfl), (Nat.le_of_ble_eq_true rfl), w_1063, w_9, ⟨by decide, by decide⟩, show _ = some 1 by decide +kernel⟩ w_1060 w_1062 (ci := 8) rfl s_40 hL.1 rfl (Nat.le_of_ble_eq_true rfl) (by omega) (by omega) (c_Terms_defaultTerm hL h (by omega) hp h2) ?_
      rintro _ _ ⟨I1, tb1, rfl, a1, a2, a3, a4, a5, rfl⟩
      refine q_iast d_Terms_passForth_73 (hL.2 2 _ _ _ rfl).2 (by first | assumption | exact vp_in_nI (by omega) (by omega)) ?_
      refine q_goto (tgt := 234) d_Terms_passForth_74 rfl ?_
      refine q_vret d_Terms_passForth_234 rfl (by omega) (by omega) ?_
      exact ⟨rfl, o_wr hs a1 a2 a3 (by omega) a5 hL32 hsl (lst false (decide_eq_false h2))⟩
  · exact q_tableIn (tgt := 234) (off := 220) d_Terms_passForth_14 (by omega) (by omega) (by rw [kt, hz]; rfl) (by omega) (dflt (by omega) _ _ (by omega) (by omega))
  · refine q_tableIn (tgt := 77) (off := 63) d_Terms_passForth_14 (by omega) (by omega) (by rw [kt, hz]; rfl) (by omega) ?_
    obtain ⟨l1, l2⟩ := live (by omega)
    rw [z_go_3 hz, if_pos rfl, l2]
    refine q_aload_n d_Terms_passForth_77 rfl rfl ?_
    refine q_getR (ci := 8) (fk := 2) d_Terms_passForth_78 rfl (Nat.le_of_ble_eq_true rfl) w_240 (fun _ _ => rfl) hL.1 (hL.2 2 _ _ _ rfl).1 ?_
    refine q_aload_n d_Terms_passForth_81 rfl rfl ?_
    refine q_getI (ci := 4) (fk := 1) d_Terms_passForth_82 rfl (Nat.le_of_ble_eq_true rfl) w_494 (fun _ _ => rfl) (by first | assumption | rfl | (simp (disch := omega) only [q_upT_self, q_upT_ne, q_upR_self, q_upR_nea, q_upR_nk, s_T_lo, s_T_hi, s_R_ne, *]; done) | (simp (disch := omega) only [q_upT_self, q_upT_ne, q_upR_self, q_upR_nea, q_upR_nk, s_T_lo, s_T_hi, s_R_ne, *]; rfl)) ?_
    rw [psl]
    refine q_aload_n d_Terms_passForth_85 rfl rfl ?_
    refine q_iconst (v := nI 3) d_Terms_passForth_86 (by decide) ?_
    refine q_iload_n d_Terms_passForth_87 rfl rfl ?_
    refine q_callVi (M2 := M_Terms_simple) d_Terms_passForth_88 ⟨(Nat.le_of_ble_eq_true rfl), (Nat.le_of_ble_eq_true rfl), w_1047, w_9, ⟨by decide, by decide⟩, show _ = some 2 by decide +kernel⟩ w_1044 w_1046 (ci := 8) rfl s_37 hL.1 rfl (Nat.le_of_ble_eq_true rfl) (by omega) (by omega) (c_simple_u1 hL h (by omega) (by omega) (by omega) (by omega) l1) ?_
    rintro _ _ ⟨I1, tb1, rfl, a1, a2, a3, a4, a5, rfl⟩
    refine q_iast d_Terms_passForth_91 (hL.2 2 _ _ _ rfl).2 (by first | assumption | exact vp_in_nI (by omega) (by omega)) ?_
    refine q_goto (tgt := 234) d_Terms_passForth_92 rfl ?_
    refine q_vret d_Terms_passForth_234 rfl (by omega) (by omega) ?_
    exact ⟨rfl, o_wr hs a1 a2 a3 (by omega) a5 hL32 hsl (same (by omega))⟩
  · exact q_tableIn (tgt := 234) (off := 220) d_Terms_passForth_14 (by omega) (by omega) (by rw [kt, hz]; rfl) (by omega) (dflt (by omega) _ _ (by omega) (by omega))
  · refine q_tableIn (tgt := 95) (off := 81) d_Terms_passForth_14 (by omega) (by omega) (by rw [kt, hz]; rfl) (by omega) ?_
    obtain ⟨l1, l2⟩ := live (by omega)
    rw [z_go_5 hz, if_pos rfl, l2]
    have hno := (hcn.2.2.2.2.2.2.2.2.1 hz).2.2.2.2.2
    have hne : p.sl ≠ p.rs := hno p.f (hcn.mem (by omega))
    refine q_aload_n d_Terms_passForth_95 rfl rfl ?_
    refine q_aload_n d_Terms_passForth_96 rfl rfl ?_
    refine q_iload_n d_Terms_passForth_97 rfl rfl ?_
    refine q_callVv (M2 := M_Terms_split) d_Terms_passForth_98 ⟨(Nat.le_of_ble_eq_true rfl), (Nat.le_of_ble_eq_true rfl), w_1068, w_9, ⟨by decide, by decide⟩, show _ = some 2 by decide +kernel⟩ w_1065 w_1067 (ci := 8) rfl s_41 hL.1 rfl (Nat.le_of_ble_eq_true rfl) (by omega) (by omega) (c_Terms_split hL h (by omega) hp hz (hcn.ok.2 hz) l1 hsl (hrs hz) hne hpo) ?_
    rintro _ ⟨I1, tb1, rfl, a1, a2, a3, a4, a5, a6, a7⟩
    refine q_goto (tgt := 234) d_Terms_passForth_101 rfl ?_
    refine q_vret d_Terms_passForth_234 rfl (by omega) (by omega) ?_
    refine ⟨rfl, I1, tb1, rfl, a1, a2, a3, a4, ?_⟩
    rw [k_fw_pr5 hz]
    intro q hq
    rcases List.mem_append.mp hq with z | z
    · obtain ⟨f, f1, f2, -⟩ := k_pr_mem z
      have e1 : q.1 ≠ p.rs := by rw [← f2]; exact hno f f1
      rw [k_ud_ne e1]
      by_cases e : q.1 = p.sl
      · rw [e, k_ud_self, hcn.pr hn (by omega) z e, hcn.ng (by omega)]
        exact a5
      · rw [k_ud_ne e]
        exact (hs q z).keep a3 (a7 q.1 (hL32 q z) e e1)
    · rw [List.mem_singleton.mp z]
      show o_s1 te p.rs false (k_ud _ p.rs _ p.rs) tb1 I1
      rw [k_ud_self]; exact a6
  · refine q_tableIn (tgt := 104) (off := 90) d_Terms_passForth_14 (by omega) (by omega) (by rw [kt, hz]; rfl) (by omega) ?_
    obtain ⟨l1, l2⟩ := live (by omega)
    rw [z_go_6 hz, if_pos rfl, l2]
    refine q_aload_n d_Terms_passForth_104 rfl rfl ?_
    refine q_getR (ci := 8) (fk := 2) d_Terms_passForth_105 rfl (Nat.le_of_ble_eq_true rfl) w_240 (fun _ _ => rfl) hL.1 (hL.2 2 _ _ _ rfl).1 ?_
    refine q_aload_n d_Terms_passForth_108 rfl rfl ?_
    refine q_getI (ci := 4) (fk := 1) d_Terms_passForth_109 rfl (Nat.le_of_ble_eq_true rfl) w_494 (fun _ _ => rfl) (by first | assumption | rfl | (simp (disch := omega) only [q_upT_self, q_upT_ne, q_upR_self, q_upR_nea, q_upR_nk, s_T_lo, s_T_hi, s_R_ne, *]; done) | (simp (disch := omega) only [q_upT_self, q_upT_ne, q_upR_self, q_upR_nea, q_upR_nk, s_T_lo, s_T_hi, s_R_ne, *]; rfl)) ?_
    rw [psl]
    refine q_aload_n d_Terms_passForth_112 rfl rfl ?_
    refine q_aload_n d_Terms_passForth_113 rfl rfl ?_
    refine q_iload_n d_Terms_passForth_114 rfl rfl ?_
    refine q_callVi (M2 := M_Terms_scaleForth) d_Terms_passForth_115 ⟨(Nat.le_of_ble_eq_true rfl), (Nat.le_of_ble_eq_true rfl), w_1074, w_9, ⟨by decide, by decide⟩, show _ = some 2 by decide +kernel⟩ w_1071 w_1073 (ci := 8) rfl s_42 hL.1 rfl (Nat.le_of_ble_eq_true rfl) (by omega) (by omega) (c_Terms_scaleForth hL h (by omega) hp hz hcn.ok l1) ?_
    rintro _ _ ⟨I1, tb1, rfl, a1, a2, a3, a4, a5, rfl⟩
    refine q_iast d_Terms_passForth_118 (hL.2 2 _ _ _ rfl).2 (by first | assumption | exact vp_in_nI (by omega) (by omega)) ?_
    refine q_goto (tgt := 234) d_Terms_passForth_119 rfl ?_
    refine q_vret d_Terms_passForth_234 rfl (by omega) (by omega) ?_
    exact ⟨rfl, o_wr hs a1 a2 a3 (by omega) a5 hL32 hsl (same (by omega))⟩
  · refine q_tableIn (tgt := 122) (off := 108) d_Terms_passForth_14 (by omega) (by omega) (by rw [kt, hz]; rfl) (by omega) ?_
    obtain ⟨l1, l2⟩ := live (by omega)
    have hix := z_ix_lt l1
    have pa := hp.2.2.2.2.2.2.1 (by omega) (by omega)
    have pb := hp.2.2.2.2.2.2.2.1 (by omega) (by omega)
    rw [z_go_7 hz, if_pos rfl, l2]
    refine q_aload_n d_Terms_passForth_122 rfl rfl ?_
    refine q_getR (ci := 8) (fk := 2) d_Terms_passForth_123 rfl (Nat.le_of_ble_eq_true rfl) w_240 (fun _ _ => rfl) hL.1 (hL.2 2 _ _ _ rfl).1 ?_
    refine q_aload_n d_Terms_passForth_126 rfl rfl ?_
    refine q_getI (ci := 4) (fk := 1) d_Terms_passForth_127 rfl (Nat.le_of_ble_eq_true rfl) w_494 (fun _ _ => rfl) (by first | assumption | rfl | (simp (disch := omega) only [q_upT_self, q_upT_ne, q_upR_self, q_upR_nea, q_upR_nk, s_T_lo, s_T_hi, s_R_ne, *]; done) | (simp (disch := omega) only [q_upT_self, q_upT_ne, q_upR_self, q_upR_nea, q_upR_nk, s_T_lo, s_T_hi, s_R_ne, *]; rfl)) ?_
    rw [psl]
    refine q_aload_n d_Terms_passForth_130 rfl rfl ?_
    refine q_getR (ci := 8) (fk := 3) d_Terms_passForth_131 rfl (Nat.le_of_ble_eq_true rfl) w_241 (fun _ _ => rfl) hL.1 (hL.2 3 _ _ _ rfl).1 ?_
    refine q_iload_n d_Terms_passForth_134 rfl rfl ?_
    refine q_iald d_Terms_passForth_135 (hL.2 3 _ _ _ rfl).2 (by first | assumption | exact vp_in_nI (by omega) (by omega)) ?_
    rw [h.k l1]
    refine q_iconst (v := nI 1) d_Terms_passForth_136 (by decide) ?_
    refine q_icmp_ne (tgt := 158) d_Terms_passForth_137 rfl (fun hc => ?_) (fun hc => ?_)
    · have h1 : ¬ z_k (Z p.sl) = 1 := fun z => hc (by rw [z])
      rw [show z_mp p (Z p.sl) = z_u1 10 (Z p.sl) p.a p.b 0 0 by unfold z_mp; rw [if_neg h1]]
      refine q_aload_n d_Terms_passForth_158 rfl rfl ?_
      refine q_bipush (v := nI 10) d_Terms_passForth_159 (by decide) ?_
      refine q_iload_n d_Terms_passForth_161 rfl rfl ?_
      refine q_iconst (v := nI 0) d_Terms_passForth_162 (by decide) ?_
      refine q_aload_n d_Terms_passForth_163 rfl rfl ?_
      refine q_getI (ci := 4) (fk := 5) d_Terms_passForth_164 rfl (Nat.le_of_ble_eq_true rfl) w_506 (fun _ _ => rfl) (by first | assumption | rfl | (simp (disch := omega) only [q_upT_self, q_upT_ne, q_upR_self, q_upR_nea, q_upR_nk, s_T_lo, s_T_hi, s_R_ne, *]; done) | (simp (disch := omega) only [q_upT_self, q_upT_ne, q_upR_self, q_upR_nea, q_upR_nk, s_T_lo, s_T_hi, s_R_ne, *]; rfl)) ?_
      rw [pa]
      refine q_aload_n d_Terms_passForth_167 rfl rfl ?_
      refine q_getI (ci := 4) (fk := 6) d_Terms_passForth_168 rfl (Nat.le_of_ble_eq_true rfl) w_509 (fun _ _ => rfl) (by first | assumption | rfl | (simp (disch := omega) only [q_upT_self, q_upT_ne, q_upR_self, q_upR_nea, q_upR_nk, s_T_lo, s_T_hi, s_R_ne, *]; done) | (simp (disch := omega) only [q_upT_self, q_upT_ne, q_upR_self, q_upR_nea, q_upR_nk, s_T_lo, s_T_hi, s_R_ne, *]; rfl)) ?_
      rw [pb]
      refine q_iconst (v := nI 0) d_Terms_passForth_171 (by decide) ?_
      refine q_iconst (v := nI 0) d_Terms_passForth_172 (by decide) ?_
      refine q_callVi (M2 := M_Terms_intern) d_Terms_passForth_173 ⟨(Nat.le_of_ble_eq_true rfl), (Nat.le_of_ble_eq_true rfl), w_1051, w_9, ⟨by decide, by decide⟩, show _ = some 7 by decide +kernel⟩ w_1048 w_1050 (ci := 8) rfl s_38 hL.1 rfl (Nat.le_of_ble_eq_true rfl) (by omega) (by omega) (c_intern_u1 hL h (by omega) (by omega) (by omega) (by omega) l1 p.a p.b 0 0) ?_
      rintro _ _ ⟨I1, tb1, rfl, a1, a2, a3, a4, a5, rfl⟩
      refine q_iast d_Terms_passForth_176 (hL.2 2 _ _ _ rfl).2 (by first | assumption | exact vp_in_nI (by omega) (by omega)) ?_
      refine q_goto (tgt := 234) d_Terms_passForth_177 rfl ?_
      refine q_vret d_Terms_passForth_234 rfl (by omega) (by omega) ?_
      exact ⟨rfl, o_wr hs a1 a2 a3 (by omega) a5 hL32 hsl (same (by omega))⟩
    · have h1 : z_k (Z p.sl) = 1 := (h.ke l1 (by omega)).mp hc
      rw [show z_mp p (Z p.sl) = z_lf 1 (if z_x (Z p.sl) = p.a then p.b else z_x (Z p.sl)) by unfold z_mp; rw [if_pos h1]]
      refine q_aload_n d_Terms_passForth_140 rfl rfl ?_
      refine q_iconst (v := nI 1) d_Terms_passForth_141 (by decide) ?_
      refine q_aload_n d_Terms_passForth_142 rfl rfl ?_
      refine q_aload_n d_Terms_passForth_143 rfl rfl ?_
      refine q_getR (ci := 8) (fk := 4) d_Terms_passForth_144 rfl (Nat.le_of_ble_eq_true rfl) w_242 (fun _ _ => rfl) hL.1 (hL.2 4 _ _ _ rfl).1 ?_
      refine q_iload_n d_Terms_passForth_147 rfl rfl ?_
      refine q_iald d_Terms_passForth_148 (hL.2 4 _ _ _ rfl).2 (by first | assumption | exact vp_in_nI (by omega) (by omega)) ?_
      rw [h.x l1 (by omega)]
      refine q_callVi (M2 := M_Primitive_mapForth) d_Terms_passForth_149 ⟨(Nat.le_of_ble_eq_true rfl), (Nat.le_of_ble_eq_true rfl), w_994, w_18, ⟨by decide, by decide⟩, show _ = some 1 by decide +kernel⟩ w_1076 w_992 (ci := 4) rfl w_993 (by first | assumption | rfl | (simp (disch := omega) only [q_upT_self, q_upT_ne, q_upR_self, q_upR_nea, q_upR_nk, s_T_lo, s_T_hi, s_R_ne, *]; done) | (simp (disch := omega) only [q_upT_self, q_upT_ne, q_upR_self, q_upR_nea, q_upR_nk, s_T_lo, s_T_hi, s_R_ne, *]; rfl)) rfl (Nat.le_of_ble_eq_true rfl) (by omega) (by omega) (c_Primitive_mapForth hp hz _) ?_
      rintro _ _ ⟨rfl, rfl⟩
      refine q_callVi (M2 := M_Terms_simple) d_Terms_passForth_152 ⟨(Nat.le_of_ble_eq_true rfl), (Nat.le_of_ble_eq_true rfl), w_1047, w_9, ⟨by decide, by decide⟩, show _ = some 2 by decide +kernel⟩ w_1044 w_1046 (ci := 8) rfl s_37 hL.1 rfl (Nat.le_of_ble_eq_true rfl) (by omega) (by omega) (c_simple_lf hL h (by omega) (by omega) _) ?_
      rintro _ _ ⟨I1, tb1, rfl, a1, a2, a3, a4, a5, rfl⟩
      refine q_goto (tgt := 176) d_Terms_passForth_155 rfl ?_
      refine q_iast d_Terms_passForth_176 (hL.2 2 _ _ _ rfl).2 (by first | assumption | exact vp_in_nI (by omega) (by omega)) ?_
      refine q_goto (tgt := 234) d_Terms_passForth_177 rfl ?_
      refine q_vret d_Terms_passForth_234 rfl (by omega) (by omega) ?_
      exact ⟨rfl, o_wr hs a1 a2 a3 (by omega) a5 hL32 hsl (same (by omega))⟩
  · refine q_tableIn (tgt := 180) (off := 166) d_Terms_passForth_14 (by omega) (by omega) (by rw [kt, hz]; rfl) (by omega) ?_
    obtain ⟨l1, l2⟩ := live (by omega)
    have hix := z_ix_lt l1
    rw [z_go_8 hz, if_pos rfl, l2]
    refine q_aload_n d_Terms_passForth_180 rfl rfl ?_
    refine q_getR (ci := 8) (fk := 2) d_Terms_passForth_181 rfl (Nat.le_of_ble_eq_true rfl) w_240 (fun _ _ => rfl) hL.1 (hL.2 2 _ _ _ rfl).1 ?_
    refine q_aload_n d_Terms_passForth_184 rfl rfl ?_
    refine q_getI (ci := 4) (fk := 1) d_Terms_passForth_185 rfl (Nat.le_of_ble_eq_true rfl) w_494 (fun _ _ => rfl) (by first | assumption | rfl | (simp (disch := omega) only [q_upT_self, q_upT_ne, q_upR_self, q_upR_nea, q_upR_nk, s_T_lo, s_T_hi, s_R_ne, *]; done) | (simp (disch := omega) only [q_upT_self, q_upT_ne, q_upR_self, q_upR_nea, q_upR_nk, s_T_lo, s_T_hi, s_R_ne, *]; rfl)) ?_
    rw [psl]
    have old : (z_k (Z p.sl) = 2 ∨ z_k (Z p.sl) = 3 ∨ z_k (Z p.sl) = 11) → ∀ (mcc msc : Nat), mcc = 0 → msc = 0 → q_V g M_Terms_passForth 0 0 mcc msc (sz, T, I, R, J) (fun o h' => o = .inl none ∧ o_ps te (k_pr (k_fw p D)) (k_ud Z p.sl (z_so (Z p.sl))) tb sz T I R J h') 219 [some (.ref te), some (.ref po), some (.int (nI (tb.idxOf (Z p.sl))))] [.int (nI p.sl), .ref (te + 3)] := by
      intro hk mcc msc m1 m2
      subst m1 m2
      rw [show z_so (Z p.sl) = Z p.sl by unfold z_so; rw [if_pos hk]]
      refine q_iload_n d_Terms_passForth_219 rfl rfl ?_
      refine q_goto (tgt := 230) d_Terms_passForth_220 rfl ?_
      refine q_iast d_Terms_passForth_230 (hL.2 2 _ _ _ rfl).2 (by first | assumption | exact vp_in_nI (by omega) (by omega)) ?_
      refine q_goto (tgt := 234) d_Terms_passForth_231 rfl ?_
      refine q_vret d_Terms_passForth_234 rfl (by omega) (by omega) ?_
      exact ⟨rfl, o_wr hs o_fi.refl h (z_ex.refl tb) (by omega) l1 hL32 hsl (same (by omega))⟩
    refine q_aload_n d_Terms_passForth_188 rfl rfl ?_
    refine q_getR (ci := 8) (fk := 3) d_Terms_passForth_189 rfl (Nat.le_of_ble_eq_true rfl) w_241 (fun _ _ => rfl) hL.1 (hL.2 3 _ _ _ rfl).1 ?_
    refine q_iload_n d_Terms_passForth_192 rfl rfl ?_
    refine q_iald d_Terms_passForth_193 (hL.2 3 _ _ _ rfl).2 (by first | assumption | exact vp_in_nI (by omega) (by omega)) ?_
    rw [h.k l1]
    refine q_iconst (v := nI 2) d_Terms_passForth_194 (by decide) ?_
    refine q_icmp_eq (tgt := 219) d_Terms_passForth_195 rfl (fun hc => ?_) (fun hc => ?_)
    · exact old (Or.inl ((h.ke l1 (by omega)).mp hc)) _ _ rfl rfl
    have n2 : ¬ z_k (Z p.sl) = 2 := fun z => hc (by rw [z])
    refine q_aload_n d_Terms_passForth_198 rfl rfl ?_
    refine q_getR (ci := 8) (fk := 3) d_Terms_passForth_199 rfl (Nat.le_of_ble_eq_true rfl) w_241 (fun _ _ => rfl) hL.1 (hL.2 3 _ _ _ rfl).1 ?_
    refine q_iload_n d_Terms_passForth_202 rfl rfl ?_
    refine q_iald d_Terms_passForth_203 (hL.2 3 _ _ _ rfl).2 (by first | assumption | exact vp_in_nI (by omega) (by omega)) ?_
    rw [h.k l1]
    refine q_iconst (v := nI 3) d_Terms_passForth_204 (by decide) ?_
    refine q_icmp_eq (tgt := 219) d_Terms_passForth_205 rfl (fun hc => ?_) (fun hc => ?_)
    · exact old (Or.inr (Or.inl ((h.ke l1 (by omega)).mp hc))) _ _ rfl rfl
    have n3 : ¬ z_k (Z p.sl) = 3 := fun z => hc (by rw [z])
    refine q_aload_n d_Terms_passForth_208 rfl rfl ?_
    refine q_getR (ci := 8) (fk := 3) d_Terms_passForth_209 rfl (Nat.le_of_ble_eq_true rfl) w_241 (fun _ _ => rfl) hL.1 (hL.2 3 _ _ _ rfl).1 ?_
    refine q_iload_n d_Terms_passForth_212 rfl rfl ?_
    refine q_iald d_Terms_passForth_213 (hL.2 3 _ _ _ rfl).2 (by first | assumption | exact vp_in_nI (by omega) (by omega)) ?_
    rw [h.k l1]
    refine q_bipush (v := nI 11) d_Terms_passForth_214 (by decide) ?_
    refine q_icmp_ne (tgt := 223) d_Terms_passForth_216 rfl (fun hc => ?_) (fun hc => ?_)
    · have n11 : ¬ z_k (Z p.sl) = 11 := fun z => hc (by rw [z])
      rw [show z_so (Z p.sl) = z_u1 11 (Z p.sl) 0 0 0 0 by unfold z_so; rw [if_neg (by omega)]]
      refine q_aload_n d_Terms_passForth_223 rfl rfl ?_
      refine q_bipush (v := nI 11) d_Terms_passForth_224 (by decide) ?_
      refine q_iload_n d_Terms_passForth_226 rfl rfl ?_
      refine q_callVi (M2 := M_Terms_simple) d_Terms_passForth_227 ⟨(Nat.le_of_ble_eq_true rfl), (Nat.le_of_ble_eq_true rfl), w_1047, w_9, ⟨by decide, by decide⟩, show _ = some 2 by decide +kernel⟩ w_1044 w_1046 (ci := 8) rfl s_37 hL.1 rfl (Nat.le_of_ble_eq_true rfl) (by omega) (by omega) (c_simple_u1 hL h (by omega) (by omega) (by omega) (by omega) l1) ?_
      rintro _ _ ⟨I1, tb1, rfl, a1, a2, a3, a4, a5, rfl⟩
      refine q_iast d_Terms_passForth_230 (hL.2 2 _ _ _ rfl).2 (by first | assumption | exact vp_in_nI (by omega) (by omega)) ?_
      refine q_goto (tgt := 234) d_Terms_passForth_231 rfl ?_
      refine q_vret d_Terms_passForth_234 rfl (by omega) (by omega) ?_
      exact ⟨rfl, o_wr hs a1 a2 a3 (by omega) a5 hL32 hsl (same (by omega))⟩
    · exact old (Or.inr (Or.inr ((h.ke l1 (by omega)).mp hc))) _ _ rfl rfl
set_option maxHeartbeats 1000000 in
theorem c_Terms_passBack (hL : q_L 8 t_Terms te T R) (h : o_tb te tb I) (hlen : tb.length + 2 ≤ 152) (hp : k_prm po p T I) (hw : k_wfL D) (hn : k_nds D) (hcn : k_can p D) (hs : o_sl te (k_pr (k_fw p D)) Z tb I) (hD : ∀ f ∈ k_fw p D, f.2.2.2.2 < 32) (hsl : p.sl < 32) (hrs : p.kind = 5 → p.rs < 32) : q_Cv g M_Terms_passBack [.ref te, .ref po] (sz, T, I, R, J) 0 0 (o_ps te (k_pr D) (z_go false p Z) tb sz T I R J) := by
  have tp := hp.1
  have psl := hp.2.2.1
  have h8 := hcn.2.1
  have hL32 : ∀ q ∈ k_pr (k_fw p D), q.1 < 32 := fun q hq => by
    obtain ⟨f, f1, f2, -⟩ := k_pr_mem hq
    rw [← f2]; exact hD f f1
  obtain ⟨tv, htv⟩ : ∃ tv, tv = I (te + 3) (nI p.sl) := ⟨_, rfl⟩
  have sub : p.kind ≠ 2 → ∀ q ∈ k_pr D, q ∈ k_pr (k_fw p D) := fun z q hq => by
    by_cases k1 : p.kind = 1
    · rw [k_fw_pr1 k1]; exact List.mem_append_left _ hq
    · by_cases k5 : p.kind = 5
      · rw [k_fw_pr5 k5]; exact List.mem_append_left _ hq
      · rw [k_fw_pr hw hcn k1 z k5]; exact hq
  have live : p.kind = 3 ∨ p.kind = 5 ∨ p.kind = 6 → Z p.sl ∈ tb ∧ tv = nI (tb.idxOf (Z p.sl)) := fun z => by
    have := hs _ (sub (by omega) _ (k_pr_of (hcn.mem (by omega))))
    rw [htv]
    exact this.2 (hcn.ng (by omega))
  have same : p.kind = 3 ∨ p.kind = 5 ∨ p.kind = 6 → ∀ q ∈ k_pr D, (q ∈ k_pr (k_fw p D) ∧ q.1 ≠ p.sl) ∨ (q.1 = p.sl ∧ q.2 = false) := fun z q hq => by
    by_cases e : q.1 = p.sl
    · exact Or.inr ⟨e, by rw [hcn.pr hn (by omega) hq e]; exact hcn.ng (by omega)⟩
    · exact Or.inl ⟨sub (by omega) q hq, e⟩
  refine q_C.of (ls0 := [some (.ref te), some (.ref po), none]) (by decide) rfl (by decide) (Nat.le_of_ble_eq_true rfl) rfl ?_
  refine q_aload_n d_Terms_passBack_0 rfl rfl ?_
  refine q_getR (ci := 8) (fk := 2) d_Terms_passBack_1 rfl (Nat.le_of_ble_eq_true rfl) w_240 (fun _ _ => rfl) hL.1 (hL.2 2 _ _ _ rfl).1 ?_
  refine q_aload_n d_Terms_passBack_4 rfl rfl ?_
  refine q_getI (ci := 4) (fk := 1) d_Terms_passBack_5 rfl (Nat.le_of_ble_eq_true rfl) w_494 (fun _ _ => rfl) (by first | assumption | rfl | (simp (disch := omega) only [q_upT_self, q_upT_ne, q_upR_self, q_upR_nea, q_upR_nk, s_T_lo, s_T_hi, s_R_ne, *]; done) | (simp (disch := omega) only [q_upT_self, q_upT_ne, q_upR_self, q_upR_nea, q_upR_nk, s_T_lo, s_T_hi, s_R_ne, *]; rfl)) ?_
  rw [psl]
  refine q_iald d_Terms_passBack_8 (hL.2 2 _ _ _ rfl).2 (by first | assumption | exact vp_in_nI (by omega) (by omega)) ?_
  rw [← htv]
  refine q_istore_n d_Terms_passBack_9 rfl (Nat.le_of_ble_eq_true rfl) (by first | exact q_ok0 | exact q_okI rfl | exact q_okR rfl | exact q_okN rfl) rfl ?_
  refine q_aload_n d_Terms_passBack_10 rfl rfl ?_
  refine q_getI (ci := 4) (fk := 0) d_Terms_passBack_11 rfl (Nat.le_of_ble_eq_true rfl) w_492 (fun _ _ => rfl) (by first | assumption | rfl | (simp (disch := omega) only [q_upT_self, q_upT_ne, q_upR_self, q_upR_nea, q_upR_nk, s_T_lo, s_T_hi, s_R_ne, *]; done) | (simp (disch := omega) only [q_upT_self, q_upT_ne, q_upR_self, q_upR_nea, q_upR_nk, s_T_lo, s_T_hi, s_R_ne, *]; rfl)) ?_
  rw [hp.2.1]
  have kt : (nI p.kind).toInt = p.kind := nI_toInt (by omega)
  have dflt : (p.kind = 0 ∨ p.kind = 1 ∨ p.kind = 4 ∨ p.kind = 7 ∨ p.kind = 8) → ∀ mcc msc : Nat, mcc ≤ 0 → msc ≤ 0 → q_V g M_Terms_passBack 0 0 mcc msc (sz, T, I, R, J) (fun o h' => o = .inl none ∧ o_ps te (k_pr D) (z_go false p Z) tb sz T I R J h') 128 [some (.ref te), some (.ref po), some (.int tv)] [] := by
    intro hz mcc msc m1 m2
    refine q_vret d_Terms_passBack_128 rfl (by omega) (by omega) ?_
    refine ⟨rfl, I, tb, rfl, o_ft.refl, h, z_ex.refl tb, by omega, ?_⟩
    have ez : z_go false p Z = Z := by
      rcases hz with z | z | z | z | z
      · exact z_go_0 (Or.inl z)
      · rw [z_go_1 z, if_neg (by decide)]
      · exact z_go_0 (Or.inr z)
      · rw [z_go_7 z, if_neg (by decide)]
      · rw [z_go_8 z, if_neg (by decide)]
    rw [ez]
    exact hs.imp (sub (by omega))
  rcases (by omega : p.kind = 0 ∨ p.kind = 1 ∨ p.kind = 2 ∨ p.kind = 3 ∨ p.kind = 4 ∨ p.kind = 5 ∨ p.kind = 6 ∨ p.kind = 7 ∨ p.kind = 8) with hz | hz | hz | hz | hz | hz | hz | hz | hz
  · exact q_tableOut (tgt := 128) d_Terms_passBack_14 (Or.inl (by omega)) (by omega) (dflt (by omega) _ _ (by omega) (by omega))
  · exact q_tableOut (tgt := 128) d_Terms_passBack_14 (Or.inl (by omega)) (by omega) (dflt (by omega) _ _ (by omega) (by omega))
  · refine q_tableIn (tgt := 48) (off := 34) d_Terms_passBack_14 (by omega) (by omega) (by rw [kt, hz]; rfl) (by omega) ?_
    rw [z_go_2 hz, if_neg (by decide)]
    have lst : ∀ (gb : Bool), decide (p.so = 2) = gb → ∀ q ∈ k_pr D, (q ∈ k_pr (k_fw p D) ∧ q.1 ≠ p.sl) ∨ (q.1 = p.sl ∧ q.2 = gb) := fun gb hg q hq => by
      by_cases e : q.1 = p.sl
      · exact Or.inr ⟨e, by rw [hcn.pr hn (by omega) hq e]; exact hg⟩
      · obtain ⟨f, f1, f2, f3⟩ := k_pr_mem hq
        refine Or.inl ⟨?_, e⟩
        rw [k_fw_2 hz]
        have hf : f ∈ D.filter (fun f => decide (f.1 ≠ p.nm)) := List.mem_filter.mpr ⟨f1, decide_eq_true fun z => e (by rw [← f2, hcn.uni hw (by omega) f1 z])⟩
        have := k_pr_of hf
        rw [f2, f3] at this
        exact this
    refine q_aload_n d_Terms_passBack_48 rfl rfl ?_
    refine q_getR (ci := 8) (fk := 2) d_Terms_passBack_49 rfl (Nat.le_of_ble_eq_true rfl) w_240 (fun _ _ => rfl) hL.1 (hL.2 2 _ _ _ rfl).1 ?_
    refine q_aload_n d_Terms_passBack_52 rfl rfl ?_
    refine q_getI (ci := 4) (fk := 1) d_Terms_passBack_53 rfl (Nat.le_of_ble_eq_true rfl) w_494 (fun _ _ => rfl) (by first | assumption | rfl | (simp (disch := omega) only [q_upT_self, q_upT_ne, q_upR_self, q_upR_nea, q_upR_nk, s_T_lo, s_T_hi, s_R_ne, *]; done) | (simp (disch := omega) only [q_upT_self, q_upT_ne, q_upR_self, q_upR_nea, q_upR_nk, s_T_lo, s_T_hi, s_R_ne, *]; rfl)) ?_
    rw [psl]
    refine q_aload_n d_Terms_passBack_56 rfl rfl ?_
    refine q_aload_n d_Terms_passBack_57 rfl rfl ?_
    by_cases h2 : p.so = 2
    · refine q_callVi (M2 := M_Terms_defaultTerm) d_Terms_passBack_58 ⟨(Nat.le_of_ble_eq_true rfl), (Nat.le_of_ble_eq_true rfl), w_1063, w_9, ⟨by decide, by decide⟩, show _ = some 1 by decide +kernel⟩ w_1060 w_1062 (ci := 8) rfl s_40 hL.1 rfl (Nat.le_of_ble_eq_true rfl) (by omega) (by omega) (c_Terms_defaultTerm_no hL hp h2) ?_
      rintro _ _ ⟨rfl, rfl⟩
      refine q_iast d_Terms_passBack_61 (hL.2 2 _ _ _ rfl).2 (by first | assumption | exact vp_in_nI (by omega) (by omega)) ?_
      refine q_goto (tgt := 128) d_Terms_passBack_62 rfl ?_
      refine q_vret d_Terms_passBack_128 rfl (by omega) (by omega) ?_
      exact ⟨rfl, o_wn hs h hL32 hsl (lst true (decide_eq_true h2))⟩
    · refine q_callVi (M2 := M_Terms_defaultTerm) d_Terms_passBack_58 ⟨(Nat.le_of_ble_eq_true rfl), (Nat.le_of_ble_eq_true rfl), w_1063, w_9, ⟨by decide, by decide⟩, show _ = some 1 by decide +kernel⟩ w_1060 w_1062 (ci := 8) rfl s_40 hL.1 rfl (Nat.le_of_ble_eq_true rfl) (by omega) (by omega) (c_Terms_defaultTerm hL h (by omega) hp h2) ?_
      rintro _ _ ⟨I1, tb1, rfl, a1, a2, a3, a4, a5, rfl⟩
      refine q_iast d_Terms_passBack_61 (hL.2 2 _ _ _ rfl).2 (by first | assumption | exact vp_in_nI (by omega) (by omega)) ?_
      refine q_goto (tgt := 128) d_Terms_passBack_62 rfl ?_
      refine q_vret d_Terms_passBack_128 rfl (by omega) (by omega) ?_
      exact ⟨rfl, o_wr hs a1 a2 a3 (by omega) a5 hL32 hsl (lst false (decide_eq_false h2))⟩
  · refine q_tableIn (tgt := 65) (off := 51) d_Terms_passBack_14 (by omega) (by omega) (by rw [kt, hz]; rfl) (by omega) ?_
    obtain ⟨l1, l2⟩ := live (by omega)
    rw [z_go_3 hz, if_neg (by decide), l2]
    refine q_aload_n d_Terms_passBack_65 rfl rfl ?_
    refine q_getR (ci := 8) (fk := 2) d_Terms_passBack_66 rfl (Nat.le_of_ble_eq_true rfl) w_240 (fun _ _ => rfl) hL.1 (hL.2 2 _ _ _ rfl).1 ?_
    refine q_aload_n d_Terms_passBack_69 rfl rfl ?_
    refine q_getI (ci := 4) (fk := 1) d_Terms_passBack_70 rfl (Nat.le_of_ble_eq_true rfl) w_494 (fun _ _ => rfl) (by first | assumption | rfl | (simp (disch := omega) only [q_upT_self, q_upT_ne, q_upR_self, q_upR_nea, q_upR_nk, s_T_lo, s_T_hi, s_R_ne, *]; done) | (simp (disch := omega) only [q_upT_self, q_upT_ne, q_upR_self, q_upR_nea, q_upR_nk, s_T_lo, s_T_hi, s_R_ne, *]; rfl)) ?_
    rw [psl]
    refine q_aload_n d_Terms_passBack_73 rfl rfl ?_
    refine q_aload_n d_Terms_passBack_74 rfl rfl ?_
    refine q_iload_n d_Terms_passBack_75 rfl rfl ?_
    refine q_callVi (M2 := M_Terms_unwrap) d_Terms_passBack_76 ⟨(Nat.le_of_ble_eq_true rfl), (Nat.le_of_ble_eq_true rfl), w_1084, w_9, ⟨by decide, by decide⟩, show _ = some 2 by decide +kernel⟩ w_1081 w_1083 (ci := 8) rfl s_44 hL.1 rfl (Nat.le_of_ble_eq_true rfl) (by omega) (by omega) (c_Terms_unwrap hL h (by omega) hp l1) ?_
    rintro _ _ ⟨I1, tb1, rfl, a1, a2, a3, a4, a5, rfl⟩
    refine q_iast d_Terms_passBack_79 (hL.2 2 _ _ _ rfl).2 (by first | assumption | exact vp_in_nI (by omega) (by omega)) ?_
    refine q_goto (tgt := 128) d_Terms_passBack_80 rfl ?_
    refine q_vret d_Terms_passBack_128 rfl (by omega) (by omega) ?_
    exact ⟨rfl, o_wr hs a1 a2 a3 (by omega) a5 hL32 hsl (same (by omega))⟩
  · exact q_tableIn (tgt := 128) (off := 114) d_Terms_passBack_14 (by omega) (by omega) (by rw [kt, hz]; rfl) (by omega) (dflt (by omega) _ _ (by omega) (by omega))
  · refine q_tableIn (tgt := 83) (off := 69) d_Terms_passBack_14 (by omega) (by omega) (by rw [kt, hz]; rfl) (by omega) ?_
    obtain ⟨l1, l2⟩ := live (by omega)
    have prs := hp.2.2.2.2.2.2.2.2 hz
    have hr32 := hrs hz
    have lr := (hs (p.rs, false) (by rw [k_fw_pr5 hz]; exact List.mem_append_right _ (List.mem_singleton.mpr rfl))).2 rfl
    rw [z_go_5 hz, if_neg (by decide), l2]
    refine q_aload_n d_Terms_passBack_83 rfl rfl ?_
    refine q_getR (ci := 8) (fk := 2) d_Terms_passBack_84 rfl (Nat.le_of_ble_eq_true rfl) w_240 (fun _ _ => rfl) hL.1 (hL.2 2 _ _ _ rfl).1 ?_
    refine q_aload_n d_Terms_passBack_87 rfl rfl ?_
    refine q_getI (ci := 4) (fk := 1) d_Terms_passBack_88 rfl (Nat.le_of_ble_eq_true rfl) w_494 (fun _ _ => rfl) (by first | assumption | rfl | (simp (disch := omega) only [q_upT_self, q_upT_ne, q_upR_self, q_upR_nea, q_upR_nk, s_T_lo, s_T_hi, s_R_ne, *]; done) | (simp (disch := omega) only [q_upT_self, q_upT_ne, q_upR_self, q_upR_nea, q_upR_nk, s_T_lo, s_T_hi, s_R_ne, *]; rfl)) ?_
    rw [psl]
    refine q_aload_n d_Terms_passBack_91 rfl rfl ?_
    refine q_aload_n d_Terms_passBack_92 rfl rfl ?_
    refine q_iload_n d_Terms_passBack_93 rfl rfl ?_
    refine q_aload_n d_Terms_passBack_94 rfl rfl ?_
    refine q_getR (ci := 8) (fk := 2) d_Terms_passBack_95 rfl (Nat.le_of_ble_eq_true rfl) w_240 (fun _ _ => rfl) hL.1 (hL.2 2 _ _ _ rfl).1 ?_
    refine q_aload_n d_Terms_passBack_98 rfl rfl ?_
    refine q_getI (ci := 4) (fk := 7) d_Terms_passBack_99 rfl (Nat.le_of_ble_eq_true rfl) w_510 (fun _ _ => rfl) (by first | assumption | rfl | (simp (disch := omega) only [q_upT_self, q_upT_ne, q_upR_self, q_upR_nea, q_upR_nk, s_T_lo, s_T_hi, s_R_ne, *]; done) | (simp (disch := omega) only [q_upT_self, q_upT_ne, q_upR_self, q_upR_nea, q_upR_nk, s_T_lo, s_T_hi, s_R_ne, *]; rfl)) ?_
    rw [prs]
    refine q_iald d_Terms_passBack_102 (hL.2 2 _ _ _ rfl).2 (by first | assumption | exact vp_in_nI (by omega) (by omega)) ?_
    rw [lr.2]
    refine q_callVi (M2 := M_Terms_join) d_Terms_passBack_103 ⟨(Nat.le_of_ble_eq_true rfl), (Nat.le_of_ble_eq_true rfl), w_1088, w_9, ⟨by decide, by decide⟩, show _ = some 3 by decide +kernel⟩ w_1085 w_1087 (ci := 8) rfl s_45 hL.1 rfl (Nat.le_of_ble_eq_true rfl) (by omega) (by omega) (c_Terms_join hL h (by omega) hp hz l1 lr.1) ?_
    rintro _ _ ⟨I1, tb1, rfl, a1, a2, a3, a4, a5, rfl⟩
    refine q_iast d_Terms_passBack_106 (hL.2 2 _ _ _ rfl).2 (by first | assumption | exact vp_in_nI (by omega) (by omega)) ?_
    refine q_goto (tgt := 128) d_Terms_passBack_107 rfl ?_
    refine q_vret d_Terms_passBack_128 rfl (by omega) (by omega) ?_
    exact ⟨rfl, o_wr hs a1 a2 a3 (by omega) a5 hL32 hsl (same (by omega))⟩
  · refine q_tableIn (tgt := 110) (off := 96) d_Terms_passBack_14 (by omega) (by omega) (by rw [kt, hz]; rfl) (by omega) ?_
    obtain ⟨l1, l2⟩ := live (by omega)
    rw [z_go_6 hz, if_neg (by decide), l2]
    refine q_aload_n d_Terms_passBack_110 rfl rfl ?_
    refine q_getR (ci := 8) (fk := 2) d_Terms_passBack_111 rfl (Nat.le_of_ble_eq_true rfl) w_240 (fun _ _ => rfl) hL.1 (hL.2 2 _ _ _ rfl).1 ?_
    refine q_aload_n d_Terms_passBack_114 rfl rfl ?_
    refine q_getI (ci := 4) (fk := 1) d_Terms_passBack_115 rfl (Nat.le_of_ble_eq_true rfl) w_494 (fun _ _ => rfl) (by first | assumption | rfl | (simp (disch := omega) only [q_upT_self, q_upT_ne, q_upR_self, q_upR_nea, q_upR_nk, s_T_lo, s_T_hi, s_R_ne, *]; done) | (simp (disch := omega) only [q_upT_self, q_upT_ne, q_upR_self, q_upR_nea, q_upR_nk, s_T_lo, s_T_hi, s_R_ne, *]; rfl)) ?_
    rw [psl]
    refine q_aload_n d_Terms_passBack_118 rfl rfl ?_
    refine q_aload_n d_Terms_passBack_119 rfl rfl ?_
    refine q_iload_n d_Terms_passBack_120 rfl rfl ?_
    refine q_callVi (M2 := M_Terms_scaleBack) d_Terms_passBack_121 ⟨(Nat.le_of_ble_eq_true rfl), (Nat.le_of_ble_eq_true rfl), w_1092, w_9, ⟨by decide, by decide⟩, show _ = some 2 by decide +kernel⟩ w_1089 w_1091 (ci := 8) rfl s_46 hL.1 rfl (Nat.le_of_ble_eq_true rfl) (by omega) (by omega) (c_Terms_scaleBack hL h (by omega) hp hz hcn.ok l1) ?_
    rintro _ _ ⟨I1, tb1, rfl, a1, a2, a3, a4, a5, rfl⟩
    refine q_iast d_Terms_passBack_124 (hL.2 2 _ _ _ rfl).2 (by first | assumption | exact vp_in_nI (by omega) (by omega)) ?_
    refine q_goto (tgt := 128) d_Terms_passBack_125 rfl ?_
    refine q_vret d_Terms_passBack_128 rfl (by omega) (by omega) ?_
    exact ⟨rfl, o_wr hs a1 a2 a3 (by omega) a5 hL32 hsl (same (by omega))⟩
  · exact q_tableOut (tgt := 128) d_Terms_passBack_14 (Or.inr (by omega)) (by omega) (dflt (by omega) _ _ (by omega) (by omega))
  · exact q_tableOut (tgt := 128) d_Terms_passBack_14 (Or.inr (by omega)) (by omega) (dflt (by omega) _ _ (by omega) (by omega))
end TPass3
