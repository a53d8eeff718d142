/-! clash: a primitive on the class's terms -/
section TPass2
variable {g : q_G} {sz te po : Nat} {T : q_T} {I : q_I} {R : q_R} {J : q_J} {tb : List KT} {p : KP} {t u : KT} {D : List KF} {Z : KZ}
/-- the slots of a list of fields, and whether a group stands there -/
def k_pr (D : List KF) : List (Nat × Bool) := D.map (fun f => (f.2.2.2.2, decide (f.2.1 = 2)))
def o_s1 (te s : Nat) (gb : Bool) (t : KT) (tb : List KT) (I : q_I) : Prop := (gb = true → I (te + 3) (nI s) = -1) ∧ (gb = false → t ∈ tb ∧ I (te + 3) (nI s) = nI (tb.idxOf t))
def o_sl (te : Nat) (L : List (Nat × Bool)) (Z : KZ) (tb : List KT) (I : q_I) : Prop := ∀ q ∈ L, o_s1 te q.1 q.2 (Z q.1) tb I
def o_ft (te : Nat) (I I' : q_I) : Prop := ∀ b, b < te ∨ (te < b ∧ b < te + 3) ∨ te + 10 < b → I' b = I b
theorem o_ft.refl : o_ft te I I := fun _ _ => rfl
theorem o_ft.trans {I1 I2 : q_I} (h : o_ft te I I1) (h2 : o_ft te I1 I2) : o_ft te I I2 := fun b hb => (h2 b hb).trans (h b hb)
theorem o_fi.ft {I' : q_I} (h : o_fi te I I') : o_ft te I I' := fun b hb => h b (by omega)
theorem o_ft.up {s : Nat} {v : Int32} : o_ft te I (q_upI I (te + 3) (nI s) v) := fun b hb => by funext z; rw [q_upI_nea (by omega)]
theorem o_tb.cong {I' : q_I} (h : o_tb te tb I) (hI : ∀ b, b ≠ te + 3 → b ≠ te + 1 → b ≠ te + 2 → I' b = I b) : o_tb te tb I' := by
  unfold o_tb o_en
  rw [hI te (by omega) (by omega) (by omega), hI (te + 4) (by omega) (by omega) (by omega), hI (te + 5) (by omega) (by omega) (by omega), hI (te + 6) (by omega) (by omega) (by omega), hI (te + 7) (by omega) (by omega) (by omega), hI (te + 8) (by omega) (by omega) (by omega), hI (te + 9) (by omega) (by omega) (by omega), hI (te + 10) (by omega) (by omega) (by omega)]
  exact h
theorem o_tb.up {s : Nat} {v : Int32} (h : o_tb te tb I) : o_tb te tb (q_upI I (te + 3) (nI s) v) := h.cong fun b b1 _ _ => by funext z; rw [q_upI_nea b1]
/-- what a primitive leaves -/
def o_ps (te : Nat) (L : List (Nat × Bool)) (Z : KZ) (tb : List KT) (sz : Nat) (T : q_T) (I : q_I) (R : q_R) (J : q_J) (h' : q_H) : Prop := ∃ (I' : q_I) (tb' : List KT), h' = (sz, T, I', R, J) ∧ o_ft te I I' ∧ o_tb te tb' I' ∧ z_ex tb tb' ∧ tb'.length ≤ tb.length + 2 ∧ o_sl te L Z tb' I'
theorem o_s1.keep {s : Nat} {gb : Bool} {tb' : List KT} {I' : q_I} (h : o_s1 te s gb t tb I) (hx : z_ex tb tb') (hI : I' (te + 3) (nI s) = I (te + 3) (nI s)) : o_s1 te s gb t tb' I' := ⟨fun z => hI.trans (h.1 z), fun z => ⟨hx.mem (h.2 z).1, by rw [hI, (h.2 z).2, hx.ix (h.2 z).1]⟩⟩
/-- one slot is written -/
theorem o_sl.put {L L' : List (Nat × Bool)} {s : Nat} {tb' : List KT} {I' : q_I} (h : o_sl te L Z tb I) (hx : z_ex tb tb') (hI : ∀ q ∈ L, q.1 ≠ s → I' (te + 3) (nI q.1) = I (te + 3) (nI q.1)) (hL : ∀ q ∈ L', (q ∈ L ∧ q.1 ≠ s) ∨ (q.1 = s ∧ o_s1 te s q.2 t tb' I')) : o_sl te L' (k_ud Z s t) tb' I' := fun q hq => by
  rcases hL q hq with ⟨h1, h2⟩ | ⟨h1, h2⟩
  · rw [k_ud_ne h2]
    exact (h q h1).keep hx (hI q h1 h2)
  · rw [h1, k_ud_self]; exact h2
theorem o_sl.imp {L L' : List (Nat × Bool)} (h : o_sl te L Z tb I) (hL : ∀ q ∈ L', q ∈ L) : o_sl te L' Z tb I := fun q hq => h q (hL q hq)
theorem k_pr_mem {q : Nat × Bool} (h : q ∈ k_pr D) : ∃ f ∈ D, f.2.2.2.2 = q.1 ∧ decide (f.2.1 = 2) = q.2 := by
  obtain ⟨f, f1, f2⟩ := List.mem_map.mp h
  exact ⟨f, f1, congrArg Prod.fst f2, congrArg Prod.snd f2⟩
theorem k_pr_of {f : KF} (h : f ∈ D) : (f.2.2.2.2, decide (f.2.1 = 2)) ∈ k_pr D := List.mem_map_of_mem (f := fun f : KF => (f.2.2.2.2, decide (f.2.1 = 2))) h
theorem k_pr_map {v : KF → KF} (h1 : ∀ f ∈ D, (v f).2.2.2.2 = f.2.2.2.2) (h2 : ∀ f ∈ D, decide ((v f).2.1 = 2) = decide (f.2.1 = 2)) : k_pr (D.map v) = k_pr D := by
  unfold k_pr
  rw [List.map_map]
  exact List.map_congr_left fun f hf => by
    show ((v f).2.2.2.2, decide ((v f).2.1 = 2)) = _
    rw [h1 f hf, h2 f hf]
/-- the slots behind a primitive -/
theorem k_fw_pr (hw : k_wfL D) (hc : k_can p D) (h1 : p.kind ≠ 1) (h2 : p.kind ≠ 2) (h5 : p.kind ≠ 5) : k_pr (k_fw p D) = k_pr D := by
  have h8 := hc.2.1
  rcases (by omega : (p.kind = 0 ∨ p.kind = 4) ∨ p.kind = 3 ∨ p.kind = 6 ∨ p.kind = 7 ∨ p.kind = 8) with h | h | h | h
  · rw [k_fw_0 h]; exact k_pr_map (fun _ _ => rfl) (fun _ _ => rfl)
  · rw [k_fw_3 h]
    refine k_pr_map (fun f _ => by rw [k_at_sl]; intro _; rfl) (fun f hf => ?_)
    by_cases e : f.1 = p.nm
    · rw [k_at_eq e, hc.uni hw h1 hf e]
      show decide ((1 : Int32) = 2) = decide (p.so = 2)
      rw [hc.so0 (Or.inl h)]; decide
    · rw [k_at_ne e]
  · rw [k_fw_6 h]
    exact k_pr_map (fun f _ => by rw [k_at_sl]; intro _; rfl) (fun f _ => by rw [k_at_so]; intro _; rfl)
  · rw [k_fw_7 h]
theorem k_fw_pr5 (h5 : p.kind = 5) : k_pr (k_fw p D) = k_pr D ++ [(p.rs, false)] := by
  rw [k_fw_5 h5]
  unfold k_pr
  rw [List.map_append]
  congr 1
  exact k_pr_map (fun f _ => by rw [k_at_sl]; intro _; rfl) (fun f _ => by rw [k_at_so]; intro _; rfl)
theorem k_fw_pr1 (h1 : p.kind = 1) : k_pr (k_fw p D) = k_pr D ++ [(p.sl, decide (p.so = 2))] := by
  rw [k_fw_1 h1]
  unfold k_pr
  rw [List.map_append]; rfl
/-- the pair of a primitive's own field -/
theorem k_can.pr (hc : k_can p D) (hn : k_nds D) (h1 : p.kind ≠ 1) {q : Nat × Bool} (hq : q ∈ k_pr D) (e : q.1 = p.sl) : q.2 = decide (p.so = 2) := by
  obtain ⟨f, f1, f2, f3⟩ := k_pr_mem hq
  have : f = p.f := k_nd_eq hn f1 (hc.mem h1) (f2.trans e)
  rw [← f3, this]
theorem k_can.ng (hc : k_can p D) (h : p.kind = 3 ∨ p.kind = 5 ∨ p.kind = 6 ∨ p.kind = 7 ∨ p.kind = 8) : decide (p.so = 2) = false := by
  rcases (by omega : (p.kind = 3 ∨ p.kind = 5 ∨ p.kind = 6 ∨ p.kind = 7) ∨ p.kind = 8) with z | z
  · rw [hc.so0 z]; decide
  · rw [hc.so1 z]; decide
theorem c_Terms_split (hL : q_L 8 t_Terms te T R) (h : o_tb te tb I) (hlen : tb.length + 1 < 152) (hp : k_prm po p T I) (h5 : p.kind = 5) (ha : 0 < p.a.toInt) (ht : t ∈ tb) (hsl : p.sl < 32) (hrs : p.rs < 32) (hne : p.sl ≠ p.rs) (hpo : po < te ∨ te + 10 < po) : q_Cv g M_Terms_split [.ref te, .ref po, .int (nI (tb.idxOf t))] (sz, T, I, R, J) 0 0 (fun h' => ∃ (I' : q_I) (tb' : List KT), h' = (sz, T, I', R, J) ∧ o_ft te I I' ∧ o_tb te tb' I' ∧ z_ex tb tb' ∧ tb'.length ≤ tb.length + 2 ∧ o_s1 te p.sl false (z_sp1 p t) tb' I' ∧ o_s1 te p.rs false (z_sp2 p t) tb' I' ∧ ∀ j, j < 32 → j ≠ p.sl → j ≠ p.rs → I' (te + 3) (nI j) = I (te + 3) (nI j)) := by
  have tp := hp.1
  have hix := z_ix_lt ht
  have hk := h.k ht
  have pa := hp.2.2.2.2.2.2.1 (by omega) (by omega)
  have psl := hp.2.2.1
  have prs := hp.2.2.2.2.2.2.2.2 h5
  have at1 := (h.at ht).2.2.2.1
  refine q_C.of (ls0 := [some (.ref te), some (.ref po), some (.int (nI (tb.idxOf t)))]) (by decide) rfl (by decide) (Nat.le_of_ble_eq_true rfl) rfl ?_
  have two : ∀ (t1 t2 : KT) (tb1 tb2 : List KT) (I1 I2 : q_I), o_fi te I I1 → o_tb te tb1 I1 → z_ex tb tb1 → tb1.length ≤ tb.length + 1 → t1 ∈ tb1 → o_fi te (q_upI I1 (te + 3) (nI p.sl) (nI (tb1.idxOf t1))) I2 → o_tb te tb2 I2 → z_ex tb1 tb2 → tb2.length ≤ tb1.length + 1 → t2 ∈ tb2 → t1 = z_sp1 p t → t2 = z_sp2 p t → (∃ (I' : q_I) (tb' : List KT), (sz, T, q_upI I2 (te + 3) (nI p.rs) (nI (tb2.idxOf t2)), R, J) = (sz, T, I', R, J) ∧ o_ft te I I' ∧ o_tb te tb' I' ∧ z_ex tb tb' ∧ tb'.length ≤ tb.length + 2 ∧ o_s1 te p.sl false (z_sp1 p t) tb' I' ∧ o_s1 te p.rs false (z_sp2 p t) tb' I' ∧ ∀ j, j < 32 → j ≠ p.sl → j ≠ p.rs → I' (te + 3) (nI j) = I (te + 3) (nI j)) := by
    intro t1 t2 tb1 tb2 I1 I2 a1 a2 a3 a4 a5 b1 b2 b3 b4 b5 e1 e2
    refine ⟨_, tb2, rfl, ((a1.ft.trans o_ft.up).trans b1.ft).trans o_ft.up, b2.up, a3.trans b3, by omega, ⟨fun z => (by cases z), fun _ => ⟨b3.mem (by rw [← e1]; exact a5), ?_⟩⟩, ⟨fun z => (by cases z), fun _ => ⟨by rw [← e2]; exact b5, by rw [← e2, q_upI_self]⟩⟩, fun j j1 j2 j3 => ?_⟩
    · rw [q_upI_nk (by omega), b1 (te + 3) (by omega), q_upI_self, ← e1, b3.ix a5]
    · rw [q_upI_nk (by omega), b1 (te + 3) (by omega), q_upI_nk (by omega), a1 (te + 3) (by omega)]
  refine q_aload_n d_Terms_split_0 rfl rfl ?_
  refine q_getR (ci := 8) (fk := 3) d_Terms_split_1 rfl (Nat.le_of_ble_eq_true rfl) w_241 (fun _ _ => rfl) hL.1 (hL.2 3 _ _ _ rfl).1 ?_
  refine q_iload_n d_Terms_split_4 rfl rfl ?_
  refine q_iald d_Terms_split_5 (hL.2 3 _ _ _ rfl).2 (by first | assumption | exact vp_in_nI (by omega) (by omega)) ?_
  rw [hk]
  refine q_iconst (v := nI 1) d_Terms_split_6 (by decide) ?_
  refine q_icmp_ne (tgt := 67) d_Terms_split_7 rfl (fun hc => ?_) (fun hc => ?_)
  · have h1 : ¬ z_k t = 1 := fun z => hc (by rw [z])
    have other : ¬ (z_k t = 7 ∧ z_a t = p.a) → ∀ (mcc msc : Nat), mcc = 0 → msc = 0 → q_V g M_Terms_split 0 0 mcc msc (sz, T, I, R, J) (fun o h' => o = .inl none ∧ ∃ (I' : q_I) (tb' : List KT), h' = (sz, T, I', R, J) ∧ o_ft te I I' ∧ o_tb te tb' I' ∧ z_ex tb tb' ∧ tb'.length ≤ tb.length + 2 ∧ o_s1 te p.sl false (z_sp1 p t) tb' I' ∧ o_s1 te p.rs false (z_sp2 p t) tb' I' ∧ ∀ j, j < 32 → j ≠ p.sl → j ≠ p.rs → I' (te + 3) (nI j) = I (te + 3) (nI j)) 124 [some (.ref te), some (.ref po), some (.int (nI (tb.idxOf t)))] [] := by
      intro hno mcc msc m1 m2
      subst m1 m2
      refine q_aload_n d_Terms_split_124 rfl rfl ?_
      refine q_getR (ci := 8) (fk := 2) d_Terms_split_125 rfl (Nat.le_of_ble_eq_true rfl) w_240 (fun _ _ => rfl) hL.1 (hL.2 2 _ _ _ rfl).1 ?_
      refine q_aload_n d_Terms_split_128 rfl rfl ?_
      refine q_getI (ci := 4) (fk := 1) d_Terms_split_129 rfl (Nat.le_of_ble_eq_true rfl) w_494 (fun _ _ => rfl) (by first | assumption | rfl | (simp (disch := omega) only [q_upT_self, q_upT_ne, q_upR_self, q_upR_nea, q_upR_nk, s_T_lo, s_T_hi, s_R_ne, *]; done) | (simp (disch := omega) only [q_upT_self, q_upT_ne, q_upR_self, q_upR_nea, q_upR_nk, s_T_lo, s_T_hi, s_R_ne, *]; rfl)) ?_
      rw [psl]
      refine q_aload_n d_Terms_split_132 rfl rfl ?_
      refine q_iconst (v := nI 5) d_Terms_split_133 (by decide) ?_
      refine q_iload_n d_Terms_split_134 rfl rfl ?_
      refine q_iconst (v := nI 0) d_Terms_split_135 (by decide) ?_
      refine q_aload_n d_Terms_split_136 rfl rfl ?_
      refine q_getI (ci := 4) (fk := 5) d_Terms_split_137 rfl (Nat.le_of_ble_eq_true rfl) w_506 (fun _ _ => rfl) (by first | assumption | rfl | (simp (disch := omega) only [q_upT_self, q_upT_ne, q_upR_self, q_upR_nea, q_upR_nk, s_T_lo, s_T_hi, s_R_ne, *]; done) | (simp (disch := omega) only [q_upT_self, q_upT_ne, q_upR_self, q_upR_nea, q_upR_nk, s_T_lo, s_T_hi, s_R_ne, *]; rfl)) ?_
      rw [pa]
      refine q_iconst (v := nI 0) d_Terms_split_140 (by decide) ?_
      refine q_iconst (v := nI 0) d_Terms_split_141 (by decide) ?_
      refine q_iconst (v := nI 0) d_Terms_split_142 (by decide) ?_
      refine q_callVi (M2 := M_Terms_intern) d_Terms_split_143 ⟨(Nat.le_of_ble_eq_true rfl), (Nat.le_of_ble_eq_true rfl), w_1051, w_9, ⟨by decide, by decide⟩, show _ = some 7 by decide +kernel⟩ w_1048 w_1050 (ci := 8) rfl s_38 hL.1 rfl (Nat.le_of_ble_eq_true rfl) (by omega) (by omega) (c_intern_u1 hL h (by omega) (by omega) (by omega) (by omega) ht p.a 0 0 0) ?_
      rintro _ _ ⟨I1, tb1, rfl, a1, a2, a3, a4, a5, rfl⟩
      refine q_iast d_Terms_split_146 (hL.2 2 _ _ _ rfl).2 (by first | assumption | exact vp_in_nI (by omega) (by omega)) ?_
      have y1 := a2.up (s := p.sl) (v := nI (tb1.idxOf (z_u1 5 t p.a 0 0 0)))
      have po1 : q_upI I1 (te + 3) (nI p.sl) (nI (tb1.idxOf (z_u1 5 t p.a 0 0 0))) po = I po := by
        funext z; rw [q_upI_nea (by omega), a1 po (by omega)]
      obtain ⟨I1', hI1'⟩ : ∃ I1', I1' = q_upI I1 (te + 3) (nI p.sl) (nI (tb1.idxOf (z_u1 5 t p.a 0 0 0))) := ⟨_, rfl⟩
      rw [← hI1'] at y1 po1 ⊢
      refine q_aload_n d_Terms_split_147 rfl rfl ?_
      refine q_getR (ci := 8) (fk := 2) d_Terms_split_148 rfl (Nat.le_of_ble_eq_true rfl) w_240 (fun _ _ => rfl) hL.1 (hL.2 2 _ _ _ rfl).1 ?_
      refine q_aload_n d_Terms_split_151 rfl rfl ?_
      refine q_getI (ci := 4) (fk := 7) d_Terms_split_152 rfl (Nat.le_of_ble_eq_true rfl) w_510 (fun _ _ => rfl) (by first | assumption | rfl | (simp (disch := omega) only [q_upT_self, q_upT_ne, q_upR_self, q_upR_nea, q_upR_nk, s_T_lo, s_T_hi, s_R_ne, *]; done) | (simp (disch := omega) only [q_upT_self, q_upT_ne, q_upR_self, q_upR_nea, q_upR_nk, s_T_lo, s_T_hi, s_R_ne, *]; rfl)) ?_
      rw [po1, prs]
      refine q_aload_n d_Terms_split_155 rfl rfl ?_
      refine q_bipush (v := nI 6) d_Terms_split_156 (by decide) ?_
      refine q_iload_n d_Terms_split_158 rfl rfl ?_
      refine q_iconst (v := nI 0) d_Terms_split_159 (by decide) ?_
      refine q_aload_n d_Terms_split_160 rfl rfl ?_
      refine q_getI (ci := 4) (fk := 5) d_Terms_split_161 rfl (Nat.le_of_ble_eq_true rfl) w_506 (fun _ _ => rfl) (by first | assumption | rfl | (simp (disch := omega) only [q_upT_self, q_upT_ne, q_upR_self, q_upR_nea, q_upR_nk, s_T_lo, s_T_hi, s_R_ne, *]; done) | (simp (disch := omega) only [q_upT_self, q_upT_ne, q_upR_self, q_upR_nea, q_upR_nk, s_T_lo, s_T_hi, s_R_ne, *]; rfl)) ?_
      rw [po1, pa, ← a3.ix ht]
      refine q_iconst (v := nI 0) d_Terms_split_164 (by decide) ?_
      refine q_iconst (v := nI 0) d_Terms_split_165 (by decide) ?_
      refine q_iconst (v := nI 0) d_Terms_split_166 (by decide) ?_
      refine q_callVi (M2 := M_Terms_intern) d_Terms_split_167 ⟨(Nat.le_of_ble_eq_true rfl), (Nat.le_of_ble_eq_true rfl), w_1051, w_9, ⟨by decide, by decide⟩, show _ = some 7 by decide +kernel⟩ w_1048 w_1050 (ci := 8) rfl s_38 hL.1 rfl (Nat.le_of_ble_eq_true rfl) (by omega) (by omega) (c_intern_u1 hL y1 (by omega) (by omega) (by omega) (by omega) (a3.mem ht) p.a 0 0 0) ?_
      rintro _ _ ⟨I2, tb2, rfl, b1, b2, b3, b4, b5, rfl⟩
      refine q_iast d_Terms_split_170 (hL.2 2 _ _ _ rfl).2 (by first | assumption | exact vp_in_nI (by omega) (by omega)) ?_
      refine q_vret d_Terms_split_171 rfl (by omega) (by omega) ?_
      rw [hI1'] at b1
      exact ⟨rfl, two _ _ tb1 tb2 I1 I2 a1 a2 a3 a4 a5 b1 b2 b3 b4 b5 (by unfold z_sp1; rw [if_neg h1, if_neg hno]) (by unfold z_sp2; rw [if_neg h1, if_neg hno])⟩
    refine q_aload_n d_Terms_split_67 rfl rfl ?_
    refine q_getR (ci := 8) (fk := 3) d_Terms_split_68 rfl (Nat.le_of_ble_eq_true rfl) w_241 (fun _ _ => rfl) hL.1 (hL.2 3 _ _ _ rfl).1 ?_
    refine q_iload_n d_Terms_split_71 rfl rfl ?_
    refine q_iald d_Terms_split_72 (hL.2 3 _ _ _ rfl).2 (by first | assumption | exact vp_in_nI (by omega) (by omega)) ?_
    rw [hk]
    refine q_bipush (v := nI 7) d_Terms_split_73 (by decide) ?_
    refine q_icmp_ne (tgt := 124) d_Terms_split_75 rfl (fun hc => ?_) (fun hc => ?_)
    · exact other (fun z => hc (by rw [z.1])) _ _ rfl rfl
    have h7 : z_k t = 7 := (h.ke ht (by omega)).mp hc
    refine q_aload_n d_Terms_split_78 rfl rfl ?_
    refine q_getR (ci := 8) (fk := 6) d_Terms_split_79 rfl (Nat.le_of_ble_eq_true rfl) w_244 (fun _ _ => rfl) hL.1 (hL.2 6 _ _ _ rfl).1 ?_
    refine q_iload_n d_Terms_split_82 rfl rfl ?_
    refine q_iald d_Terms_split_83 (hL.2 6 _ _ _ rfl).2 (by first | assumption | exact vp_in_nI (by omega) (by omega)) ?_
    rw [at1]
    refine q_aload_n d_Terms_split_84 rfl rfl ?_
    refine q_getI (ci := 4) (fk := 5) d_Terms_split_85 rfl (Nat.le_of_ble_eq_true rfl) w_506 (fun _ _ => rfl) (by first | assumption | rfl | (simp (disch := omega) only [q_upT_self, q_upT_ne, q_upR_self, q_upR_nea, q_upR_nk, s_T_lo, s_T_hi, s_R_ne, *]; done) | (simp (disch := omega) only [q_upT_self, q_upT_ne, q_upR_self, q_upR_nea, q_upR_nk, s_T_lo, s_T_hi, s_R_ne, *]; rfl)) ?_
    rw [pa]
    refine q_icmp_ne (tgt := 124) d_Terms_split_88 rfl (fun hc => ?_) (fun hc => ?_)
    · exact other (fun z => hc z.2) _ _ rfl rfl
    have h7a := hc
    obtain ⟨c1, c2⟩ := h.c1 ht (by omega)
    obtain ⟨d1, d2⟩ := h.c2 ht h7
    refine q_aload_n d_Terms_split_91 rfl rfl ?_
    refine q_getR (ci := 8) (fk := 2) d_Terms_split_92 rfl (Nat.le_of_ble_eq_true rfl) w_240 (fun _ _ => rfl) hL.1 (hL.2 2 _ _ _ rfl).1 ?_
    refine q_aload_n d_Terms_split_95 rfl rfl ?_
    refine q_getI (ci := 4) (fk := 1) d_Terms_split_96 rfl (Nat.le_of_ble_eq_true rfl) w_494 (fun _ _ => rfl) (by first | assumption | rfl | (simp (disch := omega) only [q_upT_self, q_upT_ne, q_upR_self, q_upR_nea, q_upR_nk, s_T_lo, s_T_hi, s_R_ne, *]; done) | (simp (disch := omega) only [q_upT_self, q_upT_ne, q_upR_self, q_upR_nea, q_upR_nk, s_T_lo, s_T_hi, s_R_ne, *]; rfl)) ?_
    rw [psl]
    refine q_aload_n d_Terms_split_99 rfl rfl ?_
    refine q_getR (ci := 8) (fk := 4) d_Terms_split_100 rfl (Nat.le_of_ble_eq_true rfl) w_242 (fun _ _ => rfl) hL.1 (hL.2 4 _ _ _ rfl).1 ?_
    refine q_iload_n d_Terms_split_103 rfl rfl ?_
    refine q_iald d_Terms_split_104 (hL.2 4 _ _ _ rfl).2 (by first | assumption | exact vp_in_nI (by omega) (by omega)) ?_
    rw [c2]
    refine q_iast d_Terms_split_105 (hL.2 2 _ _ _ rfl).2 (by first | assumption | exact vp_in_nI (by omega) (by omega)) ?_
    have po1 : q_upI I (te + 3) (nI p.sl) (nI (tb.idxOf (z_c1 t))) po = I po := by
      funext z; rw [q_upI_nea (by omega)]
    have d2' : q_upI I (te + 3) (nI p.sl) (nI (tb.idxOf (z_c1 t))) (te + 6) (nI (tb.idxOf t)) = nI (tb.idxOf (z_c2 t)) := by rw [q_upI_nea (by omega)]; exact d2
    refine q_aload_n d_Terms_split_106 rfl rfl ?_
    refine q_getR (ci := 8) (fk := 2) d_Terms_split_107 rfl (Nat.le_of_ble_eq_true rfl) w_240 (fun _ _ => rfl) hL.1 (hL.2 2 _ _ _ rfl).1 ?_
    refine q_aload_n d_Terms_split_110 rfl rfl ?_
    refine q_getI (ci := 4) (fk := 7) d_Terms_split_111 rfl (Nat.le_of_ble_eq_true rfl) w_510 (fun _ _ => rfl) (by first | assumption | rfl | (simp (disch := omega) only [q_upT_self, q_upT_ne, q_upR_self, q_upR_nea, q_upR_nk, s_T_lo, s_T_hi, s_R_ne, *]; done) | (simp (disch := omega) only [q_upT_self, q_upT_ne, q_upR_self, q_upR_nea, q_upR_nk, s_T_lo, s_T_hi, s_R_ne, *]; rfl)) ?_
    rw [po1, prs]
    refine q_aload_n d_Terms_split_114 rfl rfl ?_
    refine q_getR (ci := 8) (fk := 5) d_Terms_split_115 rfl (Nat.le_of_ble_eq_true rfl) w_243 (fun _ _ => rfl) hL.1 (hL.2 5 _ _ _ rfl).1 ?_
    refine q_iload_n d_Terms_split_118 rfl rfl ?_
    refine q_iald d_Terms_split_119 (hL.2 5 _ _ _ rfl).2 (by first | assumption | exact vp_in_nI (by omega) (by omega)) ?_
    rw [d2']
    refine q_iast d_Terms_split_120 (hL.2 2 _ _ _ rfl).2 (by first | assumption | exact vp_in_nI (by omega) (by omega)) ?_
    refine q_goto (tgt := 171) d_Terms_split_121 rfl ?_
    refine q_vret d_Terms_split_171 rfl (by omega) (by omega) ?_
    exact ⟨rfl, two _ _ tb tb I _ o_fi.refl h (z_ex.refl tb) (by omega) c1 o_fi.refl h.up (z_ex.refl tb) (by omega) d1 (by unfold z_sp1; rw [if_neg h1, if_pos ⟨h7, h7a⟩]) (by unfold z_sp2; rw [if_neg h1, if_pos ⟨h7, h7a⟩])⟩
  · have h1 : z_k t = 1 := (h.ke ht (by omega)).mp hc
    refine q_aload_n d_Terms_split_10 rfl rfl ?_
    refine q_getR (ci := 8) (fk := 2) d_Terms_split_11 rfl (Nat.le_of_ble_eq_true rfl) w_240 (fun _ _ => rfl) hL.1 (hL.2 2 _ _ _ rfl).1 ?_
    refine q_aload_n d_Terms_split_14 rfl rfl ?_
    refine q_getI (ci := 4) (fk := 1) d_Terms_split_15 rfl (Nat.le_of_ble_eq_true rfl) w_494 (fun _ _ => rfl) (by first | assumption | rfl | (simp (disch := omega) only [q_upT_self, q_upT_ne, q_upR_self, q_upR_nea, q_upR_nk, s_T_lo, s_T_hi, s_R_ne, *]; done) | (simp (disch := omega) only [q_upT_self, q_upT_ne, q_upR_self, q_upR_nea, q_upR_nk, s_T_lo, s_T_hi, s_R_ne, *]; rfl)) ?_
    rw [psl]
    refine q_aload_n d_Terms_split_18 rfl rfl ?_
    refine q_iconst (v := nI 1) d_Terms_split_19 (by decide) ?_
    refine q_aload_n d_Terms_split_20 rfl rfl ?_
    refine q_getR (ci := 8) (fk := 4) d_Terms_split_21 rfl (Nat.le_of_ble_eq_true rfl) w_242 (fun _ _ => rfl) hL.1 (hL.2 4 _ _ _ rfl).1 ?_
    refine q_iload_n d_Terms_split_24 rfl rfl ?_
    refine q_iald d_Terms_split_25 (hL.2 4 _ _ _ rfl).2 (by first | assumption | exact vp_in_nI (by omega) (by omega)) ?_
    rw [h.x ht (by omega)]
    refine q_aload_n d_Terms_split_26 rfl rfl ?_
    refine q_getI (ci := 4) (fk := 5) d_Terms_split_27 rfl (Nat.le_of_ble_eq_true rfl) w_506 (fun _ _ => rfl) (by first | assumption | rfl | (simp (disch := omega) only [q_upT_self, q_upT_ne, q_upR_self, q_upR_nea, q_upR_nk, s_T_lo, s_T_hi, s_R_ne, *]; done) | (simp (disch := omega) only [q_upT_self, q_upT_ne, q_upR_self, q_upR_nea, q_upR_nk, s_T_lo, s_T_hi, s_R_ne, *]; rfl)) ?_
    rw [pa]
    refine q_callSi (M2 := M_Math_floorDiv_I) d_Terms_split_30 ⟨(Nat.le_of_ble_eq_true rfl), (Nat.le_of_ble_eq_true rfl), w_584, w_19, ⟨by decide, by decide⟩, show _ = some 2 by decide +kernel⟩ w_1069 w_583 rfl (Nat.le_of_ble_eq_true rfl) (by omega) (by omega) (c_Math_floorDiv_I (fun z => by rw [z] at ha; exact absurd ha (by decide))) ?_
    rintro _ _ ⟨rfl, rfl⟩
    rw [z_divI ha]
    refine q_callVi (M2 := M_Terms_simple) d_Terms_split_33 ⟨(Nat.le_of_ble_eq_true rfl), (Nat.le_of_ble_eq_true rfl), w_1047, w_9, ⟨by decide, by decide⟩, show _ = some 2 by decide +kernel⟩ w_1044 w_1046 (ci := 8) rfl s_37 hL.1 rfl (Nat.le_of_ble_eq_true rfl) (by omega) (by omega) (c_simple_lf hL h (by omega) (by omega) _) ?_
    rintro _ _ ⟨I1, tb1, rfl, a1, a2, a3, a4, a5, rfl⟩
    refine q_iast d_Terms_split_36 (hL.2 2 _ _ _ rfl).2 (by first | assumption | exact vp_in_nI (by omega) (by omega)) ?_
    have y1 := a2.up (s := p.sl) (v := nI (tb1.idxOf (z_lf 1 (z_div (z_x t) p.a))))
    have po1 : q_upI I1 (te + 3) (nI p.sl) (nI (tb1.idxOf (z_lf 1 (z_div (z_x t) p.a)))) po = I po := by
      funext z; rw [q_upI_nea (by omega), a1 po (by omega)]
    obtain ⟨I1', hI1'⟩ : ∃ I1', I1' = q_upI I1 (te + 3) (nI p.sl) (nI (tb1.idxOf (z_lf 1 (z_div (z_x t) p.a)))) := ⟨_, rfl⟩
    rw [← hI1'] at y1 po1 ⊢
    have x1 := y1.x (a3.mem ht) (by omega)
    rw [a3.ix ht] at x1
    refine q_aload_n d_Terms_split_37 rfl rfl ?_
    refine q_getR (ci := 8) (fk := 2) d_Terms_split_38 rfl (Nat.le_of_ble_eq_true rfl) w_240 (fun _ _ => rfl) hL.1 (hL.2 2 _ _ _ rfl).1 ?_
    refine q_aload_n d_Terms_split_41 rfl rfl ?_
    refine q_getI (ci := 4) (fk := 7) d_Terms_split_42 rfl (Nat.le_of_ble_eq_true rfl) w_510 (fun _ _ => rfl) (by first | assumption | rfl | (simp (disch := omega) only [q_upT_self, q_upT_ne, q_upR_self, q_upR_nea, q_upR_nk, s_T_lo, s_T_hi, s_R_ne, *]; done) | (simp (disch := omega) only [q_upT_self, q_upT_ne, q_upR_self, q_upR_nea, q_upR_nk, s_T_lo, s_T_hi, s_R_ne, *]; rfl)) ?_
    rw [po1, prs]
    refine q_aload_n d_Terms_split_45 rfl rfl ?_
    refine q_iconst (v := nI 1) d_Terms_split_46 (by decide) ?_
    refine q_aload_n d_Terms_split_47 rfl rfl ?_
    refine q_getR (ci := 8) (fk := 4) d_Terms_split_48 rfl (Nat.le_of_ble_eq_true rfl) w_242 (fun _ _ => rfl) hL.1 (hL.2 4 _ _ _ rfl).1 ?_
    refine q_iload_n d_Terms_split_51 rfl rfl ?_
    refine q_iald d_Terms_split_52 (hL.2 4 _ _ _ rfl).2 (by first | assumption | exact vp_in_nI (by omega) (by omega)) ?_
    rw [x1]
    refine q_aload_n d_Terms_split_53 rfl rfl ?_
    refine q_getI (ci := 4) (fk := 5) d_Terms_split_54 rfl (Nat.le_of_ble_eq_true rfl) w_506 (fun _ _ => rfl) (by first | assumption | rfl | (simp (disch := omega) only [q_upT_self, q_upT_ne, q_upR_self, q_upR_nea, q_upR_nk, s_T_lo, s_T_hi, s_R_ne, *]; done) | (simp (disch := omega) only [q_upT_self, q_upT_ne, q_upR_self, q_upR_nea, q_upR_nk, s_T_lo, s_T_hi, s_R_ne, *]; rfl)) ?_
    rw [po1, pa]
    refine q_callSi (M2 := M_Math_floorMod_I) d_Terms_split_57 ⟨(Nat.le_of_ble_eq_true rfl), (Nat.le_of_ble_eq_true rfl), w_959, w_19, ⟨by decide, by decide⟩, show _ = some 2 by decide +kernel⟩ w_1070 w_958 rfl (Nat.le_of_ble_eq_true rfl) (by omega) (by omega) (c_Math_floorMod_I ha) ?_
    rintro _ _ ⟨rfl, rfl⟩
    refine q_callVi (M2 := M_Terms_simple) d_Terms_split_60 ⟨(Nat.le_of_ble_eq_true rfl), (Nat.le_of_ble_eq_true rfl), w_1047, w_9, ⟨by decide, by decide⟩, show _ = some 2 by decide +kernel⟩ w_1044 w_1046 (ci := 8) rfl s_37 hL.1 rfl (Nat.le_of_ble_eq_true rfl) (by omega) (by omega) (c_simple_lf hL y1 (by omega) (by omega) _) ?_
    rintro _ _ ⟨I2, tb2, rfl, b1, b2, b3, b4, b5, rfl⟩
    refine q_iast d_Terms_split_63 (hL.2 2 _ _ _ rfl).2 (by first | assumption | exact vp_in_nI (by omega) (by omega)) ?_
    refine q_goto (tgt := 171) d_Terms_split_64 rfl ?_
    refine q_vret d_Terms_split_171 rfl (by omega) (by omega) ?_
    rw [hI1'] at b1
    exact ⟨rfl, two _ _ tb1 tb2 I1 I2 a1 a2 a3 a4 a5 b1 b2 b3 b4 b5 (by unfold z_sp1; rw [if_pos h1]) (by unfold z_sp2; rw [if_pos h1])⟩
end TPass2
