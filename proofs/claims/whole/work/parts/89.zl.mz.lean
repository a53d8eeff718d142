/-! clash, by the reference: fields and their terms -/
section MZ
variable {g : q_G} {sz m : Nat} {T : q_T} {I : q_I} {R : q_R} {J : q_J} {tb : List KT} {t u : KT} {M : List KF} {Z : KZ} {p : KP}
def m_tz (m : Nat) (M : List KF) (Z : KZ) (tb : List KT) (I : q_I) : Prop := ∀ (i : Nat) (f : KF), M[i]? = some f → f.2.1 ≠ 2 → Z f.2.2.2.2 ∈ tb ∧ I (m + 19) (nI i) = nI (tb.idxOf (Z f.2.2.2.2))
/-- the reference's work, in mode 2 -/
def m_z (m : Nat) (M : List KF) (Z : KZ) (tb : List KT) (I : q_I) : Prop := k_mw m M I ∧ m_tz m M Z tb I ∧ m_tb m tb I ∧ I m (nI 27) = nI 2
/-- what a call of the work does -/
def m_zo (m : Nat) (M' : List KF) (Z' : KZ) (tb : List KT) (n sz : Nat) (T : q_T) (I : q_I) (R : q_R) (J : q_J) (h' : q_H) : Prop := ∃ (I' : q_I) (tb' : List KT), h' = (sz, T, I', R, J) ∧ m_zf m I I' ∧ m_z m M' Z' tb' I' ∧ z_ex tb tb' ∧ tb'.length ≤ tb.length + n
theorem m_tz.keep {tb' : List KT} {I' : q_I} (h : m_tz m M Z tb I) (hx : z_ex tb tb') (hI : ∀ i, i < M.length → I' (m + 19) (nI i) = I (m + 19) (nI i)) : m_tz m M Z tb' I' := fun i f hf h2 => by
  obtain ⟨a1, a2⟩ := h i f hf h2
  exact ⟨hx.mem a1, by rw [hI i (List.getElem?_eq_some_iff.mp hf).1, a2, hx.ix a1]⟩
theorem m_tz.set {k : Nat} {f f' : KF} (h : m_tz m M Z tb I) (hf : M[k]? = some f) (hs : f'.2.2.2.2 = f.2.2.2.2) (h2 : f.2.1 ≠ 2) : m_tz m (M.set k f') Z tb I := fun i e he e2 => by
  rw [List.getElem?_set] at he
  by_cases hik : k = i
  · subst hik
    rw [if_pos rfl, if_pos (List.getElem?_eq_some_iff.mp hf).1] at he
    rw [← Option.some.inj he, hs]
    exact h k f hf h2
  · rw [if_neg hik] at he
    exact h i e he e2
theorem m_tz.put {k : Nat} {f : KF} (h : m_tz m M Z tb I) (hn : k_nds M) (h26 : M.length ≤ 26) (hf : M[k]? = some f) (ht : t ∈ tb) : m_tz m M (k_ud Z f.2.2.2.2 t) tb (q_upI I (m + 19) (nI k) (nI (tb.idxOf t))) := fun i e he e2 => by
  have hi := (List.getElem?_eq_some_iff.mp he).1
  have hk := (List.getElem?_eq_some_iff.mp hf).1
  by_cases hik : i = k
  · subst hik
    rw [← Option.some.inj (hf.symm.trans he), k_ud_self, q_upI_self]
    exact ⟨ht, rfl⟩
  · have hs : e.2.2.2.2 ≠ f.2.2.2.2 := fun z => by
      have e1 : (M.map (·.2.2.2.2))[i]? = some e.2.2.2.2 := by rw [List.getElem?_map, he]; rfl
      have e2 : (M.map (·.2.2.2.2))[k]? = some f.2.2.2.2 := by rw [List.getElem?_map, hf]; rfl
      rw [z] at e1
      exact hik ((k_idx hn e1).symm.trans (k_idx hn e2))
    rw [k_ud_ne hs, q_upI_nk (by omega)]
    exact h i e he e2
theorem m_tz.snoc {f : KF} {I' : q_I} (h : m_tz m M Z tb I) (hn : ∀ e ∈ M, e.2.2.2.2 ≠ f.2.2.2.2) (hI : ∀ i, i < M.length → I' (m + 19) (nI i) = I (m + 19) (nI i)) (hl : f.2.1 ≠ 2 → t ∈ tb ∧ I' (m + 19) (nI M.length) = nI (tb.idxOf t)) : m_tz m (M ++ [f]) (k_ud Z f.2.2.2.2 t) tb I' := fun i e he e2 => by
  rw [List.getElem?_append] at he
  by_cases hi : i < M.length
  · rw [if_pos hi] at he
    rw [k_ud_ne (hn e (List.mem_of_getElem? he)), hI i hi]
    exact h i e he e2
  · rw [if_neg hi] at he
    have hz : i - M.length = 0 := by
      have := (List.getElem?_eq_some_iff.mp he).1
      simp only [List.length_singleton] at this
      omega
    rw [hz] at he
    have ee : f = e := Option.some.inj he
    rw [← ee, k_ud_self, show i = M.length by omega]
    exact hl (by rw [ee]; exact e2)
theorem m_tz.go {k : Nat} {I' : q_I} (h : m_tz m M Z tb I) (hk : k < M.length) (h26 : M.length ≤ 26) (h2 : m_go m M k I I') : m_tz m (k_goL M k) Z tb I' := fun i f hf f2 => by
  rw [k_goL_at hk] at hf
  by_cases hi : i < M.length - 1
  · rw [if_pos hi] at hf
    by_cases hik : i = k
    · rw [if_pos hik] at hf
      rw [hik, h2.2.2.2.1]
      exact h _ f hf f2
    · rw [if_neg hik] at hf
      rw [h2.2.2.2.2 i (by omega) hik]
      exact h i f hf f2
  · rw [if_neg hi] at hf; cases hf
theorem m_tz.rho {v : KF → KF} {Z' : KZ} (h : m_tz m M Z tb I) (hu : ∀ f ∈ M, (v f).2.1 = f.2.1 ∧ Z' (v f).2.2.2.2 = Z f.2.2.2.2) : m_tz m (M.map v) Z' tb I := fun i e he e2 => by
  rw [List.getElem?_map] at he
  cases hf : M[i]? with
  | none => rw [hf] at he; cases he
  | some f =>
    rw [hf] at he
    have ee : v f = e := Option.some.inj he
    obtain ⟨a1, a2⟩ := hu f (List.mem_of_getElem? hf)
    rw [← ee, a2]
    exact h i f hf (by rw [← a1, ee]; exact e2)
theorem m_zf.wk27 {I' : q_I} (h : m_zf m I I') : I' m (nI 27) = I m (nI 27) := h.2 _ (fun z => absurd (q_nI_inj z) (by decide)) (fun z => absurd (q_nI_inj z) (by decide))
/-- a term is found or made and put at a field -/
theorem m_z.st {k : Nat} {f : KF} {tb' : List KT} {I1 : q_I} (h : m_z m M Z tb I) (hn : k_nds M) (hf : M[k]? = some f) (a1 : m_fk m I I1) (a2 : m_tb m tb' I1) (a3 : z_ex tb tb') (a5 : t ∈ tb') : m_zf m I (q_upI I1 (m + 19) (nI k) (nI (tb'.idxOf t))) ∧ m_z m M (k_ud Z f.2.2.2.2 t) tb' (q_upI I1 (m + 19) (nI k) (nI (tb'.idxOf t))) := by
  have o : ∀ b, b ≠ m + 19 → q_upI I1 (m + 19) (nI k) (nI (tb'.idxOf t)) b = I1 b := fun b hb => by funext z; rw [q_upI_nea hb]
  obtain ⟨h1, h2, h3, h4⟩ := h
  have f1 : m_zf m I (q_upI I1 (m + 19) (nI k) (nI (tb'.idxOf t))) := a1.zf.trans (m_zf.arr fun b hb => o b (by omega))
  refine ⟨f1, h1.cong ?_ (fun j j1 j2 => ?_), (h2.keep a3 (fun i hi => ?_)).put hn h1.2.1 hf a5, a2.cong (by rw [o m (by omega)]) (o _ (by omega)) (o _ (by omega)), f1.wk27.trans h4⟩
  · rw [o m (by omega)]; exact a1.2 _ (fun z => absurd (q_nI_inj z) (by decide))
  · rw [o _ (by omega), a1.1 _ (by omega) (by omega) (by omega)]
  · rw [a1.1 _ (by omega) (by omega) (by omega)]
theorem m_z.come {f : KF} {I' : q_I} (h : m_z m M Z tb I) (hn : ∀ e ∈ M, e.2.2.2.2 ≠ f.2.2.2.2) (hc : m_cm2 m M f tb I I') (ht : f.2.1 ≠ 2 → t = z_cd f) : ∃ tb' : List KT, z_ex tb tb' ∧ tb'.length ≤ tb.length + 1 ∧ m_z m (M ++ [f]) (k_ud Z f.2.2.2.2 t) tb' I' := by
  obtain ⟨c1, c2, ⟨tb', c3, c4, c5, c6, c7⟩, c8⟩ := hc
  refine ⟨tb', c4, c5, c2, ?_, c3, c1.wk27.trans h.2.2.2⟩
  refine m_tz.snoc (h.2.1.keep (I' := I) c4 (fun _ _ => rfl)) hn c8 (fun z => ?_)
  rw [ht z]
  exact ⟨c6, c7⟩
theorem m_z.go {k : Nat} {I' : q_I} (h : m_z m M Z tb I) (hk : k < M.length) (h1 : m_wk m I I') (h2 : m_go m M k I I') : m_z m (k_goL M k) Z tb I' := by
  obtain ⟨x1, x2, x3, x4⟩ := h
  exact ⟨h2.1, x2.go hk x1.2.1 h2, x3.cong (h1.2 _ (fun z => absurd (q_nI_inj z) (by decide))) (h1.1 _ (by omega) (by omega)) (h1.1 _ (by omega) (by omega)), (h1.2 _ (fun z => absurd (q_nI_inj z) (by decide))).trans x4⟩
theorem m_z.set {k : Nat} {f f' : KF} {I' : q_I} (h : m_z m M Z tb I) (hf : M[k]? = some f) (hs : f'.2.2.2.2 = f.2.2.2.2) (h2 : f.2.1 ≠ 2) (hM : k_mw m (M.set k f') I') (ho : ∀ j, 19 ≤ j → j ≤ 23 → I' (m + j) = I (m + j)) (h27 : I' m (nI 27) = I m (nI 27)) (h29 : I' m (nI 29) = I m (nI 29)) : m_z m (M.set k f') Z tb I' := by
  obtain ⟨x1, x2, x3, x4⟩ := h
  exact ⟨hM, (x2.set hf hs h2).keep (z_ex.refl tb) (fun i _ => by rw [ho 19 (by omega) (by omega)]), x3.cong h29 (ho 22 (by omega) (by omega)) (ho 23 (by omega) (by omega)), h27.trans x4⟩
theorem c_Model_arrive2 {q s : Nat} (hL : q_L 11 t_Model m T R) (h : m_z m M Z tb I) (hlen : tb.length < 1024) (hlt : M.length < 26) (hn : ∀ f ∈ M, f.2.2.2.2 ≠ p.sl) (hso : p.so = 0 ∨ p.so = 1 ∨ p.so = 2) (hp : k_mp m q p I) (hq : q + 7 < 1088) : q_Cv g M_Model_arrive [.ref m, .int (nI q), .int (nI s)] (sz, T, I, R, J) 0 0 (m_zo m (M ++ [p.f]) (k_ud Z p.sl (z_dft p)) tb 1 sz T I R J) := by
  obtain ⟨p0, p1, p2, p3, p5, p6, p7⟩ := hp
  refine q_C.of (ls0 := [some (.ref m), some (.int (nI q)), some (.int (nI s)), none]) (by decide) rfl (by decide) (Nat.le_of_ble_eq_true rfl) rfl ?_
  refine q_aload_n d_Model_arrive_0 rfl rfl ?_
  refine q_aload_n d_Model_arrive_1 rfl rfl ?_
  refine q_getR (ci := 11) (fk := 12) d_Model_arrive_2 rfl (Nat.le_of_ble_eq_true rfl) w_1116 (fun _ _ => rfl) hL.1 (hL.2 12 _ _ _ rfl).1 ?_
  refine q_iload_n d_Model_arrive_5 rfl rfl ?_
  refine q_iconst (v := nI 1) d_Model_arrive_6 (by decide) ?_
  first | refine q_iaddN d_Model_arrive_7 ?_ | refine q_iadd d_Model_arrive_7 ?_
  refine q_iald d_Model_arrive_8 (hL.2 12 _ _ _ rfl).2 (by first | assumption | exact vp_in_nI (by omega) (by omega)) ?_
  rw [p1]
  refine q_aload_n d_Model_arrive_9 rfl rfl ?_
  refine q_getR (ci := 11) (fk := 12) d_Model_arrive_10 rfl (Nat.le_of_ble_eq_true rfl) w_1116 (fun _ _ => rfl) hL.1 (hL.2 12 _ _ _ rfl).1 ?_
  refine q_iload_n d_Model_arrive_13 rfl rfl ?_
  refine q_iconst (v := nI 5) d_Model_arrive_14 (by decide) ?_
  first | refine q_iaddN d_Model_arrive_15 ?_ | refine q_iadd d_Model_arrive_15 ?_
  refine q_iald d_Model_arrive_16 (hL.2 12 _ _ _ rfl).2 (by first | assumption | exact vp_in_nI (by omega) (by omega)) ?_
  rw [p5]
  refine q_aload_n d_Model_arrive_17 rfl rfl ?_
  refine q_getR (ci := 11) (fk := 12) d_Model_arrive_18 rfl (Nat.le_of_ble_eq_true rfl) w_1116 (fun _ _ => rfl) hL.1 (hL.2 12 _ _ _ rfl).1 ?_
  refine q_iload_n d_Model_arrive_21 rfl rfl ?_
  refine q_bipush (v := nI 6) d_Model_arrive_22 (by decide) ?_
  first | refine q_iaddN d_Model_arrive_24 ?_ | refine q_iadd d_Model_arrive_24 ?_
  refine q_iald d_Model_arrive_25 (hL.2 12 _ _ _ rfl).2 (by first | assumption | exact vp_in_nI (by omega) (by omega)) ?_
  rw [p6]
  refine q_aload_n d_Model_arrive_26 rfl rfl ?_
  refine q_getR (ci := 11) (fk := 12) d_Model_arrive_27 rfl (Nat.le_of_ble_eq_true rfl) w_1116 (fun _ _ => rfl) hL.1 (hL.2 12 _ _ _ rfl).1 ?_
  refine q_iload_n d_Model_arrive_30 rfl rfl ?_
  refine q_bipush (v := nI 7) d_Model_arrive_31 (by decide) ?_
  first | refine q_iaddN d_Model_arrive_33 ?_ | refine q_iadd d_Model_arrive_33 ?_
  refine q_iald d_Model_arrive_34 (hL.2 12 _ _ _ rfl).2 (by first | assumption | exact vp_in_nI (by omega) (by omega)) ?_
  rw [p7]
  refine q_callVi (M2 := M_Model_come) d_Model_arrive_35 ⟨(Nat.le_of_ble_eq_true rfl), (Nat.le_of_ble_eq_true rfl), w_1237, w_10, ⟨by decide, by decide⟩, show _ = some 4 by decide +kernel⟩ w_1234 w_1236 (ci := 11) rfl s_48 hL.1 rfl (Nat.le_of_ble_eq_true rfl) (by omega) (by omega) (c_Model_come2 hL h.1 h.2.2.1 hlen hlt h.2.2.2 p.f) ?_
  rintro _ _ ⟨rfl, I1, rfl, hc2⟩
  have ht : p.f.2.1 ≠ 2 → z_dft p = z_cd p.f := fun z => by
    have z : p.so ≠ 2 := z
    unfold z_dft z_cd
    rcases hso with e | e | e
    · rw [if_neg (by rw [e]; decide), if_pos e]
    · rw [if_pos e, if_neg (by show ¬ p.so = 0; rw [e]; decide)]
    · exact absurd e z
  have f1 := hc2.1
  obtain ⟨tb', b1, b2, b3⟩ := h.come hn hc2 ht
  refine q_istore_n d_Model_arrive_38 rfl (Nat.le_of_ble_eq_true rfl) (by first | exact q_ok0 | exact q_okI rfl | exact q_okR rfl | exact q_okN rfl) rfl ?_
  refine q_aload_n d_Model_arrive_39 rfl rfl ?_
  refine q_getI (ci := 11) (fk := 27) d_Model_arrive_40 rfl (Nat.le_of_ble_eq_true rfl) w_1131 (fun _ _ => rfl) hL.1 ?_
  rw [b3.2.2.2]
  refine q_iconst (v := nI 1) d_Model_arrive_43 (by decide) ?_
  refine q_icmp_ne (tgt := 83) d_Model_arrive_44 rfl (fun hc => ?_) (fun hc => ?_)
  rotate_left
  · exact absurd hc (by decide)
  refine q_vret d_Model_arrive_83 rfl (by omega) (by omega) ?_
  exact ⟨rfl, I1, tb', rfl, f1, b3, b1, b2⟩
theorem c_Model_depart2 {k s : Nat} (hL : q_L 11 t_Model m T R) (h : m_z m M Z tb I) (hok : k_okf M) (hd : k_dis M) (hk : M[k]? = some p.f) : q_Cv g M_Model_depart [.ref m, .int (nI (k_path p.nm)), .int (nI s)] (sz, T, I, R, J) 0 0 (m_zo m (k_goL M k) Z tb 0 sz T I R J) := by
  have hkl := (List.getElem?_eq_some_iff.mp hk).1
  have hpm := List.mem_of_getElem? hk
  refine q_C.of (ls0 := [some (.ref m), some (.int (nI (k_path p.nm))), some (.int (nI s)), none, none]) (by decide) rfl (by decide) (Nat.le_of_ble_eq_true rfl) rfl ?_
  refine q_aload_n d_Model_depart_0 rfl rfl ?_
  refine q_iload_n d_Model_depart_1 rfl rfl ?_
  refine q_callVi (M2 := M_Model_find) d_Model_depart_2 ⟨(Nat.le_of_ble_eq_true rfl), (Nat.le_of_ble_eq_true rfl), w_1266, w_10, ⟨by decide, by decide⟩, show _ = some 1 by decide +kernel⟩ w_1263 w_1265 (ci := 11) rfl s_53 hL.1 rfl (Nat.le_of_ble_eq_true rfl) (by omega) (by omega) (c_Model_findF hL h.1 hok _) ?_
  rintro _ _ ⟨rfl, rfl⟩
  rw [k_of_path (hok p.f hpm).1, show k_fo M (some p.nm) = k_fi M p.f.1 from rfl, k_fi_at hd hk, show p_idx (some k) = nI k from rfl]
  refine q_istore_n d_Model_depart_5 rfl (Nat.le_of_ble_eq_true rfl) (by first | exact q_ok0 | exact q_okI rfl | exact q_okR rfl | exact q_okN rfl) rfl ?_
  refine q_aload_n d_Model_depart_6 rfl rfl ?_
  refine q_getI (ci := 11) (fk := 27) d_Model_depart_7 rfl (Nat.le_of_ble_eq_true rfl) w_1131 (fun _ _ => rfl) hL.1 ?_
  rw [h.2.2.2]
  refine q_iconst (v := nI 1) d_Model_depart_10 (by decide) ?_
  refine q_icmp_ne (tgt := 103) d_Model_depart_11 rfl (fun hc => ?_) (fun hc => ?_)
  rotate_left
  · exact absurd hc (by decide)
  refine q_aload_n d_Model_depart_103 rfl rfl ?_
  refine q_iload_n d_Model_depart_104 rfl rfl ?_
  refine q_callVv (M2 := M_Model_go) d_Model_depart_105 ⟨(Nat.le_of_ble_eq_true rfl), (Nat.le_of_ble_eq_true rfl), w_1333, w_10, ⟨by decide, by decide⟩, show _ = some 1 by decide +kernel⟩ w_1330 w_1332 (ci := 11) rfl s_64 hL.1 rfl (Nat.le_of_ble_eq_true rfl) (by omega) (by omega) (c_Model_go hL h.1 hkl) ?_
  rintro _ ⟨I1, rfl, k1, k2⟩
  refine q_vret d_Model_depart_108 rfl (by omega) (by omega) ?_
  exact ⟨rfl, I1, tb, rfl, k1.zf, h.go hkl k1 k2, z_ex.refl tb, by omega⟩
theorem c_Model_change2 {k s q : Nat} {f : KF} {fw : Bool} (hL : q_L 11 t_Model m T R) (h : m_z m M Z tb I) (hlen : tb.length < 1024) (hn : k_nds M) (hf : M[k]? = some f) (hfs : f.2.2.2.2 = p.sl) (h2 : f.2.1 ≠ 2) (hp : k_mp m q p I) (hq : q + 7 < 1088) (hok : p_ok p) (h6 : 6 ≤ p.kind) (h8 : p.kind ≤ 8) (hlh : p.kind = 6 → p.lo ≤ p.hi) : q_Cv g M_Model_change [.ref m, .int (nI k), .int (nI p.kind), .int p.a, .int p.b, .int (p_b fw), .int (nI s), .int (nI q)] (sz, T, I, R, J) 0 0 (m_zo m M (k_ud Z p.sl (z_ch fw p (Z p.sl))) tb 1 sz T I R J) := by
  have hkl := (List.getElem?_eq_some_iff.mp hf).1
  have h26 := h.1.2.1
  obtain ⟨p0, p1, p2, p3, p5, p6, p7⟩ := hp
  obtain ⟨t1, t2⟩ := h.2.1 k f hf h2
  rw [hfs] at t1 t2
  refine q_C.of (ls0 := [some (.ref m), some (.int (nI k)), some (.int (nI p.kind)), some (.int p.a), some (.int p.b), some (.int (p_b fw)), some (.int (nI s)), some (.int (nI q)), none, none]) (by decide) rfl (by decide) (Nat.le_of_ble_eq_true rfl) rfl ?_
  refine q_aload_n d_Model_change_0 rfl rfl ?_
  refine q_getI (ci := 11) (fk := 27) d_Model_change_1 rfl (Nat.le_of_ble_eq_true rfl) w_1131 (fun _ _ => rfl) hL.1 ?_
  rw [h.2.2.2]
  refine q_iconst (v := nI 2) d_Model_change_4 (by decide) ?_
  refine q_icmp_ne (tgt := 50) d_Model_change_5 rfl (fun hc => ?_) (fun hc => ?_)
  · exact absurd rfl hc
  refine q_aload_n d_Model_change_8 rfl rfl ?_
  refine q_getR (ci := 11) (fk := 24) d_Model_change_9 rfl (Nat.le_of_ble_eq_true rfl) w_1128 (fun _ _ => rfl) hL.1 (hL.2 24 _ _ _ rfl).1 ?_
  refine q_iload_n d_Model_change_12 rfl rfl ?_
  refine q_aload_n d_Model_change_13 rfl rfl ?_
  refine q_aload_n d_Model_change_14 rfl rfl ?_
  refine q_getR (ci := 11) (fk := 24) d_Model_change_15 rfl (Nat.le_of_ble_eq_true rfl) w_1128 (fun _ _ => rfl) hL.1 (hL.2 24 _ _ _ rfl).1 ?_
  refine q_iload_n d_Model_change_18 rfl rfl ?_
  refine q_iald d_Model_change_19 (hL.2 24 _ _ _ rfl).2 (by first | assumption | exact vp_in_nI (by omega) (by omega)) ?_
  rw [t2]
  refine q_iload_n d_Model_change_20 rfl rfl ?_
  refine q_iload_n d_Model_change_21 rfl rfl ?_
  refine q_iload d_Model_change_22 rfl ?_
  refine q_iload d_Model_change_24 rfl ?_
  refine q_aload_n d_Model_change_26 rfl rfl ?_
  refine q_getR (ci := 11) (fk := 12) d_Model_change_27 rfl (Nat.le_of_ble_eq_true rfl) w_1116 (fun _ _ => rfl) hL.1 (hL.2 12 _ _ _ rfl).1 ?_
  refine q_iload d_Model_change_30 rfl ?_
  refine q_bipush (v := nI 6) d_Model_change_32 (by decide) ?_
  first | refine q_iaddN d_Model_change_34 ?_ | refine q_iadd d_Model_change_34 ?_
  refine q_iald d_Model_change_35 (hL.2 12 _ _ _ rfl).2 (by first | assumption | exact vp_in_nI (by omega) (by omega)) ?_
  rw [p6]
  refine q_aload_n d_Model_change_36 rfl rfl ?_
  refine q_getR (ci := 11) (fk := 12) d_Model_change_37 rfl (Nat.le_of_ble_eq_true rfl) w_1116 (fun _ _ => rfl) hL.1 (hL.2 12 _ _ _ rfl).1 ?_
  refine q_iload d_Model_change_40 rfl ?_
  refine q_bipush (v := nI 7) d_Model_change_42 (by decide) ?_
  first | refine q_iaddN d_Model_change_44 ?_ | refine q_iadd d_Model_change_44 ?_
  refine q_iald d_Model_change_45 (hL.2 12 _ _ _ rfl).2 (by first | assumption | exact vp_in_nI (by omega) (by omega)) ?_
  rw [p7]
  refine q_callVi (M2 := M_Model_changed) d_Model_change_46 ⟨(Nat.le_of_ble_eq_true rfl), (Nat.le_of_ble_eq_true rfl), w_1363, w_10, ⟨by decide, by decide⟩, show _ = some 7 by decide +kernel⟩ w_1360 w_1362 (ci := 11) rfl s_70 hL.1 rfl (Nat.le_of_ble_eq_true rfl) (by omega) (by omega) (c_Model_changed hL h.2.2.1 hlen hok h6 h8 hlh t1) ?_
  rintro _ _ ⟨I1, tb1, rfl, a1, a2, a3, a4, a5, rfl⟩
  obtain ⟨f1, z1⟩ := h.st hn hf a1 a2 a3 a5
  rw [hfs] at z1
  refine q_iast d_Model_change_49 (hL.2 24 _ _ _ rfl).2 (by first | assumption | exact vp_in_nI (by omega) (by omega)) ?_
  obtain ⟨I2, hI2⟩ : ∃ I2, I2 = q_upI I1 (m + 19) (nI k) (nI (tb1.idxOf (z_ch fw p (Z p.sl)))) := ⟨_, rfl⟩
  rw [← hI2] at f1 z1 ⊢
  refine q_aload_n d_Model_change_50 rfl rfl ?_
  refine q_getI (ci := 11) (fk := 27) d_Model_change_51 rfl (Nat.le_of_ble_eq_true rfl) w_1131 (fun _ _ => rfl) hL.1 ?_
  rw [z1.2.2.2]
  refine q_iconst (v := nI 1) d_Model_change_54 (by decide) ?_
  refine q_icmp_eq (tgt := 59) d_Model_change_55 rfl (fun hc => ?_) (fun hc => ?_)
  · exact absurd hc (by decide)
  refine q_vret d_Model_change_58 rfl (by omega) (by omega) ?_
  exact ⟨rfl, I2, tb1, rfl, f1, z1, a3, a4⟩
end MZ
