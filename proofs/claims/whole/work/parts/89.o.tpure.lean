/-! translate: what is in order stays in order -/
section TPure
variable {p : KP} {D : List KF} {X : KV} {k : Nat}
def t_lv (p : KP) (P : Nat → Prop) : Nat → Prop := fun t => P t ∨ t = p.sl ∨ (p.kind = 5 ∧ t = p.rs)
def t_pre (fw : Bool) (p : KP) (k : Nat) (P : Nat → Prop) (X : KV) : Prop := (¬ ((p.kind = 1 ∧ fw = true) ∨ (p.kind = 2 ∧ fw = false)) → P p.sl) ∧ (p.kind = 3 → fw = true → (X.1 p.sl).length = 1) ∧ (p.kind = 5 → (X.1 p.sl).length = 1 ∧ (fw = false → P p.rs ∧ (X.1 p.rs).length = 1)) ∧ (p.kind = 6 ∨ p.kind = 7 → (X.1 p.sl).length = 1) ∧ (6 ≤ p.kind → (X.2.1 k).1 = 0 ∨ (X.2.1 k).1 = 2 ∨ (X.2.1 k).1 = 3)
theorem t_go_1 {fw : Bool} {k : Nat} (h : p.kind = 1) : t_go fw p k X = if fw = true then t_arr p k X else t_dep p k X := by unfold t_go; rw [h]; try rfl
theorem t_go_2 {fw : Bool} {k : Nat} (h : p.kind = 2) : t_go fw p k X = if fw = true then t_dep p k X else t_arr p k X := by unfold t_go; rw [h]; try rfl
theorem t_go_3 {fw : Bool} {k : Nat} (h : p.kind = 3) : t_go fw p k X = if fw = true then t_wrp p k X else t_unw p k X := by unfold t_go; rw [h]; try rfl
theorem t_go_5 {fw : Bool} {k : Nat} (h : p.kind = 5) : t_go fw p k X = if fw = true then t_spl p X else t_joi p X := by unfold t_go; rw [h]; try rfl
theorem t_go_0 {fw : Bool} {k : Nat} (h : p.kind = 0 ∨ p.kind = 4) : t_go fw p k X = X := by
  unfold t_go
  rcases h with h | h <;> (rw [h]; try rfl)
theorem t_go_c {fw : Bool} {k : Nat} (h6 : 6 ≤ p.kind) (h8 : p.kind ≤ 8) : t_go fw p k X = t_chg fw p k X := by
  unfold t_go
  rcases (by omega : p.kind = 6 ∨ p.kind = 7 ∨ p.kind = 8) with h | h | h <;> (rw [h]; try rfl)
theorem t_chg_is (fw : Bool) (p : KP) (k : Nat) (X : KV) : ∃ v K', t_chg fw p k X = (k_ud X.1 p.sl v, k_ud X.2.1 k K', X.2.2) := by
  unfold t_chg
  by_cases h : (X.2.1 k).1 = (if fw = true then 3 else 2) ∧ X.1 p.sl = (X.2.1 k).2.2
  · rw [if_pos h]; exact ⟨_, _, rfl⟩
  · rw [if_neg h]; exact ⟨_, _, rfl⟩
theorem t_chg_c {fw : Bool} {k : Nat} : (t_chg fw p k X).2.2 = X.2.2 := by
  obtain ⟨v, K', e⟩ := t_chg_is fw p k X
  rw [e]
def k_hv (D : List KF) (V : Nat → List Int32) : Prop := ∀ f ∈ D, k_shp f.2.1 (V f.2.2.2.2)
def k_nds (D : List KF) : Prop := (D.map (·.2.2.2.2)).Nodup
theorem k_nd_eq {α β : Type} {u : α → β} : ∀ {D : List α}, (D.map u).Nodup → ∀ {f q : α}, f ∈ D → q ∈ D → u f = u q → f = q
  | [], _, f, q, hf, _, _ => by cases hf
  | a :: t, h, f, q, hf, hq, e => by
    obtain ⟨h1, h2⟩ := List.nodup_cons.mp h
    rcases List.mem_cons.mp hf with hf | hf <;> rcases List.mem_cons.mp hq with hq | hq
    · rw [hf, hq]
    · exact absurd (by rw [← hf, e]; exact List.mem_map_of_mem hq) h1
    · exact absurd (by rw [← hq, ← e]; exact List.mem_map_of_mem hf) h1
    · exact k_nd_eq h2 hf hq e
theorem k_can.mem (h : k_can p D) (h1 : p.kind ≠ 1) : p.f ∈ D := h.2.2.2.1 h1
theorem k_can.uni (h : k_can p D) (hw : k_wfL D) (h1 : p.kind ≠ 1) {f : KF} (hf : f ∈ D) (e : f.1 = p.nm) : f = p.f := k_nd_eq hw.2.2.1 hf (h.mem h1) e
theorem k_can.slo (h : k_can p D) (hn : k_nds D) (h1 : p.kind ≠ 1) {f : KF} (hf : f ∈ D) (e : f.1 ≠ p.nm) : f.2.2.2.2 ≠ p.sl := fun z => e (by rw [k_nd_eq hn hf (h.mem h1) z])
theorem k_at_ne {n : List Nat} {u : KF → KF} {f : KF} (h : f.1 ≠ n) : k_at n u f = f := if_neg h
theorem k_at_eq {n : List Nat} {u : KF → KF} {f : KF} (h : f.1 = n) : k_at n u f = u f := if_pos h
theorem k_fw_0 (h : p.kind = 0 ∨ p.kind = 4) : k_fw p D = D.map (k_mf p.nm (k_tg p)) := by
  unfold k_fw
  rcases h with h | h <;> (rw [h]; try rfl)
theorem k_fw_1 (h : p.kind = 1) : k_fw p D = D ++ [p.f] := by unfold k_fw; rw [h]; try rfl
theorem k_fw_2 (h : p.kind = 2) : k_fw p D = D.filter (fun f => decide (f.1 ≠ p.nm)) := by unfold k_fw; rw [h]; try rfl
theorem k_fw_3 (h : p.kind = 3) : k_fw p D = D.map (k_at p.nm (fun f => (f.1, 1, f.2.2))) := by unfold k_fw; rw [h]; try rfl
theorem k_fw_5 (h : p.kind = 5) : k_fw p D = D.map (k_at p.nm (fun f => (f.1, f.2.1, z_div f.2.2.1 p.a, z_div f.2.2.2.1 p.a, f.2.2.2.2))) ++ [(k_bsd p.nm p.b, 0, 0, p.a - 1, p.rs)] := by unfold k_fw; rw [h]; try rfl
theorem k_fw_6 (h : p.kind = 6) : k_fw p D = D.map (k_at p.nm (fun f => (f.1, f.2.1, z_scf p.a p.b f.2.2.1, z_scf p.a p.b f.2.2.2.1, f.2.2.2.2))) := by unfold k_fw; rw [h]; try rfl
theorem k_fw_7 (h : p.kind = 7 ∨ p.kind = 8) : k_fw p D = D := by
  unfold k_fw
  rcases h with h | h <;> (rw [h]; try rfl)
theorem k_at_sl {n : List Nat} {u : KF → KF} (hu : ∀ f, (u f).2.2.2.2 = f.2.2.2.2) (f : KF) : (k_at n u f).2.2.2.2 = f.2.2.2.2 := by
  unfold k_at
  split
  · exact hu f
  · rfl
theorem k_at_so {n : List Nat} {u : KF → KF} (hu : ∀ f, (u f).2.1 = f.2.1) (f : KF) : (k_at n u f).2.1 = f.2.1 := by
  unfold k_at
  split
  · exact hu f
  · rfl
theorem k_nds_map {u : KF → KF} (hu : ∀ f, (u f).2.2.2.2 = f.2.2.2.2) (h : k_nds D) : k_nds (D.map u) := by
  unfold k_nds at *
  rw [List.map_map, show ((fun f : KF => f.2.2.2.2) ∘ u) = (fun f : KF => f.2.2.2.2) from funext hu]
  exact h
theorem k_nds_snoc {f : KF} (h : k_nds D) (hf : ∀ q ∈ D, q.2.2.2.2 ≠ f.2.2.2.2) : k_nds (D ++ [f]) := by
  unfold k_nds at *
  rw [List.map_append]
  refine List.nodup_append.mpr ⟨h, List.nodup_cons.mpr ⟨List.not_mem_nil, List.nodup_nil⟩, fun a ha b hb => ?_⟩
  obtain ⟨q, q1, rfl⟩ := List.mem_map.mp ha
  rw [List.mem_singleton.mp hb]
  exact hf q q1
theorem k_fw_nds (hn : k_nds D) (hc : k_can p D) : k_nds (k_fw p D) := by
  have h8 := hc.2.1
  rcases (by omega : (p.kind = 0 ∨ p.kind = 4) ∨ p.kind = 1 ∨ p.kind = 2 ∨ p.kind = 3 ∨ p.kind = 5 ∨ p.kind = 6 ∨ p.kind = 7 ∨ p.kind = 8) with h | h | h | h | h | h | h
  · rw [k_fw_0 h]; exact k_nds_map (fun _ => rfl) hn
  · rw [k_fw_1 h]; exact k_nds_snoc hn (hc.2.2.1 h).2.2.2
  · rw [k_fw_2 h]; exact List.Pairwise.sublist (List.Sublist.map _ List.filter_sublist) hn
  · rw [k_fw_3 h]; exact k_nds_map (k_at_sl fun _ => rfl) hn
  · rw [k_fw_5 h]
    refine k_nds_snoc (k_nds_map (k_at_sl fun _ => rfl) hn) fun q hq => ?_
    obtain ⟨f, f1, rfl⟩ := List.mem_map.mp hq
    rw [k_at_sl]
    rotate_left
    · intro _; rfl
    exact (hc.2.2.2.2.2.2.2.2.1 h).2.2.2.2.2 f f1
  · rw [k_fw_6 h]; exact k_nds_map (k_at_sl fun _ => rfl) hn
  · rw [k_fw_7 h]; exact hn
theorem k_shp_dfl (so lo hi : Int32) : k_shp so (k_dfl so lo hi) := by
  unfold k_dfl
  by_cases h : so = 0
  · rw [if_pos h]
    exact ⟨by simp, fun _ => rfl, fun z => absurd (h.symm.trans z) (by decide)⟩
  · rw [if_neg h]
    exact ⟨by simp, fun z => absurd z h, fun _ => rfl⟩
theorem k_kok_get {K : KK} (h : k_kok (some p) K) (h0 : K.1 ≠ 0) : (((p.kind = 1 ∨ p.kind = 2) ∧ k_shp p.so K.2.1) ∨ (p.kind = 3 ∧ K.2.1.length ≤ 6)) ∧ K.1 = 1 ∨ (((p.kind = 6 ∨ p.kind = 7) ∧ K.2.1.length = 1) ∨ (p.kind = 8 ∧ K.2.1.length ≤ 6)) ∧ (K.1 = 2 ∨ K.1 = 3) ∧ K.2.2.length ≤ 6 := by
  rcases h with h | ⟨q, e, h⟩
  · exact absurd h h0
  · cases e; exact h
theorem k_kok_0 {o : Option KP} : k_kok o k_n0 := Or.inl rfl
/-- only one place is written -/
theorem t_go_oth {fw : Bool} {j : Nat} (hj : j ≠ k) : (t_go fw p k X).2.1 j = X.2.1 j := by
  unfold t_go
  split <;> try (split)
  all_goals try rfl
  all_goals try (exact k_ud_ne hj)
  all_goals
    obtain ⟨v, K', e⟩ := t_chg_is fw p k X
    rw [e]
    exact k_ud_ne hj
theorem t_arr_shp (h : k_kok (some p) (X.2.1 k)) (h12 : p.kind = 1 ∨ p.kind = 2) : k_shp p.so (if (X.2.1 k).1 = 0 then k_dfl p.so p.lo p.hi else (X.2.1 k).2.1) := by
  split
  · exact k_shp_dfl _ _ _
  · rename_i h0
    rcases k_kok_get h h0 with ⟨z | z, -⟩ | ⟨z | z, -⟩
    · exact z.2
    · omega
    · omega
    · omega
theorem t_dep_kok (hs : k_shp p.so (X.1 p.sl)) (h12 : p.kind = 1 ∨ p.kind = 2) : k_kok (some p) ((t_dep p k X).2.1 k) := by
  show k_kok (some p) (k_ud X.2.1 k _ k)
  rw [k_ud_self]
  split
  · exact k_kok_0
  · exact Or.inr ⟨p, rfl, Or.inl ⟨Or.inl ⟨h12, hs⟩, rfl⟩⟩
theorem a_wrp_len {x : Int32} {w : List Int32} (h : w.length ≤ 6) : (a_wrp p x w).length ≤ 6 := by
  unfold a_wrp
  split
  · rw [List.length_set]; exact h
  · split <;> simp
theorem a_ap_len6 {fw : Bool} {v : List Int32} (hv : v.length ≤ 6) : (a_ap p fw v).length ≤ 6 := by
  unfold a_ap
  split
  · simp
  · split
    · simp
    · split
      · rw [k_sort_len]; exact hv
      · exact hv
theorem t_chg_ok {fw : Bool} (h6 : 6 ≤ p.kind) (h8 : p.kind ≤ 8) (h : k_kok (some p) (X.2.1 k)) (hs : (X.1 p.sl).length ≤ 6) (h1 : p.kind ≠ 8 → (X.1 p.sl).length = 1) : (((t_chg fw p k X).1 p.sl).length ≤ 6 ∧ (p.kind ≠ 8 → ((t_chg fw p k X).1 p.sl).length = 1)) ∧ k_kok (some p) ((t_chg fw p k X).2.1 k) := by
  unfold t_chg
  by_cases hc : (X.2.1 k).1 = (if fw = true then 3 else 2) ∧ X.1 p.sl = (X.2.1 k).2.2
  · rw [if_pos hc]
    have h0 : (X.2.1 k).1 ≠ 0 := by rw [hc.1]; split <;> decide
    refine ⟨?_, by show k_kok (some p) (k_ud X.2.1 k k_n0 k); rw [k_ud_self]; exact k_kok_0⟩
    show (k_ud X.1 p.sl _ p.sl).length ≤ 6 ∧ (_ → (k_ud X.1 p.sl _ p.sl).length = 1)
    rw [k_ud_self]
    rcases k_kok_get h h0 with ⟨z | z, -⟩ | ⟨z | z, -⟩
    · omega
    · omega
    · exact ⟨by omega, fun _ => z.2⟩
    · exact ⟨z.2, fun y => absurd z.1 y⟩
  · rw [if_neg hc]
    refine ⟨?_, ?_⟩
    · show (k_ud X.1 p.sl _ p.sl).length ≤ 6 ∧ (_ → (k_ud X.1 p.sl _ p.sl).length = 1)
      rw [k_ud_self]
      exact ⟨a_ap_len6 hs, fun y => a_ap_len y (h1 y)⟩
    · show k_kok (some p) (k_ud X.2.1 k _ k)
      rw [k_ud_self]
      split
      · exact k_kok_0
      · refine Or.inr ⟨p, rfl, Or.inr ⟨?_, ?_, a_ap_len6 hs⟩⟩
        · by_cases h8' : p.kind = 8
          · exact Or.inr ⟨h8', hs⟩
          · exact Or.inl ⟨by omega, h1 h8'⟩
        · show (if fw = true then 2 else 3) = 2 ∨ (if fw = true then 2 else 3) = 3
          cases fw <;> simp
theorem k_shp_1 {v : List Int32} (h : v.length ≤ 6) : k_shp 1 v := ⟨h, fun z => absurd z (by decide), fun z => absurd z (by decide)⟩
theorem k_shp_0 {v : List Int32} (h : v.length = 1) : k_shp 0 v := ⟨by omega, fun _ => h, fun z => absurd z (by decide)⟩
theorem k_hv_dn {u : KF → KF} {V : Nat → List Int32} (h : k_hv (D.map u) V) (h1 : ∀ f, (u f).2.2.2.2 = f.2.2.2.2) (h2 : ∀ f, (u f).2.1 = f.2.1) : k_hv D V := fun f hf => by
  have := h (u f) (List.mem_map_of_mem hf)
  rw [h1, h2] at this; exact this
theorem k_hv_up {u : KF → KF} {V : Nat → List Int32} (h1 : ∀ f, (u f).2.2.2.2 = f.2.2.2.2) (h2 : ∀ f, (u f).2.1 = f.2.1) (h : k_hv D V) : k_hv (D.map u) V := fun f hf => by
  obtain ⟨q, q1, rfl⟩ := List.mem_map.mp hf
  rw [h1, h2]; exact h q q1
/-- one slot is written -/
theorem k_hv_set {V : Nat → List Int32} {v : List Int32} (hw : k_wfL D) (hn : k_nds D) (hc : k_can p D) (h1 : p.kind ≠ 1) (h : ∀ f ∈ D, f.1 ≠ p.nm → k_shp f.2.1 (V f.2.2.2.2)) (hv : k_shp p.so v) : k_hv D (k_ud V p.sl v) := by
  intro f hf
  by_cases e : f.1 = p.nm
  · rw [hc.uni hw h1 hf e]
    show k_shp p.so (k_ud V p.sl v p.sl)
    rw [k_ud_self]; exact hv
  · rw [k_ud_ne (hc.slo hn h1 hf e)]
    exact h f hf e
theorem k_can.so0 (hc : k_can p D) (h : p.kind = 3 ∨ p.kind = 5 ∨ p.kind = 6 ∨ p.kind = 7) : p.so = 0 := by
  obtain ⟨-, -, -, -, -, -, c3, -, c5, c6, c7, -⟩ := hc
  rcases h with h | h | h | h
  · exact c3 h
  · exact (c5 h).1
  · exact (c6 h).1
  · exact (c7 h).1
theorem k_can.so1 (hc : k_can p D) (h : p.kind = 8) : p.so = 1 := hc.2.2.2.2.2.2.2.2.2.2.2 h
theorem t_chg_hs {fw : Bool} (hw : k_wfL D) (hn : k_nds D) (hc : k_can p D) (h6 : 6 ≤ p.kind) (hs : k_hv D X.1) (hK : k_kok (some p) (X.2.1 k)) : k_hv D (t_chg fw p k X).1 ∧ k_kok (some p) ((t_chg fw p k X).2.1 k) := by
  have hp := hs _ (hc.mem (by omega))
  have h1 : p.kind ≠ 8 → (X.1 p.sl).length = 1 := fun z => hp.2.1 (hc.so0 (by have := hc.2.1; omega))
  obtain ⟨⟨a1, a2⟩, a3⟩ := t_chg_ok (fw := fw) h6 hc.2.1 hK hp.1 h1
  refine ⟨?_, a3⟩
  have hv : k_shp p.so ((t_chg fw p k X).1 p.sl) := by
    by_cases h8 : p.kind = 8
    · rw [hc.so1 h8]; exact k_shp_1 a1
    · rw [hc.so0 (by have := hc.2.1; omega)]; exact k_shp_0 (a2 h8)
  have e : ∃ v, (t_chg fw p k X).1 = k_ud X.1 p.sl v := by
    obtain ⟨v, K', e⟩ := t_chg_is fw p k X
    exact ⟨v, by rw [e]⟩
  obtain ⟨v, e⟩ := e
  rw [e, k_ud_self] at hv
  rw [e]
  exact k_hv_set hw hn hc (by omega) (fun f hf _ => hs f hf) hv
theorem t_fw_ok (hw : k_wfL D) (hn : k_nds D) (hc : k_can p D) (hs : k_hv D X.1) (hK : k_kok (some p) (X.2.1 k)) : k_hv (k_fw p D) (t_go true p k X).1 ∧ k_kok (some p) ((t_go true p k X).2.1 k) := by
  have h8 := hc.2.1
  rcases (by omega : (p.kind = 0 ∨ p.kind = 4) ∨ p.kind = 1 ∨ p.kind = 2 ∨ p.kind = 3 ∨ p.kind = 5 ∨ p.kind = 6 ∨ p.kind = 7 ∨ p.kind = 8) with h | h | h | h | h | h | h
  · rw [k_fw_0 h, t_go_0 h]; exact ⟨k_hv_up (fun _ => rfl) (fun _ => rfl) hs, hK⟩
  · rw [k_fw_1 h, t_go_1 h, if_pos rfl]
    refine ⟨fun f hf => ?_, by show k_kok (some p) (k_ud X.2.1 k k_n0 k); rw [k_ud_self]; exact k_kok_0⟩
    rcases List.mem_append.mp hf with hf | hf
    · show k_shp f.2.1 (k_ud X.1 p.sl _ f.2.2.2.2)
      rw [k_ud_ne ((hc.2.2.1 h).2.2.2 f hf)]
      exact hs f hf
    · rw [List.mem_singleton.mp hf]
      show k_shp p.so (k_ud X.1 p.sl _ p.sl)
      rw [k_ud_self]
      exact t_arr_shp hK (Or.inl h)
  · rw [k_fw_2 h, t_go_2 h, if_pos rfl]
    exact ⟨fun f hf => hs f (List.mem_filter.mp hf).1, t_dep_kok (hs _ (hc.mem (by omega))) (Or.inr h)⟩
  · rw [k_fw_3 h, t_go_3 h, if_pos rfl]
    have hp := hs _ (hc.mem (by omega))
    refine ⟨fun f hf => ?_, by show k_kok (some p) (k_ud X.2.1 k k_n0 k); rw [k_ud_self]; exact k_kok_0⟩
    obtain ⟨q, q1, rfl⟩ := List.mem_map.mp hf
    by_cases e : q.1 = p.nm
    · rw [k_at_eq e, hc.uni hw (by omega) q1 e]
      show k_shp 1 (k_ud X.1 p.sl _ p.sl)
      rw [k_ud_self]
      apply k_shp_1
      split
      · exact hp.1
      · rename_i h0
        apply a_wrp_len
        rcases k_kok_get hK h0 with ⟨z | z, -⟩ | ⟨z | z, -⟩
        · omega
        · exact z.2
        · omega
        · omega
    · rw [k_at_ne e]
      show k_shp q.2.1 (k_ud X.1 p.sl _ q.2.2.2.2)
      rw [k_ud_ne (hc.slo hn (by omega) q1 e)]
      exact hs q q1
  · rw [k_fw_5 h, t_go_5 h, if_pos rfl]
    refine ⟨fun f hf => ?_, hK⟩
    have hrs := (hc.2.2.2.2.2.2.2.2.1 h).2.2.2.2.2
    rcases List.mem_append.mp hf with hf | hf
    · obtain ⟨q, q1, rfl⟩ := List.mem_map.mp hf
      rw [k_at_sl, k_at_so]
      rotate_left
      · intro _; rfl
      · intro _; rfl
      show k_shp q.2.1 (k_ud (k_ud X.1 p.sl _) p.rs _ q.2.2.2.2)
      rw [k_ud_ne (hrs q q1)]
      exact k_hv_set hw hn hc (by omega) (fun f hf _ => hs f hf) (by rw [hc.so0 (Or.inr (Or.inl h))]; exact k_shp_0 rfl) q q1
    · rw [List.mem_singleton.mp hf]
      show k_shp 0 (k_ud (k_ud X.1 p.sl _) p.rs _ p.rs)
      rw [k_ud_self]; exact k_shp_0 rfl
  · rw [k_fw_6 h, t_go_c (by omega) (by omega)]
    obtain ⟨a1, a2⟩ := t_chg_hs (fw := true) hw hn hc (by omega) hs hK
    exact ⟨k_hv_up (k_at_sl fun _ => rfl) (k_at_so fun _ => rfl) a1, a2⟩
  · rw [k_fw_7 h, t_go_c (by omega) (by omega)]
    exact t_chg_hs (fw := true) hw hn hc (by omega) hs hK
theorem t_bk_ok (hw : k_wfL D) (hn : k_nds D) (hc : k_can p D) (hs : k_hv (k_fw p D) X.1) (hK : k_kok (some p) (X.2.1 k)) : k_hv D (t_go false p k X).1 ∧ k_kok (some p) ((t_go false p k X).2.1 k) := by
  have h8 := hc.2.1
  rcases (by omega : (p.kind = 0 ∨ p.kind = 4) ∨ p.kind = 1 ∨ p.kind = 2 ∨ p.kind = 3 ∨ p.kind = 5 ∨ p.kind = 6 ∨ p.kind = 7 ∨ p.kind = 8) with h | h | h | h | h | h | h
  · rw [k_fw_0 h] at hs
    rw [t_go_0 h]; exact ⟨k_hv_dn hs (fun _ => rfl) (fun _ => rfl), hK⟩
  · rw [k_fw_1 h] at hs
    rw [t_go_1 h, if_neg (by decide)]
    exact ⟨fun f hf => hs f (List.mem_append_left _ hf), t_dep_kok (hs p.f (List.mem_append_right _ (List.mem_singleton.mpr rfl))) (Or.inl h)⟩
  · rw [k_fw_2 h] at hs
    rw [t_go_2 h, if_neg (by decide)]
    refine ⟨k_hv_set hw hn hc (by omega) (fun f hf e => hs f (List.mem_filter.mpr ⟨hf, decide_eq_true e⟩)) (t_arr_shp hK (Or.inr h)), by show k_kok (some p) (k_ud X.2.1 k k_n0 k); rw [k_ud_self]; exact k_kok_0⟩
  · rw [k_fw_3 h] at hs
    rw [t_go_3 h, if_neg (by decide)]
    refine ⟨k_hv_set hw hn hc (by omega) (fun f hf e => ?_) (by rw [hc.so0 (Or.inl h)]; exact k_shp_0 rfl), ?_⟩
    · have := hs _ (List.mem_map_of_mem hf)
      rw [k_at_ne e] at this
      exact this
    · show k_kok (some p) (k_ud X.2.1 k _ k)
      rw [k_ud_self]
      split
      · exact k_kok_0
      · have := hs _ (List.mem_map_of_mem (hc.mem (by omega)))
        rw [k_at_eq (n := p.nm) (f := p.f) rfl] at this
        exact Or.inr ⟨p, rfl, Or.inl ⟨Or.inr ⟨h, this.1⟩, rfl⟩⟩
  · rw [k_fw_5 h] at hs
    rw [t_go_5 h, if_neg (by decide)]
    refine ⟨k_hv_set hw hn hc (by omega) (fun f hf e => ?_) (by rw [hc.so0 (Or.inr (Or.inl h))]; exact k_shp_0 rfl), hK⟩
    have := hs _ (List.mem_append_left _ (List.mem_map_of_mem hf))
    rw [k_at_ne e] at this
    exact this
  · rw [k_fw_6 h] at hs
    rw [t_go_c (by omega) (by omega)]
    exact t_chg_hs (fw := false) hw hn hc (by omega) (k_hv_dn hs (k_at_sl fun _ => rfl) (k_at_so fun _ => rfl)) hK
  · rw [k_fw_7 h] at hs
    rw [t_go_c (by omega) (by omega)]
    exact t_chg_hs (fw := false) hw hn hc (by omega) hs hK
/-- what a primitive asks, forth -/
theorem t_fw_pre (hc : k_can p D) (hs : k_hv D X.1) (hK : k_kok (some p) (X.2.1 k)) {P : Nat → Prop} (hP : ∀ f ∈ D, P f.2.2.2.2) : t_pre true p k P X := by
  have kk : 6 ≤ p.kind → (X.2.1 k).1 = 0 ∨ (X.2.1 k).1 = 2 ∨ (X.2.1 k).1 = 3 := fun h6 => by
    by_cases h0 : (X.2.1 k).1 = 0
    · exact Or.inl h0
    · rcases k_kok_get hK h0 with ⟨z | z, -⟩ | ⟨-, z, -⟩
      · omega
      · omega
      · exact Or.inr z
  refine ⟨fun h => hP _ (hc.mem fun z => h (Or.inl ⟨z, rfl⟩)), fun h _ => (hs _ (hc.mem (by omega))).2.1 (hc.so0 (Or.inl h)), fun h => ⟨(hs _ (hc.mem (by omega))).2.1 (hc.so0 (Or.inr (Or.inl h))), fun z => by cases z⟩, fun h => (hs _ (hc.mem (by omega))).2.1 (hc.so0 (by omega)), kk⟩
theorem k_fw_mem (hc : k_can p D) (h2 : p.kind ≠ 2) : ∃ f ∈ k_fw p D, f.2.2.2.2 = p.sl ∧ f.2.1 = if p.kind = 3 then 1 else p.so := by
  have h8 := hc.2.1
  rcases (by omega : (p.kind = 0 ∨ p.kind = 4) ∨ p.kind = 1 ∨ p.kind = 3 ∨ p.kind = 5 ∨ p.kind = 6 ∨ p.kind = 7 ∨ p.kind = 8) with h | h | h | h | h | h
  · rw [k_fw_0 h, if_neg (by omega)]; exact ⟨_, List.mem_map_of_mem (hc.mem (by omega)), rfl, rfl⟩
  · rw [k_fw_1 h, if_neg (by omega)]; exact ⟨p.f, List.mem_append_right _ (List.mem_singleton.mpr rfl), rfl, rfl⟩
  · rw [k_fw_3 h, if_pos h]; exact ⟨_, List.mem_map_of_mem (hc.mem (by omega)), by rw [k_at_eq (n := p.nm) (f := p.f) rfl], by rw [k_at_eq (n := p.nm) (f := p.f) rfl]⟩
  · rw [k_fw_5 h, if_neg (by omega)]; exact ⟨_, List.mem_append_left _ (List.mem_map_of_mem (hc.mem (by omega))), by rw [k_at_eq (n := p.nm) (f := p.f) rfl], by rw [k_at_eq (n := p.nm) (f := p.f) rfl]⟩
  · rw [k_fw_6 h, if_neg (by omega)]; exact ⟨_, List.mem_map_of_mem (hc.mem (by omega)), by rw [k_at_eq (n := p.nm) (f := p.f) rfl], by rw [k_at_eq (n := p.nm) (f := p.f) rfl]⟩
  · rw [k_fw_7 h, if_neg (by omega)]; exact ⟨_, hc.mem (by omega), rfl, rfl⟩
theorem t_bk_pre (hc : k_can p D) (hs : k_hv (k_fw p D) X.1) (hK : k_kok (some p) (X.2.1 k)) {P : Nat → Prop} (hP : ∀ f ∈ k_fw p D, P f.2.2.2.2) : t_pre false p k P X := by
  have kk : 6 ≤ p.kind → (X.2.1 k).1 = 0 ∨ (X.2.1 k).1 = 2 ∨ (X.2.1 k).1 = 3 := fun h6 => by
    by_cases h0 : (X.2.1 k).1 = 0
    · exact Or.inl h0
    · rcases k_kok_get hK h0 with ⟨z | z, -⟩ | ⟨-, z, -⟩
      · omega
      · omega
      · exact Or.inr z
  have one : p.kind = 5 ∨ p.kind = 6 ∨ p.kind = 7 → (X.1 p.sl).length = 1 := fun h => by
    obtain ⟨f, f1, f2, f3⟩ := k_fw_mem hc (by omega)
    have := hs f f1
    rw [f2, f3, if_neg (by omega)] at this
    exact this.2.1 (hc.so0 (by omega))
  refine ⟨fun h => ?_, fun h z => (by cases z), fun h => ⟨one (Or.inl h), fun _ => ?_⟩, fun h => one (Or.inr h), kk⟩
  · obtain ⟨f, f1, f2, f3⟩ := k_fw_mem hc (fun z => h (Or.inr ⟨z, rfl⟩))
    rw [← f2]; exact hP f f1
  · have hm : (k_bsd p.nm p.b, 0, 0, p.a - 1, p.rs) ∈ k_fw p D := by rw [k_fw_5 h]; exact List.mem_append_right _ (List.mem_singleton.mpr rfl)
    exact ⟨hP _ hm, (hs _ hm).2.1 rfl⟩
theorem k_lv_map {u : KF → KF} {P : Nat → Prop} (hP : ∀ f ∈ D.map u, P f.2.2.2.2) (hu : ∀ f, (u f).2.2.2.2 = f.2.2.2.2) {f : KF} (hf : f ∈ D) : P f.2.2.2.2 := by
  have := hP _ (List.mem_map_of_mem hf)
  rw [hu] at this; exact this
/-- the slots that live then -/
theorem t_fw_lv (hc : k_can p D) {P : Nat → Prop} (hP : ∀ f ∈ D, P f.2.2.2.2) : ∀ f ∈ k_fw p D, t_lv p P f.2.2.2.2 := fun f hf => by
  rcases k_fw_sl f hf with ⟨q, q1, e⟩ | ⟨h, e⟩ | h
  · rw [e]; exact Or.inl (hP q q1)
  · exact Or.inr (Or.inl e)
  · exact Or.inr (Or.inr h)
theorem t_bk_lv (hw : k_wfL D) (hc : k_can p D) {P : Nat → Prop} (hP : ∀ f ∈ k_fw p D, P f.2.2.2.2) : ∀ f ∈ D, t_lv p P f.2.2.2.2 := fun f hf => by
  by_cases e : f.2.2.2.2 = p.sl
  · exact Or.inr (Or.inl e)
  refine Or.inl ?_
  have h8 := hc.2.1
  rcases (by omega : (p.kind = 0 ∨ p.kind = 4) ∨ p.kind = 1 ∨ p.kind = 2 ∨ p.kind = 3 ∨ p.kind = 5 ∨ p.kind = 6 ∨ p.kind = 7 ∨ p.kind = 8) with h | h | h | h | h | h | h
  · rw [k_fw_0 h] at hP; exact k_lv_map hP (fun _ => rfl) hf
  · rw [k_fw_1 h] at hP; exact hP _ (List.mem_append_left _ hf)
  · rw [k_fw_2 h] at hP
    by_cases z : f.1 = p.nm
    · exact absurd (by rw [hc.uni hw (by omega) hf z]) e
    · exact hP _ (List.mem_filter.mpr ⟨hf, decide_eq_true z⟩)
  · rw [k_fw_3 h] at hP; exact k_lv_map hP (k_at_sl fun _ => rfl) hf
  · rw [k_fw_5 h] at hP; exact k_lv_map (fun q hq => hP q (List.mem_append_left _ hq)) (k_at_sl fun _ => rfl) hf
  · rw [k_fw_6 h] at hP; exact k_lv_map hP (k_at_sl fun _ => rfl) hf
  · rw [k_fw_7 h] at hP; exact hP _ hf
end TPure
