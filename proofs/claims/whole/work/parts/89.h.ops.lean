/-! the calls, both sides together -/
section Ops
variable {g : q_G} {b x L n sz : Nat} {f : Int32 → Int32} {T : q_T} {I : q_I} {R : q_R} {J : q_J}
/-- a call that returns an int keeps the invariant, and both sides answer alike -/
def q_gi (g : q_G) (b x L : Nat) (f : Int32 → Int32) (n sz : Nat) (T : q_T) (I : q_I) (R : q_R) (J : q_J) (Mc Mm : q_M) (as : List Value) (xs : List Nat) : Prop := ∃ P : Int32 → Int32 → q_H → Prop, q_C g Mc (.ref x :: as) (sz, T, I, R, J) 1000 14000 (q_Xi xs P) ∧ ∀ (k r : Int32) (h1 : q_H), P k r h1 → (h1.2.1 b = some (50, L) ∧ h1.2.2.1 b = f ∧ h1.2.1 x = some (110, 0) ∧ h1.2.1 (x + 83) = some (111, 0) ∧ h1.2.1 (x + 113) = some (1, 1)) ∧ ∀ J1 : q_J, q_Ci g Mm (.ref (x + 83) :: as) (h1.1, h1.2.1, h1.2.2.1, h1.2.2.2.1, J1) 0 0 (fun v h2 => (k = 0 → v = r) ∧ h2.2.2.1 (x + 83) (nI 0) = k ∧ h2.2.2.2.2 = J1 ∧ q_INV b x L f n h2.1 h2.2.1 h2.2.2.1 h2.2.2.2.1)
def q_gv (g : q_G) (b x L : Nat) (f : Int32 → Int32) (n sz : Nat) (T : q_T) (I : q_I) (R : q_R) (J : q_J) (Mc Mm : q_M) (as : List Value) (xs : List Nat) : Prop := ∃ P : Int32 → q_H → Prop, q_C g Mc (.ref x :: as) (sz, T, I, R, J) 1000 14000 (q_Xv xs P) ∧ ∀ (k : Int32) (h1 : q_H), P k h1 → (h1.2.1 b = some (50, L) ∧ h1.2.2.1 b = f ∧ h1.2.1 x = some (110, 0) ∧ h1.2.1 (x + 83) = some (111, 0) ∧ h1.2.1 (x + 113) = some (1, 1)) ∧ q_Cv g Mm (.ref (x + 83) :: as) h1 0 0 (fun h2 => h2.2.2.1 (x + 83) (nI 0) = k ∧ q_INV b x L f n h2.1 h2.2.1 h2.2.2.1 h2.2.2.2.1)
theorem wf.verL {S : KA} (hw : wf S) {h : Nat} {c : KR} (hh : h < 16) (hc : S.rs h = some c) : ∃ Lv, S.vs[c.ver]? = some Lv ∧ c.val.length = Lv.length ∧ ∀ (i : Nat) (e : KF) (v : List Int32), Lv[i]? = some e → c.val[i]? = some v → k_shp e.2.1 v := by
  obtain ⟨w1, w2, -⟩ := hw.2.2.2.1 h c hh hc
  obtain ⟨Lv, hL⟩ : ∃ Lv, S.vs[c.ver]? = some Lv := ⟨_, List.getElem?_eq_getElem w1⟩
  exact ⟨Lv, hL, (w2 Lv hL).1, (w2 Lv hL).2⟩
theorem wf.verV {S : KA} (hw : wf S) {v : Int32} (h : k_bel S.vs.length v = true) : ∃ i Lv, v = nI i ∧ i < S.vs.length ∧ S.vs[i]? = some Lv := by
  have := hw.1.2.1
  obtain ⟨i, i1, rfl⟩ := k_bel_of (by omega) h
  exact ⟨i, _, rfl, i1, List.getElem?_eq_getElem i1⟩

theorem x_version (hI : q_INV b x L f (n + 1) sz T I R) (p0 : Int32) : q_gi g b x L f n sz T I R J M_Lens_version M_Model_version [.int p0] [2] := by
  refine q_glue1 hI fun S hw hC hM => ?_
  rcases k_hcase S p0 with hb | ⟨h, c, hh, rfl, hc, hb⟩
  · exact ⟨_, c_Lens_version_no hC hb, hw, fun _ _ _ _ _ hm => c_Model_version_no hw hm hb⟩
  · exact ⟨_, c_Lens_version hw hC hh hc hb, hw, fun _ _ _ _ _ hm => c_Model_version hw hm hh hc hb⟩
theorem x_kept (hI : q_INV b x L f (n + 1) sz T I R) (p0 : Int32) : q_gi g b x L f n sz T I R J M_Lens_kept M_Model_kept [.int p0] [2] := by
  refine q_glue1 hI fun S hw hC hM => ?_
  rcases k_hcase S p0 with hb | ⟨h, c, hh, rfl, hc, hb⟩
  · exact ⟨_, c_Lens_kept_no hC hb, hw, fun _ _ _ _ _ hm => c_Model_kept_no hw hm hb⟩
  · exact ⟨_, c_Lens_kept hw hC hh hc hb, hw, fun _ _ _ _ _ hm => c_Model_kept hw hm hh hc hb⟩
theorem x_drop (hI : q_INV b x L f (n + 1) sz T I R) (p0 : Int32) : q_gv g b x L f n sz T I R J M_Lens_drop M_Model_drop [.int p0] [2] := by
  refine q_glueV hI fun S hw hC hM => ?_
  rcases k_hcase S p0 with hb | ⟨h, c, hh, rfl, hc, hb⟩
  · exact ⟨_, c_Lens_drop_no hC hb, hw, rfl, fun _ _ _ _ _ hm => c_Model_drop_no hw hm hb⟩
  · exact ⟨_, c_Lens_drop hw hC hh hc hb, hw.setRn h, rfl, fun _ _ _ _ _ hm => c_Model_drop hw hm hh hc hb⟩
theorem x_get (hI : q_INV b x L f (n + 1) sz T I R) (p0 p1 : Int32) : q_gi g b x L f n sz T I R J M_Lens_get M_Model_get [.int p0, .int p1] [2, 1] := by
  refine q_glue1 hI fun S hw hC hM => ?_
  rcases k_hcase S p0 with hb | ⟨h, c, hh, rfl, hc, hb⟩
  · exact ⟨_, c_Lens_get_no hC hb, hw, fun _ _ _ _ _ hm => c_Model_get_no hw hm hb⟩
  obtain ⟨Lv, hL, hl, hs⟩ := hw.verL hh hc
  cases hp : a_pl Lv p1 0 with
  | none => exact ⟨_, c_Lens_get_no2 hw hC hh hc hb hL hp, hw, fun _ _ _ _ _ hm => c_Model_get_no2 hw hm hh hc hb hL hp⟩
  | some k =>
    obtain ⟨e, l, e1, e2, e3, e4, -⟩ := a_pl_some hp
    have hk := (List.getElem?_eq_some_iff.mp e1).1
    obtain ⟨v, hv⟩ : ∃ v, c.val[k]? = some v := ⟨_, List.getElem?_eq_getElem (by omega)⟩
    have hsh := hs k e v e1 hv
    rw [e4] at hsh
    obtain ⟨y, rfl⟩ : ∃ y, v = [y] := List.length_eq_one_iff.mp (hsh.2.1 rfl)
    exact ⟨_, c_Lens_get hw hC hh hc hb hL hp hv, hw, fun _ _ _ _ _ hm => c_Model_get hw hm hh hc hb hL hp hv⟩
theorem x_size (hI : q_INV b x L f (n + 1) sz T I R) (p0 p1 : Int32) : q_gi g b x L f n sz T I R J M_Lens_size M_Model_size [.int p0, .int p1] [2, 1] := by
  refine q_glue1 hI fun S hw hC hM => ?_
  rcases k_hcase S p0 with hb | ⟨h, c, hh, rfl, hc, hb⟩
  · exact ⟨_, c_Lens_size_no hC hb, hw, fun _ _ _ _ _ hm => c_Model_size_no hw hm hb⟩
  obtain ⟨Lv, hL, hl, hs⟩ := hw.verL hh hc
  cases hp : a_pl Lv p1 1 with
  | none => exact ⟨_, c_Lens_size_no2 hw hC hh hc hb hL hp, hw, fun _ _ _ _ _ hm => c_Model_size_no2 hw hm hh hc hb hL hp⟩
  | some k =>
    obtain ⟨e, l, e1, e2, e3, e4, -⟩ := a_pl_some hp
    have hk := (List.getElem?_eq_some_iff.mp e1).1
    obtain ⟨v, hv⟩ : ∃ v, c.val[k]? = some v := ⟨_, List.getElem?_eq_getElem (by omega)⟩
    have hsh := hs k e v e1 hv
    rw [e4] at hsh
    exact ⟨_, c_Lens_size hw hC hh hc hb hL hp hv, hw, fun _ _ _ _ _ hm => c_Model_size hw hm hh hc hb hL hp hv⟩
theorem x_item (hI : q_INV b x L f (n + 1) sz T I R) (p0 p1 p2 : Int32) : q_gi g b x L f n sz T I R J M_Lens_item M_Model_item [.int p0, .int p1, .int p2] [2, 1] := by
  refine q_glue1 hI fun S hw hC hM => ?_
  rcases k_hcase S p0 with hb | ⟨h, c, hh, rfl, hc, hb⟩
  · exact ⟨_, c_Lens_item_no hC hb, hw, fun _ _ _ _ _ hm => c_Model_item_no hw hm hb⟩
  obtain ⟨Lv, hL, hl, hs⟩ := hw.verL hh hc
  cases hp : a_pl Lv p1 1 with
  | none => exact ⟨_, c_Lens_item_no2 hw hC hh hc hb hL hp, hw, fun _ _ _ _ _ hm => c_Model_item_no2 hw hm hh hc hb hL hp⟩
  | some k =>
    obtain ⟨e, l, e1, e2, e3, e4, -⟩ := a_pl_some hp
    have hk := (List.getElem?_eq_some_iff.mp e1).1
    obtain ⟨v, hv⟩ : ∃ v, c.val[k]? = some v := ⟨_, List.getElem?_eq_getElem (by omega)⟩
    have hsh := hs k e v e1 hv
    rw [e4] at hsh
    by_cases hn : p2 < 0 ∨ nI v.length ≤ p2
    · exact ⟨_, c_Lens_item_no3 hw hC hh hc hb hL hp hv hn, hw, fun _ _ _ _ _ hm => c_Model_item_no3 hw hm hh hc hb hL hp hv hn⟩
    · obtain ⟨q, q1, rfl⟩ := nI_of (fun z => hn (Or.inl z))
      have hv6 := hsh.1
      have hq : q < v.length := Classical.byContradiction fun z => hn (Or.inr (by rw [nI_leI (by omega) q1]; omega))
      obtain ⟨y, hy⟩ : ∃ y, v[q]? = some y := ⟨_, List.getElem?_eq_getElem hq⟩
      exact ⟨_, c_Lens_item hw hC hh hc hb hL hp hv hy, hw, fun _ _ _ _ _ hm => c_Model_item hw hm hh hc hb hL hp hv hy⟩
theorem x_set (hI : q_INV b x L f (n + 1) sz T I R) (p0 p1 p2 : Int32) : q_gv g b x L f n sz T I R J M_Lens_set M_Model_set [.int p0, .int p1, .int p2] [2, 1] := by
  refine q_glueV hI fun S hw hC hM => ?_
  rcases k_hcase S p0 with hb | ⟨h, c, hh, rfl, hc, hb⟩
  · exact ⟨_, c_Lens_set_no hC hb, hw, rfl, fun _ _ _ _ _ hm => c_Model_set_no hw hm hb⟩
  obtain ⟨Lv, hL, hl, hs⟩ := hw.verL hh hc
  cases hp : a_pl Lv p1 0 with
  | none => exact ⟨_, c_Lens_set_no2 hw hC hh hc hb hL hp, hw, rfl, fun _ _ _ _ _ hm => c_Model_set_no2 hw hm hh hc hb hL hp⟩
  | some k =>
    obtain ⟨e, l, e1, e2, e3, e4, -⟩ := a_pl_some hp
    have hk := (List.getElem?_eq_some_iff.mp e1).1
    obtain ⟨v, hv⟩ : ∃ v, c.val[k]? = some v := ⟨_, List.getElem?_eq_getElem (by omega)⟩
    have hsh := hs k e v e1 hv
    rw [e4] at hsh
    cases hn : (decide (e.2.2.1 ≤ p2) && decide (p2 ≤ e.2.2.2.1)) with
    | false => exact ⟨_, c_Lens_set_no3 hw hC hh hc hb hL hp e1 hn, hw, rfl, fun _ _ _ _ _ hm => c_Model_set_no3 hw hm hh hc hb hL hp hv e1 hn⟩
    | true =>
      have hwr : w_rec S.vs S.ss (c.setV k [p2]) := (hw.2.2.2.1 h c hh hc).setV hL e1 (by rw [e4]; exact ⟨Nat.le_of_ble_eq_true rfl, fun _ => rfl, fun z => absurd z (by decide)⟩)
      exact ⟨_, c_Lens_set hw hC hh hc hb hL hp hv e1 hn, hw.setRc (hw.bg1 hh hc) h hwr, rfl, fun _ _ _ _ _ hm => c_Model_set hw hm hh hc hb hL hp hv (hsh.2.1 rfl) e1 hn⟩
theorem x_cut (hI : q_INV b x L f (n + 1) sz T I R) (p0 p1 p2 : Int32) : q_gv g b x L f n sz T I R J M_Lens_cut M_Model_cut [.int p0, .int p1, .int p2] [2, 1] := by
  refine q_glueV hI fun S hw hC hM => ?_
  rcases k_hcase S p0 with hb | ⟨h, c, hh, rfl, hc, hb⟩
  · exact ⟨_, c_Lens_cut_no hC hb, hw, rfl, fun _ _ _ _ _ hm => c_Model_cut_no hw hm hb⟩
  obtain ⟨Lv, hL, hl, hs⟩ := hw.verL hh hc
  cases hp : a_pl Lv p1 1 with
  | none => exact ⟨_, c_Lens_cut_no2 hw hC hh hc hb hL hp, hw, rfl, fun _ _ _ _ _ hm => c_Model_cut_no2 hw hm hh hc hb hL hp⟩
  | some k =>
    obtain ⟨e, l, e1, e2, e3, e4, -⟩ := a_pl_some hp
    have hk := (List.getElem?_eq_some_iff.mp e1).1
    obtain ⟨v, hv⟩ : ∃ v, c.val[k]? = some v := ⟨_, List.getElem?_eq_getElem (by omega)⟩
    have hsh := hs k e v e1 hv
    rw [e4] at hsh
    by_cases hn : p2 < 0 ∨ nI v.length < p2
    · exact ⟨_, c_Lens_cut_no3 hw hC hh hc hb hL hp hv hn, hw, rfl, fun _ _ _ _ _ hm => c_Model_cut_no3 hw hm hh hc hb hL hp hv hn⟩
    · obtain ⟨q, q1, rfl⟩ := nI_of (fun z => hn (Or.inl z))
      have hv6 := hsh.1
      have hq : q ≤ v.length := Classical.byContradiction fun z => hn (Or.inr (nI_lt (by omega) q1))
      have hwr : w_rec S.vs S.ss (c.setV k (v.take q)) := (hw.2.2.2.1 h c hh hc).setV hL e1 (by rw [e4]; exact ⟨by rw [List.length_take]; omega, fun z => absurd z (by decide), fun z => absurd z (by decide)⟩)
      exact ⟨_, c_Lens_cut hw hC hh hc hb hL hp hv hq, hw.setRc (hw.bg1 hh hc) h hwr, rfl, fun _ _ _ _ _ hm => c_Model_cut hw hm hh hc hb hL hp hv hq⟩
theorem x_put (hI : q_INV b x L f (n + 1) sz T I R) (p0 p1 p2 p3 : Int32) : q_gi g b x L f n sz T I R J M_Lens_put M_Model_put [.int p0, .int p1, .int p2, .int p3] [2, 1] := by
  refine q_glue1 hI fun S hw hC hM => ?_
  rcases k_hcase S p0 with hb | ⟨h, c, hh, rfl, hc, hb⟩
  · exact ⟨_, c_Lens_put_no hC hb, hw, fun _ _ _ _ _ hm => c_Model_put_no hw hm hb⟩
  obtain ⟨Lv, hL, hl, hs⟩ := hw.verL hh hc
  cases hp : a_pl Lv p1 1 with
  | none => exact ⟨_, c_Lens_put_no2 hw hC hh hc hb hL hp, hw, fun _ _ _ _ _ hm => c_Model_put_no2 hw hm hh hc hb hL hp⟩
  | some k =>
    obtain ⟨e, l, e1, e2, e3, e4, -⟩ := a_pl_some hp
    have hk := (List.getElem?_eq_some_iff.mp e1).1
    obtain ⟨v, hv⟩ : ∃ v, c.val[k]? = some v := ⟨_, List.getElem?_eq_getElem (by omega)⟩
    have hsh := hs k e v e1 hv
    rw [e4] at hsh
    by_cases hn : p2 < 0 ∨ nI v.length < p2 ∨ nI 6 ≤ p2
    · exact ⟨_, c_Lens_put_no3 hw hC hh hc hb hL hp hv hn, hw, fun _ _ _ _ _ hm => c_Model_put_no3 hw hm hh hc hb hL hp hv hn⟩
    · obtain ⟨q, q1, rfl⟩ := nI_of (fun z => hn (Or.inl z))
      have hv6 := hsh.1
      have hq : q ≤ v.length := Classical.byContradiction fun z => hn (Or.inr (Or.inl (nI_lt (by omega) q1)))
      have hq6 : q < 6 := Classical.byContradiction fun z => hn (Or.inr (Or.inr (by rw [nI_leI (by omega) q1]; omega)))
      cases hy : (decide (e.2.2.1 ≤ p3) && decide (p3 ≤ e.2.2.2.1)) with
      | false => exact ⟨_, c_Lens_put_no4 hw hC hh hc hb hL hp hv e1 hq hq6 hy, hw, fun _ _ _ _ _ hm => c_Model_put_no4 hw hm hh hc hb hL hp hv e1 hq hq6 hy⟩
      | true =>
        have hwr : w_rec S.vs S.ss (c.setV k (a_put v q p3)) := (hw.2.2.2.1 h c hh hc).setV hL e1 (by rw [e4]; exact ⟨by rw [a_put_len hq]; split <;> omega, fun z => absurd z (by decide), fun z => absurd z (by decide)⟩)
        exact ⟨_, c_Lens_put hw hC hh hc hb hL hp hv e1 hq hq6 hy, hw.setRc (hw.bg1 hh hc) h hwr, fun _ _ _ _ _ hm => c_Model_put hw hm hh hc hb hL hp hv e1 hq hq6 hy⟩
theorem x_same (hI : q_INV b x L f (n + 1) sz T I R) (p0 p1 : Int32) : q_gi g b x L f n sz T I R J M_Lens_same M_Model_same [.int p0, .int p1] [2] := by
  refine q_glue1 hI fun S hw hC hM => ?_
  rcases k_hcase S p0 with hb | ⟨h, c, hh, rfl, hc, hb⟩
  · exact ⟨_, c_Lens_same_no hC hb, hw, fun _ _ _ _ _ hm => c_Model_same_no hw hm (Or.inl hb)⟩
  rcases k_hcase S p1 with hb2 | ⟨h2, c2, hh2, rfl, hc2, hb2⟩
  · exact ⟨_, c_Lens_same_no2 hw hC hb hb2, hw, fun _ _ _ _ _ hm => c_Model_same_no hw hm (Or.inr hb2)⟩
  · exact ⟨_, c_Lens_same hw hC hh hc hb hh2 hc2 hb2, hw, fun _ _ _ _ _ hm => c_Model_same hw hm hh hc hb hh2 hc2 hb2⟩
theorem x_count (hI : q_INV b x L f (n + 1) sz T I R) (p0 : Int32) : q_gi g b x L f n sz T I R J M_Lens_count M_Model_count [.int p0] [1] := by
  refine q_glue1 hI fun S hw hC hM => ?_
  cases hb : k_bel 4 p0 with
  | false => exact ⟨_, c_Lens_count_no hC hb, hw, fun _ _ _ _ _ hm => c_Model_count_no hm hb⟩
  | true =>
    obtain ⟨q, q1, rfl⟩ := k_bel_of (by decide) hb
    exact ⟨_, c_Lens_count hC q1, hw, fun _ _ _ _ _ hm => c_Model_count hw hm q1⟩
theorem x_record (hI : q_INV b x L f (n + 1) sz T I R) (p0 : Int32) : q_gi g b x L f n sz T I R J M_Lens_record M_Model_record [.int p0] [2, 3] := by
  refine q_glue1 hI fun S hw hC hM => ?_
  cases hb : k_bel S.vs.length p0 with
  | false => exact ⟨_, c_Lens_record_no hC hb, hw, fun _ _ _ _ _ hm => c_Model_record_no hw hm hb⟩
  | true =>
    cases hf : k_fr S.lv 0 16 with
    | none => exact ⟨_, c_Lens_record_no2 hC hb hf, hw, fun _ _ _ _ _ hm => c_Model_record_no2 hw hm hb hf⟩
    | some h =>
      obtain ⟨v, Lv, rfl, v1, v2⟩ := hw.verV hb
      exact ⟨_, c_Lens_record hw hC v2 hf, hw.setB.setRc rfl h (w_new (S := S.setB) v2), fun _ _ _ _ _ hm => c_Model_record hw hm v2 hf⟩
theorem x_copy (hI : q_INV b x L f (n + 1) sz T I R) (p0 : Int32) : q_gi g b x L f n sz T I R J M_Lens_copy M_Model_copy [.int p0] [2, 3] := by
  refine q_glue1 hI fun S hw hC hM => ?_
  rcases k_hcase S p0 with hb | ⟨h, c, hh, rfl, hc, hb⟩
  · exact ⟨_, c_Lens_copy_no hC hb, hw, fun _ _ _ _ _ hm => c_Model_copy_no hw hm hb⟩
  cases hf : k_fr S.lv 0 16 with
  | none => exact ⟨_, c_Lens_copy_no2 hC hb hf, hw, fun _ _ _ _ _ hm => c_Model_copy_no2 hw hm hb hf⟩
  | some h2 => exact ⟨_, c_Lens_copy hw hC hh hc hb hf, hw.setRc (hw.bg1 hh hc) h2 (hw.2.2.2.1 h c hh hc), fun _ _ _ _ _ hm => c_Model_copy hw hm hh hc hb hf⟩
theorem x_about (hI : q_INV b x L f (n + 1) sz T I R) (p0 p1 p2 : Int32) : q_gi g b x L f n sz T I R J M_Lens_about M_Model_about [.int p0, .int p1, .int p2] [2, 1] := by
  refine q_glue1 hI fun S hw hC hM => ?_
  cases hb : k_bel S.vs.length p0 with
  | false => exact ⟨_, c_Lens_about_no hC hb, hw, fun _ _ _ _ _ hm => c_Model_about_no hm hb⟩
  | true =>
    cases hk : k_bel 4 p2 with
    | false => exact ⟨_, c_Lens_about_no2 hC hb hk, hw, fun _ _ _ _ _ hm => c_Model_about_no2 hm hb hk⟩
    | true =>
      obtain ⟨v, Lv, rfl, v1, v2⟩ := hw.verV hb
      obtain ⟨q, q1, rfl⟩ := k_bel_of (by decide) hk
      exact ⟨_, c_Lens_about hw hC v2 q1, hw, fun _ _ _ _ _ hm => c_Model_about hw hm v2 q1⟩
theorem x_route (hI : q_INV b x L f (n + 1) sz T I R) (p0 p1 p2 : Int32) : q_gi g b x L f n sz T I R J M_Lens_route M_Model_route [.int p0, .int p1, .int p2] [2] := by
  refine q_glue1 hI fun S hw hC hM => ?_
  cases hb : k_bel S.vs.length p0 with
  | false => exact ⟨_, c_Lens_route_no hC hb, hw, fun _ _ _ _ _ hm => c_Model_route_no hm (Or.inl hb)⟩
  | true =>
    cases hb2 : k_bel S.vs.length p1 with
    | false => exact ⟨_, c_Lens_route_no2 hC hb hb2, hw, fun _ _ _ _ _ hm => c_Model_route_no hm (Or.inr hb2)⟩
    | true =>
      obtain ⟨v, Lv, rfl, v1, v2⟩ := hw.verV hb
      obtain ⟨w, Lw, rfl, w1, w2⟩ := hw.verV hb2
      exact ⟨_, c_Lens_route hw hC v1 w1, hw, fun _ _ _ _ _ hm => c_Model_route hw hm v1 w1⟩
theorem x_begin (hI : q_INV b x L f (n + 1) sz T I R) (p0 : Int32) : q_gv g b x L f n sz T I R J M_Lens_begin M_Model_begin [.int p0] [2, 0] := by
  refine q_glueV hI fun S hw hC hM => ?_
  cases hb : k_bel S.vs.length p0 with
  | false => exact ⟨_, c_Lens_begin_no hC hb, hw, rfl, fun _ _ _ _ _ hm => c_Model_begin_no hm hb⟩
  | true =>
    cases ho : S.op with
    | true => exact ⟨_, c_Lens_begin_no2 hC hb ho, hw, rfl, fun _ _ _ _ _ hm => c_Model_begin_no2 hm hb ho⟩
    | false =>
      obtain ⟨v, Lv, rfl, v1, v2⟩ := hw.verV hb
      exact ⟨_, c_Lens_begin hw hC v2 ho, hw.begin v2, rfl, fun _ _ _ _ _ hm => c_Model_begin hw hm v2 ho⟩
theorem x_field (hI : q_INV b x L f (n + 1) sz T I R) (p0 p1 p2 p3 : Int32) : q_gi g b x L f n sz T I R J M_Lens_field M_Model_field [.int p0, .int p1, .int p2, .int p3] [0, 1] := by
  refine q_glue (O := fun _ => True) hI fun S hw hC hM => ?_
  obtain ⟨Lv, hv⟩ : ∃ Lv, S.vs[0]? = some Lv := ⟨_, List.getElem?_eq_getElem (by have := hw.1.1; omega)⟩
  by_cases h1 : S.bg = true ∨ Lv.length = 24
  · exact ⟨fun q => q = (nI 1, 0, S), (c_Lens_field_no hw hC hv h1).imp fun o2 h2 z => q_Xi.det z, fun q hq => by subst hq; exact ⟨hw, fun _ _ _ _ _ hm => c_Model_field_no hw hm hv h1⟩⟩
  have hbg : S.bg = false := by
    cases hq : S.bg with
    | false => rfl
    | true => exact absurd (Or.inl hq) h1
  have h24 : Lv.length ≠ 24 := fun z => h1 (Or.inr z)
  cases hk : (k_room Lv (k_of p0) && k_shape p1 p2 p3) with
  | false => exact ⟨fun q => q = (nI 2, 0, S), (c_Lens_field_no2 hw hC hv hbg h24 hk).imp fun o2 h2 z => q_Xi.det z, fun q hq => by subst hq; exact ⟨hw, fun _ _ _ _ _ hm => c_Model_field_no2 hw hm hv hbg h24 hk⟩⟩
  | true =>
    cases hp : k_of p0 with
    | none => rw [hp] at hk; cases hk
    | some l =>
      exact ⟨o_field S Lv l p1 p2 p3, c_Lens_field hw hC hv hbg h24 hp hk, fun q hq => ⟨hw.field hv hbg h24 hp hk hq, fun _ _ _ _ _ hm => c_Model_field hw hm hv hbg h24 hp hk hq⟩⟩
theorem x_primitive (hI : q_INV b x L f (n + 1) sz T I R) (p0 p1 p2 p3 p4 : Int32) : q_gi g b x L f n sz T I R J M_Lens_primitive M_Model_primitive [.int p0, .int p1, .int p2, .int p3, .int p4] [0, 1] := by
  refine q_glue (O := fun _ => True) hI fun S hw hC hM => ?_
  by_cases h1 : S.op = false ∨ S.dp.length = 8
  · exact ⟨fun q => q = (nI 1, 0, S), (c_Lens_primitive_no hC h1).imp fun o2 h2 z => q_Xi.det z, fun q hq => by subst hq; exact ⟨hw, fun _ _ _ _ _ hm => c_Model_primitive_no hw hm h1⟩⟩
  have hop : S.op = true := by
    cases hq : S.op with
    | true => rfl
    | false => exact absurd (Or.inl hq) h1
  have h8 : S.dp.length < 8 := by
    have := (hw.2.2.1 hop).2.1
    have : S.dp.length ≠ 8 := fun z => h1 (Or.inr z)
    omega
  obtain ⟨d1, d2, d3⟩ := hw.draft hop
  refine ⟨fun q => (a_prm S.dD S.dn p0 (k_of p1) p2 p3 p4 = none ∧ q = (nI 2, 0, S)) ∨ ∃ p, a_prm S.dD S.dn p0 (k_of p1) p2 p3 p4 = some p ∧ o_prim S p (a_dn S.dn p0) q, (c_Lens_primitive (kd := p0) (pth := p1) (a := p2) (b := p3) (c := p4) hC hop h8 d1.2.1 d1.2.2.1 d2).imp fun o2 h2 z => ?_, fun q hq => ?_⟩
  · have cv : ∀ k r h', ((a_prm S.dD S.dn p0 (k_of p1) p2 p3 p4 = none ∧ c_sp x sz T I R J (nI 2, 0, S) k r h') ∨ ∃ p o, a_prm S.dD S.dn p0 (k_of p1) p2 p3 p4 = some p ∧ o_prim S p (a_dn S.dn p0) o ∧ c_sp x sz T I R J o k r h') → ∃ o, ((a_prm S.dD S.dn p0 (k_of p1) p2 p3 p4 = none ∧ o = (nI 2, 0, S)) ∨ ∃ p, a_prm S.dD S.dn p0 (k_of p1) p2 p3 p4 = some p ∧ o_prim S p (a_dn S.dn p0) o) ∧ c_sp x sz T I R J o k r h' := by
      rintro k r h' (⟨z1, z2⟩ | ⟨p, o, z1, z2, z3⟩)
      · exact ⟨_, Or.inl ⟨z1, rfl⟩, z2⟩
      · exact ⟨o, Or.inr ⟨p, z1, z2⟩, z3⟩
    rcases z with ⟨r, e, hp⟩ | ⟨j, e, i, hj, e2, hp⟩
    · exact Or.inl ⟨r, e, cv _ _ _ hp⟩
    · exact Or.inr ⟨j, e, i, hj, e2, cv _ _ _ hp⟩
  · rcases hq with ⟨z1, rfl⟩ | ⟨p, z1, z2⟩
    · exact ⟨hw, fun _ _ _ _ _ hm => c_Model_primitive_no2 hw hm hop h8 z1⟩
    · obtain ⟨-, q2, q3, q4, q5, -, -, q6, q7⟩ := a_prm_can d1 d3 z1
      exact ⟨hw.addP hop h8 z1 z2, fun _ _ _ _ _ hm => c_Model_primitive hw hm hop h8 z1 ⟨q2, q3, q4, q5, q6, q7⟩ z2⟩
theorem x_leave (hI : q_INV b x L f (n + 1) sz T I R) : ∃ P : Int32 → q_H → Prop, q_Ci g M_Lens_leave [.ref x] (sz, T, I, R, J) 1000 14000 P ∧ ∀ (r : Int32) (h1 : q_H), P r h1 → (h1.2.1 b = some (50, L) ∧ h1.2.2.1 b = f ∧ h1.2.1 x = some (110, 0) ∧ h1.2.1 (x + 83) = some (111, 0) ∧ h1.2.1 (x + 113) = some (1, 1)) ∧ q_Ci g M_Model_leave [.ref (x + 83)] h1 0 0 (fun v h2 => v = r ∧ q_INV b x L f n h2.1 h2.2.1 h2.2.2.1 h2.2.2.2.1) := by
  obtain ⟨i1, i2, S, hw, hC, hM⟩ := hI
  refine ⟨_, c_Lens_leaveS hC, fun r h1 hP => ?_⟩
  obtain ⟨b1, b2, b3⟩ := q_both (g := g) (n := n) ⟨i1, i2⟩ hM hw.leave hP
  obtain ⟨sz1, T1, I1, R1, J1⟩ := h1
  refine ⟨b1, (c_Model_leaveS b2).imp fun o' h2 hz => ?_⟩
  obtain ⟨v, v1, v2⟩ := hz
  have := b3 J1 v h2 v2.sp
  exact ⟨v, v1, this.1 rfl, this.2.2.2⟩
end Ops
