/-! schemas along a row of primitives -/
theorem k_fi_nn {L : List KF} {m : List Nat} : k_fi L m = none ↔ ∀ f ∈ L, f.1 ≠ m := by
  constructor
  · exact k_fi_none
  · intro h
    cases hf : k_fi L m with
    | none => rfl
    | some i =>
      obtain ⟨-, f, h1, h2⟩ := k_fi_some hf
      exact absurd h2 (h f (List.mem_of_getElem? h1))
theorem k_grp_iff {L : List KF} {m : List Nat} : k_grp L m = true ↔ m = [] ∨ ∃ f ∈ L, f.1 = m ∧ f.2.1 = 2 := by
  rw [k_grp, Bool.or_eq_true, decide_eq_true_iff, List.any_eq_true]
  constructor
  · rintro (h | ⟨f, h1, h2⟩)
    · exact Or.inl h
    · rw [Bool.and_eq_true, decide_eq_true_iff, decide_eq_true_iff] at h2
      exact Or.inr ⟨f, h1, h2⟩
  · rintro (h | ⟨f, h1, h2⟩)
    · exact Or.inl h
    · exact Or.inr ⟨f, h1, by rw [Bool.and_eq_true, decide_eq_true_iff, decide_eq_true_iff]; exact h2⟩
theorem k_room_iff {L : List KF} {m : List Nat} : k_room L (some m) = true ↔ m ≠ [] ∧ (m.dropLast = [] ∨ ∃ f ∈ L, f.1 = m.dropLast ∧ f.2.1 = 2) ∧ ∀ f ∈ L, f.1 ≠ m := by
  show (decide (m ≠ []) && k_grp L m.dropLast && (k_fi L m).isNone) = true ↔ _
  rw [Bool.and_eq_true, Bool.and_eq_true, decide_eq_true_iff, k_grp_iff, Option.isNone_iff_eq_none, k_fi_nn, and_assoc]
theorem k_can.perm {p : KP} {D D' : List KF} (h : k_can p D) (hp : D'.Perm D) : k_can p D' := by
  have hm : ∀ f : KF, f ∈ D' ↔ f ∈ D := fun f => hp.mem_iff
  obtain ⟨a1, a2, a3, a4, a5, a6, a7, a8, a9, a10, a11, a12⟩ := h
  refine ⟨a1, a2, fun hk => ?_, fun hk => (hm _).mpr (a4 hk), fun hk => ⟨(a5 hk).1, fun f hf => (a5 hk).2 f ((hm f).mp hf)⟩, fun hk => ?_, a7, fun hk => ⟨(a8 hk).1, fun f hf => (a8 hk).2 f ((hm f).mp hf)⟩, fun hk => ?_, a10, a11, a12⟩
  · obtain ⟨b1, b2, b3, b4⟩ := a3 hk
    refine ⟨?_, b2, by rw [hp.length_eq]; exact b3, fun f hf => b4 f ((hm f).mp hf)⟩
    rw [k_room_iff] at b1 ⊢
    refine ⟨b1.1, ?_, fun f hf => b1.2.2 f ((hm f).mp hf)⟩
    rcases b1.2.1 with z | ⟨f, f1, f2⟩
    · exact Or.inl z
    · exact Or.inr ⟨f, (hm f).mpr f1, f2⟩
  · have := a6 hk
    unfold k_cin at this ⊢
    rw [(hp.filter _).length_eq]
    exact this
  · obtain ⟨b1, b2, b3, b4, b5, b6⟩ := a9 hk
    exact ⟨b1, b2, b3, fun f hf => b4 f ((hm f).mp hf), by rw [hp.length_eq]; exact b5, fun f hf => b6 f ((hm f).mp hf)⟩
theorem k_fw.perm {p : KP} {D D' : List KF} (hp : D'.Perm D) : (k_fw p D').Perm (k_fw p D) := by
  unfold k_fw
  split
  · exact hp.map _
  · exact hp.append_right _
  · exact hp.filter _
  · exact hp.map _
  · exact hp.map _
  · exact (hp.map _).append_right _
  · exact hp.map _
  · exact hp
theorem k_fws.perm : ∀ {ps : List KP} {D D' : List KF}, D'.Perm D → (k_fws D' ps).Perm (k_fws D ps)
  | [], _, _, h => h
  | p :: t, _, _, h => k_fws.perm (ps := t) (k_fw.perm (p := p) h)
theorem k_chn.perm : ∀ {ps : List KP} {D D' : List KF}, k_chn D ps → D'.Perm D → k_chn D' ps
  | [], _, _, _, _ => trivial
  | p :: t, _, _, h, hp => ⟨h.1.perm hp, k_chn.perm (ps := t) h.2 (k_fw.perm hp)⟩
theorem k_wfL.perm {D D' : List KF} (h : k_wfL D) (hp : D'.Perm D) : k_wfL D' := by
  obtain ⟨h1, h2, h3, h4, h5⟩ := h
  refine ⟨by rw [hp.length_eq]; exact h1, h2.perm hp, h3.perm hp, fun f hf => ?_, fun f hf => h5 f (hp.mem_iff.mp hf)⟩
  have := h4 f (hp.mem_iff.mp hf)
  rw [k_grp_iff] at this ⊢
  rcases this with z | ⟨e, e1, e2⟩
  · exact Or.inl z
  · exact Or.inr ⟨e, hp.mem_iff.mpr e1, e2⟩
/-- the target of a move: what is known of it -/
theorem k_tg_bsd {p : KP} (hk : p.kind = 0) : k_tg p = p.nm.dropLast ++ [p.a.toNatClampNeg + 1] := by unfold k_tg; rw [if_pos hk]; rfl
theorem k_tg_lif {p : KP} (hk : p.kind = 4) (h0 : p.nm ≠ []) : k_tg p = p.nm.dropLast.dropLast ++ [p.nm.getLast h0] := by unfold k_tg; rw [if_neg (by rw [hk]; decide), k_lif_eq h0]
theorem z_name {a : Int32} (h : 0 ≤ a ∧ a ≤ 99) : a.toNatClampNeg ≤ 99 := by
  obtain ⟨n, n1, rfl⟩ := nI_of (Int32.not_lt.mpr h.1)
  have := h.2
  rw [show (99 : Int32) = nI 99 from rfl, nI_leI n1 (by decide)] at this
  rw [nI_clamp n1]
  exact this
/-- for the two kinds that move -/
theorem k_tg_ok {p : KP} {D : List KF} (h : k_can p D) (hk : p.kind = 0 ∨ p.kind = 4) : k_ok 4 (k_tg p) ∧ k_tg p ≠ [] ∧ (k_tg p).length ≤ p.nm.length ∧ ((k_tg p).dropLast = p.nm.dropLast ∨ (k_tg p).dropLast = p.nm.dropLast.dropLast) ∧ ∀ f ∈ D, f.1 ≠ k_tg p := by
  obtain ⟨⟨a1, a0⟩, a2, a3, a4, a5, a6, a7, a8, a9, a10, a11, a12⟩ := h
  have hpos := List.length_pos_iff.mpr a0
  rcases hk with hk | hk
  · rw [k_tg_bsd hk]
    obtain ⟨b1, b2⟩ := a5 hk
    rw [k_tg_bsd hk] at b2
    refine ⟨k_bsd_ok a1 a0 (z_name b1), by simp, ?_, Or.inl (by rw [List.dropLast_concat]), b2⟩
    rw [List.length_append, List.length_dropLast]
    show p.nm.length - 1 + 1 ≤ p.nm.length
    omega
  · rw [k_tg_lif hk a0]
    obtain ⟨b1, b2⟩ := a8 hk
    rw [k_tg_lif hk a0] at b2
    refine ⟨k_lif_ok a1 a0, by simp, ?_, Or.inr (by rw [List.dropLast_concat]), b2⟩
    rw [List.length_append, List.length_dropLast, List.length_dropLast]
    show p.nm.length - 1 - 1 + 1 ≤ p.nm.length
    omega
/-- nothing lies in a place that isn't there -/
theorem k_none_in {D : List KF} (hw : k_wfL D) {t : List Nat} (h0 : t ≠ []) (hn : ∀ f ∈ D, f.1 ≠ t) : ∀ f ∈ D, ¬ t <+: f.1 := by
  intro f hf hp
  have h1 := k_cin_none hw h0 (k_fi_nn.mpr hn)
  unfold k_cin at h1
  rw [List.length_eq_zero_iff, List.filter_eq_nil_iff] at h1
  refine h1 f hf ?_
  rw [Bool.and_eq_true, decide_eq_true_iff, decide_eq_true_iff]
  exact ⟨hn f hf, hp⟩
theorem k_pre_drop {m l : List Nat} (h : m <+: l) (hne : l ≠ m) : m <+: l.dropLast := by
  obtain ⟨t, ht⟩ := h
  have ht0 : t ≠ [] := fun z => hne (by rw [z, List.append_nil] at ht; exact ht.symm)
  rw [← ht, List.dropLast_append_of_ne_nil ht0]
  exact List.prefix_append _ _
theorem k_pre_eq {m l : List Nat} (h : m <+: l) : m ++ l.drop m.length = l := by
  obtain ⟨t, ht⟩ := h
  rw [← ht, List.drop_left]
/-- a move keeps what a schema is -/
theorem k_mv_wf {D : List KF} {m t : List Nat} (hw : k_wfL D) (hm0 : m ≠ []) (ht : k_ok 4 t) (ht0 : t ≠ []) (hle : t.length ≤ m.length) (hpar : t.dropLast = m.dropLast ∨ t.dropLast = m.dropLast.dropLast) (hn : ∀ f ∈ D, f.1 ≠ t) (hin : ∃ f ∈ D, f.1 = m) : k_wfL (D.map (k_mf m t)) := by
  obtain ⟨h1, h2, h3, h4, h5⟩ := hw
  have hno := k_none_in ⟨h1, h2, h3, h4, h5⟩ ht0 hn
  have inj : ∀ l1 l2 : List Nat, (∃ f ∈ D, f.1 = l1) → (∃ f ∈ D, f.1 = l2) → k_mn m t l1 = k_mn m t l2 → l1 = l2 := by
    rintro l1 l2 ⟨f1, a1, rfl⟩ ⟨f2, a2, rfl⟩ he
    unfold k_mn at he
    by_cases p1 : m <+: f1.1
    · rw [if_pos p1] at he
      by_cases p2 : m <+: f2.1
      · rw [if_pos p2] at he
        have := List.append_cancel_left he
        rw [← k_pre_eq p1, ← k_pre_eq p2, this]
      · rw [if_neg p2] at he
        exact absurd (by rw [← he]; exact List.prefix_append _ _) (hno f2 a2)
    · rw [if_neg p1] at he
      by_cases p2 : m <+: f2.1
      · rw [if_pos p2] at he
        exact absurd (by rw [he]; exact List.prefix_append _ _) (hno f1 a1)
      · rw [if_neg p2] at he
        exact he
  have unm : ∀ l : List Nat, ¬ m <+: l → k_mn m t l = l := fun l hl => by unfold k_mn; rw [if_neg hl]
  have grp : ∀ l : List Nat, k_grp D l = true → ¬ m <+: l → k_grp (D.map (k_mf m t)) l = true := by
    intro l hl hp
    rw [k_grp_iff] at hl ⊢
    rcases hl with z | ⟨f, f1, f2, f3⟩
    · exact Or.inl z
    · exact Or.inr ⟨k_mf m t f, List.mem_map.mpr ⟨f, f1, rfl⟩, by show k_mn m t f.1 = l; rw [f2]; exact unm l hp, f3⟩
  refine ⟨by rw [List.length_map]; exact h1, fun e he => ?_, ?_, fun e he => ?_, fun e he => ?_⟩
  · obtain ⟨f, hf, rfl⟩ := List.mem_map.mp he
    exact ⟨k_mn_ok ht (h2 f hf).1 hle, k_mn_ne ht0 (h2 f hf).2⟩
  · have hmap : (D.map (k_mf m t)).map (·.1) = (D.map (fun f : KF => f.1)).map (k_mn m t) := by rw [List.map_map, List.map_map]; rfl
    show ((D.map (k_mf m t)).map (·.1)).Nodup
    rw [hmap]
    refine (List.nodup_iff_pairwise_ne.mpr ?_)
    rw [List.pairwise_map]
    have h3' : (D.map (fun f : KF => f.1)).Nodup := h3
    refine (List.Pairwise.imp_of_mem ?_ h3')
    intro a b ha hb hab he
    obtain ⟨f1, q1, rfl⟩ := List.mem_map.mp ha
    obtain ⟨f2, q2, rfl⟩ := List.mem_map.mp hb
    exact hab (inj _ _ ⟨f1, q1, rfl⟩ ⟨f2, q2, rfl⟩ he)
  · obtain ⟨f, hf, rfl⟩ := List.mem_map.mp he
    show k_grp (D.map (k_mf m t)) (k_mn m t f.1).dropLast = true
    have hg := h4 f hf
    by_cases hp : m <+: f.1
    · by_cases hfm : f.1 = m
      · -- the field itself
        have e1 : k_mn m t f.1 = t := by unfold k_mn; rw [if_pos hp, hfm, List.drop_length, List.append_nil]
        rw [e1]
        have hmd : ∀ l : List Nat, l.length < m.length → ¬ m <+: l := fun l hl hq => by have := hq.length_le; omega
        have hpos := List.length_pos_iff.mpr hm0
        rw [hfm] at hg
        rcases hpar with z | z
        · rw [z]
          exact grp _ hg (hmd _ (by rw [List.length_dropLast]; omega))
        · rw [z]
          rw [k_grp_iff] at hg
          rcases hg with y | ⟨e, e1, e2, e3⟩
          · rw [y, k_grp_iff]; exact Or.inl rfl
          · have h9 := h4 e e1
            rw [e2] at h9
            exact grp _ h9 (hmd _ (by rw [List.length_dropLast, List.length_dropLast]; omega))
      · have hpd := k_pre_drop hp hfm
        have hd0 : f.1.drop m.length ≠ [] := fun z => hfm (by have := k_pre_eq hp; rw [z, List.append_nil] at this; exact this.symm)
        have e1 : (k_mn m t f.1).dropLast = k_mn m t f.1.dropLast := by
          unfold k_mn
          rw [if_pos hp, if_pos hpd, List.dropLast_append_of_ne_nil hd0]
          congr 1
          obtain ⟨r, hr⟩ := hp
          rw [← hr, List.drop_left]
          have hr0 : r ≠ [] := fun z => hfm (by rw [← hr, z, List.append_nil])
          rw [List.dropLast_append_of_ne_nil hr0, List.drop_left]
        rw [e1, k_grp_iff]
        rw [k_grp_iff] at hg
        rcases hg with y | ⟨e, e2, e3, e4⟩
        · rw [y] at hpd
          exact absurd (List.prefix_nil.mp hpd) hm0
        · exact Or.inr ⟨k_mf m t e, List.mem_map.mpr ⟨e, e2, rfl⟩, by show k_mn m t e.1 = _; rw [e3], e4⟩
    · rw [unm _ hp]
      exact grp _ hg (fun hq => hp (hq.trans (List.dropLast_prefix _)))
  · obtain ⟨f, hf, rfl⟩ := List.mem_map.mp he
    exact h5 f hf
/-- a change of one field that is no record type keeps what a schema is -/
theorem k_at_wf {D : List KF} {n : List Nat} {u : KF → KF} (hw : k_wfL D) (hu1 : ∀ f, (u f).1 = f.1) (hs : ∀ f ∈ D, f.1 = n → f.2.1 ≠ 2) (hu2 : ∀ f ∈ D, f.1 = n → k_tyo (u f)) : k_wfL (D.map (k_at n u)) := by
  obtain ⟨h1, h2, h3, h4, h5⟩ := hw
  have hn : ∀ f, (k_at n u f).1 = f.1 := fun f => by unfold k_at; split; exact hu1 f; rfl
  refine ⟨by rw [List.length_map]; exact h1, fun e he => ?_, ?_, fun e he => ?_, fun e he => ?_⟩
  · obtain ⟨f, hf, rfl⟩ := List.mem_map.mp he
    rw [hn]; exact h2 f hf
  · show ((D.map (k_at n u)).map (·.1)).Nodup
    have : (D.map (k_at n u)).map (·.1) = D.map (·.1) := by
      rw [List.map_map]
      exact List.map_congr_left (fun f _ => hn f)
    rw [this]
    exact h3
  · obtain ⟨f, hf, rfl⟩ := List.mem_map.mp he
    rw [hn]
    have := h4 f hf
    rw [k_grp_iff] at this ⊢
    rcases this with z | ⟨e, e1, e2, e3⟩
    · exact Or.inl z
    · refine Or.inr ⟨k_at n u e, List.mem_map.mpr ⟨e, e1, rfl⟩, by rw [hn]; exact e2, ?_⟩
      unfold k_at
      by_cases hen : e.1 = n
      · exact absurd e3 (hs e e1 hen)
      · rw [if_neg hen]; exact e3
  · obtain ⟨f, hf, rfl⟩ := List.mem_map.mp he
    unfold k_at
    by_cases hen : f.1 = n
    · rw [if_pos hen]; exact hu2 f hf hen
    · rw [if_neg hen]; exact h5 f hf
/-- one field more -/
theorem k_add_wf {D : List KF} {f : KF} (hw : k_wfL D) (hlt : D.length < 24) (hf : k_ok 4 f.1 ∧ f.1 ≠ []) (hn : ∀ e ∈ D, e.1 ≠ f.1) (hg : k_grp D f.1.dropLast = true) (ht : k_tyo f) : k_wfL (D ++ [f]) := by
  obtain ⟨h1, h2, h3, h4, h5⟩ := hw
  have gm : ∀ l, k_grp D l = true → k_grp (D ++ [f]) l = true := fun l hl => by
    rw [k_grp_iff] at hl ⊢
    rcases hl with z | ⟨e, e1, e2⟩
    · exact Or.inl z
    · exact Or.inr ⟨e, List.mem_append_left _ e1, e2⟩
  refine ⟨by rw [List.length_append]; show D.length + 1 ≤ 24; omega, fun e he => ?_, ?_, fun e he => ?_, fun e he => ?_⟩
  · rcases List.mem_append.mp he with he | he
    · exact h2 e he
    · rw [List.mem_singleton.mp he]; exact hf
  · have : k_dis (f :: D) := List.nodup_cons.mpr ⟨fun z => by
      obtain ⟨e, e1, e2⟩ := List.mem_map.mp z
      exact hn e e1 e2, h3⟩
    exact this.perm (List.perm_append_singleton f D)
  · rcases List.mem_append.mp he with he | he
    · exact gm _ (h4 e he)
    · rw [List.mem_singleton.mp he]; exact gm _ hg
  · rcases List.mem_append.mp he with he | he
    · exact h5 e he
    · rw [List.mem_singleton.mp he]; exact ht
theorem k_uniq {D : List KF} (hd : k_dis D) {f e : KF} (hf : f ∈ D) (he : e ∈ D) (h : f.1 = e.1) : f = e := by
  obtain ⟨i, hi⟩ := List.mem_iff_getElem?.mp hf
  obtain ⟨j, hj⟩ := List.mem_iff_getElem?.mp he
  have h1 := k_fi_at hd hi
  have h2 := k_fi_at hd hj
  rw [h, h2] at h1
  cases h1
  exact Option.some.inj (hi.symm.trans hj)
