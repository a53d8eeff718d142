/-! end: both sides together -/
section EndX
variable {g : q_G} {b x L n sz : Nat} {f : Int32 → Int32} {T : q_T} {I : q_I} {R : q_R} {J : q_J} {S : KA}
theorem k_pat_app {ss : List KS} {st : KS} {k : Nat} {K : KK} (h : k_kok (k_pat ss k) K) : k_kok (k_pat (ss ++ [st]) k) K := by
  by_cases hk : k / 8 < ss.length
  · have : k_pat (ss ++ [st]) k = k_pat ss k := by
      unfold k_pat
      rw [List.getElem?_append_left hk]
    rw [this]; exact h
  · have : k_pat ss k = none := by
      unfold k_pat
      rw [List.getElem?_eq_none (by omega)]; rfl
    rw [this] at h
    rcases h with h | ⟨p, hp, -⟩
    · exact Or.inl h
    · cases hp
theorem k_srt_rs {D : List KF} (h : k_srt D) : k_srt (k_rs 0 D) := by
  refine k_srt_nm (L := D) ?_ h
  refine List.ext_getElem? fun j => ?_
  show ((k_rs 0 D).map (fun q : KF => q.1))[j]? = (D.map (fun q : KF => q.1))[j]?
  rw [List.getElem?_map, List.getElem?_map, k_rs_at]
  cases D[j]? <;> rfl
theorem k_st_rs (D : List KF) : (k_rs 0 D).map k_st = D.map k_st := by
  refine List.ext_getElem? fun j => ?_
  rw [List.getElem?_map, List.getElem?_map, k_rs_at]
  cases D[j]? <;> rfl
theorem wf.endS (hw : wf S) (ho : S.op = true) {vs : List (List KF)} {to : Nat} {L : List KF} (hv : S.vs[S.df]? = some L) (h1 : ∀ (v : Nat) (Lv : List KF), S.vs[v]? = some Lv → vs[v]? = some Lv) (h2 : S.vs.length ≤ vs.length) (h8 : vs.length ≤ 8) (h3 : ∀ Lv ∈ vs, k_wfV Lv) (h16 : S.ss.length < 16) (hto : to < vs.length) (hne : S.df ≠ to) (hlk : ∀ L2, vs[to]? = some L2 → S.dD.map k_st = L2.map k_st) : wf ((S.grow vs (S.ss ++ [(S.df, to, S.dp, L.length, S.dD.map (·.2.2.2.2))])).leave) := by
  obtain ⟨w1, w2, w3⟩ := hw.2.2.1 ho
  have hat : ∀ (v : Nat) (Lv : List KF), v < S.vs.length → vs[v]? = some Lv → S.vs[v]? = some Lv := fun v Lv hv hL => by
    obtain ⟨L9, h9⟩ : ∃ L9, S.vs[v]? = some L9 := ⟨_, List.getElem?_eq_getElem hv⟩
    rw [h1 v L9 h9] at hL
    rw [h9]; exact hL
  refine ⟨⟨by have := hw.1.1; show 1 ≤ vs.length; omega, h8, h3⟩, ⟨?_, fun st hst => ?_⟩, fun z => (by cases z), fun h c hh hc => ?_, fun hb => ?_⟩
  · show (S.ss ++ [_]).length ≤ 16
    rw [List.length_append]; show S.ss.length + 1 ≤ 16; omega
  · rcases List.mem_append.mp (show st ∈ S.ss ++ [_] from hst) with hst | hst
    · obtain ⟨a1, a2, a3, a4, a5⟩ := hw.2.1.2 st hst
      exact ⟨Nat.lt_of_lt_of_le a1 h2, Nat.lt_of_lt_of_le a2 h2, a3, a4, fun L1 L2 hL1 hL2 => a5 L1 L2 (hat _ _ a1 hL1) (hat _ _ a2 hL2)⟩
    · rw [List.mem_singleton.mp hst]
      refine ⟨Nat.lt_of_lt_of_le w1 h2, hto, hne, w2, fun L1 L2 hL1 hL2 => ?_⟩
      have e1 : S.vs[S.df]? = some L1 := hat _ _ w1 hL1
      rw [hv] at e1
      cases e1
      obtain ⟨c1, c2, c3, c4, c5⟩ := w3 L hv
      have h24 := (hw.1.2.2 L (List.mem_of_getElem? hv)).1.1
      have hdn : S.dn ≤ 32 := by omega
      refine ⟨rfl, c1, ⟨fun e he => Nat.lt_of_lt_of_le (c2.1 e he) hdn, fun p hp => ⟨Nat.lt_of_lt_of_le (c2.2 p hp).1 hdn, fun z => Nat.lt_of_lt_of_le ((c2.2 p hp).2 z) hdn⟩⟩, S.dD, c4, hlk L2 hL2, rfl⟩
  · obtain ⟨a1, a2, a3⟩ := hw.2.2.2.1 h c hh hc
    exact ⟨Nat.lt_of_lt_of_le a1 h2, fun L2 hL2 => a2 L2 (hat _ _ a1 hL2), fun k hk => k_pat_app (a3 k hk)⟩
  · have := (hw.2.2.2.2 hb).2.2.1
    rw [ho] at this; cases this
theorem x_end (hI : q_INV b x L f (n + 1) sz T I R) (p0 : Int32) : q_gi g b x L f n sz T I R J M_Lens_end M_Model_end [.int p0] [0, 2, 1, 3] := by
  refine q_glue1 hI fun S hw hC hM => ?_
  cases ho : S.op with
  | false => exact ⟨_, c_Lens_end_no hC ho, hw, fun _ _ _ _ _ hm => c_Model_end_no hm ho⟩
  | true =>
    have hw8 := hw.1.2.1
    have hw16 := hw.2.1.1
    obtain ⟨w1, w2, w3⟩ := hw.2.2.1 ho
    obtain ⟨e1, e2, e3⟩ := hw.draft ho
    obtain ⟨Lv, hv⟩ : ∃ Lv, S.vs[S.df]? = some Lv := ⟨_, List.getElem?_eq_getElem w1⟩
    by_cases hbad : p0 ≠ -1 ∧ k_bel S.vs.length p0 = false
    · exact ⟨_, c_Lens_end_no2 hC ho hbad.1 hbad.2, hw, fun _ _ _ _ _ hm => c_Model_end_no2 hw hm ho hbad.1 hbad.2⟩
    have hcs : p0 = -1 ∨ ∃ v L2, p0 = nI v ∧ S.vs[v]? = some L2 := by
      by_cases h1 : p0 = -1
      · exact Or.inl h1
      · right
        have hb : k_bel S.vs.length p0 = true := by
          cases hb : k_bel S.vs.length p0 with
          | true => rfl
          | false => exact absurd ⟨h1, hb⟩ hbad
        obtain ⟨j, j1, rfl⟩ := k_bel_of (by omega) hb
        exact ⟨j, _, rfl, List.getElem?_eq_getElem j1⟩
    have good : (p0 = -1 ∨ ∃ v L2, p0 = nI v ∧ S.vs[v]? = some L2 ∧ v ≠ S.df ∧ L2.map k_st = S.dD.map k_st) → ∃ o : KO, q_C g M_Lens_end ([.ref x] ++ [.int p0]) (sz, T, I, R, J) 1000 14000 (q_Xi [0, 2, 1, 3] (c_sp x sz T I R J o)) ∧ wf o.2.2 ∧ ∀ (sz1 : Nat) (T1 : q_T) (I1 : q_I) (R1 : q_R) (J1 : q_J), relM S (x + 83) T1 I1 R1 → q_Ci g M_Model_end ([.ref (x + 83)] ++ [.int p0]) (sz1, T1, I1, R1, J1) 0 0 (m_spm (x + 83) sz1 T1 I1 R1 J1 o) := by
      intro hto
      by_cases hf : (p0 = -1 ∧ S.vs.length = 8) ∨ S.ss.length = 16
      · exact ⟨_, c_Lens_end_no4 hw hC ho hto hf, hw, fun _ _ _ _ _ hm => c_Model_end_no4 hw hm ho hto hf⟩
      have hf1 : ¬ (p0 = -1 ∧ S.vs.length = 8) := fun z => hf (Or.inl z)
      have hf2 : S.ss.length ≠ 16 := fun z => hf (Or.inr z)
      refine ⟨_, c_Lens_end hw hC ho hto hf1 hf2 hv, ?_, fun _ _ _ _ _ hm => c_Model_end hw hm ho hto hf1 hf2 hv⟩
      rcases hto with rfl | ⟨v, L2, rfl, hv2, hne, hlk⟩
      · have hf8 : S.vs.length ≠ 8 := fun z => hf1 ⟨rfl, z⟩
        rw [if_pos rfl]
        show wf ((S.grow (S.vs ++ [k_rs 0 S.dD]) (S.ss ++ [(S.df, S.vs.length, S.dp, Lv.length, S.dD.map (·.2.2.2.2))])).leave)
        have hlen : (S.vs ++ [k_rs 0 S.dD]).length = S.vs.length + 1 := by rw [List.length_append]; rfl
        refine hw.endS ho hv (fun v L9 h9 => ?_) (by omega) (by omega) (fun L9 h9 => ?_) (by omega) (by omega) (by omega) (fun L9 h9 => ?_)
        · rw [List.getElem?_append_left (List.getElem?_eq_some_iff.mp h9).1]; exact h9
        · rcases List.mem_append.mp h9 with h9 | h9
          · exact hw.1.2.2 L9 h9
          · rw [List.mem_singleton.mp h9]
            exact ⟨k_rs_wf e1, k_srt_rs e2⟩
        · rcases k_app_at h9 with ⟨v1, -⟩ | ⟨-, v2⟩
          · exact absurd v1 (Nat.lt_irrefl _)
          · rw [← v2, k_st_rs]
      · have hvl := (List.getElem?_eq_some_iff.mp hv2).1
        rw [if_neg (nI_m1 (by omega)), nI_clamp (by omega)]
        exact hw.endS ho hv (fun _ _ z => z) (Nat.le_refl _) hw8 hw.1.2.2 (by omega) hvl (fun z => hne z.symm) (fun L9 h9 => by rw [hv2] at h9; cases h9; exact hlk.symm)
    rcases hcs with h1 | ⟨v, L2, rfl, hv2⟩
    · exact good (Or.inl h1)
    · by_cases hb : v = S.df ∨ L2.map k_st ≠ S.dD.map k_st
      · exact ⟨_, c_Lens_end_no3 hw hC ho hv2 hb, hw, fun _ _ _ _ _ hm => c_Model_end_no3 hw hm ho hv2 hb⟩
      · exact good (Or.inr ⟨v, L2, rfl, hv2, fun z => hb (Or.inl z), Classical.not_not.mp fun z => hb (Or.inr z)⟩)
end EndX
