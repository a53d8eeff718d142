/-! translate: a way, by the class -/
section Way
variable {g : q_G} {x sz c r : Nat} {T : q_T} {I : q_I} {R : q_R} {J : q_J} {S : KA}
theorem t_fws_ok : ∀ {ps : List KP} {D : List KF} {b : Nat} {X : KV}, k_wfL D → k_nds D → k_chn D ps → k_hv D X.1 → (∀ j p, ps[j]? = some p → k_kok (some p) (X.2.1 (b + j))) → k_hv (k_fws D ps) (t_fws b ps X).1 ∧ (∀ j p, ps[j]? = some p → k_kok (some p) ((t_fws b ps X).2.1 (b + j))) ∧ ∀ j, j < b ∨ b + ps.length ≤ j → (t_fws b ps X).2.1 j = X.2.1 j
  | [], _, _, _, _, _, _, h, hk => ⟨h, hk, fun _ _ => rfl⟩
  | p :: t, D, b, X, hw, hn, hc, h, hk => by
    obtain ⟨o1, o2⟩ := t_fw_ok hw hn hc.1 h (hk 0 p rfl)
    obtain ⟨a1, a2, a3⟩ := t_fws_ok (b := b + 1) (X := t_go true p b X) (k_fw_wf hw hc.1) (k_fw_nds hn hc.1) hc.2 o1 (fun j q hq => by
      rw [t_go_oth (by omega), show b + 1 + j = b + (j + 1) by omega]
      exact hk (j + 1) q hq)
    refine ⟨a1, fun j q hq => ?_, fun j hj => ?_⟩
    · cases j with
      | zero =>
        have : p = q := Option.some.inj hq
        subst this
        show k_kok (some p) ((t_fws (b + 1) t (t_go true p b X)).2.1 (b + 0))
        rw [a3 (b + 0) (by omega)]
        exact o2
      | succ j =>
        have := a2 j q hq
        rw [show b + 1 + j = b + (j + 1) by omega] at this
        exact this
    · rw [List.length_cons] at hj
      show (t_fws (b + 1) t (t_go true p b X)).2.1 j = X.2.1 j
      rw [a3 j (by omega), t_go_oth (by omega)]
theorem t_bks_ok : ∀ {ps : List KP} {D : List KF} {b : Nat} {X : KV}, k_wfL D → k_nds D → k_chn D ps → k_hv (k_fws D ps) X.1 → (∀ j p, ps[j]? = some p → k_kok (some p) (X.2.1 (b + j))) → k_hv D (t_bks b ps X).1 ∧ (∀ j p, ps[j]? = some p → k_kok (some p) ((t_bks b ps X).2.1 (b + j))) ∧ ∀ j, j < b ∨ b + ps.length ≤ j → (t_bks b ps X).2.1 j = X.2.1 j
  | [], _, _, _, _, _, _, h, hk => ⟨h, hk, fun _ _ => rfl⟩
  | p :: t, D, b, X, hw, hn, hc, h, hk => by
    obtain ⟨a1, a2, a3⟩ := t_bks_ok (b := b + 1) (X := X) (k_fw_wf hw hc.1) (k_fw_nds hn hc.1) hc.2 h (fun j q hq => by
      rw [show b + 1 + j = b + (j + 1) by omega]
      exact hk (j + 1) q hq)
    obtain ⟨o1, o2⟩ := t_bk_ok (k := b) (X := t_bks (b + 1) t X) hw hn hc.1 a1 (by rw [a3 b (by omega)]; exact hk 0 p rfl)
    refine ⟨o1, fun j q hq => ?_, fun j hj => ?_⟩
    · cases j with
      | zero =>
        have : p = q := Option.some.inj hq
        subst this
        exact o2
      | succ j =>
        show k_kok (some q) ((t_go false p b (t_bks (b + 1) t X)).2.1 (b + (j + 1)))
        rw [t_go_oth (by omega)]
        have := a2 j q hq
        rw [show b + 1 + j = b + (j + 1) by omega] at this
        exact this
    · rw [List.length_cons] at hj
      show (t_go false p b (t_bks (b + 1) t X)).2.1 j = X.2.1 j
      rw [t_go_oth (by omega), a3 j (by omega)]
theorem k_rs_sl : ∀ (L : List KF) (i : Nat), (k_rs i L).map (·.2.2.2.2) = List.range' i L.length
  | [], _ => rfl
  | f :: t, i => by
    show i :: (k_rs (i + 1) t).map (·.2.2.2.2) = i :: List.range' (i + 1) t.length
    rw [k_rs_sl t (i + 1)]
theorem k_rs_nds (L : List KF) : k_nds (k_rs 0 L) := by
  unfold k_nds
  rw [k_rs_sl]; exact List.nodup_range'
/-- a step that stands is in order -/
theorem wf.stp (hw : wf S) {i : Nat} {st : KS} {L L2 : List KF} (hi : S.ss[i]? = some st) (hL : S.vs[st.fr]? = some L) (hL2 : S.vs[st.to]? = some L2) : ∃ E, s_ok st (k_rs 0 L) E ∧ E.map k_st = L2.map k_st := by
  obtain ⟨a1, a2, a3, a4, a5⟩ := hw.2.1.2 st (List.mem_of_getElem? hi)
  obtain ⟨b1, b2, b3, E, b4, b5, b6⟩ := a5 L L2 hL hL2
  refine ⟨E, ⟨k_rs_wf (hw.1.2.2 L (List.mem_of_getElem? hL)).1, k_rs_nds L, b2, a4, ?_, b4, b6, b3⟩, b5⟩
  rw [k_rs_sl, b1, List.range_eq_range']
def s_G (fw : Bool) (L E : List KF) : List KF := if fw = true then k_rs 0 L else E
def s_L (fw : Bool) (L L2 : List KF) : List KF := if fw = true then L else L2
theorem s_G_in {st : KS} {L E : List KF} {fw : Bool} (h : s_ok st (k_rs 0 L) E) : s_in fw st = (s_G fw L E).map (·.2.2.2.2) := by
  unfold s_in s_G
  cases fw with
  | true => rw [if_pos rfl, if_pos rfl, h.2.2.2.2.1]
  | false => rw [if_neg (by decide), if_neg (by decide), h.2.2.2.2.2.2.1]
theorem s_G_st {L E L2 : List KF} {fw : Bool} (h : E.map k_st = L2.map k_st) : (s_G fw L E).map k_st = (s_L fw L L2).map k_st := by
  unfold s_G s_L
  cases fw with
  | true => rw [if_pos rfl, if_pos rfl, k_st_rs]
  | false => rw [if_neg (by decide), if_neg (by decide), h]
theorem s_G_so {L E L2 : List KF} {fw : Bool} (h : E.map k_st = L2.map k_st) {a : Nat} {e : KF} (he : (s_G fw L E)[a]? = some e) : ∃ f, (s_L fw L L2)[a]? = some f ∧ k_st f = k_st e := by
  have := congrArg (·[a]?) (s_G_st (L := L) (fw := fw) h)
  simp only [List.getElem?_map, he, Option.map_some] at this
  cases hf : (s_L fw L L2)[a]? with
  | none => rw [hf] at this; cases this
  | some f => rw [hf] at this; exact ⟨f, rfl, (Option.some.inj this).symm⟩
theorem s_G_len {L E L2 : List KF} {fw : Bool} (h : E.map k_st = L2.map k_st) : (s_G fw L E).length = (s_L fw L L2).length := by
  have := congrArg List.length (s_G_st (L := L) (fw := fw) h)
  rw [List.length_map, List.length_map] at this
  exact this
theorem w_in {st : KS} {L E L2 : List KF} {fw : Bool} {val : List (List Int32)} (h : s_ok st (k_rs 0 L) E) (hE : E.map k_st = L2.map k_st) (h1 : val.length = (s_L fw L L2).length) (h2 : ∀ (a : Nat) (f : KF) (v : List Int32), (s_L fw L L2)[a]? = some f → val[a]? = some v → k_shp f.2.1 v) : val.length = (s_in fw st).length ∧ k_hv (if fw = true then k_rs 0 L else k_fws (k_rs 0 L) st.pr) (a_ld fw st val) := by
  have e1 := s_G_in (fw := fw) h
  have e2 : val.length = (s_in fw st).length := by rw [e1, List.length_map, s_G_len hE, h1]
  refine ⟨e2, ?_⟩
  have key : k_hv (s_G fw L E) (a_ld fw st val) := fun e he => by
    obtain ⟨a, ha⟩ := List.getElem?_of_mem he
    obtain ⟨f, f1, f2⟩ := s_G_so (L := L) hE ha
    have hs : (s_in fw st)[a]? = some e.2.2.2.2 := by rw [e1, List.getElem?_map, ha]; rfl
    obtain ⟨v, hv⟩ : ∃ v, val[a]? = some v := ⟨_, List.getElem?_eq_getElem (by rw [e2]; exact (List.getElem?_eq_some_iff.mp hs).1)⟩
    rw [a_ld_at h hs hv]
    have := h2 a f v f1 hv
    rw [show f.2.1 = e.2.1 from (Prod.mk.inj (Prod.mk.inj f2).2).1] at this
    exact this
  cases fw with
  | true => exact key
  | false => exact fun f hf => key f (h.2.2.2.2.2.1.mem_iff.mpr hf)
theorem w_out {st : KS} {L E L2 : List KF} {fw : Bool} {V : Nat → List Int32} (h : s_ok st (k_rs 0 L) E) (hE : E.map k_st = L2.map k_st) (hV : k_hv (s_G fw L E) V) : ((s_in fw st).map V).length = (s_L fw L L2).length ∧ ∀ (a : Nat) (f : KF) (v : List Int32), (s_L fw L L2)[a]? = some f → ((s_in fw st).map V)[a]? = some v → k_shp f.2.1 v := by
  have e1 := s_G_in (fw := fw) h
  refine ⟨by rw [List.length_map, e1, List.length_map, s_G_len hE], fun a f v hf hv => ?_⟩
  have hl : a < (s_G fw L E).length := by rw [s_G_len hE]; exact (List.getElem?_eq_some_iff.mp hf).1
  obtain ⟨e, he⟩ : ∃ e, (s_G fw L E)[a]? = some e := ⟨_, List.getElem?_eq_getElem hl⟩
  obtain ⟨f', f1, f2⟩ := s_G_so (L := L) hE he
  have : f' = f := Option.some.inj (f1.symm.trans hf)
  subst this
  rw [List.getElem?_map, e1, List.getElem?_map, he] at hv
  have hv2 : V e.2.2.2.2 = v := Option.some.inj hv
  rw [← hv2, show f'.2.1 = e.2.1 from (Prod.mk.inj (Prod.mk.inj f2).2).1]
  exact hV e (List.mem_of_getElem? he)
theorem k_pat_at {ss : List KS} {i j : Nat} {st : KS} {p : KP} (hi : ss[i]? = some st) (hj : j < 8) (hp : st.pr[j]? = some p) : k_pat ss (8 * i + j) = some p := by
  unfold k_pat
  rw [show (8 * i + j) / 8 = i by omega, show (8 * i + j) % 8 = j by omega, hi]
  exact hp
/-- where a step goes out and in -/
def s_u (fw : Bool) (st : KS) : Nat := if fw = true then st.fr else st.to
theorem a_st_ok (hw : wf S) {i : Nat} {st : KS} {fw : Bool} {Y : KY} (hi : S.ss[i]? = some st) (h : w_rec S.vs S.ss (s_u fw st, Y.1, Y.2.1)) : w_rec S.vs S.ss (s_u (!fw) st, (a_st fw i st Y).1, (a_st fw i st Y).2.1) := by
  have hi16 : i < 16 := by have := (List.getElem?_eq_some_iff.mp hi).1; have := hw.2.1.1; omega
  obtain ⟨a1, a2, a3, a4, -⟩ := hw.2.1.2 st (List.mem_of_getElem? hi)
  obtain ⟨L, hL⟩ : ∃ L, S.vs[st.fr]? = some L := ⟨_, List.getElem?_eq_getElem a1⟩
  obtain ⟨L2, hL2⟩ : ∃ L2, S.vs[st.to]? = some L2 := ⟨_, List.getElem?_eq_getElem a2⟩
  obtain ⟨E, hs, hE⟩ := hw.stp hi hL hL2
  obtain ⟨w1, w2, w3⟩ := h
  have eL : ∀ fw : Bool, S.vs[s_u fw st]? = some (s_L fw L L2) := fun fw => by
    unfold s_u s_L
    cases fw with
    | true => exact hL
    | false => exact hL2
  obtain ⟨u1, u2⟩ := w2 _ (eL fw)
  obtain ⟨v1, v2⟩ := w_in hs hE u1 u2
  have hK : ∀ j p, st.pr[j]? = some p → k_kok (some p) (Y.2.1 (8 * i + j)) := fun j p hp => by
    have hj := (List.getElem?_eq_some_iff.mp hp).1
    have := w3 (8 * i + j) (by omega)
    rw [k_pat_at hi (by omega) hp] at this
    exact this
  have key : k_hv (s_G (!fw) L E) (t_run fw (8 * i) st.pr (a_ld fw st Y.1, Y.2.1, Y.2.2)).1 ∧ (∀ j p, st.pr[j]? = some p → k_kok (some p) ((t_run fw (8 * i) st.pr (a_ld fw st Y.1, Y.2.1, Y.2.2)).2.1 (8 * i + j))) ∧ ∀ j, j < 8 * i ∨ 8 * i + st.pr.length ≤ j → (t_run fw (8 * i) st.pr (a_ld fw st Y.1, Y.2.1, Y.2.2)).2.1 j = Y.2.1 j := by
    cases fw with
    | true =>
      obtain ⟨k1, k2⟩ := t_fws_ok (b := 8 * i) (X := (a_ld true st Y.1, Y.2.1, Y.2.2)) hs.1 hs.2.1 hs.2.2.1 v2 hK
      exact ⟨fun f hf => k1 f (hs.2.2.2.2.2.1.mem_iff.mp hf), k2⟩
    | false =>
      obtain ⟨k1, k2⟩ := t_bks_ok (b := 8 * i) (X := (a_ld false st Y.1, Y.2.1, Y.2.2)) hs.1 hs.2.1 hs.2.2.1 v2 hK
      exact ⟨k1, k2⟩
  obtain ⟨k1, k2, k3⟩ := key
  obtain ⟨o1, o2⟩ := w_out hs hE k1
  refine ⟨(List.getElem?_eq_some_iff.mp (eL (!fw))).1, fun L' hL' => ?_, fun k hk => ?_⟩
  · rw [← Option.some.inj ((eL (!fw)).symm.trans hL')]
    exact ⟨o1, o2⟩
  · show k_kok (k_pat S.ss k) ((t_run fw (8 * i) st.pr (a_ld fw st Y.1, Y.2.1, Y.2.2)).2.1 k)
    by_cases hin : k < 8 * i ∨ 8 * i + st.pr.length ≤ k
    · rw [k3 k hin]; exact w3 k hk
    · have hj : k - 8 * i < st.pr.length := by omega
      have e := k2 (k - 8 * i) _ (List.getElem?_eq_getElem hj)
      have e2 := k_pat_at hi (by omega) (List.getElem?_eq_getElem hj)
      rw [show 8 * i + (k - 8 * i) = k by omega] at e e2
      rw [e2]; exact e
theorem t_run_can {fw : Bool} {b : Nat} {ps : List KP} {X : KV} (h : X.2.2 = true) : (t_run fw b ps X).2.2 = true := by
  unfold t_run
  split
  · exact t_fws_can _ _ _ h
  · exact t_bks_can _ _ _ h
/-- a way on a record -/
def a_s1 (ss : List KS) (u w : Nat) (Y : KY) : KY := match k_fst ss (-1) u w with
  | some s => (match ss[s]? with | some st => a_st (decide (st.fr = u)) s st Y | none => Y)
  | none => Y
def a_go (ss : List KS) : List Nat → KY → KY
  | [], Y => Y
  | [_], Y => Y
  | u :: w :: t, Y => a_go ss (w :: t) (a_s1 ss u w Y)
theorem a_s1_can {ss : List KS} {u w : Nat} {Y : KY} (h : Y.2.2 = true) : (a_s1 ss u w Y).2.2 = true := by
  unfold a_s1
  split
  · split
    · exact t_run_can h
    · exact h
  · exact h
theorem a_go_can {ss : List KS} : ∀ (l : List Nat) (Y : KY), Y.2.2 = true → (a_go ss l Y).2.2 = true
  | [], _, h => h
  | [_], _, h => h
  | u :: w :: t, Y, h => a_go_can (w :: t) _ (a_s1_can h)
theorem k_fst_st {ss : List KS} {wo : Int32} {u w s : Nat} (h : k_fst ss wo u w = some s) : ∃ st, ss[s]? = some st ∧ s_u (decide (st.fr = u)) st = u ∧ s_u (!decide (st.fr = u)) st = w ∧ s < ss.length := by
  have hs := k_fst_lt h
  unfold k_fst at h
  have hb := (k_lst_some h).2.2.1
  obtain ⟨st, hst⟩ : ∃ st, ss[s]? = some st := ⟨_, List.getElem?_eq_getElem hs⟩
  unfold k_jn at hb
  rw [hst] at hb
  rw [Bool.and_eq_true, decide_eq_true_iff] at hb
  refine ⟨st, hst, ?_, ?_, hs⟩
  · unfold s_u
    by_cases e : st.fr = u
    · rw [decide_eq_true e, if_pos rfl]; exact e
    · rw [decide_eq_false e, if_neg (by decide)]; omega
  · unfold s_u
    by_cases e : st.fr = u
    · rw [decide_eq_true e, if_neg (by decide)]; omega
    · rw [decide_eq_false e, if_pos (by decide)]; omega
end Way
