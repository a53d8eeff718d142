/-! translate, by the reference: the route -/
section MRoute
variable {g : q_G} {sz m : Nat} {T : q_T} {I : q_I} {R : q_R} {J : q_J} {M D : List KF} {X : KV} {S : KA}
/-- the primitives of a step, one after the other -/
theorem q_goInner {s n kk : Nat} {fw : Bool} {Θ : Nat → q_I → Prop} {Q : q_O → q_H → Prop} (hL : q_L 11 t_Model m T R) (hn : n ≤ 8) (hs : s < 16) (hsz : ∀ j I1, Θ j I1 → I1 (m + 8) (nI s) = nI n) (hf : fw = true → ∀ j I1, j < n → Θ j I1 → q_Cv g M_Model_forth [.ref m, .int (nI s), .int (nI j)] (sz, T, I1, R, J) 0 0 (fun h' => ∃ I' : q_I, h' = (sz, T, I', R, J) ∧ Θ (j + 1) I')) (hb : fw = false → ∀ j I1, j < n → Θ j I1 → q_Cv g M_Model_back [.ref m, .int (nI s), .int (nI (n - 1 - j))] (sz, T, I1, R, J) 0 0 (fun h' => ∃ I' : q_I, h' = (sz, T, I', R, J) ∧ Θ (j + 1) I')) (ho : ∀ I1, Θ n I1 → q_V g M_Model_goRoute 0 0 0 0 (sz, T, I1, R, J) Q 90 [some (.ref m), some (.int (nI kk)), some (.int (nI s)), some (.int (p_b fw)), some (.int (nI n))] []) : ∀ (d j : Nat) (I1 : q_I), j + d = n → Θ j I1 → q_V g M_Model_goRoute 0 0 0 0 (sz, T, I1, R, J) Q 43 [some (.ref m), some (.int (nI kk)), some (.int (nI s)), some (.int (p_b fw)), some (.int (nI j))] [] := by
  intro d
  induction d with
  | zero =>
    intro j I1 hj hT
    obtain rfl : j = n := by omega
    refine q_iload d_Model_goRoute_43 rfl ?_
    refine q_aload_n d_Model_goRoute_45 rfl rfl ?_
    refine q_getR (ci := 11) (fk := 11) d_Model_goRoute_46 rfl (Nat.le_of_ble_eq_true rfl) w_1115 (fun _ _ => rfl) hL.1 (hL.2 11 _ _ _ rfl).1 ?_
    refine q_iload_n d_Model_goRoute_49 rfl rfl ?_
    refine q_iald d_Model_goRoute_50 (hL.2 11 _ _ _ rfl).2 (by first | assumption | exact vp_in_nI (by omega) (by omega)) ?_
    rw [hsz j I1 hT]
    refine q_icmp_ge (tgt := 90) d_Model_goRoute_51 rfl (fun hc => ?_) (fun hc => ?_)
    · exact ho I1 hT
    · exact absurd (Int32.le_refl _) hc
  | succ d ih =>
    intro j I1 hj hT
    refine q_iload d_Model_goRoute_43 rfl ?_
    refine q_aload_n d_Model_goRoute_45 rfl rfl ?_
    refine q_getR (ci := 11) (fk := 11) d_Model_goRoute_46 rfl (Nat.le_of_ble_eq_true rfl) w_1115 (fun _ _ => rfl) hL.1 (hL.2 11 _ _ _ rfl).1 ?_
    refine q_iload_n d_Model_goRoute_49 rfl rfl ?_
    refine q_iald d_Model_goRoute_50 (hL.2 11 _ _ _ rfl).2 (by first | assumption | exact vp_in_nI (by omega) (by omega)) ?_
    rw [hsz j I1 hT]
    refine q_icmp_ge (tgt := 90) d_Model_goRoute_51 rfl (fun hc => ?_) (fun hc => ?_)
    · rw [nI_leI (by omega) (by omega)] at hc
      omega
    cases fw with
    | true =>
      refine q_iload_n d_Model_goRoute_54 rfl rfl ?_
      refine q_if_eq (tgt := 68) d_Model_goRoute_55 rfl (fun hc => ?_) (fun hc => ?_)
      · exact absurd hc (by decide)
      refine q_aload_n d_Model_goRoute_58 rfl rfl ?_
      refine q_iload_n d_Model_goRoute_59 rfl rfl ?_
      refine q_iload d_Model_goRoute_60 rfl ?_
      refine q_callVv (M2 := M_Model_forth) d_Model_goRoute_62 ⟨(Nat.le_of_ble_eq_true rfl), (Nat.le_of_ble_eq_true rfl), w_1293, w_10, ⟨by decide, by decide⟩, show _ = some 2 by decide +kernel⟩ w_1290 w_1292 (ci := 11) rfl s_57 hL.1 rfl (Nat.le_of_ble_eq_true rfl) (by omega) (by omega) (hf rfl j I1 (by omega) hT) ?_
      rintro _ ⟨I2, rfl, hT2⟩
      refine q_goto (tgt := 84) d_Model_goRoute_65 rfl ?_
      first | refine q_iincN d_Model_goRoute_84 rfl (Nat.le_of_ble_eq_true rfl) (by first | exact q_ok0 | exact q_okI rfl | exact q_okR rfl | exact q_okN rfl) rfl ?_ | refine q_iinc d_Model_goRoute_84 rfl rfl (Nat.le_of_ble_eq_true rfl) (by first | exact q_ok0 | exact q_okI rfl | exact q_okR rfl | exact q_okN rfl) rfl ?_
      refine q_goto (tgt := 43) d_Model_goRoute_87 rfl ?_
      exact ih (j + 1) I2 (by omega) hT2
    | false =>
      refine q_iload_n d_Model_goRoute_54 rfl rfl ?_
      refine q_if_eq (tgt := 68) d_Model_goRoute_55 rfl (fun hc => ?_) (fun hc => ?_)
      rotate_left
      · exact absurd rfl hc
      refine q_aload_n d_Model_goRoute_68 rfl rfl ?_
      refine q_iload_n d_Model_goRoute_69 rfl rfl ?_
      refine q_aload_n d_Model_goRoute_70 rfl rfl ?_
      refine q_getR (ci := 11) (fk := 11) d_Model_goRoute_71 rfl (Nat.le_of_ble_eq_true rfl) w_1115 (fun _ _ => rfl) hL.1 (hL.2 11 _ _ _ rfl).1 ?_
      refine q_iload_n d_Model_goRoute_74 rfl rfl ?_
      refine q_iald d_Model_goRoute_75 (hL.2 11 _ _ _ rfl).2 (by first | assumption | exact vp_in_nI (by omega) (by omega)) ?_
      rw [hsz j I1 hT]
      refine q_iconst (v := nI 1) d_Model_goRoute_76 (by decide) ?_
      refine q_isub d_Model_goRoute_77 ?_
      rw [show n = n - 1 + 1 by omega, nI_sb (n - 1) 1]
      refine q_iload d_Model_goRoute_78 rfl ?_
      refine q_isub d_Model_goRoute_80 ?_
      rw [show n - 1 = n - 1 - j + j by omega, nI_sb (n - 1 - j) j]
      have hbb := hb rfl j I1 (by omega) hT
      refine q_callVv (M2 := M_Model_back) d_Model_goRoute_81 ⟨(Nat.le_of_ble_eq_true rfl), (Nat.le_of_ble_eq_true rfl), w_1493, w_10, ⟨by decide, by decide⟩, show _ = some 2 by decide +kernel⟩ w_1490 w_1492 (ci := 11) rfl s_82 hL.1 rfl (Nat.le_of_ble_eq_true rfl) (by omega) (by omega) (hbb) ?_
      rintro _ ⟨I2, rfl, hT2⟩
      first | refine q_iincN d_Model_goRoute_84 rfl (Nat.le_of_ble_eq_true rfl) (by first | exact q_ok0 | exact q_okI rfl | exact q_okR rfl | exact q_okN rfl) rfl ?_ | refine q_iinc d_Model_goRoute_84 rfl rfl (Nat.le_of_ble_eq_true rfl) (by first | exact q_ok0 | exact q_okI rfl | exact q_okR rfl | exact q_okN rfl) rfl ?_
      refine q_goto (tgt := 43) d_Model_goRoute_87 rfl ?_
      exact ih (j + 1) I2 (by omega) hT2
def k_vv (val : List (List Int32)) : Nat → List Int32 := fun s => val.getD s []
theorem k_map_mw {u : KF → KF} (h : k_mw m M I) (hu : ∀ f ∈ M, k_st (u f) = k_st f) : k_mw m (M.map u) I := by
  obtain ⟨a1, a2, a3⟩ := h
  refine ⟨by rw [List.length_map]; exact a1, by rw [List.length_map]; exact a2, fun i e he => ?_⟩
  rw [List.getElem?_map] at he
  cases hf : M[i]? with
  | none => rw [hf] at he; cases he
  | some f =>
    rw [hf] at he
    have e1 := hu f (List.mem_of_getElem? hf)
    rw [show u f = e from Option.some.inj he] at e1
    have e2 := (Prod.mk.inj e1)
    have e3 := Prod.mk.inj e2.2
    have e4 := Prod.mk.inj e3.2
    rw [e2.1, e3.1, e4.1, e4.2]
    exact a3 i f hf
theorem m_x.rho {u : KF → KF} {V' : Nat → List Int32} (h : m_x m M X I) (hu : ∀ f ∈ M, k_st (u f) = k_st f ∧ V' (u f).2.2.2.2 = X.1 f.2.2.2.2) : m_x m (M.map u) (V', X.2.1, X.2.2) I := by
  obtain ⟨x1, x2, x3, x4, x5⟩ := h
  refine ⟨k_map_mw x1 (fun f hf => (hu f hf).1), fun i e he => ?_, x3, x4, x5⟩
  rw [List.getElem?_map] at he
  cases hf : M[i]? with
  | none => rw [hf] at he; cases he
  | some f =>
    rw [hf] at he
    rw [← Option.some.inj he]
    show k_rw _ _ (V' (u f).2.2.2.2)
    rw [(hu f (List.mem_of_getElem? hf)).2]
    exact x2 i f hf
theorem k_rs_mem {L : List KF} {f : KF} (h : f ∈ k_rs 0 L) : ∃ e, L[f.2.2.2.2]? = some e ∧ k_st e = k_st f := by
  obtain ⟨a, ha⟩ := List.getElem?_of_mem h
  rw [k_rs_at] at ha
  cases he : L[a]? with
  | none => rw [he] at ha; cases ha
  | some e =>
    rw [he] at ha
    have := Option.some.inj ha
    rw [← this]
    exact ⟨e, by rw [show 0 + a = a by omega]; exact he, rfl⟩
theorem k_getD {α : Type} {l : List α} {i : Nat} {v d : α} (h : l[i]? = some v) : l.getD i d = v := by rw [List.getD_eq_getElem?_getD, h]; rfl
theorem k_idx_get {l : List Nat} {s : Nat} (h : s ∈ l) : l[l.idxOf s]? = some s := by
  have h1 := List.idxOf_lt_length_of_mem h
  rw [List.getElem?_eq_getElem h1, List.getElem_idxOf h1]
/-- the reference's list, as a step wants its slots -/
theorem m_in {st : KS} {L E L2 : List KF} {fw : Bool} {val : List (List Int32)} {K : Nat → KK} {c : Bool} (h : s_ok st (k_rs 0 L) E) (hE : E.map k_st = L2.map k_st) (hx : m_x m M (k_vv val, K, c) I) (hp : M.Perm (k_rs 0 (s_L fw L L2))) : ∃ M', M'.Perm (s_G fw L E) ∧ m_x m M' (a_ld fw st val, K, c) I := by
  cases fw with
  | true => exact ⟨M, hp, hx⟩
  | false =>
    have hp : M.Perm (k_rs 0 L2) := hp
    have hsb := h.2.2.2.2.2.2.1
    have hnd := h.ndE
    refine ⟨M.map (fun f => (f.1, f.2.1, f.2.2.1, f.2.2.2.1, st.sb.getD f.2.2.2.2 0)), ?_, hx.rho (fun f hf => ⟨rfl, ?_⟩)⟩
    · refine (hp.map _).trans (List.Perm.of_eq ?_)
      show (k_rs 0 L2).map _ = E
      refine List.ext_getElem? fun a => ?_
      rw [List.getElem?_map, k_rs_at]
      have e1 := congrArg (·[a]?) hE
      simp only [List.getElem?_map] at e1
      cases hL2 : L2[a]? with
      | none =>
        rw [hL2] at e1
        cases hEa : E[a]? with
        | none => rfl
        | some e => rw [hEa] at e1; cases e1
      | some f =>
        rw [hL2] at e1
        cases hEa : E[a]? with
        | none => rw [hEa] at e1; cases e1
        | some e =>
          rw [hEa] at e1
          have e2 : k_st e = k_st f := Option.some.inj e1
          have e3 : st.sb[a]? = some e.2.2.2.2 := by rw [hsb, List.getElem?_map, hEa]; rfl
          show some (f.1, f.2.1, f.2.2.1, f.2.2.2.1, st.sb.getD (0 + a) 0) = some e
          rw [show 0 + a = a by omega, k_getD e3]
          have e4 := Prod.mk.inj e2
          have e5 := Prod.mk.inj e4.2
          have e6 := Prod.mk.inj e5.2
          rw [← e4.1, ← e5.1, ← e6.1, ← e6.2]
    · obtain ⟨e, he, -⟩ := k_rs_mem (hp.mem_iff.mp hf)
      have hlt := (List.getElem?_eq_some_iff.mp he).1
      have hlen : st.sb.length = L2.length := by
        rw [hsb, List.length_map]
        have := congrArg List.length hE
        rw [List.length_map, List.length_map] at this
        exact this
      obtain ⟨s, hs⟩ : ∃ s, st.sb[f.2.2.2.2]? = some s := ⟨_, List.getElem?_eq_getElem (by omega)⟩
      have hndb : st.sb.Nodup := by rw [hsb]; exact hnd
      show val.getD (if false = true then st.sb.getD f.2.2.2.2 0 else st.sb.idxOf (st.sb.getD f.2.2.2.2 0)) [] = val.getD f.2.2.2.2 []
      rw [if_neg (by decide), k_getD hs, k_idx hndb hs]
theorem m_out {st : KS} {L E L2 : List KF} {fw : Bool} (h : s_ok st (k_rs 0 L) E) (hE : E.map k_st = L2.map k_st) (hx : m_x m M X I) (hp : M.Perm (s_G fw L E)) : ∃ M', M'.Perm (k_rs 0 (s_L fw L L2)) ∧ m_x m M' (k_vv ((s_in fw st).map X.1), X.2.1, X.2.2) I := by
  have hsb := h.2.2.2.2.2.2.1
  have hnd := h.ndE
  cases fw with
  | true =>
    have hp : M.Perm (k_rs 0 L) := hp
    refine ⟨M.map id, by rw [List.map_id]; exact hp, hx.rho (fun f hf => ⟨rfl, ?_⟩)⟩
    obtain ⟨e, he, -⟩ := k_rs_mem (hp.mem_iff.mp hf)
    have hlt := (List.getElem?_eq_some_iff.mp he).1
    have hnb := h.nb
    rw [k_rs_len] at hnb
    refine k_getD ?_
    show ((List.range st.nb).map X.1)[f.2.2.2.2]? = some (X.1 f.2.2.2.2)
    rw [List.getElem?_map, List.getElem?_range (by omega)]; rfl
  | false =>
    have hp : M.Perm E := hp
    refine ⟨M.map (fun f => (f.1, f.2.1, f.2.2.1, f.2.2.2.1, st.sb.idxOf f.2.2.2.2)), ?_, hx.rho (fun f hf => ⟨rfl, ?_⟩)⟩
    · refine (hp.map _).trans (List.Perm.of_eq ?_)
      show E.map _ = k_rs 0 L2
      refine List.ext_getElem? fun a => ?_
      rw [List.getElem?_map, k_rs_at]
      have e1 := congrArg (·[a]?) hE
      simp only [List.getElem?_map] at e1
      cases hL2 : L2[a]? with
      | none =>
        rw [hL2] at e1
        cases hEa : E[a]? with
        | none => rfl
        | some e => rw [hEa] at e1; cases e1
      | some f =>
        rw [hL2] at e1
        cases hEa : E[a]? with
        | none => rw [hEa] at e1; cases e1
        | some e =>
          rw [hEa] at e1
          have e2 : k_st e = k_st f := Option.some.inj e1
          have e3 : st.sb[a]? = some e.2.2.2.2 := by rw [hsb, List.getElem?_map, hEa]; rfl
          have hndb : st.sb.Nodup := by rw [hsb]; exact hnd
          show some (e.1, e.2.1, e.2.2.1, e.2.2.2.1, st.sb.idxOf e.2.2.2.2) = some (f.1, f.2.1, f.2.2.1, f.2.2.2.1, 0 + a)
          rw [show 0 + a = a by omega, k_idx hndb e3]
          have e4 := Prod.mk.inj e2
          have e5 := Prod.mk.inj e4.2
          have e6 := Prod.mk.inj e5.2
          rw [e4.1, e5.1, e6.1, e6.2]
    · have hm : f.2.2.2.2 ∈ st.sb := by rw [hsb]; exact List.mem_map_of_mem (f := fun f : KF => f.2.2.2.2) (hp.mem_iff.mp hf)
      refine k_getD ?_
      show (st.sb.map X.1)[st.sb.idxOf f.2.2.2.2]? = some (X.1 f.2.2.2.2)
      rw [List.getElem?_map, k_idx_get hm]; rfl
theorem relM.mp (hM : relM S m T I R) {i j : Nat} {st : KS} {p : KP} (hi : S.ss[i]? = some st) (hj : st.pr[j]? = some p) : k_mp m (8 * (8 * i + j)) p I := (hM.2.2.1.2.1 i st hi).2.2.2 j p hj
theorem k_rs_cg {L : List KF} (hw : wf S) {v : Nat} (hv : S.vs[v]? = some L) : k_wfL (k_rs 0 L) := k_rs_wf (hw.1.2.2 L (List.mem_of_getElem? hv)).1
/-- a way, by the reference -/
theorem c_Model_goRoute1 (hw : wf S) (hR : relM S m T I R) {l : List Nat} {u0 : Nat} {L0 : List KF} {val : List (List Int32)} {K : Nat → KK} {c : Bool} (h33 : I m (nI 33) = nI l.length) (hl : k_ar (I (m + 25)) l) (hst : k_sts S.ss (-1) l (I (m + 26))) (h8 : l.length ≤ 8) (hA : ∀ k u w, l[k]? = some u → l[k + 1]? = some w → k_A S.ss (-1) u w = true) (h0 : l[0]? = some u0) (hL0 : S.vs[u0]? = some L0) (hx : m_x m M (k_vv val, K, c) I) (hp : M.Perm (k_rs 0 L0)) (hwr : w_rec S.vs S.ss (u0, val, K)) : q_Cv g M_Model_goRoute [.ref m] (sz, T, I, R, J) 0 0 (fun h' => ∃ (I' : q_I) (M' : List KF), h' = (sz, T, I', R, J) ∧ m_xf m I I' ∧ m_x m M' (k_vv (a_go S.ss l (val, K, c)).1, (a_go S.ss l (val, K, c)).2.1, (a_go S.ss l (val, K, c)).2.2) I' ∧ ∀ ul, l[l.length - 1]? = some ul → w_rec S.vs S.ss (ul, (a_go S.ss l (val, K, c)).1, (a_go S.ss l (val, K, c)).2.1) ∧ ∀ Ll, S.vs[ul]? = some Ll → M'.Perm (k_rs 0 Ll)) := by
  have hL := hR.1
  obtain ⟨Q, hQ⟩ : ∃ Q : q_O → q_H → Prop, Q = (fun o h' => o = .inl none ∧ ∃ (I' : q_I) (M' : List KF), h' = (sz, T, I', R, J) ∧ m_xf m I I' ∧ m_x m M' (k_vv (a_go S.ss l (val, K, c)).1, (a_go S.ss l (val, K, c)).2.1, (a_go S.ss l (val, K, c)).2.2) I' ∧ ∀ ul, l[l.length - 1]? = some ul → w_rec S.vs S.ss (ul, (a_go S.ss l (val, K, c)).1, (a_go S.ss l (val, K, c)).2.1) ∧ ∀ Ll, S.vs[ul]? = some Ll → M'.Perm (k_rs 0 Ll)) := ⟨_, rfl⟩
  have loop : ∀ (ls : List Nat) (k u : Nat) (Lu : List KF) (Y : KY) (I1 : q_I) (M1 : List KF) (l2 l3 l4 : Option Value), k + 1 + ls.length = l.length → (∀ j, l[k + j]? = (u :: ls)[j]?) → S.vs[u]? = some Lu → m_xf m I I1 → m_x m M1 (k_vv Y.1, Y.2.1, Y.2.2) I1 → M1.Perm (k_rs 0 Lu) → w_rec S.vs S.ss (u, Y.1, Y.2.1) → a_go S.ss (u :: ls) Y = a_go S.ss l (val, K, c) → q_V g M_Model_goRoute 0 0 0 0 (sz, T, I1, R, J) Q 2 [some (.ref m), some (.int (nI k)), l2, l3, l4] [] := by
    intro ls
    induction ls with
    | nil =>
      intro k u Lu Y I1 M1 l2 l3 l4 a1 a2 a3 a4 a5 a6 a7 a8
      simp only [List.length_nil] at a1
      refine q_iload_n d_Model_goRoute_2 rfl rfl ?_
      refine q_iconst (v := nI 1) d_Model_goRoute_3 (by decide) ?_
      first | refine q_iaddN d_Model_goRoute_4 ?_ | refine q_iadd d_Model_goRoute_4 ?_
      refine q_aload_n d_Model_goRoute_5 rfl rfl ?_
      refine q_getI (ci := 11) (fk := 33) d_Model_goRoute_6 rfl (Nat.le_of_ble_eq_true rfl) w_1137 (fun _ _ => rfl) hL.1 ?_
      rw [a4.2 _ (fun z => absurd (q_nI_inj z) (by decide)) (fun z => absurd (q_nI_inj z) (by decide)), h33]
      refine q_icmp_ge (tgt := 96) d_Model_goRoute_9 rfl (fun hc => ?_) (fun hc => ?_)
      · refine q_vret d_Model_goRoute_96 rfl (by omega) (by omega) ?_
        rw [hQ]
        refine ⟨rfl, I1, M1, rfl, a4, ?_, fun ul hul => ?_⟩
        · rw [← a8]; exact a5
        · have : u = ul := by
            have := a2 0
            rw [Nat.add_zero, show k = l.length - 1 by omega, hul] at this
            exact (Option.some.inj this).symm
          rw [← a8, ← this]
          exact ⟨a7, fun Ll hLl => by rw [← Option.some.inj (a3.symm.trans hLl)]; exact a6⟩
      · exact absurd (by rw [nI_leI (by omega) (by omega)]; omega) hc
    | cons w ls ih =>
      intro k u Lu Y I1 M1 l2 l3 l4 a1 a2 a3 a4 a5 a6 a7 a8
      simp only [List.length_cons] at a1
      have hku : l[k]? = some u := a2 0
      have hkw : l[k + 1]? = some w := a2 1
      have hA' := hA k u w hku hkw
      obtain ⟨s, hs⟩ : ∃ s, k_fst S.ss (-1) u w = some s := by
        unfold k_A at hA'
        cases hf : k_fst S.ss (-1) u w with
        | none => rw [hf] at hA'; cases hA'
        | some s => exact ⟨s, rfl⟩
      obtain ⟨st, s1, s2, s3, s4⟩ := k_fst_st hs
      obtain ⟨f1, f2, f3, f4, -⟩ := hw.2.1.2 st (List.mem_of_getElem? s1)
      obtain ⟨L, hLf⟩ : ∃ L, S.vs[st.fr]? = some L := ⟨_, List.getElem?_eq_getElem f1⟩
      obtain ⟨L2, hLt⟩ : ∃ L2, S.vs[st.to]? = some L2 := ⟨_, List.getElem?_eq_getElem f2⟩
      obtain ⟨E, hsk, hE⟩ := hw.stp s1 hLf hLt
      have h16 := hw.2.1.1
      have hv8 := hw.1.2.1
      obtain ⟨r1, r2, r3⟩ := hR.2.2.1.2.1 s st s1
      have hu8 : u < 8 := by have := (List.getElem?_eq_some_iff.mp a3).1; omega
      have far : ∀ (I2 : q_I) (j : Nat), m_xf m I I2 → 1 ≤ j → j < 14 → I2 (m + j) = I (m + j) := fun I2 j hx j1 j2 => hx.1 _ (by omega) (by omega)
      have far2 : ∀ (I2 : q_I) (j : Nat), m_xf m I I2 → 22 ≤ j → j < 28 → I2 (m + j) = I (m + j) := fun I2 j hx j1 j2 => hx.1 _ (by omega) (by omega)
      refine q_iload_n d_Model_goRoute_2 rfl rfl ?_
      refine q_iconst (v := nI 1) d_Model_goRoute_3 (by decide) ?_
      first | refine q_iaddN d_Model_goRoute_4 ?_ | refine q_iadd d_Model_goRoute_4 ?_
      refine q_aload_n d_Model_goRoute_5 rfl rfl ?_
      refine q_getI (ci := 11) (fk := 33) d_Model_goRoute_6 rfl (Nat.le_of_ble_eq_true rfl) w_1137 (fun _ _ => rfl) hL.1 ?_
      rw [a4.2 _ (fun z => absurd (q_nI_inj z) (by decide)) (fun z => absurd (q_nI_inj z) (by decide)), h33]
      refine q_icmp_ge (tgt := 96) d_Model_goRoute_9 rfl (fun hc => ?_) (fun hc => ?_)
      · rw [nI_leI (by omega) (by omega)] at hc
        omega
      refine q_aload_n d_Model_goRoute_12 rfl rfl ?_
      refine q_getR (ci := 11) (fk := 35) d_Model_goRoute_13 rfl (Nat.le_of_ble_eq_true rfl) w_1139 (fun _ _ => rfl) hL.1 (hL.2 35 _ _ _ rfl).1 ?_
      refine q_iload_n d_Model_goRoute_16 rfl rfl ?_
      refine q_iald d_Model_goRoute_17 (hL.2 35 _ _ _ rfl).2 (by first | assumption | exact vp_in_nI (by omega) (by omega)) ?_
      rw [far2 I1 26 a4 (by omega) (by omega), hst k u w s hku hkw hs]
      refine q_istore_n d_Model_goRoute_18 rfl (Nat.le_of_ble_eq_true rfl) (by first | exact q_ok0 | exact q_okI rfl | exact q_okR rfl | exact q_okN rfl) rfl ?_
      refine q_aload_n d_Model_goRoute_19 rfl rfl ?_
      refine q_getR (ci := 11) (fk := 9) d_Model_goRoute_20 rfl (Nat.le_of_ble_eq_true rfl) w_1113 (fun _ _ => rfl) hL.1 (hL.2 9 _ _ _ rfl).1 ?_
      refine q_iload_n d_Model_goRoute_23 rfl rfl ?_
      refine q_iald d_Model_goRoute_24 (hL.2 9 _ _ _ rfl).2 (by first | assumption | exact vp_in_nI (by omega) (by omega)) ?_
      rw [far I1 6 a4 (by omega) (by omega), r1]
      refine q_aload_n d_Model_goRoute_25 rfl rfl ?_
      refine q_getR (ci := 11) (fk := 34) d_Model_goRoute_26 rfl (Nat.le_of_ble_eq_true rfl) w_1138 (fun _ _ => rfl) hL.1 (hL.2 34 _ _ _ rfl).1 ?_
      refine q_iload_n d_Model_goRoute_29 rfl rfl ?_
      refine q_iald d_Model_goRoute_30 (hL.2 34 _ _ _ rfl).2 (by first | assumption | exact vp_in_nI (by omega) (by omega)) ?_
      rw [far2 I1 25 a4 (by omega) (by omega), hl k u hku]
      have after : ∀ (mcc msc : Nat), mcc = 0 → msc = 0 → q_V g M_Model_goRoute 0 0 mcc msc (sz, T, I1, R, J) Q 39 [some (.ref m), some (.int (nI k)), some (.int (nI s)), l3, l4] [.int (p_b (decide (st.fr = u)))] := by
        intro mcc msc m1 m2
        subst m1 m2
        obtain ⟨fw, hfw⟩ : ∃ fw, fw = decide (st.fr = u) := ⟨_, rfl⟩
        rw [← hfw] at s2 s3 ⊢
        have eL : ∀ fw : Bool, S.vs[s_u fw st]? = some (s_L fw L L2) := fun fw => by
          unfold s_u s_L
          cases fw with
          | true => exact hLf
          | false => exact hLt
        have eLu : Lu = s_L fw L L2 := by
          have := eL fw
          rw [s2, a3] at this
          exact Option.some.inj this
        have eLw : S.vs[w]? = some (s_L (!fw) L L2) := by rw [← s3]; exact eL (!fw)
        obtain ⟨w1, w2, w3⟩ := a7
        obtain ⟨u1, u2⟩ := w2 (s_L fw L L2) (by rw [← eLu]; exact a3)
        obtain ⟨v1, v2⟩ := w_in (fw := fw) hsk hE u1 u2
        have hK : ∀ j p, st.pr[j]? = some p → k_kok (some p) (Y.2.1 (8 * s + j)) := fun j p hp => by
          have hj := (List.getElem?_eq_some_iff.mp hp).1
          have := w3 (8 * s + j) (by omega)
          rw [k_pat_at s1 (by omega) hp] at this
          exact this
        have es1 : a_s1 S.ss u w Y = a_st fw s st Y := by
          unfold a_s1
          rw [hs]
          simp only [s1]
          rw [hfw]
        have ego : a_go S.ss (w :: ls) (a_st fw s st Y) = a_go S.ss l (val, K, c) := by
          rw [← a8, ← es1]; rfl
        have wok := a_st_ok (fw := fw) (Y := Y) hw s1 (by rw [s2]; exact ⟨w1, w2, w3⟩)
        rw [s3] at wok
        rw [eLu] at a6
        obtain ⟨M2, p2, x2⟩ := m_in hsk hE a5 a6
        obtain ⟨b1, b2, b3, b4, b5, b6, b7, b8⟩ := hsk
        have hskk : s_ok st (k_rs 0 L) E := ⟨b1, b2, b3, b4, b5, b6, b7, b8⟩
        obtain ⟨Xf, hXf⟩ : ∃ Xf, Xf = t_run fw (8 * s) st.pr (a_ld fw st Y.1, Y.2.1, Y.2.2) := ⟨_, rfl⟩
        have fin : ∀ (I2 : q_I) (M3 : List KF), m_xf m I I2 → m_x m M3 Xf I2 → M3.Perm (s_G (!fw) L E) → q_V g M_Model_goRoute 0 0 0 0 (sz, T, I2, R, J) Q 90 [some (.ref m), some (.int (nI k)), some (.int (nI s)), some (.int (p_b fw)), some (.int (nI st.pr.length))] [] := by
          intro I2 M3 g1 g2 g3
          obtain ⟨M4, p4, x4⟩ := m_out hskk hE g2 g3
          first | refine q_iincN d_Model_goRoute_90 rfl (Nat.le_of_ble_eq_true rfl) (by first | exact q_ok0 | exact q_okI rfl | exact q_okR rfl | exact q_okN rfl) rfl ?_ | refine q_iinc d_Model_goRoute_90 rfl rfl (Nat.le_of_ble_eq_true rfl) (by first | exact q_ok0 | exact q_okI rfl | exact q_okR rfl | exact q_okN rfl) rfl ?_
          refine q_goto (tgt := 2) d_Model_goRoute_93 rfl ?_
          refine ih (k + 1) w _ (a_st fw s st Y) I2 M4 _ _ _ (by omega) (fun j => by rw [show k + 1 + j = k + (j + 1) by omega]; exact a2 (j + 1)) eLw g1 ?_ p4 wok ego
          rw [hXf] at x4
          exact x4
        refine q_istore_n d_Model_goRoute_39 rfl (Nat.le_of_ble_eq_true rfl) (by first | exact q_ok0 | exact q_okI rfl | exact q_okR rfl | exact q_okN rfl) rfl ?_
        refine q_iconst (v := nI 0) d_Model_goRoute_40 (by decide) ?_
        refine q_istore d_Model_goRoute_41 (Nat.le_of_ble_eq_true rfl) (by first | exact q_ok0 | exact q_okI rfl | exact q_okR rfl | exact q_okN rfl) rfl ?_
        cases fw with
        | true =>
          have hXf' : Xf = t_fws (8 * s) st.pr (a_ld true st Y.1, Y.2.1, Y.2.2) := hXf
          refine q_goInner (fw := true) (n := st.pr.length) (Θ := fun j I2 => m_xf m I I2 ∧ ∃ (M3 : List KF) (X3 : KV), m_x m M3 X3 I2 ∧ M3.Perm (k_fws (k_rs 0 L) (st.pr.take j)) ∧ k_hv (k_fws (k_rs 0 L) (st.pr.take j)) X3.1 ∧ (∀ i p, st.pr[i]? = some p → k_kok (some p) (X3.2.1 (8 * s + i))) ∧ t_fws (8 * s + j) (st.pr.drop j) X3 = Xf) hL b4 (by omega) (fun j I2 hT => by rw [far I2 8 hT.1 (by omega) (by omega)]; exact r3.1) (fun _ j I2 hj hT => ?_) (fun z => by cases z) (fun I2 hT => ?_) st.pr.length 0 I1 (by omega) ⟨a4, M2, _, x2, by rw [List.take_zero]; exact p2, by rw [List.take_zero]; exact v2, hK, by rw [hXf']; rfl⟩
          · obtain ⟨t1, M3, X3, t2, t3, t4, t5, t6⟩ := hT
            obtain ⟨p, hp⟩ : ∃ p, st.pr[j]? = some p := ⟨_, List.getElem?_eq_getElem hj⟩
            obtain ⟨c1, c2⟩ := k_chn_at b3 hp
            have cw := k_chn_wf b1 (k_chn_take j b3)
            have cn := k_fws_nds b2 (k_chn_take j b3)
            have hkp := t5 j p hp
            have hmp : k_mp m (8 * (8 * s + j)) p I2 := (hR.mp s1 hp).cong (far I2 9 t1 (by omega) (by omega))
            obtain ⟨o1, o2⟩ := t_fw_ok cw cn c1 t4 hkp
            refine (c_Model_forth1 hL t2 (cw.perm t3) (cn.perm t3) (c1.perm t3) (t4.perm t3) hkp hmp (by omega) (by omega)).imp fun o h' z => ?_
            obtain ⟨z1, I3, M4, z2, z3, z4, z5⟩ := z
            refine ⟨z1, I3, z2, t1.trans z3, M4, _, z4, by rw [c2]; exact z5.trans (k_fw.perm t3), by rw [c2]; exact o1, fun i p' hp' => ?_, ?_⟩
            · by_cases hij : i = j
              · subst hij
                rw [← Option.some.inj (hp.symm.trans hp')]
                exact o2
              · rw [t_go_oth (by omega)]; exact t5 i p' hp'
            · rw [List.drop_eq_getElem_cons hj] at t6
              have e : st.pr[j] = p := by rw [List.getElem?_eq_getElem hj] at hp; exact Option.some.inj hp
              rw [e] at t6
              exact t6
          · obtain ⟨t1, M3, X3, t2, t3, t4, t5, t6⟩ := hT
            rw [List.drop_length] at t6
            have t6' : X3 = Xf := t6
            rw [List.take_length] at t3
            rw [t6'] at t2
            exact fin I2 M3 t1 t2 (t3.trans b6.symm)
        | false =>
          have hXf' : Xf = t_bks (8 * s) st.pr (a_ld false st Y.1, Y.2.1, Y.2.2) := hXf
          refine q_goInner (fw := false) (n := st.pr.length) (Θ := fun j I2 => m_xf m I I2 ∧ ∃ (M3 : List KF) (X3 : KV), m_x m M3 X3 I2 ∧ M3.Perm (k_fws (k_rs 0 L) (st.pr.take (st.pr.length - j))) ∧ k_hv (k_fws (k_rs 0 L) (st.pr.take (st.pr.length - j))) X3.1 ∧ (∀ i p, st.pr[i]? = some p → k_kok (some p) (X3.2.1 (8 * s + i))) ∧ t_bks (8 * s) (st.pr.take (st.pr.length - j)) X3 = Xf) hL b4 (by omega) (fun j I2 hT => by rw [far I2 8 hT.1 (by omega) (by omega)]; exact r3.1) (fun z => by cases z) (fun _ j I2 hj hT => ?_) (fun I2 hT => ?_) st.pr.length 0 I1 (by omega) ⟨a4, M2, _, x2, by rw [Nat.sub_zero, List.take_length]; exact p2.trans b6, by rw [Nat.sub_zero, List.take_length]; exact v2, hK, by rw [Nat.sub_zero, List.take_length, hXf']⟩
          · obtain ⟨t1, M3, X3, t2, t3, t4, t5, t6⟩ := hT
            obtain ⟨n, hn⟩ : ∃ n, n = st.pr.length - 1 - j := ⟨_, rfl⟩
            rw [show st.pr.length - j = n + 1 by omega] at t3 t4 t6
            rw [← hn, show st.pr.length - (j + 1) = n by omega]
            obtain ⟨p, hp⟩ : ∃ p, st.pr[n]? = some p := ⟨_, List.getElem?_eq_getElem (by omega)⟩
            obtain ⟨c1, c2⟩ := k_chn_at b3 hp
            have cw := k_chn_wf b1 (k_chn_take n b3)
            have cn := k_fws_nds b2 (k_chn_take n b3)
            have hkp := t5 n p hp
            have hmp : k_mp m (8 * (8 * s + n)) p I2 := (hR.mp s1 hp).cong (far I2 9 t1 (by omega) (by omega))
            rw [c2] at t3 t4
            obtain ⟨o1, o2⟩ := t_bk_ok cw cn c1 t4 hkp
            refine (c_Model_back1 hL t2 cw cn c1 t3 t4 hkp hmp (by omega) (by omega)).imp fun o h' z => ?_
            obtain ⟨z1, I3, M4, z2, z3, z4, z5⟩ := z
            refine ⟨z1, I3, z2, t1.trans z3, M4, _, z4, z5, o1, fun i p' hp' => ?_, ?_⟩
            · by_cases hij : i = n
              · subst hij
                rw [← Option.some.inj (hp.symm.trans hp')]
                exact o2
              · rw [t_go_oth (by omega)]; exact t5 i p' hp'
            · have etk : st.pr.take (n + 1) = st.pr.take n ++ [p] := by rw [List.take_add_one, hp]; rfl
              have ltk : (st.pr.take n).length = n := by rw [List.length_take]; omega
              rw [etk, t_bks_snoc, ltk] at t6
              exact t6
          · obtain ⟨t1, M3, X3, t2, t3, t4, t5, t6⟩ := hT
            rw [Nat.sub_self, List.take_zero] at t3 t6
            have t6' : X3 = Xf := t6
            rw [t6'] at t2
            exact fin I2 M3 t1 t2 t3
      refine q_icmp_ne (tgt := 38) d_Model_goRoute_31 rfl (fun hc => ?_) (fun hc => ?_)
      · refine q_iconst (v := nI 0) d_Model_goRoute_38 (by decide) ?_
        have e := after _ _ rfl rfl
        rw [decide_eq_false (fun z => hc (by rw [z]))] at e
        exact e
      · refine q_iconst (v := nI 1) d_Model_goRoute_34 (by decide) ?_
        refine q_goto (tgt := 39) d_Model_goRoute_35 rfl ?_
        have e := after _ _ rfl rfl
        rw [decide_eq_true ((nI_eq (by omega) (by omega)).mp hc)] at e
        exact e
  refine q_C.of (ls0 := [some (.ref m), none, none, none, none]) (by decide) rfl (by decide) (Nat.le_of_ble_eq_true rfl) rfl ?_
  rw [← hQ]
  refine q_iconst (v := nI 0) d_Model_goRoute_0 (by decide) ?_
  refine q_istore_n d_Model_goRoute_1 rfl (Nat.le_of_ble_eq_true rfl) (by first | exact q_ok0 | exact q_okI rfl | exact q_okR rfl | exact q_okN rfl) rfl ?_
  cases l with
  | nil => cases h0
  | cons u ls =>
    obtain rfl : u = u0 := Option.some.inj h0
    exact loop ls 0 u L0 (val, K, c) I M _ _ _ (by rw [List.length_cons]; omega) (fun j => by rw [Nat.zero_add]) hL0 m_xf.refl hx hp hwr rfl
end MRoute
