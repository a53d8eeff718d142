/-! translate: a step, by the class -/
section Over
variable {g : q_G} {sz c r po : Nat} {T : q_T} {I : q_I} {R : q_R} {J : q_J} {p : KP} {P : Nat → Prop} {X : KV}
def t_fws : Nat → List KP → KV → KV
  | _, [], X => X
  | b, p :: t, X => t_fws (b + 1) t (t_go true p b X)
def t_bks : Nat → List KP → KV → KV
  | _, [], X => X
  | b, p :: t, X => t_go false p b (t_bks (b + 1) t X)
theorem t_bks_snoc (p : KP) : ∀ (a : List KP) (b : Nat) (X : KV), t_bks b (a ++ [p]) X = t_bks b a (t_go false p (b + a.length) X)
  | [], b, X => rfl
  | q :: t, b, X => by
    show t_go false q b (t_bks (b + 1) (t ++ [p]) X) = t_go false q b (t_bks (b + 1) t (t_go false p (b + (t.length + 1)) X))
    rw [t_bks_snoc p t (b + 1) X, show b + 1 + t.length = b + (t.length + 1) by omega]
theorem t_go_can {fw : Bool} {k : Nat} (h : X.2.2 = true) : (t_go fw p k X).2.2 = true := by
  unfold t_go
  split <;> try (split)
  all_goals try exact h
  all_goals try (rw [t_chg_c]; exact h)
  show (X.2.2 || _) = true
  rw [h]; rfl
theorem t_fws_can : ∀ (ps : List KP) (b : Nat) (X : KV), X.2.2 = true → (t_fws b ps X).2.2 = true
  | [], _, _, h => h
  | p :: t, b, X, h => t_fws_can t (b + 1) _ (t_go_can h)
theorem t_bks_can : ∀ (ps : List KP) (b : Nat) (X : KV), X.2.2 = true → (t_bks b ps X).2.2 = true
  | [], _, _, h => h
  | p :: t, b, X, h => t_go_can (t_bks_can t (b + 1) X h)
/-- a step on a record -/
abbrev KY : Type := List (List Int32) × (Nat → KK) × Bool
def s_in (fw : Bool) (st : KS) : List Nat := if fw = true then List.range st.nb else st.sb
def a_ld (fw : Bool) (st : KS) (val : List (List Int32)) : Nat → List Int32 := fun s => val.getD (if fw = true then s else st.sb.idxOf s) []
def t_run (fw : Bool) (b : Nat) (ps : List KP) (X : KV) : KV := if fw = true then t_fws b ps X else t_bks b ps X
def a_st (fw : Bool) (i : Nat) (st : KS) (Y : KY) : KY := ((s_in (!fw) st).map (t_run fw (8 * i) st.pr (a_ld fw st Y.1, Y.2.1, Y.2.2)).1, (t_run fw (8 * i) st.pr (a_ld fw st Y.1, Y.2.1, Y.2.2)).2.1, (t_run fw (8 * i) st.pr (a_ld fw st Y.1, Y.2.1, Y.2.2)).2.2)
/-- a step is in order: D its fields before, E those behind, by their slots -/
def s_ok (st : KS) (D E : List KF) : Prop := k_wfL D ∧ k_nds D ∧ k_chn D st.pr ∧ st.pr.length ≤ 8 ∧ D.map (·.2.2.2.2) = List.range st.nb ∧ E.Perm (k_fws D st.pr) ∧ st.sb = E.map (·.2.2.2.2) ∧ k_sls 32 D st.pr
theorem k_fws_nds : ∀ {ps : List KP} {D : List KF}, k_nds D → k_chn D ps → k_nds (k_fws D ps)
  | [], _, h, _ => h
  | p :: t, D, h, hc => k_fws_nds (ps := t) (D := k_fw p D) (k_fw_nds h hc.1) hc.2
theorem s_ok.nb {st : KS} {D E : List KF} (h : s_ok st D E) : st.nb = D.length := by
  have := congrArg List.length h.2.2.2.2.1
  rw [List.length_map, List.length_range] at this
  exact this.symm
theorem s_ok.ndE {st : KS} {D E : List KF} (h : s_ok st D E) : k_nds E := by
  obtain ⟨h1, h2, h3, h4, h5, h6, h7, h8⟩ := h
  exact (h6.map (fun f : KF => f.2.2.2.2)).nodup_iff.mpr (k_fws_nds h2 h3)
theorem s_ok.wfE {st : KS} {D E : List KF} (h : s_ok st D E) : E.length ≤ 24 := by
  rw [h.2.2.2.2.2.1.length_eq]; exact (k_chn_wf h.1 h.2.2.1).1
theorem s_ok.sin {st : KS} {D E : List KF} {fw : Bool} (h : s_ok st D E) : (s_in fw st).Nodup ∧ (∀ s ∈ s_in fw st, s < 32) ∧ (s_in fw st).length ≤ 24 := by
  have hE := h.ndE
  have hl := h.wfE
  have hb := h.nb
  obtain ⟨h1, h2, h3, h4, h5, h6, h7, h8⟩ := h
  have := h1.1
  unfold s_in
  cases fw with
  | true =>
    rw [if_pos rfl]
    exact ⟨List.nodup_range, fun s hs => by have := List.mem_range.mp hs; omega, by rw [List.length_range]; omega⟩
  | false =>
    rw [if_neg (by decide), h7]
    refine ⟨hE, fun s hs => ?_, by rw [List.length_map]; exact hl⟩
    obtain ⟨f, f1, rfl⟩ := List.mem_map.mp hs
    exact h8.1 f (h6.mem_iff.mp f1)
theorem k_idx {l : List Nat} (h : l.Nodup) {i s : Nat} (hi : l[i]? = some s) : l.idxOf s = i := by
  obtain ⟨h1, h2⟩ := List.getElem?_eq_some_iff.mp hi
  rw [← h2]
  exact List.Nodup.idxOf_getElem h i h1
theorem a_ld_at {st : KS} {D E : List KF} {fw : Bool} (h : s_ok st D E) {val : List (List Int32)} {i s : Nat} {v : List Int32} (hs : (s_in fw st)[i]? = some s) (hv : val[i]? = some v) : a_ld fw st val s = v := by
  have hn := (h.sin (fw := fw)).1
  unfold a_ld s_in at *
  cases fw with
  | true =>
    rw [if_pos rfl] at *
    obtain ⟨h1, h2⟩ := List.getElem?_eq_some_iff.mp hs
    rw [List.getElem_range] at h2
    rw [← h2, List.getD_eq_getElem?_getD, hv]; rfl
  | false =>
    rw [if_neg (by decide)] at *
    rw [k_idx hn hs, List.getD_eq_getElem?_getD, hv]; rfl
theorem k_stp.cong4 {x t i : Nat} {st : KS} {I' : q_I} (h : k_stp x t i st T I R) (h1 : I' t = I t) (h2 : I' (t + 2) = I (t + 2)) (h3 : ∀ b, T b = some (104, 0) → I' b = I b) : k_stp x t i st T I' R := by
  unfold k_stp
  rw [h1, h2]
  obtain ⟨a1, a2, a3, a4, a5, a6, a7, a8, a9, a10, a11, a12, a13⟩ := h
  refine ⟨a1, a2, a3, a4, a5, a6, a7, a8, a9, a10, a11, fun j q hq => ?_, a13⟩
  obtain ⟨p, p1, p2, p3⟩ := a12 j q hq
  exact ⟨p, p1, p2, p3.cong (h3 p p3.1)⟩
/-- the places of carrier, row and step -/
def c_pl (c r t : Nat) (sb : List Nat) (T : q_T) : Prop := T (c + 2) = some (0, 238) ∧ T r = some (105, 0) ∧ T (r + 2) = some (0, 168) ∧ T (r + 3) = some (0, 128) ∧ T (r + 5) = some (0, 896) ∧ T (r + 7) = some (0, 896) ∧ T t = some (107, 0) ∧ T (t + 2) = some (0, sb.length) ∧ sb.length ≤ 24
theorem c_pl_of {x t i : Nat} {st : KS} (hc1 : q_L 1 (t_Cells 238) (c + 1) T R) (hr : r_new r T R) (ht : k_stp x t i st T I R) (h24 : st.sb.length ≤ 24) : c_pl c r t st.sb T := by
  obtain ⟨t0, t1, t2, t3, t4, t5, t6, t7⟩ := r_T0 hr
  exact ⟨(hc1.2 0 _ _ _ rfl).2, t0, t2, t3, t5, t7, ht.2.1, ht.2.2.2.2.2.2.2.2.2.2.1, h24⟩
theorem c_pl.ne {t : Nat} {sb : List Nat} (h : c_pl c r t sb T) : (∀ b, (b = t ∨ b = t + 2 ∨ T b = some (104, 0)) → b ≠ c + 2 ∧ b ≠ r ∧ b ≠ r + 2 ∧ b ≠ r + 3 ∧ b ≠ r + 5 ∧ b ≠ r + 7) ∧ c + 2 ≠ r ∧ c + 2 ≠ r + 2 := by
  obtain ⟨h1, h2, h3, h4, h5, h6, h7, h8, h9⟩ := h
  have key : ∀ b, (b = t ∨ b = t + 2 ∨ T b = some (104, 0)) → ∀ q : Nat × Nat, T b = some q → q = (107, 0) ∨ (q.1 = 0 ∧ q.2 ≤ 24) ∨ q = (104, 0) := fun b hb q hq => by
    rcases hb with rfl | rfl | hb
    · exact Or.inl (Option.some.inj (hq.symm.trans h7))
    · rw [Option.some.inj (hq.symm.trans h8)]
      exact Or.inr (Or.inl ⟨rfl, h9⟩)
    · exact Or.inr (Or.inr (Option.some.inj (hq.symm.trans hb)))
  have no : ∀ b a (q : Nat × Nat), (b = t ∨ b = t + 2 ∨ T b = some (104, 0)) → T a = some q → q ≠ (107, 0) → ¬ (q.1 = 0 ∧ q.2 ≤ 24) → q ≠ (104, 0) → b ≠ a := fun b a q hb ha n1 n2 n3 e => by
    rcases key b hb q (by rw [e]; exact ha) with z | z | z
    · exact n1 z
    · exact n2 z
    · exact n3 z
  refine ⟨fun b hb => ⟨no b _ _ hb h1 (by decide) (by decide) (by decide), no b _ _ hb h2 (by decide) (by decide) (by decide), no b _ _ hb h3 (by decide) (by decide) (by decide), no b _ _ hb h4 (by decide) (by decide) (by decide), no b _ _ hb h5 (by decide) (by decide) (by decide), no b _ _ hb h6 (by decide) (by decide) (by decide)⟩, fun e => ?_, fun e => ?_⟩
  · rw [e, h2] at h1; cases h1
  · rw [e, h3] at h1; cases h1
/-- what stays -/
def c_yf (c r : Nat) (I I' : q_I) : Prop := (∀ b, b ≠ c + 2 → b ≠ r → b ≠ r + 2 → b ≠ r + 3 → b ≠ r + 5 → b ≠ r + 7 → I' b = I b) ∧ I' r (nI 0) = I r (nI 0)
theorem c_yf.stp {x t i : Nat} {st : KS} {I' : q_I} (h : c_yf c r I I') (hp : c_pl c r t st.sb T) (ht : k_stp x t i st T I R) : k_stp x t i st T I' R := by
  have hn := hp.ne.1
  have e : ∀ b, (b = t ∨ b = t + 2 ∨ T b = some (104, 0)) → I' b = I b := fun b hb => by
    obtain ⟨a1, a2, a3, a4, a5, a6⟩ := hn b hb
    exact h.1 b a1 a2 a3 a4 a5 a6
  exact ht.cong4 (e t (Or.inl rfl)) (e (t + 2) (Or.inr (Or.inl rfl))) (fun b hb => e b (Or.inr (Or.inr hb)))
theorem c_yf.trans {I1 I2 : q_I} (h : c_yf c r I I1) (h2 : c_yf c r I1 I2) : c_yf c r I I2 := ⟨fun b a1 a2 a3 a4 a5 a6 => (h2.1 b a1 a2 a3 a4 a5 a6).trans (h.1 b a1 a2 a3 a4 a5 a6), h2.2.trans h.2⟩
theorem c_yf.refl : c_yf c r I I := ⟨fun _ _ _ _ _ _ _ => rfl, rfl⟩
theorem c_Carrier_load {x t i : Nat} {st : KS} {D E : List KF} {fw : Bool} {val : List (List Int32)} (hc : q_L 0 t_Carrier c T R) (hc1 : q_L 1 (t_Cells 238) (c + 1) T R) (hr : r_new r T R) (ht : k_stp x t i st T I R) (hs : s_ok st D E) (hv : ∀ i v, val[i]? = some v → k_rw (I (r + 2)) (i * 7) v) (hl : val.length = (s_in fw st).length) : q_Cv g M_Carrier_load [.ref c, .ref r, .ref t, .int (p_b fw)] (sz, T, I, R, J) 0 0 (fun h' => ∃ I', h' = (sz, T, I', R, J) ∧ (∀ b, b ≠ c + 2 → I' b = I b) ∧ c_sl c (fun s => s ∈ s_in fw st) (a_ld fw st val) I') := by
  have h24 : st.sb.length ≤ 24 := by rw [hs.2.2.2.2.2.2.1, List.length_map]; exact hs.wfE
  have hp := c_pl_of hc1 hr ht h24
  obtain ⟨hn1, hn2, hn3⟩ := hp.ne
  obtain ⟨s1, s2, s3⟩ := hs.sin (fw := fw)
  have hL := hc
  have tp := ht.2.1
  have ts := ht.2.2.2.2.2.2.2.2.2.2.1
  have r6 := ht.2.2.2.2.2.2.2.2.2.1
  have r1 := (hr.1.2 2 _ _ _ rfl).1
  have hrT := hr.1.1
  have tc1 := hc1.1
  have tr1 := hr.2.1.1
  have i5 := ht.2.2.2.2.2.2.1
  have nt := hn1 t (Or.inl rfl)
  have nt2 := hn1 (t + 2) (Or.inr (Or.inl rfl))
  obtain ⟨n, hn⟩ : ∃ n, n = (s_in fw st).length := ⟨_, rfl⟩
  have loop : ∀ (j q : Nat) (I1 : q_I), q + j = n → (∀ b, b ≠ c + 2 → I1 b = I b) → (∀ (a s : Nat) (v : List Int32), a < q → (s_in fw st)[a]? = some s → val[a]? = some v → k_rw (I1 (c + 2)) (s * 7) v) → ∀ mcc msc : Nat, mcc = 0 → msc = 0 → q_V g M_Carrier_load 0 0 mcc msc (sz, T, I1, R, J) (fun o h' => o = .inl none ∧ ∃ I', h' = (sz, T, I', R, J) ∧ (∀ b, b ≠ c + 2 → I' b = I b) ∧ c_sl c (fun s => s ∈ s_in fw st) (a_ld fw st val) I') 21 [some (.ref c), some (.ref r), some (.ref t), some (.int (p_b fw)), some (.int (nI n)), some (.int (nI q))] [] := by
    intro j
    induction j with
    | zero =>
      intro q I1 hq e1 e2 mcc msc m1 m2
      subst m1 m2
      refine q_iload d_Carrier_load_21 rfl ?_
      refine q_iload d_Carrier_load_23 rfl ?_
      refine q_icmp_ge (tgt := 63) d_Carrier_load_25 rfl (fun hc => ?_) (fun hc => ?_)
      · refine q_vret d_Carrier_load_63 rfl (by omega) (by omega) ?_
        refine ⟨rfl, I1, rfl, e1, fun s hs1 hs2 => ?_⟩
        obtain ⟨a, a1⟩ := List.getElem?_of_mem hs2
        have a2 := (List.getElem?_eq_some_iff.mp a1).1
        obtain ⟨v, hv2⟩ : ∃ v, val[a]? = some v := ⟨_, List.getElem?_eq_getElem (by omega)⟩
        rw [a_ld_at hs a1 hv2]
        exact e2 a s v (by omega) a1 hv2
      · exact absurd (by rw [nI_leI (by omega) (by omega)]; omega) hc
    | succ j ih =>
      intro q I1 hq e1 e2 mcc msc m1 m2
      subst m1 m2
      obtain ⟨s, hs1⟩ : ∃ s, (s_in fw st)[q]? = some s := ⟨_, List.getElem?_eq_getElem (by omega)⟩
      have hs2 := s2 s (List.mem_of_getElem? hs1)
      obtain ⟨v, hv2⟩ : ∃ v, val[q]? = some v := ⟨_, List.getElem?_eq_getElem (by omega)⟩
      have after : ∀ mcc msc : Nat, mcc = 0 → msc = 0 → q_V g M_Carrier_load 0 0 mcc msc (sz, T, I1, R, J) (fun o h' => o = .inl none ∧ ∃ I', h' = (sz, T, I', R, J) ∧ (∀ b, b ≠ c + 2 → I' b = I b) ∧ c_sl c (fun s => s ∈ s_in fw st) (a_ld fw st val) I') 48 [some (.ref c), some (.ref r), some (.ref t), some (.int (p_b fw)), some (.int (nI n)), some (.int (nI q))] [.int (nI s), .ref (c + 1)] := by
        intro mcc msc m1 m2
        subst m1 m2
        refine q_aload_n d_Carrier_load_48 rfl rfl ?_
        refine q_getR (ci := 5) (fk := 2) d_Carrier_load_49 rfl (Nat.le_of_ble_eq_true rfl) w_197 (fun _ _ => rfl) (by first | assumption | rfl | (simp (disch := omega) only [q_upT_self, q_upT_ne, q_upR_self, q_upR_nea, q_upR_nk, s_T_lo, s_T_hi, s_R_ne, *]; done) | (simp (disch := omega) only [q_upT_self, q_upT_ne, q_upR_self, q_upR_nea, q_upR_nk, s_T_lo, s_T_hi, s_R_ne, *]; rfl)) (by first | assumption | rfl | (simp (disch := omega) only [q_upT_self, q_upT_ne, q_upR_self, q_upR_nea, q_upR_nk, s_T_lo, s_T_hi, s_R_ne, *]; done) | (simp (disch := omega) only [q_upT_self, q_upT_ne, q_upR_self, q_upR_nea, q_upR_nk, s_T_lo, s_T_hi, s_R_ne, *]; rfl)) ?_
        refine q_iload d_Carrier_load_52 rfl ?_
        refine q_callVv (M2 := M_Cells_take) d_Carrier_load_54 ⟨(Nat.le_of_ble_eq_true rfl), (Nat.le_of_ble_eq_true rfl), w_920, w_7, ⟨by decide, by decide⟩, show _ = some 3 by decide +kernel⟩ w_917 w_918 (ci := 1) rfl w_919 (by first | assumption | rfl | (simp (disch := omega) only [q_upT_self, q_upT_ne, q_upR_self, q_upR_nea, q_upR_nk, s_T_lo, s_T_hi, s_R_ne, *]; done) | (simp (disch := omega) only [q_upT_self, q_upT_ne, q_upR_self, q_upR_nea, q_upR_nk, s_T_lo, s_T_hi, s_R_ne, *]; rfl)) rfl (Nat.le_of_ble_eq_true rfl) (by omega) (by omega) (c_Cells_take (N := 238) (N2 := 168) hc1 hr.2.1 (by omega) (by omega) (by omega) (by omega)) ?_
        rintro _ rfl
        have hrw : k_rw (I1 (r + 1 + 1)) (q * 7) v := by rw [e1 (r + 1 + 1) (by omega)]; exact hv q v hv2
        have hw : w_at (c + 1 + 1) s v I1 (k_acp I1 (r + 1 + 1) (q * 7) (c + 1 + 1) (s * 7) 7) := w_at.tk hrw (by omega)
        first | refine q_iincN d_Carrier_load_57 rfl (Nat.le_of_ble_eq_true rfl) (by first | exact q_ok0 | exact q_okI rfl | exact q_okR rfl | exact q_okN rfl) rfl ?_ | refine q_iinc d_Carrier_load_57 rfl rfl (Nat.le_of_ble_eq_true rfl) (by first | exact q_ok0 | exact q_okI rfl | exact q_okR rfl | exact q_okN rfl) rfl ?_
        refine q_goto (tgt := 21) d_Carrier_load_60 rfl ?_
        refine ih (q + 1) _ (by omega) (fun b hb => (hw.1 b hb).trans (e1 b hb)) (fun a s' v' ha h1 h2 => ?_) _ _ rfl rfl
        by_cases haq : a = q
        · subst haq
          rw [← Option.some.inj (hs1.symm.trans h1), ← Option.some.inj (hv2.symm.trans h2)]
          exact hw.2.2
        · have hne : s' ≠ s := fun z => haq ((k_idx s1 h1).symm.trans (by rw [z]; exact k_idx s1 hs1))
          exact hw.keep hne (by have := s2 s' (List.mem_of_getElem? h1); omega) (e2 a s' v' (by omega) h1 h2)
      refine q_iload d_Carrier_load_21 rfl ?_
      refine q_iload d_Carrier_load_23 rfl ?_
      refine q_icmp_ge (tgt := 63) d_Carrier_load_25 rfl (fun hc => ?_) (fun hc => ?_)
      · rw [nI_leI (by omega) (by omega)] at hc
        omega
      cases fw with
      | true =>
        refine q_aload_n d_Carrier_load_28 rfl rfl ?_
        refine q_getR (ci := 0) (fk := 0) d_Carrier_load_29 rfl (Nat.le_of_ble_eq_true rfl) w_226 (fun _ _ => rfl) hL.1 (hL.2 0 _ _ _ rfl).1 ?_
        refine q_iload_n d_Carrier_load_32 rfl rfl ?_
        refine q_if_eq (tgt := 41) d_Carrier_load_33 rfl (fun hc => ?_) (fun hc => ?_)
        · exact absurd hc (by decide)
        refine q_iload d_Carrier_load_36 rfl ?_
        refine q_goto (tgt := 48) d_Carrier_load_38 rfl ?_
        have : s = q := by
          unfold s_in at hs1
          rw [if_pos rfl] at hs1
          have := (List.getElem?_eq_some_iff.mp hs1).2
          rw [List.getElem_range] at this
          exact this.symm
        rw [← this] at after ⊢
        exact after _ _ rfl rfl
      | false =>
        have hs3 : st.sb[q]? = some s := by
          unfold s_in at hs1
          rw [if_neg (by decide)] at hs1
          exact hs1
        have hlt := (List.getElem?_eq_some_iff.mp hs3).1
        refine q_aload_n d_Carrier_load_28 rfl rfl ?_
        refine q_getR (ci := 0) (fk := 0) d_Carrier_load_29 rfl (Nat.le_of_ble_eq_true rfl) w_226 (fun _ _ => rfl) hL.1 (hL.2 0 _ _ _ rfl).1 ?_
        refine q_iload_n d_Carrier_load_32 rfl rfl ?_
        refine q_if_eq (tgt := 41) d_Carrier_load_33 rfl (fun hc => ?_) (fun hc => ?_)
        rotate_left
        · exact absurd rfl hc
        refine q_aload_n d_Carrier_load_41 rfl rfl ?_
        refine q_getR (ci := 7) (fk := 6) d_Carrier_load_42 rfl (Nat.le_of_ble_eq_true rfl) w_662 (fun _ _ => rfl) (by first | assumption | rfl | (simp (disch := omega) only [q_upT_self, q_upT_ne, q_upR_self, q_upR_nea, q_upR_nk, s_T_lo, s_T_hi, s_R_ne, *]; done) | (simp (disch := omega) only [q_upT_self, q_upT_ne, q_upR_self, q_upR_nea, q_upR_nk, s_T_lo, s_T_hi, s_R_ne, *]; rfl)) (by first | assumption | rfl | (simp (disch := omega) only [q_upT_self, q_upT_ne, q_upR_self, q_upR_nea, q_upR_nk, s_T_lo, s_T_hi, s_R_ne, *]; done) | (simp (disch := omega) only [q_upT_self, q_upT_ne, q_upR_self, q_upR_nea, q_upR_nk, s_T_lo, s_T_hi, s_R_ne, *]; rfl)) ?_
        refine q_iload d_Carrier_load_45 rfl ?_
        refine q_iald d_Carrier_load_47 (by first | assumption | rfl | (simp (disch := omega) only [q_upT_self, q_upT_ne, q_upR_self, q_upR_nea, q_upR_nk, s_T_lo, s_T_hi, s_R_ne, *]; done) | (simp (disch := omega) only [q_upT_self, q_upT_ne, q_upR_self, q_upR_nea, q_upR_nk, s_T_lo, s_T_hi, s_R_ne, *]; rfl)) (by first | assumption | exact vp_in_nI (by omega) (by omega)) ?_
        rw [e1 (t + 2) nt2.1, ht.2.2.2.2.2.2.2.2.2.2.2.2 q s hs3]
        exact after _ _ rfl rfl
  refine q_C.of (ls0 := [some (.ref c), some (.ref r), some (.ref t), some (.int (p_b fw)), none, none]) (by decide) rfl (by decide) (Nat.le_of_ble_eq_true rfl) rfl ?_
  cases fw with
  | true =>
    have hb : n = st.nb := by rw [hn]; unfold s_in; rw [if_pos rfl, List.length_range]
    refine q_iload_n d_Carrier_load_0 rfl rfl ?_
    refine q_if_eq (tgt := 11) d_Carrier_load_1 rfl (fun hc => ?_) (fun hc => ?_)
    · exact absurd hc (by decide)
    refine q_aload_n d_Carrier_load_4 rfl rfl ?_
    refine q_getI (ci := 7) (fk := 5) d_Carrier_load_5 rfl (Nat.le_of_ble_eq_true rfl) w_659 (fun _ _ => rfl) (by first | assumption | rfl | (simp (disch := omega) only [q_upT_self, q_upT_ne, q_upR_self, q_upR_nea, q_upR_nk, s_T_lo, s_T_hi, s_R_ne, *]; done) | (simp (disch := omega) only [q_upT_self, q_upT_ne, q_upR_self, q_upR_nea, q_upR_nk, s_T_lo, s_T_hi, s_R_ne, *]; rfl)) ?_
    rw [i5, ← hb]
    refine q_goto (tgt := 16) d_Carrier_load_8 rfl ?_
    refine q_istore d_Carrier_load_16 (Nat.le_of_ble_eq_true rfl) (by first | exact q_ok0 | exact q_okI rfl | exact q_okR rfl | exact q_okN rfl) rfl ?_
    refine q_iconst (v := nI 0) d_Carrier_load_18 (by decide) ?_
    refine q_istore d_Carrier_load_19 (Nat.le_of_ble_eq_true rfl) (by first | exact q_ok0 | exact q_okI rfl | exact q_okR rfl | exact q_okN rfl) rfl ?_
    exact loop n 0 I (by omega) (fun _ _ => rfl) (fun a _ _ ha => absurd ha (by omega)) _ _ rfl rfl
  | false =>
    have hb : n = st.sb.length := by rw [hn]; unfold s_in; rw [if_neg (by decide)]
    refine q_iload_n d_Carrier_load_0 rfl rfl ?_
    refine q_if_eq (tgt := 11) d_Carrier_load_1 rfl (fun hc => ?_) (fun hc => ?_)
    rotate_left
    · exact absurd rfl hc
    refine q_aload_n d_Carrier_load_11 rfl rfl ?_
    refine q_getR (ci := 7) (fk := 6) d_Carrier_load_12 rfl (Nat.le_of_ble_eq_true rfl) w_662 (fun _ _ => rfl) (by first | assumption | rfl | (simp (disch := omega) only [q_upT_self, q_upT_ne, q_upR_self, q_upR_nea, q_upR_nk, s_T_lo, s_T_hi, s_R_ne, *]; done) | (simp (disch := omega) only [q_upT_self, q_upT_ne, q_upR_self, q_upR_nea, q_upR_nk, s_T_lo, s_T_hi, s_R_ne, *]; rfl)) (by first | assumption | rfl | (simp (disch := omega) only [q_upT_self, q_upT_ne, q_upR_self, q_upR_nea, q_upR_nk, s_T_lo, s_T_hi, s_R_ne, *]; done) | (simp (disch := omega) only [q_upT_self, q_upT_ne, q_upR_self, q_upR_nea, q_upR_nk, s_T_lo, s_T_hi, s_R_ne, *]; rfl)) ?_
    refine q_alen d_Carrier_load_15 (by first | assumption | rfl | (simp (disch := omega) only [q_upT_self, q_upT_ne, q_upR_self, q_upR_nea, q_upR_nk, s_T_lo, s_T_hi, s_R_ne, *]; done) | (simp (disch := omega) only [q_upT_self, q_upT_ne, q_upR_self, q_upR_nea, q_upR_nk, s_T_lo, s_T_hi, s_R_ne, *]; rfl)) (Nat.le_of_ble_eq_true rfl) ?_
    rw [← hb]
    refine q_istore d_Carrier_load_16 (Nat.le_of_ble_eq_true rfl) (by first | exact q_ok0 | exact q_okI rfl | exact q_okR rfl | exact q_okN rfl) rfl ?_
    refine q_iconst (v := nI 0) d_Carrier_load_18 (by decide) ?_
    refine q_istore d_Carrier_load_19 (Nat.le_of_ble_eq_true rfl) (by first | exact q_ok0 | exact q_okI rfl | exact q_okR rfl | exact q_okN rfl) rfl ?_
    exact loop n 0 I (by omega) (fun _ _ => rfl) (fun a _ _ ha => absurd ha (by omega)) _ _ rfl rfl
theorem c_Carrier_unload {x t i : Nat} {st : KS} {D E : List KF} {fw : Bool} {V : Nat → List Int32} (hc : q_L 0 t_Carrier c T R) (hc1 : q_L 1 (t_Cells 238) (c + 1) T R) (hr : r_new r T R) (ht : k_stp x t i st T I R) (hs : s_ok st D E) (hV : c_sl c P V I) (hP : ∀ s ∈ s_in (!fw) st, P s) : q_Cv g M_Carrier_unload [.ref c, .ref r, .ref t, .int (p_b fw)] (sz, T, I, R, J) 0 0 (fun h' => ∃ I', h' = (sz, T, I', R, J) ∧ (∀ b, b ≠ r → b ≠ r + 2 → I' b = I b) ∧ I' r (nI 0) = I r (nI 0) ∧ I' r (nI 1) = nI (if fw = true then st.to else st.fr) ∧ ∀ i v, ((s_in (!fw) st).map V)[i]? = some v → k_rw (I' (r + 2)) (i * 7) v) := by
  have h24 : st.sb.length ≤ 24 := by rw [hs.2.2.2.2.2.2.1, List.length_map]; exact hs.wfE
  have hp := c_pl_of hc1 hr ht h24
  obtain ⟨hn1, hn2, hn3⟩ := hp.ne
  obtain ⟨s1, s2, s3⟩ := hs.sin (fw := !fw)
  have hL := hc
  have tp := ht.2.1
  have ts := ht.2.2.2.2.2.2.2.2.2.2.1
  have r6 := ht.2.2.2.2.2.2.2.2.2.1
  have r1 := (hr.1.2 2 _ _ _ rfl).1
  have hrT := hr.1.1
  have tc1 := hc1.1
  have tr1 := hr.2.1.1
  have i5 := ht.2.2.2.2.2.2.1
  have i1 := ht.2.2.2.1
  have i2 := ht.2.2.2.2.1
  have nt := hn1 t (Or.inl rfl)
  have nt2 := hn1 (t + 2) (Or.inr (Or.inl rfl))
  obtain ⟨n, hn⟩ : ∃ n, n = (s_in (!fw) st).length := ⟨_, rfl⟩
  have loop : ∀ (j q : Nat) (I1 : q_I), q + j = n → (∀ b, b ≠ r + 2 → I1 b = I b) → (∀ (a : Nat) (v : List Int32), a < q → ((s_in (!fw) st).map V)[a]? = some v → k_rw (I1 (r + 2)) (a * 7) v) → ∀ mcc msc : Nat, mcc = 0 → msc = 0 → q_V g M_Carrier_unload 0 0 mcc msc (sz, T, I1, R, J) (fun o h' => o = .inl none ∧ ∃ I', h' = (sz, T, I', R, J) ∧ (∀ b, b ≠ r → b ≠ r + 2 → I' b = I b) ∧ I' r (nI 0) = I r (nI 0) ∧ I' r (nI 1) = nI (if fw = true then st.to else st.fr) ∧ ∀ i v, ((s_in (!fw) st).map V)[i]? = some v → k_rw (I' (r + 2)) (i * 7) v) 21 [some (.ref c), some (.ref r), some (.ref t), some (.int (p_b fw)), some (.int (nI n)), some (.int (nI q))] [] := by
    intro j
    induction j with
    | zero =>
      intro q I1 hq e1 e2 mcc msc m1 m2
      subst m1 m2
      have fin : ∀ (ver : Nat) (mcc msc : Nat), mcc = 0 → msc = 0 → ver = (if fw = true then st.to else st.fr) → q_V g M_Carrier_unload 0 0 mcc msc (sz, T, I1, R, J) (fun o h' => o = .inl none ∧ ∃ I', h' = (sz, T, I', R, J) ∧ (∀ b, b ≠ r → b ≠ r + 2 → I' b = I b) ∧ I' r (nI 0) = I r (nI 0) ∧ I' r (nI 1) = nI (if fw = true then st.to else st.fr) ∧ ∀ i v, ((s_in (!fw) st).map V)[i]? = some v → k_rw (I' (r + 2)) (i * 7) v) 79 [some (.ref c), some (.ref r), some (.ref t), some (.int (p_b fw)), some (.int (nI n)), some (.int (nI q))] [.int (nI ver), .ref r] := by
        intro ver mcc msc m1 m2 hver
        subst m1 m2
        refine q_putI (ci := 5) (fk := 1) d_Carrier_unload_79 rfl (Nat.le_of_ble_eq_true rfl) w_194 (Or.inl rfl) (fun _ _ => rfl) rfl rfl (by first | assumption | rfl | (simp (disch := omega) only [q_upT_self, q_upT_ne, q_upR_self, q_upR_nea, q_upR_nk, s_T_lo, s_T_hi, s_R_ne, *]; done) | (simp (disch := omega) only [q_upT_self, q_upT_ne, q_upR_self, q_upR_nea, q_upR_nk, s_T_lo, s_T_hi, s_R_ne, *]; rfl)) ?_
        refine q_vret d_Carrier_unload_82 rfl (by omega) (by omega) ?_
        refine ⟨rfl, _, rfl, fun b b1 b2 => ?_, ?_, ?_, fun a v hv => ?_⟩
        · funext z; rw [q_upI_nea b1, e1 b b2]
        · rw [q_upI_nk (by omega), e1 r (by omega)]
        · rw [q_upI_self, hver]
        · have hlt : a < n := by
            have := (List.getElem?_eq_some_iff.mp hv).1
            rw [List.length_map] at this; omega
          have := e2 a v (by omega) hv
          rw [show q_upI I1 r (nI 1) (nI ver) (r + 2) = I1 (r + 2) by funext z; rw [q_upI_nea (by omega)]]
          exact this
      refine q_iload d_Carrier_unload_21 rfl ?_
      refine q_iload d_Carrier_unload_23 rfl ?_
      refine q_icmp_ge (tgt := 63) d_Carrier_unload_25 rfl (fun hc => ?_) (fun hc => ?_)
      · cases fw with
        | true =>
          refine q_aload_n d_Carrier_unload_63 rfl rfl ?_
          refine q_iload_n d_Carrier_unload_64 rfl rfl ?_
          refine q_if_eq (tgt := 75) d_Carrier_unload_65 rfl (fun hc => ?_) (fun hc => ?_)
          · exact absurd hc (by decide)
          refine q_aload_n d_Carrier_unload_68 rfl rfl ?_
          refine q_getI (ci := 7) (fk := 2) d_Carrier_unload_69 rfl (Nat.le_of_ble_eq_true rfl) w_649 (fun _ _ => rfl) (by first | assumption | rfl | (simp (disch := omega) only [q_upT_self, q_upT_ne, q_upR_self, q_upR_nea, q_upR_nk, s_T_lo, s_T_hi, s_R_ne, *]; done) | (simp (disch := omega) only [q_upT_self, q_upT_ne, q_upR_self, q_upR_nea, q_upR_nk, s_T_lo, s_T_hi, s_R_ne, *]; rfl)) ?_
          rw [e1 t nt.2.2.1, i2]
          refine q_goto (tgt := 79) d_Carrier_unload_72 rfl ?_
          exact fin _ _ _ rfl rfl rfl
        | false =>
          refine q_aload_n d_Carrier_unload_63 rfl rfl ?_
          refine q_iload_n d_Carrier_unload_64 rfl rfl ?_
          refine q_if_eq (tgt := 75) d_Carrier_unload_65 rfl (fun hc => ?_) (fun hc => ?_)
          rotate_left
          · exact absurd rfl hc
          refine q_aload_n d_Carrier_unload_75 rfl rfl ?_
          refine q_getI (ci := 7) (fk := 1) d_Carrier_unload_76 rfl (Nat.le_of_ble_eq_true rfl) w_645 (fun _ _ => rfl) (by first | assumption | rfl | (simp (disch := omega) only [q_upT_self, q_upT_ne, q_upR_self, q_upR_nea, q_upR_nk, s_T_lo, s_T_hi, s_R_ne, *]; done) | (simp (disch := omega) only [q_upT_self, q_upT_ne, q_upR_self, q_upR_nea, q_upR_nk, s_T_lo, s_T_hi, s_R_ne, *]; rfl)) ?_
          rw [e1 t nt.2.2.1, i1]
          exact fin _ _ _ rfl rfl rfl
      · exact absurd (by rw [nI_leI (by omega) (by omega)]; omega) hc
    | succ j ih =>
      intro q I1 hq e1 e2 mcc msc m1 m2
      subst m1 m2
      obtain ⟨s, hs1⟩ : ∃ s, (s_in (!fw) st)[q]? = some s := ⟨_, List.getElem?_eq_getElem (by omega)⟩
      have hs2 := s2 s (List.mem_of_getElem? hs1)
      have hs4 := hP s (List.mem_of_getElem? hs1)
      have after : ∀ mcc msc : Nat, mcc = 0 → msc = 0 → q_V g M_Carrier_unload 0 0 mcc msc (sz, T, I1, R, J) (fun o h' => o = .inl none ∧ ∃ I', h' = (sz, T, I', R, J) ∧ (∀ b, b ≠ r → b ≠ r + 2 → I' b = I b) ∧ I' r (nI 0) = I r (nI 0) ∧ I' r (nI 1) = nI (if fw = true then st.to else st.fr) ∧ ∀ i v, ((s_in (!fw) st).map V)[i]? = some v → k_rw (I' (r + 2)) (i * 7) v) 54 [some (.ref c), some (.ref r), some (.ref t), some (.int (p_b fw)), some (.int (nI n)), some (.int (nI q))] [.int (nI s), .ref (c + 1), .int (nI q), .ref (r + 1)] := by
        intro mcc msc m1 m2
        subst m1 m2
        refine q_callVv (M2 := M_Cells_take) d_Carrier_unload_54 ⟨(Nat.le_of_ble_eq_true rfl), (Nat.le_of_ble_eq_true rfl), w_920, w_7, ⟨by decide, by decide⟩, show _ = some 3 by decide +kernel⟩ w_917 w_918 (ci := 1) rfl w_919 (by first | assumption | rfl | (simp (disch := omega) only [q_upT_self, q_upT_ne, q_upR_self, q_upR_nea, q_upR_nk, s_T_lo, s_T_hi, s_R_ne, *]; done) | (simp (disch := omega) only [q_upT_self, q_upT_ne, q_upR_self, q_upR_nea, q_upR_nk, s_T_lo, s_T_hi, s_R_ne, *]; rfl)) rfl (Nat.le_of_ble_eq_true rfl) (by omega) (by omega) (c_Cells_take (N := 168) (N2 := 238) hr.2.1 hc1 (by omega) (by omega) (by omega) (by omega)) ?_
        rintro _ rfl
        have hrw : k_rw (I1 (c + 1 + 1)) (s * 7) (V s) := by rw [e1 (c + 1 + 1) (by omega)]; exact hV s hs2 hs4
        have hw : w_at (r + 1 + 1) q (V s) I1 (k_acp I1 (c + 1 + 1) (s * 7) (r + 1 + 1) (q * 7) 7) := w_at.tk hrw (by omega)
        first | refine q_iincN d_Carrier_unload_57 rfl (Nat.le_of_ble_eq_true rfl) (by first | exact q_ok0 | exact q_okI rfl | exact q_okR rfl | exact q_okN rfl) rfl ?_ | refine q_iinc d_Carrier_unload_57 rfl rfl (Nat.le_of_ble_eq_true rfl) (by first | exact q_ok0 | exact q_okI rfl | exact q_okR rfl | exact q_okN rfl) rfl ?_
        refine q_goto (tgt := 21) d_Carrier_unload_60 rfl ?_
        refine ih (q + 1) _ (by omega) (fun b hb => (hw.1 b hb).trans (e1 b hb)) (fun a v' ha h1 => ?_) _ _ rfl rfl
        by_cases haq : a = q
        · subst haq
          rw [List.getElem?_map, hs1] at h1
          rw [← Option.some.inj h1]
          exact hw.2.2
        · exact hw.keep haq (by omega) (e2 a v' (by omega) h1)
      refine q_iload d_Carrier_unload_21 rfl ?_
      refine q_iload d_Carrier_unload_23 rfl ?_
      refine q_icmp_ge (tgt := 63) d_Carrier_unload_25 rfl (fun hc => ?_) (fun hc => ?_)
      · rw [nI_leI (by omega) (by omega)] at hc
        omega
      cases fw with
      | false =>
        refine q_aload_n d_Carrier_unload_28 rfl rfl ?_
        refine q_getR (ci := 5) (fk := 2) d_Carrier_unload_29 rfl (Nat.le_of_ble_eq_true rfl) w_197 (fun _ _ => rfl) (by first | assumption | rfl | (simp (disch := omega) only [q_upT_self, q_upT_ne, q_upR_self, q_upR_nea, q_upR_nk, s_T_lo, s_T_hi, s_R_ne, *]; done) | (simp (disch := omega) only [q_upT_self, q_upT_ne, q_upR_self, q_upR_nea, q_upR_nk, s_T_lo, s_T_hi, s_R_ne, *]; rfl)) (by first | assumption | rfl | (simp (disch := omega) only [q_upT_self, q_upT_ne, q_upR_self, q_upR_nea, q_upR_nk, s_T_lo, s_T_hi, s_R_ne, *]; done) | (simp (disch := omega) only [q_upT_self, q_upT_ne, q_upR_self, q_upR_nea, q_upR_nk, s_T_lo, s_T_hi, s_R_ne, *]; rfl)) ?_
        refine q_iload d_Carrier_unload_32 rfl ?_
        refine q_aload_n d_Carrier_unload_34 rfl rfl ?_
        refine q_getR (ci := 0) (fk := 0) d_Carrier_unload_35 rfl (Nat.le_of_ble_eq_true rfl) w_226 (fun _ _ => rfl) hL.1 (hL.2 0 _ _ _ rfl).1 ?_
        refine q_iload_n d_Carrier_unload_38 rfl rfl ?_
        refine q_if_eq (tgt := 52) d_Carrier_unload_39 rfl (fun hc => ?_) (fun hc => ?_)
        rotate_left
        · exact absurd rfl hc
        refine q_iload d_Carrier_unload_52 rfl ?_
        have : s = q := by
          unfold s_in at hs1
          rw [if_pos (by decide)] at hs1
          have := (List.getElem?_eq_some_iff.mp hs1).2
          rw [List.getElem_range] at this
          exact this.symm
        have e := after _ _ rfl rfl
        rw [this] at e
        exact e
      | true =>
        have hs3 : st.sb[q]? = some s := by
          unfold s_in at hs1
          rw [if_neg (by decide)] at hs1
          exact hs1
        have hlt := (List.getElem?_eq_some_iff.mp hs3).1
        refine q_aload_n d_Carrier_unload_28 rfl rfl ?_
        refine q_getR (ci := 5) (fk := 2) d_Carrier_unload_29 rfl (Nat.le_of_ble_eq_true rfl) w_197 (fun _ _ => rfl) (by first | assumption | rfl | (simp (disch := omega) only [q_upT_self, q_upT_ne, q_upR_self, q_upR_nea, q_upR_nk, s_T_lo, s_T_hi, s_R_ne, *]; done) | (simp (disch := omega) only [q_upT_self, q_upT_ne, q_upR_self, q_upR_nea, q_upR_nk, s_T_lo, s_T_hi, s_R_ne, *]; rfl)) (by first | assumption | rfl | (simp (disch := omega) only [q_upT_self, q_upT_ne, q_upR_self, q_upR_nea, q_upR_nk, s_T_lo, s_T_hi, s_R_ne, *]; done) | (simp (disch := omega) only [q_upT_self, q_upT_ne, q_upR_self, q_upR_nea, q_upR_nk, s_T_lo, s_T_hi, s_R_ne, *]; rfl)) ?_
        refine q_iload d_Carrier_unload_32 rfl ?_
        refine q_aload_n d_Carrier_unload_34 rfl rfl ?_
        refine q_getR (ci := 0) (fk := 0) d_Carrier_unload_35 rfl (Nat.le_of_ble_eq_true rfl) w_226 (fun _ _ => rfl) hL.1 (hL.2 0 _ _ _ rfl).1 ?_
        refine q_iload_n d_Carrier_unload_38 rfl rfl ?_
        refine q_if_eq (tgt := 52) d_Carrier_unload_39 rfl (fun hc => ?_) (fun hc => ?_)
        · exact absurd hc (by decide)
        refine q_aload_n d_Carrier_unload_42 rfl rfl ?_
        refine q_getR (ci := 7) (fk := 6) d_Carrier_unload_43 rfl (Nat.le_of_ble_eq_true rfl) w_662 (fun _ _ => rfl) (by first | assumption | rfl | (simp (disch := omega) only [q_upT_self, q_upT_ne, q_upR_self, q_upR_nea, q_upR_nk, s_T_lo, s_T_hi, s_R_ne, *]; done) | (simp (disch := omega) only [q_upT_self, q_upT_ne, q_upR_self, q_upR_nea, q_upR_nk, s_T_lo, s_T_hi, s_R_ne, *]; rfl)) (by first | assumption | rfl | (simp (disch := omega) only [q_upT_self, q_upT_ne, q_upR_self, q_upR_nea, q_upR_nk, s_T_lo, s_T_hi, s_R_ne, *]; done) | (simp (disch := omega) only [q_upT_self, q_upT_ne, q_upR_self, q_upR_nea, q_upR_nk, s_T_lo, s_T_hi, s_R_ne, *]; rfl)) ?_
        refine q_iload d_Carrier_unload_46 rfl ?_
        refine q_iald d_Carrier_unload_48 (by first | assumption | rfl | (simp (disch := omega) only [q_upT_self, q_upT_ne, q_upR_self, q_upR_nea, q_upR_nk, s_T_lo, s_T_hi, s_R_ne, *]; done) | (simp (disch := omega) only [q_upT_self, q_upT_ne, q_upR_self, q_upR_nea, q_upR_nk, s_T_lo, s_T_hi, s_R_ne, *]; rfl)) (by first | assumption | exact vp_in_nI (by omega) (by omega)) ?_
        rw [e1 (t + 2) nt2.2.2.1, ht.2.2.2.2.2.2.2.2.2.2.2.2 q s hs3]
        refine q_goto (tgt := 54) d_Carrier_unload_49 rfl ?_
        exact after _ _ rfl rfl
  refine q_C.of (ls0 := [some (.ref c), some (.ref r), some (.ref t), some (.int (p_b fw)), none, none]) (by decide) rfl (by decide) (Nat.le_of_ble_eq_true rfl) rfl ?_
  cases fw with
  | false =>
    have hb : n = st.nb := by rw [hn]; unfold s_in; rw [if_pos (by decide), List.length_range]
    refine q_iload_n d_Carrier_unload_0 rfl rfl ?_
    refine q_if_eq (tgt := 12) d_Carrier_unload_1 rfl (fun hc => ?_) (fun hc => ?_)
    rotate_left
    · exact absurd rfl hc
    refine q_aload_n d_Carrier_unload_12 rfl rfl ?_
    refine q_getI (ci := 7) (fk := 5) d_Carrier_unload_13 rfl (Nat.le_of_ble_eq_true rfl) w_659 (fun _ _ => rfl) (by first | assumption | rfl | (simp (disch := omega) only [q_upT_self, q_upT_ne, q_upR_self, q_upR_nea, q_upR_nk, s_T_lo, s_T_hi, s_R_ne, *]; done) | (simp (disch := omega) only [q_upT_self, q_upT_ne, q_upR_self, q_upR_nea, q_upR_nk, s_T_lo, s_T_hi, s_R_ne, *]; rfl)) ?_
    rw [i5, ← hb]
    refine q_istore d_Carrier_unload_16 (Nat.le_of_ble_eq_true rfl) (by first | exact q_ok0 | exact q_okI rfl | exact q_okR rfl | exact q_okN rfl) rfl ?_
    refine q_iconst (v := nI 0) d_Carrier_unload_18 (by decide) ?_
    refine q_istore d_Carrier_unload_19 (Nat.le_of_ble_eq_true rfl) (by first | exact q_ok0 | exact q_okI rfl | exact q_okR rfl | exact q_okN rfl) rfl ?_
    exact loop n 0 I (by omega) (fun _ _ => rfl) (fun a _ ha => absurd ha (by omega)) _ _ rfl rfl
  | true =>
    have hb : n = st.sb.length := by rw [hn]; unfold s_in; rw [if_neg (by decide)]
    refine q_iload_n d_Carrier_unload_0 rfl rfl ?_
    refine q_if_eq (tgt := 12) d_Carrier_unload_1 rfl (fun hc => ?_) (fun hc => ?_)
    · exact absurd hc (by decide)
    refine q_aload_n d_Carrier_unload_4 rfl rfl ?_
    refine q_getR (ci := 7) (fk := 6) d_Carrier_unload_5 rfl (Nat.le_of_ble_eq_true rfl) w_662 (fun _ _ => rfl) (by first | assumption | rfl | (simp (disch := omega) only [q_upT_self, q_upT_ne, q_upR_self, q_upR_nea, q_upR_nk, s_T_lo, s_T_hi, s_R_ne, *]; done) | (simp (disch := omega) only [q_upT_self, q_upT_ne, q_upR_self, q_upR_nea, q_upR_nk, s_T_lo, s_T_hi, s_R_ne, *]; rfl)) (by first | assumption | rfl | (simp (disch := omega) only [q_upT_self, q_upT_ne, q_upR_self, q_upR_nea, q_upR_nk, s_T_lo, s_T_hi, s_R_ne, *]; done) | (simp (disch := omega) only [q_upT_self, q_upT_ne, q_upR_self, q_upR_nea, q_upR_nk, s_T_lo, s_T_hi, s_R_ne, *]; rfl)) ?_
    refine q_alen d_Carrier_unload_8 (by first | assumption | rfl | (simp (disch := omega) only [q_upT_self, q_upT_ne, q_upR_self, q_upR_nea, q_upR_nk, s_T_lo, s_T_hi, s_R_ne, *]; done) | (simp (disch := omega) only [q_upT_self, q_upT_ne, q_upR_self, q_upR_nea, q_upR_nk, s_T_lo, s_T_hi, s_R_ne, *]; rfl)) (Nat.le_of_ble_eq_true rfl) ?_
    rw [← hb]
    refine q_goto (tgt := 16) d_Carrier_unload_9 rfl ?_
    refine q_istore d_Carrier_unload_16 (Nat.le_of_ble_eq_true rfl) (by first | exact q_ok0 | exact q_okI rfl | exact q_okR rfl | exact q_okN rfl) rfl ?_
    refine q_iconst (v := nI 0) d_Carrier_unload_18 (by decide) ?_
    refine q_istore d_Carrier_unload_19 (Nat.le_of_ble_eq_true rfl) (by first | exact q_ok0 | exact q_okI rfl | exact q_okR rfl | exact q_okN rfl) rfl ?_
    exact loop n 0 I (by omega) (fun _ _ => rfl) (fun a _ ha => absurd ha (by omega)) _ _ rfl rfl
theorem k_can.ok {D : List KF} (h : k_can p D) : p_ok p := by
  obtain ⟨-, -, -, -, -, -, -, -, c5, c6, -⟩ := h
  exact ⟨fun z => ⟨(c6 z).2.1, (c6 z).2.2.1⟩, fun z => by have := z_lit 2 (by omega) (c5 z).2.1.1; omega⟩
theorem c_xf.yf {I' : q_I} (h : c_xf c r I I') (hr : r ≠ c + 2) : c_yf c r I I' := ⟨fun b a1 _ _ a4 a5 a6 => h b a1 a4 a5 a6, by rw [h r hr (by omega) (by omega) (by omega)]⟩
theorem c_Carrier_takeOver {x t i ver : Nat} {st : KS} {D E : List KF} {fw : Bool} {val : List (List Int32)} {K : Nat → KK} (hc : q_L 0 t_Carrier c T R) (hc1 : q_L 1 (t_Cells 238) (c + 1) T R) (hr : r_new r T R) (ht : k_stp x t i st T I R) (hs : s_ok st D E) (hi : i < 16) (hrec : k_rec r (ver, val, K) I) (hl : val.length = (s_in fw st).length) (hh : k_hv (if fw = true then D else k_fws D st.pr) (a_ld fw st val)) (hK : ∀ j p, st.pr[j]? = some p → k_kok (some p) (K (8 * i + j))) : q_Ci g M_Carrier_takeOver [.ref c, .ref r, .ref t, .int (p_b fw)] (sz, T, I, R, J) 0 0 (fun v h' => ∃ I', h' = (sz, T, I', R, J) ∧ c_yf c r I I' ∧ ((v = 1 ∧ (a_st fw i st (val, K, false)).2.2 = false ∧ k_rec r (if fw = true then st.to else st.fr, (a_st fw i st (val, K, false)).1, (a_st fw i st (val, K, false)).2.1) I') ∨ (v = 0 ∧ (a_st fw i st (val, K, false)).2.2 = true))) := by
  have h24 : st.sb.length ≤ 24 := by rw [hs.2.2.2.2.2.2.1, List.length_map]; exact hs.wfE
  have hp := c_pl_of hc1 hr ht h24
  obtain ⟨hn1, hn2, hn3⟩ := hp.ne
  have hss := hs
  obtain ⟨w1, w2, w3, w4, w5, w6, w7, w8⟩ := hss
  have hL := hc
  have tp := ht.2.1
  have rt4 := ht.2.2.2.2.2.2.2.1
  have tt1 := ht.2.2.2.2.2.2.2.2.1
  obtain ⟨Q, hQ⟩ : ∃ Q : q_O → q_H → Prop, Q = (fun o h' => ∃ v : Int32, o = .inl (some (.int v)) ∧ ∃ I', h' = (sz, T, I', R, J) ∧ c_yf c r I I' ∧ ((v = 1 ∧ (a_st fw i st (val, K, false)).2.2 = false ∧ k_rec r (if fw = true then st.to else st.fr, (a_st fw i st (val, K, false)).1, (a_st fw i st (val, K, false)).2.1) I') ∨ (v = 0 ∧ (a_st fw i st (val, K, false)).2.2 = true))) := ⟨_, rfl⟩
  have body : ∀ (a q : Nat) (I1 : q_I) (X : KV) (P : Nat → Prop) (p : KP) (l5 l6 : Option Value) (mcc msc : Nat), mcc = 0 → msc = 0 → st.pr[a]? = some p → c_yf c r I I1 → c_xx c r P X I1 → p_ok p → p.kind ≤ 8 → t_pre fw p (8 * i + a) P X → (∀ (I2 : q_I) (l5 l6 : Option Value), c_yf c r I I2 → c_xx c r (t_lv p P) (t_go fw p (8 * i + a) X) I2 → (t_go fw p (8 * i + a) X).2.2 = X.2.2 → q_V g M_Carrier_takeOver 0 0 0 0 (sz, T, I2, R, J) Q 71 [some (.ref c), some (.ref r), some (.ref t), some (.int (p_b fw)), some (.int (nI q)), l5, l6] []) → ((t_go fw p (8 * i + a) X).2.2 = true → (a_st fw i st (val, K, false)).2.2 = true) → q_V g M_Carrier_takeOver 0 0 mcc msc (sz, T, I1, R, J) Q 37 [some (.ref c), some (.ref r), some (.ref t), some (.int (p_b fw)), some (.int (nI q)), l5, l6] [.int (nI a)] := by
    intro a q I1 X P p l5 l6 mcc msc m1 m2 hpa y1 x1 po1 k8 pr1 kk ff
    subst m1 m2
    have ha := (List.getElem?_eq_some_iff.mp hpa).1
    have kst := y1.stp hp ht
    obtain ⟨po, o1, o2, o3⟩ := kst.2.2.2.2.2.2.2.2.2.2.2.1 a p hpa
    have hcr : c_cr c r po p T I1 R := ⟨hc, hc1, hr, o3, (w8.2 p (List.mem_of_getElem? hpa)).1, (w8.2 p (List.mem_of_getElem? hpa)).2⟩
    refine q_istore d_Carrier_takeOver_37 (Nat.le_of_ble_eq_true rfl) (by first | exact q_ok0 | exact q_okI rfl | exact q_okR rfl | exact q_okN rfl) rfl ?_
    refine q_aload_n d_Carrier_takeOver_39 rfl rfl ?_
    refine q_getI (ci := 7) (fk := 0) d_Carrier_takeOver_40 rfl (Nat.le_of_ble_eq_true rfl) w_643 (fun _ _ => rfl) (by first | assumption | rfl | (simp (disch := omega) only [q_upT_self, q_upT_ne, q_upR_self, q_upR_nea, q_upR_nk, s_T_lo, s_T_hi, s_R_ne, *]; done) | (simp (disch := omega) only [q_upT_self, q_upT_ne, q_upR_self, q_upR_nea, q_upR_nk, s_T_lo, s_T_hi, s_R_ne, *]; rfl)) ?_
    rw [kst.2.2.1]
    refine q_bipush (v := nI 8) d_Carrier_takeOver_43 (by decide) ?_
    first | refine q_imulN d_Carrier_takeOver_45 ?_ | refine q_imul d_Carrier_takeOver_45 ?_
    refine q_iload d_Carrier_takeOver_46 rfl ?_
    first | refine q_iaddN d_Carrier_takeOver_48 ?_ | refine q_iadd d_Carrier_takeOver_48 ?_
    refine q_istore d_Carrier_takeOver_49 (Nat.le_of_ble_eq_true rfl) (by first | exact q_ok0 | exact q_okI rfl | exact q_okR rfl | exact q_okN rfl) rfl ?_
    refine q_aload_n d_Carrier_takeOver_51 rfl rfl ?_
    refine q_aload_n d_Carrier_takeOver_52 rfl rfl ?_
    refine q_getR (ci := 7) (fk := 4) d_Carrier_takeOver_53 rfl (Nat.le_of_ble_eq_true rfl) w_656 (fun _ _ => rfl) (by first | assumption | rfl | (simp (disch := omega) only [q_upT_self, q_upT_ne, q_upR_self, q_upR_nea, q_upR_nk, s_T_lo, s_T_hi, s_R_ne, *]; done) | (simp (disch := omega) only [q_upT_self, q_upT_ne, q_upR_self, q_upR_nea, q_upR_nk, s_T_lo, s_T_hi, s_R_ne, *]; rfl)) (by first | assumption | rfl | (simp (disch := omega) only [q_upT_self, q_upT_ne, q_upR_self, q_upR_nea, q_upR_nk, s_T_lo, s_T_hi, s_R_ne, *]; done) | (simp (disch := omega) only [q_upT_self, q_upT_ne, q_upR_self, q_upR_nea, q_upR_nk, s_T_lo, s_T_hi, s_R_ne, *]; rfl)) ?_
    refine q_iload d_Carrier_takeOver_56 rfl ?_
    refine q_aaldR (kd := _) d_Carrier_takeOver_58 rfl (Nat.le_of_ble_eq_true rfl) (Nat.le_of_ble_eq_true rfl) (by first | assumption | rfl | (simp (disch := omega) only [q_upT_self, q_upT_ne, q_upR_self, q_upR_nea, q_upR_nk, s_T_lo, s_T_hi, s_R_ne, *]; done) | (simp (disch := omega) only [q_upT_self, q_upT_ne, q_upR_self, q_upR_nea, q_upR_nk, s_T_lo, s_T_hi, s_R_ne, *]; rfl)) (by first | assumption | exact vp_in_nI (by omega) (by omega)) (by first | assumption | rfl | (simp (disch := omega) only [q_upT_self, q_upT_ne, q_upR_self, q_upR_nea, q_upR_nk, s_T_lo, s_T_hi, s_R_ne, *]; done) | (simp (disch := omega) only [q_upT_self, q_upT_ne, q_upR_self, q_upR_nea, q_upR_nk, s_T_lo, s_T_hi, s_R_ne, *]; rfl)) ?_
    rw [show i * 8 + a = 8 * i + a by omega]
    refine q_aload_n d_Carrier_takeOver_59 rfl rfl ?_
    refine q_iload d_Carrier_takeOver_60 rfl ?_
    refine q_iload_n d_Carrier_takeOver_62 rfl rfl ?_
    refine q_callVi (M2 := M_Carrier_pass) d_Carrier_takeOver_63 ⟨(Nat.le_of_ble_eq_true rfl), (Nat.le_of_ble_eq_true rfl), w_924, w_8, ⟨by decide, by decide⟩, show _ = some 4 by decide +kernel⟩ w_921 w_923 (ci := 0) rfl s_27 hL.1 rfl (Nat.le_of_ble_eq_true rfl) (by omega) (by omega) (c_Carrier_pass hcr po1 k8 x1 (by omega) pr1) ?_
    rintro v h' hx
    rcases hx with ⟨rfl, x2, I2, rfl, x3, x4⟩ | ⟨rfl, x2, rfl⟩
    · refine q_if_ne (tgt := 71) d_Carrier_takeOver_66 rfl (fun hc => ?_) (fun hc => ?_)
      rotate_left
      · exact absurd hc (by decide)
      exact kk I2 _ _ (y1.trans (x3.yf (by omega))) x4 x2
    · refine q_if_ne (tgt := 71) d_Carrier_takeOver_66 rfl (fun hc => ?_) (fun hc => ?_)
      · exact absurd rfl hc
      refine q_iconst (v := nI 0) d_Carrier_takeOver_69 (by decide) ?_
      refine q_zret d_Carrier_takeOver_70 rfl (by first | exact Or.inl rfl | exact Or.inr rfl | assumption) (by omega) (by omega) ?_
      rw [hQ]
      exact ⟨_, rfl, I1, rfl, y1, Or.inr ⟨rfl, ff x2⟩⟩
  have fin : ∀ (X : KV) (P : Nat → Prop) (I1 : q_I) (l4 l5 l6 : Option Value) (mcc msc : Nat), mcc = 0 → msc = 0 → X = t_run fw (8 * i) st.pr (a_ld fw st val, K, false) → X.2.2 = false → c_yf c r I I1 → c_xx c r P X I1 → (∀ s ∈ s_in (!fw) st, P s) → q_V g M_Carrier_takeOver 0 0 mcc msc (sz, T, I1, R, J) Q 77 [some (.ref c), some (.ref r), some (.ref t), some (.int (p_b fw)), l4, l5, l6] [] := by
    intro X P I1 l4 l5 l6 mcc msc m1 m2 hX hX2 y1 x1 hP
    subst m1 m2
    refine q_aload_n d_Carrier_takeOver_77 rfl rfl ?_
    refine q_aload_n d_Carrier_takeOver_78 rfl rfl ?_
    refine q_aload_n d_Carrier_takeOver_79 rfl rfl ?_
    refine q_iload_n d_Carrier_takeOver_80 rfl rfl ?_
    refine q_callVv (M2 := M_Carrier_unload) d_Carrier_takeOver_81 ⟨(Nat.le_of_ble_eq_true rfl), (Nat.le_of_ble_eq_true rfl), w_1002, w_8, ⟨by decide, by decide⟩, show _ = some 3 by decide +kernel⟩ w_999 w_1001 (ci := 0) rfl s_36 hL.1 rfl (Nat.le_of_ble_eq_true rfl) (by omega) (by omega) (c_Carrier_unload hc hc1 hr (y1.stp hp ht) hs x1.1 hP) ?_
    rintro _ ⟨I2, rfl, u1, u2, u3, u4⟩
    refine q_iconst (v := nI 1) d_Carrier_takeOver_84 (by decide) ?_
    refine q_zret d_Carrier_takeOver_85 rfl (by first | exact Or.inl rfl | exact Or.inr rfl | assumption) (by omega) (by omega) ?_
    rw [hQ]
    refine ⟨_, rfl, I2, rfl, y1.trans ⟨fun b _ b2 b3 _ _ _ => u1 b b2 b3, u2⟩, Or.inl ⟨rfl, ?_, ?_⟩⟩
    · unfold a_st; rw [← hX]; exact hX2
    · unfold a_st
      rw [← hX]
      refine ⟨u3, u4, fun k hk => ?_⟩
      have := x1.2 k hk
      unfold c_kk at this
      rw [u1 (r + 3) (by omega) (by omega), u1 (r + 5) (by omega) (by omega), u1 (r + 7) (by omega) (by omega)]
      exact this
  have n3 : r + 3 ≠ c + 2 := fun e => by have := hp.1; rw [← e, hp.2.2.2.1] at this; cases this
  have n5 : r + 5 ≠ c + 2 := fun e => by have := hp.1; rw [← e, hp.2.2.2.2.1] at this; cases this
  have n7 : r + 7 ≠ c + 2 := fun e => by have := hp.1; rw [← e, hp.2.2.2.2.2.1] at this; cases this
  have cnt : ∀ I1 : q_I, c_yf c r I I1 → I1 t (nI 3) = nI st.pr.length := fun I1 y1 => (y1.stp hp ht).2.2.2.2.2.1
  refine q_C.of (ls0 := [some (.ref c), some (.ref r), some (.ref t), some (.int (p_b fw)), none, none, none]) (by decide) rfl (by decide) (Nat.le_of_ble_eq_true rfl) rfl ?_
  rw [← hQ]
  refine q_aload_n d_Carrier_takeOver_0 rfl rfl ?_
  refine q_aload_n d_Carrier_takeOver_1 rfl rfl ?_
  refine q_aload_n d_Carrier_takeOver_2 rfl rfl ?_
  refine q_iload_n d_Carrier_takeOver_3 rfl rfl ?_
  refine q_callVv (M2 := M_Carrier_load) d_Carrier_takeOver_4 ⟨(Nat.le_of_ble_eq_true rfl), (Nat.le_of_ble_eq_true rfl), w_916, w_8, ⟨by decide, by decide⟩, show _ = some 3 by decide +kernel⟩ w_913 w_915 (ci := 0) rfl s_26 hL.1 rfl (Nat.le_of_ble_eq_true rfl) (by omega) (by omega) (c_Carrier_load hc hc1 hr ht hs hrec.2.1 hl) ?_
  rintro _ ⟨I0, rfl, l1, l2⟩
  have y0 : c_yf c r I I0 := ⟨fun b b1 _ _ _ _ _ => l1 b b1, by rw [l1 r (by omega)]⟩
  have k0 : c_kp r K I0 := fun k hk => by
    have := hrec.2.2 k hk
    unfold c_kk
    rw [l1 (r + 3) n3, l1 (r + 5) n5, l1 (r + 7) n7]
    exact this
  refine q_iconst (v := nI 0) d_Carrier_takeOver_7 (by decide) ?_
  refine q_istore d_Carrier_takeOver_8 (Nat.le_of_ble_eq_true rfl) (by first | exact q_ok0 | exact q_okI rfl | exact q_okR rfl | exact q_okN rfl) rfl ?_
  cases fw with
  | true =>
    have loop : ∀ (ps : List KP) (q : Nat) (Dq : List KF) (X : KV) (I1 : q_I) (l5 l6 : Option Value), q + ps.length = st.pr.length → (∀ j, st.pr[q + j]? = ps[j]?) → k_chn Dq ps → k_wfL Dq → k_nds Dq → k_hv Dq X.1 → (∀ j p, q ≤ j → st.pr[j]? = some p → k_kok (some p) (X.2.1 (8 * i + j))) → X.2.2 = false → t_fws (8 * i + q) ps X = t_run true (8 * i) st.pr (a_ld true st val, K, false) → k_fws Dq ps = k_fws D st.pr → c_yf c r I I1 → c_xx c r (fun s => ∃ f ∈ Dq, f.2.2.2.2 = s) X I1 → q_V g M_Carrier_takeOver 0 0 0 0 (sz, T, I1, R, J) Q 10 [some (.ref c), some (.ref r), some (.ref t), some (.int (p_b true)), some (.int (nI q)), l5, l6] [] := by
      intro ps
      induction ps with
      | nil =>
        intro q Dq X I1 l5 l6 a1 a2 a3 a4 a5 a6 a7 a8 a9 a10 a11 a12
        simp only [List.length_nil] at a1
        refine q_iload d_Carrier_takeOver_10 rfl ?_
        refine q_aload_n d_Carrier_takeOver_12 rfl rfl ?_
        refine q_getI (ci := 7) (fk := 3) d_Carrier_takeOver_13 rfl (Nat.le_of_ble_eq_true rfl) w_653 (fun _ _ => rfl) (by first | assumption | rfl | (simp (disch := omega) only [q_upT_self, q_upT_ne, q_upR_self, q_upR_nea, q_upR_nk, s_T_lo, s_T_hi, s_R_ne, *]; done) | (simp (disch := omega) only [q_upT_self, q_upT_ne, q_upR_self, q_upR_nea, q_upR_nk, s_T_lo, s_T_hi, s_R_ne, *]; rfl)) ?_
        rw [cnt I1 a11]
        refine q_icmp_ge (tgt := 77) d_Carrier_takeOver_16 rfl (fun hc => ?_) (fun hc => ?_)
        · refine fin X _ I1 _ _ _ _ _ rfl rfl a9 a8 a11 a12 fun s hs1 => ?_
          have hs2 : s ∈ st.sb := hs1
          rw [w7] at hs2
          obtain ⟨f, f1, rfl⟩ := List.mem_map.mp hs2
          exact ⟨f, by rw [show Dq = k_fws D st.pr from a10]; exact w6.mem_iff.mp f1, rfl⟩
        · exact absurd (by rw [nI_leI (by omega) (by omega)]; omega) hc
      | cons p ps ih =>
        intro q Dq X I1 l5 l6 a1 a2 a3 a4 a5 a6 a7 a8 a9 a10 a11 a12
        simp only [List.length_cons] at a1
        have hpq : st.pr[q]? = some p := a2 0
        refine q_iload d_Carrier_takeOver_10 rfl ?_
        refine q_aload_n d_Carrier_takeOver_12 rfl rfl ?_
        refine q_getI (ci := 7) (fk := 3) d_Carrier_takeOver_13 rfl (Nat.le_of_ble_eq_true rfl) w_653 (fun _ _ => rfl) (by first | assumption | rfl | (simp (disch := omega) only [q_upT_self, q_upT_ne, q_upR_self, q_upR_nea, q_upR_nk, s_T_lo, s_T_hi, s_R_ne, *]; done) | (simp (disch := omega) only [q_upT_self, q_upT_ne, q_upR_self, q_upR_nea, q_upR_nk, s_T_lo, s_T_hi, s_R_ne, *]; rfl)) ?_
        rw [cnt I1 a11]
        refine q_icmp_ge (tgt := 77) d_Carrier_takeOver_16 rfl (fun hc => ?_) (fun hc => ?_)
        · rw [nI_leI (by omega) (by omega)] at hc
          omega
        refine q_iload_n d_Carrier_takeOver_19 rfl rfl ?_
        refine q_if_eq (tgt := 28) d_Carrier_takeOver_20 rfl (fun hc => ?_) (fun hc => ?_)
        · exact absurd hc (by decide)
        refine q_iload d_Carrier_takeOver_23 rfl ?_
        refine q_goto (tgt := 37) d_Carrier_takeOver_25 rfl ?_
        have hkp := a7 q p (Nat.le_refl q) hpq
        refine body q q I1 X _ p _ _ _ _ rfl rfl hpq a11 a12 a3.1.ok a3.1.2.1 (t_fw_pre a3.1 a6 hkp (fun f hf => ⟨f, hf, rfl⟩)) (fun I2 l5 l6 y2 x2 x3 => ?_) (fun z => ?_)
        · obtain ⟨o1, o2⟩ := t_fw_ok a4 a5 a3.1 a6 hkp
          first | refine q_iincN d_Carrier_takeOver_71 rfl (Nat.le_of_ble_eq_true rfl) (by first | exact q_ok0 | exact q_okI rfl | exact q_okR rfl | exact q_okN rfl) rfl ?_ | refine q_iinc d_Carrier_takeOver_71 rfl rfl (Nat.le_of_ble_eq_true rfl) (by first | exact q_ok0 | exact q_okI rfl | exact q_okR rfl | exact q_okN rfl) rfl ?_
          refine q_goto (tgt := 10) d_Carrier_takeOver_74 rfl ?_
          refine ih (q + 1) (k_fw p Dq) _ I2 l5 l6 (by omega) (fun j => by rw [show q + 1 + j = q + (j + 1) by omega]; exact a2 (j + 1)) a3.2 (k_fw_wf a4 a3.1) (k_fw_nds a5 a3.1) o1 (fun j p' hj hp' => ?_) (x3.trans a8) a9 a10 y2 ⟨x2.1.imp fun s hs1 => ?_, x2.2⟩
          · rw [t_go_oth (by omega)]; exact a7 j p' (by omega) hp'
          · obtain ⟨f, f1, rfl⟩ := hs1
            exact t_fw_lv a3.1 (fun f hf => ⟨f, hf, rfl⟩) f f1
        · show (t_run true (8 * i) st.pr (a_ld true st val, K, false)).2.2 = true
          rw [← a9]
          exact t_fws_can ps _ _ z
    refine loop st.pr 0 D (a_ld true st val, K, false) I0 _ _ (by omega) (fun j => by rw [Nat.zero_add]) w3 w1 w2 hh (fun j p _ hp => hK j p hp) rfl rfl rfl y0 ⟨l2.imp fun s hs1 => ?_, k0⟩
    obtain ⟨f, f1, rfl⟩ := hs1
    show f.2.2.2.2 ∈ List.range st.nb
    rw [← w5]
    exact List.mem_map_of_mem f1
  | false =>
    have loop : ∀ (n q : Nat) (X : KV) (I1 : q_I) (l5 l6 : Option Value), q + n = st.pr.length → k_hv (k_fws D (st.pr.take n)) X.1 → (∀ j p, j < n → st.pr[j]? = some p → k_kok (some p) (X.2.1 (8 * i + j))) → X.2.2 = false → t_bks (8 * i) (st.pr.take n) X = t_run false (8 * i) st.pr (a_ld false st val, K, false) → c_yf c r I I1 → c_xx c r (fun s => ∃ f ∈ k_fws D (st.pr.take n), f.2.2.2.2 = s) X I1 → q_V g M_Carrier_takeOver 0 0 0 0 (sz, T, I1, R, J) Q 10 [some (.ref c), some (.ref r), some (.ref t), some (.int (p_b false)), some (.int (nI q)), l5, l6] [] := by
      intro n
      induction n with
      | zero =>
        intro q X I1 l5 l6 a1 a6 a7 a8 a9 a11 a12
        refine q_iload d_Carrier_takeOver_10 rfl ?_
        refine q_aload_n d_Carrier_takeOver_12 rfl rfl ?_
        refine q_getI (ci := 7) (fk := 3) d_Carrier_takeOver_13 rfl (Nat.le_of_ble_eq_true rfl) w_653 (fun _ _ => rfl) (by first | assumption | rfl | (simp (disch := omega) only [q_upT_self, q_upT_ne, q_upR_self, q_upR_nea, q_upR_nk, s_T_lo, s_T_hi, s_R_ne, *]; done) | (simp (disch := omega) only [q_upT_self, q_upT_ne, q_upR_self, q_upR_nea, q_upR_nk, s_T_lo, s_T_hi, s_R_ne, *]; rfl)) ?_
        rw [cnt I1 a11]
        refine q_icmp_ge (tgt := 77) d_Carrier_takeOver_16 rfl (fun hc => ?_) (fun hc => ?_)
        · refine fin X _ I1 _ _ _ _ _ rfl rfl a9 a8 a11 a12 fun s hs1 => ?_
          have hs2 : s ∈ List.range st.nb := hs1
          rw [← w5] at hs2
          obtain ⟨f, f1, rfl⟩ := List.mem_map.mp hs2
          exact ⟨f, f1, rfl⟩
        · exact absurd (by rw [nI_leI (by omega) (by omega)]; omega) hc
      | succ n ih =>
        intro q X I1 l5 l6 a1 a6 a7 a8 a9 a11 a12
        obtain ⟨p, hpq⟩ : ∃ p, st.pr[n]? = some p := ⟨_, List.getElem?_eq_getElem (by omega)⟩
        have etk : st.pr.take (n + 1) = st.pr.take n ++ [p] := by rw [List.take_add_one, hpq]; rfl
        have ltk : (st.pr.take n).length = n := by rw [List.length_take]; omega
        have hch : k_chn D (st.pr.take n ++ [p]) := by rw [← etk]; exact k_chn_take (n + 1) w3
        rw [k_chn_snoc] at hch
        rw [etk, k_fws_snoc] at a6 a12
        rw [etk, t_bks_snoc, ltk] at a9
        have b4 := k_chn_wf w1 hch.1
        have b5 := k_fws_nds w2 hch.1
        refine q_iload d_Carrier_takeOver_10 rfl ?_
        refine q_aload_n d_Carrier_takeOver_12 rfl rfl ?_
        refine q_getI (ci := 7) (fk := 3) d_Carrier_takeOver_13 rfl (Nat.le_of_ble_eq_true rfl) w_653 (fun _ _ => rfl) (by first | assumption | rfl | (simp (disch := omega) only [q_upT_self, q_upT_ne, q_upR_self, q_upR_nea, q_upR_nk, s_T_lo, s_T_hi, s_R_ne, *]; done) | (simp (disch := omega) only [q_upT_self, q_upT_ne, q_upR_self, q_upR_nea, q_upR_nk, s_T_lo, s_T_hi, s_R_ne, *]; rfl)) ?_
        rw [cnt I1 a11]
        refine q_icmp_ge (tgt := 77) d_Carrier_takeOver_16 rfl (fun hc => ?_) (fun hc => ?_)
        · rw [nI_leI (by omega) (by omega)] at hc
          omega
        refine q_iload_n d_Carrier_takeOver_19 rfl rfl ?_
        refine q_if_eq (tgt := 28) d_Carrier_takeOver_20 rfl (fun hc => ?_) (fun hc => ?_)
        rotate_left
        · exact absurd rfl hc
        refine q_aload_n d_Carrier_takeOver_28 rfl rfl ?_
        refine q_getI (ci := 7) (fk := 3) d_Carrier_takeOver_29 rfl (Nat.le_of_ble_eq_true rfl) w_653 (fun _ _ => rfl) (by first | assumption | rfl | (simp (disch := omega) only [q_upT_self, q_upT_ne, q_upR_self, q_upR_nea, q_upR_nk, s_T_lo, s_T_hi, s_R_ne, *]; done) | (simp (disch := omega) only [q_upT_self, q_upT_ne, q_upR_self, q_upR_nea, q_upR_nk, s_T_lo, s_T_hi, s_R_ne, *]; rfl)) ?_
        rw [cnt I1 a11, show st.pr.length = q + n + 1 by omega]
        refine q_iconst (v := nI 1) d_Carrier_takeOver_32 (by decide) ?_
        refine q_isub d_Carrier_takeOver_33 ?_
        rw [nI_sb (q + n) 1]
        refine q_iload d_Carrier_takeOver_34 rfl ?_
        refine q_isub d_Carrier_takeOver_36 ?_
        rw [show q + n = n + q by omega, nI_sb n q]
        have hkp := a7 n p (by omega) hpq
        refine body n q I1 X _ p _ _ _ _ rfl rfl hpq a11 a12 hch.2.ok hch.2.2.1 (t_bk_pre hch.2 a6 hkp (fun f hf => ⟨f, hf, rfl⟩)) (fun I2 l5 l6 y2 x2 x3 => ?_) (fun z => ?_)
        · obtain ⟨o1, o2⟩ := t_bk_ok b4 b5 hch.2 a6 hkp
          first | refine q_iincN d_Carrier_takeOver_71 rfl (Nat.le_of_ble_eq_true rfl) (by first | exact q_ok0 | exact q_okI rfl | exact q_okR rfl | exact q_okN rfl) rfl ?_ | refine q_iinc d_Carrier_takeOver_71 rfl rfl (Nat.le_of_ble_eq_true rfl) (by first | exact q_ok0 | exact q_okI rfl | exact q_okR rfl | exact q_okN rfl) rfl ?_
          refine q_goto (tgt := 10) d_Carrier_takeOver_74 rfl ?_
          refine ih (q + 1) _ I2 l5 l6 (by omega) o1 (fun j p' hj hp' => ?_) (x3.trans a8) a9 y2 ⟨x2.1.imp fun s hs1 => ?_, x2.2⟩
          · rw [t_go_oth (by omega)]; exact a7 j p' (by omega) hp'
          · obtain ⟨f, f1, rfl⟩ := hs1
            exact t_bk_lv b4 hch.2 (fun f hf => ⟨f, hf, rfl⟩) f f1
        · show (t_run false (8 * i) st.pr (a_ld false st val, K, false)).2.2 = true
          rw [← a9]
          exact t_bks_can _ _ _ z
    have eall : st.pr.take st.pr.length = st.pr := List.take_length
    refine loop st.pr.length 0 (a_ld false st val, K, false) I0 _ _ (by omega) (by rw [eall]; exact hh) (fun j p _ hp => hK j p hp) rfl (by rw [eall]; rfl) y0 ⟨l2.imp fun s hs1 => ?_, k0⟩
    obtain ⟨f, f1, rfl⟩ := hs1
    show f.2.2.2.2 ∈ st.sb
    rw [eall] at f1
    rw [w7]
    exact List.mem_map_of_mem (w6.mem_iff.mpr f1)
end Over
