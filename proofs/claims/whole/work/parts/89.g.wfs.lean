/-! what each call leaves is well formed; the two sides of a call together -/
section Wfs
variable {g : q_G} {b x L n sz : Nat} {f : Int32 → Int32} {T : q_T} {I : q_I} {R : q_R} {J : q_J} {S : KA}
theorem wf.bg1 (hw : wf S) {i : Nat} {c : KR} (hi : i < 16) (hc : S.rs i = some c) : S.bg = true := by
  cases hb : S.bg with
  | true => rfl
  | false =>
    have := (hw.2.2.2.2 hb).2.2.2 i hi
    rw [hc] at this; cases this
theorem wf.setRn (hw : wf S) (i : Nat) : wf (S.setR i none) := by
  obtain ⟨h1, h2, h3, h4, h5⟩ := hw
  refine ⟨h1, h2, h3, fun h c hh hc => ?_, fun hb => ⟨(h5 hb).1, (h5 hb).2.1, (h5 hb).2.2.1, fun h hh => ?_⟩⟩
  · have hc2 : (if h = i then none else S.rs h) = some c := hc
    by_cases hi : h = i
    · rw [if_pos hi] at hc2; cases hc2
    · rw [if_neg hi] at hc2; exact h4 h c hh hc2
  · show (if h = i then none else S.rs h) = none
    by_cases hi : h = i
    · rw [if_pos hi]
    · rw [if_neg hi]; exact (h5 hb).2.2.2 h hh
theorem wf.setRc (hw : wf S) (hbg : S.bg = true) (i : Nat) {c : KR} (hc : w_rec S.vs S.ss c) : wf (S.setR i (some c)) := by
  obtain ⟨h1, h2, h3, h4, h5⟩ := hw
  refine ⟨h1, h2, h3, fun h c2 hh hc2 => ?_, fun hb => ?_⟩
  · have hc3 : (if h = i then some c else S.rs h) = some c2 := hc2
    by_cases hi : h = i
    · rw [if_pos hi] at hc3; cases hc3; exact hc
    · rw [if_neg hi] at hc3; exact h4 h c2 hh hc3
  · have hb2 : S.bg = false := hb
    rw [hbg] at hb2; cases hb2
theorem w_rec.setV {c : KR} (h : w_rec S.vs S.ss c) {Lv : List KF} (hL : S.vs[c.ver]? = some Lv) {k : Nat} {e : KF} {v : List Int32} (he : Lv[k]? = some e) (hv : k_shp e.2.1 v) : w_rec S.vs S.ss (c.setV k v) := by
  obtain ⟨h1, h2, h3⟩ := h
  refine ⟨h1, fun L2 hL2 => ?_, h3⟩
  have hL3 : S.vs[c.ver]? = some L2 := hL2
  obtain ⟨a1, a2⟩ := h2 L2 hL3
  refine ⟨by show (c.val.set k v).length = _; rw [List.length_set]; exact a1, fun i e2 u he2 hu => ?_⟩
  have hu2 : (c.val.set k v)[i]? = some u := hu
  rw [List.getElem?_set] at hu2
  rw [hL] at hL3
  cases hL3
  by_cases hik : k = i
  · subst hik
    rw [he] at he2
    cases he2
    rw [if_pos rfl] at hu2
    by_cases hkl : k < c.val.length
    · rw [if_pos hkl] at hu2; cases hu2; exact hv
    · rw [if_neg hkl] at hu2; cases hu2
  · rw [if_neg hik] at hu2
    exact a2 i e2 u he2 hu2
theorem wf.setB (hw : wf S) : wf S.setB := ⟨hw.1, hw.2.1, hw.2.2.1, hw.2.2.2.1, fun hb => by cases hb⟩
theorem w_new {v : Nat} {Lv : List KF} (hv : S.vs[v]? = some Lv) : w_rec S.vs S.ss (a_new v Lv) := by
  refine ⟨(List.getElem?_eq_some_iff.mp hv).1, fun L2 hL2 => ?_, fun k hk => Or.inl rfl⟩
  have hL3 : S.vs[v]? = some L2 := hL2
  rw [hv] at hL3
  cases hL3
  refine ⟨List.length_map _, fun i e u he hu => ?_⟩
  have hu2 : (Lv.map (fun f => k_dfl f.2.1 f.2.2.1 f.2.2.2.1))[i]? = some u := hu
  rw [List.getElem?_map, he] at hu2
  have hu3 : k_dfl e.2.1 e.2.2.1 e.2.2.2.1 = u := Option.some.inj hu2
  rw [← hu3]
  unfold k_dfl k_shp
  by_cases h0 : e.2.1 = 0
  · rw [if_pos h0]
    exact ⟨Nat.le_of_ble_eq_true rfl, fun _ => rfl, fun z => by rw [h0] at z; exact absurd z (by decide)⟩
  · rw [if_neg h0]
    exact ⟨Nat.le_of_ble_eq_true rfl, fun z => absurd z h0, fun _ => rfl⟩
theorem wf.leave (hw : wf S) : wf S.leave := ⟨hw.1, hw.2.1, fun z => absurd (show false = true from z) (by decide), hw.2.2.2.1, fun hb => ⟨(hw.2.2.2.2 hb).1, (hw.2.2.2.2 hb).2.1, rfl, (hw.2.2.2.2 hb).2.2.2⟩⟩
theorem wf.begin (hw : wf S) {v : Nat} {Lv : List KF} (hv : S.vs[v]? = some Lv) : wf (S.begin v Lv) := by
  have hwf := hw.1.2.2 Lv (List.mem_of_getElem? hv)
  refine ⟨hw.1, hw.2.1, fun _ => ⟨(List.getElem?_eq_some_iff.mp hv).1, by show 0 ≤ 8; omega, fun L2 hL2 => ?_⟩, hw.2.2.2.1, fun hb => by cases hb⟩
  have hL3 : S.vs[v]? = some L2 := hL2
  rw [hv] at hL3
  cases hL3
  refine ⟨trivial, ⟨fun e he => ?_, fun p hp => by cases hp⟩, by show Lv.length ≤ Lv.length + 0; omega, List.Perm.refl _, ?_⟩
  · obtain ⟨i, hi⟩ := List.mem_iff_getElem?.mp (show e ∈ k_rs 0 Lv from he)
    have hil := (List.getElem?_eq_some_iff.mp hi).1
    rw [k_rs_len] at hil
    rw [k_rs_at] at hi
    cases hL : Lv[i]? with
    | none => rw [hL] at hi; cases hi
    | some q =>
      rw [hL] at hi
      cases hi
      show 0 + i < Lv.length
      omega
  · refine k_srt_nm (L := Lv) ?_ hwf.2
    refine List.ext_getElem? fun j => ?_
    show ((k_rs 0 Lv).map (fun q : KF => q.1))[j]? = (Lv.map (fun q : KF => q.1))[j]?
    rw [List.getElem?_map, List.getElem?_map, k_rs_at]
    cases Lv[j]? <;> rfl
theorem k_shape_tyo {l : List Nat} {so lo hi : Int32} {sl : Nat} (b2 : k_shape so lo hi = true) : k_tyo (k_new l so lo hi sl) := by
  unfold k_shape at b2
  refine ⟨?_, fun z => ?_, fun z => ?_⟩
  · show so = 0 ∨ so = 1 ∨ so = 2
    rw [Bool.or_eq_true, Bool.and_eq_true, Bool.or_eq_true, decide_eq_true_iff, decide_eq_true_iff, decide_eq_true_iff] at b2
    rcases b2 with z | ⟨z | z, -⟩
    · exact Or.inr (Or.inr z)
    · exact Or.inl z
    · exact Or.inr (Or.inl z)
  · have z2 : so = 2 := z
    exact ⟨if_pos z2, if_pos z2⟩
  · have z2 : ¬ so = 2 := z
    show (if so = 2 then 0 else lo) ≤ if so = 2 then 0 else hi
    rw [if_neg z2, if_neg z2]
    rw [decide_eq_false z2, Bool.false_or, Bool.and_eq_true] at b2
    exact of_decide_eq_true b2.2
theorem wf.field (hw : wf S) {Lv : List KF} {l : List Nat} {p so lo hi : Int32} (hv : S.vs[0]? = some Lv) (hb : S.bg = false) (h24 : Lv.length ≠ 24) (hp : k_of p = some l) (hk : (k_room Lv (k_of p) && k_shape so lo hi) = true) {o : KO} (ho : o_field S Lv l so lo hi o) : wf o.2.2 := by
  obtain ⟨L1, l1, l2, rfl⟩ := ho
  obtain ⟨w1, w2, w3, w4⟩ := hw.2.2.2.2 hb
  have hwf := hw.1.2.2 Lv (List.mem_of_getElem? hv)
  have hl24 := hwf.1.1
  rw [Bool.and_eq_true, hp, k_room_iff] at hk
  obtain ⟨⟨r1, r2, r3⟩, r4⟩ := hk
  have hadd : k_wfL (Lv ++ [k_new l so lo hi Lv.length]) := k_add_wf hwf.1 (by omega) ⟨k_of_ok hp, r1⟩ r3 (by rw [k_grp_iff]; exact r2) (k_shape_tyo r4)
  have hL1 : k_wfL L1 := hadd.perm (l1.trans (List.perm_append_singleton _ _).symm)
  refine ⟨⟨by show 1 ≤ 1; omega, by show 1 ≤ 8; omega, fun q hq => ?_⟩, ⟨by show S.ss.length ≤ 16; rw [w2]; decide, fun st hst => ?_⟩, fun z => ?_, fun h c hh hc => ?_, fun _ => ⟨rfl, w2, w3, w4⟩⟩
  · have : q = L1 := List.mem_singleton.mp (show q ∈ [L1] from hq)
    rw [this]
    exact ⟨hL1, l2⟩
  · have hst2 : st ∈ S.ss := hst
    rw [w2] at hst2
    cases hst2
  · have z2 : S.op = true := z
    rw [w3] at z2
    cases z2
  · have hc2 : S.rs h = some c := hc
    rw [w4 h hh] at hc2
    cases hc2
theorem k_fw_sl {p : KP} {D : List KF} : ∀ e ∈ k_fw p D, (∃ q ∈ D, e.2.2.2.2 = q.2.2.2.2) ∨ (p.kind = 1 ∧ e.2.2.2.2 = p.sl) ∨ (p.kind = 5 ∧ e.2.2.2.2 = p.rs) := by
  have at9 : ∀ (nm : List Nat) (u : KF → KF), (∀ f, (u f).2.2.2.2 = f.2.2.2.2) → ∀ e ∈ D.map (k_at nm u), ∃ q ∈ D, e.2.2.2.2 = q.2.2.2.2 := fun nm u hu e he => by
    obtain ⟨q, q1, rfl⟩ := List.mem_map.mp he
    refine ⟨q, q1, ?_⟩
    unfold k_at
    split
    · exact hu q
    · rfl
  intro e he
  unfold k_fw at he
  split at he
  · obtain ⟨q, q1, rfl⟩ := List.mem_map.mp he
    exact Or.inl ⟨q, q1, rfl⟩
  · rename_i hk
    rcases List.mem_append.mp he with he | he
    · exact Or.inl ⟨e, he, rfl⟩
    · rw [List.mem_singleton.mp he]
      exact Or.inr (Or.inl ⟨hk, rfl⟩)
  · exact Or.inl ⟨e, (List.mem_filter.mp he).1, rfl⟩
  · exact Or.inl (at9 _ _ (by intro _; rfl) e he)
  · obtain ⟨q, q1, rfl⟩ := List.mem_map.mp he
    exact Or.inl ⟨q, q1, rfl⟩
  · rename_i hk
    rcases List.mem_append.mp he with he | he
    · exact Or.inl (at9 _ _ (by intro _; rfl) e he)
    · rw [List.mem_singleton.mp he]
      exact Or.inr (Or.inr ⟨hk, rfl⟩)
  · exact Or.inl (at9 _ _ (by intro _; rfl) e he)
  · exact Or.inl ⟨e, he, rfl⟩
/-- what is known of the draft's schema -/
theorem wf.draft (hw : wf S) (hop : S.op = true) : k_wfL S.dD ∧ k_srt S.dD ∧ ∀ e ∈ S.dD, e.2.2.2.2 < S.dn := by
  obtain ⟨w1, w2, w3⟩ := hw.2.2.1 hop
  obtain ⟨Lv, hV⟩ : ∃ Lv, S.vs[S.df]? = some Lv := ⟨_, List.getElem?_eq_getElem w1⟩
  obtain ⟨c1, c2, c3, c4, c5⟩ := w3 Lv hV
  have hwf := hw.1.2.2 Lv (List.mem_of_getElem? hV)
  exact ⟨(k_chn_wf (k_rs_wf hwf.1) c1).perm c4, c5, fun e he => c2.1 e (c4.mem_iff.mp he)⟩
theorem wf.addP (hw : wf S) (hop : S.op = true) (h8 : S.dp.length < 8) {kd pth a b9 c : Int32} {p : KP} (hz : a_prm S.dD S.dn kd (k_of pth) a b9 c = some p) {o : KO} (ho : o_prim S p (a_dn S.dn kd) o) : wf o.2.2 := by
  obtain ⟨D1, d1, d2, rfl⟩ := ho
  obtain ⟨e1, e2, e3⟩ := hw.draft hop
  obtain ⟨q1, q2, q3, q4, q5, q6, q7, -⟩ := a_prm_can e1 e3 hz
  obtain ⟨w1, w2, w3⟩ := hw.2.2.1 hop
  refine ⟨hw.1, hw.2.1, fun _ => ⟨w1, ?_, fun L2 hL2 => ?_⟩, hw.2.2.2.1, fun hb => ?_⟩
  · show (S.dp ++ [p]).length ≤ 8
    rw [List.length_append]; show S.dp.length + 1 ≤ 8; omega
  · have hL3 : S.vs[S.df]? = some L2 := hL2
    obtain ⟨c1, c2, c3, c4, c5⟩ := w3 L2 hL3
    have hle : S.dn ≤ a_dn S.dn kd := by unfold a_dn; split <;> omega
    have hle2 : a_dn S.dn kd ≤ S.dn + 1 := by unfold a_dn; split <;> omega
    show k_chn (k_rs 0 L2) (S.dp ++ [p]) ∧ k_sls (a_dn S.dn kd) (k_rs 0 L2) (S.dp ++ [p]) ∧ a_dn S.dn kd ≤ L2.length + (S.dp ++ [p]).length ∧ D1.Perm (k_fws (k_rs 0 L2) (S.dp ++ [p])) ∧ k_srt D1
    rw [k_chn_snoc, k_fws_snoc]
    refine ⟨⟨c1, q1.perm c4.symm⟩, ⟨fun e he => ?_, fun p9 hp9 => ?_⟩, ?_, d1.trans (k_fw.perm c4), d2⟩
    · rw [k_fws_snoc] at he
      rcases k_fw_sl e he with ⟨y, y1, y2⟩ | ⟨y1, y2⟩ | ⟨y1, y2⟩
      · rw [y2]; have := c2.1 y y1; omega
      · rw [y2]; exact q6
      · rw [y2]; exact q7 y1
    · rcases List.mem_append.mp hp9 with hp9 | hp9
      · obtain ⟨y1, y2⟩ := c2.2 p9 hp9
        exact ⟨by omega, fun z => by have := y2 z; omega⟩
      · rw [List.mem_singleton.mp hp9]
        exact ⟨q6, q7⟩
    · rw [List.length_append]
      show a_dn S.dn kd ≤ L2.length + (S.dp.length + 1)
      omega
  · have hb2 : S.bg = false := hb
    have := (hw.2.2.2.2 hb2).2.2.1
    rw [hop] at this; cases this
/-- both sides of a call that returns an int -/
theorem q_glue {Mc Mm : q_M} {as am : List Value} {xs : List Nat} {O : KO → Prop} (hI : q_INV b x L f (n + 1) sz T I R) (kk : ∀ S : KA, wf S → relC S x sz T I R → relM S (x + 83) T I R → ∃ O : KO → Prop, q_C g Mc as (sz, T, I, R, J) 1000 14000 (q_Xi xs (fun k r h' => ∃ o, O o ∧ c_sp x sz T I R J o k r h')) ∧ (∀ o, O o → wf o.2.2 ∧ ∀ (sz1 : Nat) (T1 : q_T) (I1 : q_I) (R1 : q_R) (J1 : q_J), relM S (x + 83) T1 I1 R1 → q_Ci g Mm am (sz1, T1, I1, R1, J1) 0 0 (m_spm (x + 83) sz1 T1 I1 R1 J1 o))) :
    ∃ P : Int32 → Int32 → q_H → Prop, q_C g Mc as (sz, T, I, R, J) 1000 14000 (q_Xi xs P) ∧ ∀ (k r : Int32) (h1 : q_H), P k r h1 → (h1.2.1 b = some (50, L) ∧ h1.2.2.1 b = f ∧ h1.2.1 x = some (110, 0) ∧ h1.2.1 (x + 83) = some (111, 0) ∧ h1.2.1 (x + 113) = some (1, 1)) ∧ ∀ J1 : q_J, q_Ci g Mm am (h1.1, h1.2.1, h1.2.2.1, h1.2.2.2.1, J1) 0 0 (fun v h2 => (k = 0 → v = r) ∧ h2.2.2.1 (x + 83) (nI 0) = k ∧ h2.2.2.2.2 = J1 ∧ q_INV b x L f n h2.1 h2.2.1 h2.2.2.1 h2.2.2.2.1) := by
  obtain ⟨i1, i2, S, hw, hC, hM⟩ := hI
  obtain ⟨O, k1, k2⟩ := kk S hw hC hM
  refine ⟨_, k1, fun k r h1 ⟨o, ho, hP⟩ => ?_⟩
  obtain ⟨w1, w2⟩ := k2 o ho
  obtain ⟨b1, b2, b3⟩ := q_both (g := g) (n := n) ⟨i1, i2⟩ hM w1 hP
  refine ⟨b1, fun J1 => (w2 _ _ _ _ J1 b2).imp fun o' h2 hz => ?_⟩
  obtain ⟨v, v1, v2⟩ := hz
  exact ⟨v, v1, b3 J1 v h2 v2.sp⟩
/-- and of one that returns nothing -/
theorem q_glueV {Mc Mm : q_M} {as am : List Value} {xs : List Nat} (hI : q_INV b x L f (n + 1) sz T I R) (kk : ∀ S : KA, wf S → relC S x sz T I R → relM S (x + 83) T I R → ∃ o : KO, q_C g Mc as (sz, T, I, R, J) 1000 14000 (q_Xv xs (c_spv x sz T I R J o)) ∧ wf o.2.2 ∧ o.2.1 = 0 ∧ ∀ (sz1 : Nat) (T1 : q_T) (I1 : q_I) (R1 : q_R) (J1 : q_J), relM S (x + 83) T1 I1 R1 → q_Cv g Mm am (sz1, T1, I1, R1, J1) 0 0 (m_spm (x + 83) sz1 T1 I1 R1 J1 o 0)) :
    ∃ P : Int32 → q_H → Prop, q_C g Mc as (sz, T, I, R, J) 1000 14000 (q_Xv xs P) ∧ ∀ (k : Int32) (h1 : q_H), P k h1 → (h1.2.1 b = some (50, L) ∧ h1.2.2.1 b = f ∧ h1.2.1 x = some (110, 0) ∧ h1.2.1 (x + 83) = some (111, 0) ∧ h1.2.1 (x + 113) = some (1, 1)) ∧ q_Cv g Mm am h1 0 0 (fun h2 => h2.2.2.1 (x + 83) (nI 0) = k ∧ q_INV b x L f n h2.1 h2.2.1 h2.2.2.1 h2.2.2.2.1) := by
  obtain ⟨i1, i2, S, hw, hC, hM⟩ := hI
  obtain ⟨o, k1, w1, o0, w2⟩ := kk S hw hC hM
  refine ⟨_, k1, fun k h1 hP => ?_⟩
  have hP2 : c_sp x sz T I R J o k o.2.1 h1 := hP
  obtain ⟨b1, b2, b3⟩ := q_both (g := g) (n := n) ⟨i1, i2⟩ hM w1 hP2
  obtain ⟨sz1, T1, I1, R1, J1⟩ := h1
  refine ⟨b1, (w2 _ _ _ _ J1 b2).imp fun o' h2 hz => ?_⟩
  obtain ⟨v1, v2⟩ := hz
  have := b3 J1 0 h2 v2.sp
  exact ⟨v1, this.2.1, this.2.2.2⟩
theorem q_Xi.det {xs : List Nat} {o : KO} {o' : q_O} {h' : q_H} (h : q_Xi xs (c_sp x sz T I R J o) o' h') : q_Xi xs (fun k r h' => ∃ q, q = o ∧ c_sp x sz T I R J q k r h') o' h' := by
  rcases h with ⟨r, e, hp⟩ | ⟨j, e, i, hj, e2, hp⟩
  · exact Or.inl ⟨r, e, o, rfl, hp⟩
  · exact Or.inr ⟨j, e, i, hj, e2, o, rfl, hp⟩
/-- where one answer alone may come -/
theorem q_glue1 {Mc Mm : q_M} {as am : List Value} {xs : List Nat} (hI : q_INV b x L f (n + 1) sz T I R) (kk : ∀ S : KA, wf S → relC S x sz T I R → relM S (x + 83) T I R → ∃ o : KO, q_C g Mc as (sz, T, I, R, J) 1000 14000 (q_Xi xs (c_sp x sz T I R J o)) ∧ wf o.2.2 ∧ ∀ (sz1 : Nat) (T1 : q_T) (I1 : q_I) (R1 : q_R) (J1 : q_J), relM S (x + 83) T1 I1 R1 → q_Ci g Mm am (sz1, T1, I1, R1, J1) 0 0 (m_spm (x + 83) sz1 T1 I1 R1 J1 o)) :
    ∃ P : Int32 → Int32 → q_H → Prop, q_C g Mc as (sz, T, I, R, J) 1000 14000 (q_Xi xs P) ∧ ∀ (k r : Int32) (h1 : q_H), P k r h1 → (h1.2.1 b = some (50, L) ∧ h1.2.2.1 b = f ∧ h1.2.1 x = some (110, 0) ∧ h1.2.1 (x + 83) = some (111, 0) ∧ h1.2.1 (x + 113) = some (1, 1)) ∧ ∀ J1 : q_J, q_Ci g Mm am (h1.1, h1.2.1, h1.2.2.1, h1.2.2.2.1, J1) 0 0 (fun v h2 => (k = 0 → v = r) ∧ h2.2.2.1 (x + 83) (nI 0) = k ∧ h2.2.2.2.2 = J1 ∧ q_INV b x L f n h2.1 h2.2.1 h2.2.2.1 h2.2.2.2.1) :=
  q_glue (O := fun _ => True) hI fun S hw hC hM => by
    obtain ⟨o, k1, k2, k3⟩ := kk S hw hC hM
    exact ⟨fun q => q = o, k1.imp fun o' h' z => q_Xi.det z, fun q hq => by subst hq; exact ⟨k2, k3⟩⟩
end Wfs
