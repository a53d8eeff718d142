/-! a primitive keeps what a schema is; what may be done -/
theorem z_le {x y : Int32} : x ≤ y ↔ x.toInt ≤ y.toInt := Int32.le_iff_toInt_le
theorem z_div_mono {x y a : Int32} (ha : 0 < a.toInt) (h : x ≤ y) : z_div x a ≤ z_div y a := by
  rw [z_le] at h ⊢
  unfold z_div
  rw [z_ofInt (z_dv ha (z_bd x)), z_ofInt (z_dv ha (z_bd y))]
  exact Int.ediv_le_ediv ha h
theorem z_lit (n : Nat) (hn : n < 2 ^ 31) {a : Int32} (h : nI n ≤ a) : (n : Int) ≤ a.toInt := by rw [z_le, nI_toInt hn] at h; exact h
theorem z_lit2 (n : Nat) (hn : n < 2 ^ 31) {a : Int32} (h : a ≤ nI n) : a.toInt ≤ (n : Int) := by rw [z_le, nI_toInt hn] at h; exact h
theorem z_scf_mono {x y a b : Int32} (ha : 0 < a.toInt) (hb : 0 < b.toInt) (h : x ≤ y) (h1 : z_int (a.toInt * x.toInt / b.toInt)) (h2 : z_int (a.toInt * y.toInt / b.toInt)) : z_scf a b x ≤ z_scf a b y := by
  rw [z_le] at h ⊢
  unfold z_scf
  rw [z_ofInt h1, z_ofInt h2]
  exact Int.ediv_le_ediv hb (Int.mul_le_mul_of_nonneg_left h (by omega))
theorem k_fw_wf {p : KP} {D : List KF} (hw : k_wfL D) (hc : k_can p D) : k_wfL (k_fw p D) := by
  have hcc := hc
  obtain ⟨⟨a1, a0⟩, a2, a3, a4, a5, a6, a7, a8, a9, a10, a11, a12⟩ := hc
  have hdi := hw.2.2.1
  have h5 := hw.2.2.2.2
  have mv : p.kind = 0 ∨ p.kind = 4 → k_wfL (D.map (k_mf p.nm (k_tg p))) := fun hk => by
    obtain ⟨b1, b2, b3, b4, b5⟩ := k_tg_ok hcc hk
    exact k_mv_wf hw a0 b1 b2 b3 b4 b5 ⟨p.f, a4 (by omega), rfl⟩
  unfold k_fw
  rcases (by omega : p.kind = 0 ∨ p.kind = 1 ∨ p.kind = 2 ∨ p.kind = 3 ∨ p.kind = 4 ∨ p.kind = 5 ∨ p.kind = 6 ∨ p.kind = 7 ∨ p.kind = 8) with hk | hk | hk | hk | hk | hk | hk | hk | hk
  · rw [hk]; exact mv (Or.inl hk)
  · rw [hk]
    obtain ⟨b1, b2, b3, b4⟩ := a3 hk
    rw [k_room_iff] at b1
    exact k_add_wf (f := p.f) hw b3 ⟨a1, a0⟩ b1.2.2 (by rw [k_grp_iff]; exact b1.2.1) b2
  · rw [hk]
    show k_wfL (D.filter (fun f => decide (f.1 ≠ p.nm)))
    have h6 := a6 hk
    unfold k_cin at h6
    rw [List.length_eq_zero_iff, List.filter_eq_nil_iff] at h6
    obtain ⟨h1, h2, h3, h4, -⟩ := hw
    have hs : (D.filter (fun f => decide (f.1 ≠ p.nm))).Sublist D := List.filter_sublist
    refine ⟨Nat.le_trans hs.length_le h1, fun f hf => h2 f (hs.subset hf), ?_, fun f hf => ?_, fun f hf => h5 f (hs.subset hf)⟩
    · exact List.Nodup.sublist (hs.map (fun f : KF => f.1)) h3
    · have hfD := hs.subset hf
      have := h4 f hfD
      rw [k_grp_iff] at this ⊢
      rcases this with z | ⟨e, e1, e2, e3⟩
      · exact Or.inl z
      · refine Or.inr ⟨e, List.mem_filter.mpr ⟨e1, ?_⟩, e2, e3⟩
        rw [decide_eq_true_iff]
        intro z
        refine h6 f hfD ?_
        rw [Bool.and_eq_true, decide_eq_true_iff, decide_eq_true_iff]
        have hpre : p.nm <+: f.1 := by rw [← z, e2]; exact List.dropLast_prefix _
        refine ⟨fun y => ?_, hpre⟩
        have hl := congrArg List.length (e2.symm.trans z)
        rw [y, List.length_dropLast] at hl
        have := List.length_pos_iff.mpr a0
        omega
  · rw [hk]
    refine k_at_wf hw (fun f => rfl) (fun f hf hn => ?_) (fun f hf hn => ?_)
    · have := k_uniq hdi hf (a4 (by omega)) hn
      rw [this]
      show p.so ≠ 2
      rw [a7 hk]; decide
    · have he := k_uniq hdi hf (a4 (by omega)) hn
      have hty := h5 f hf
      refine ⟨Or.inr (Or.inl rfl), fun z => absurd (show (1 : Int32) = 2 from z) (by decide), fun _ => hty.2.2 ?_⟩
      rw [he]
      show p.so ≠ 2
      rw [a7 hk]; decide
  · rw [hk]; exact mv (Or.inr hk)
  · rw [hk]
    obtain ⟨b1, ⟨b2, b3⟩, b4, b5, b6, b7⟩ := a9 hk
    have za : (2 : Int) ≤ p.a.toInt := z_lit 2 (by decide) b2
    have zb : p.a.toInt ≤ 1000 := z_lit2 1000 (by decide) b3
    have hmem := a4 (by omega)
    have w1 : k_wfL (D.map (k_at p.nm (fun f => (f.1, f.2.1, z_div f.2.2.1 p.a, z_div f.2.2.2.1 p.a, f.2.2.2.2)))) := by
      refine k_at_wf hw (fun f => rfl) (fun f hf hn => ?_) (fun f hf hn => ?_)
      · rw [k_uniq hdi hf hmem hn]
        show p.so ≠ 2
        rw [b1]; decide
      · have he := k_uniq hdi hf hmem hn
        have hty := h5 f hf
        have hs0 : f.2.1 = 0 := by rw [he]; exact b1
        refine ⟨Or.inl hs0, fun z => ?_, fun _ => ?_⟩
        · have z2 : f.2.1 = 2 := z
          rw [hs0] at z2
          exact absurd z2 (by decide)
        · exact z_div_mono (by omega) (hty.2.2 (by rw [hs0]; decide))
    have hnm : ∀ e ∈ D.map (k_at p.nm (fun f => (f.1, f.2.1, z_div f.2.2.1 p.a, z_div f.2.2.2.1 p.a, f.2.2.2.2))), ∃ f ∈ D, e.1 = f.1 := fun e he => by
      obtain ⟨f, hf, rfl⟩ := List.mem_map.mp he
      refine ⟨f, hf, ?_⟩
      unfold k_at
      split <;> rfl
    have hbd : (k_bsd p.nm p.b).dropLast = p.nm.dropLast := by unfold k_bsd; rw [List.dropLast_concat]
    refine k_add_wf (f := (k_bsd p.nm p.b, 0, 0, p.a - 1, p.rs)) w1 (by rw [List.length_map]; exact b6) ⟨k_bsd_ok a1 a0 (z_name b4), by show k_bsd p.nm p.b ≠ []; unfold k_bsd; simp⟩ (fun e he => ?_) ?_ ⟨Or.inl rfl, fun z => absurd (show (0 : Int32) = 2 from z) (by decide), fun _ => ?_⟩
    · obtain ⟨f, hf, hfe⟩ := hnm e he
      rw [hfe]
      exact b5 f hf
    · show k_grp _ (k_bsd p.nm p.b).dropLast = true
      rw [hbd]
      have h9 := w1.2.2.2.1 (k_at p.nm (fun f => (f.1, f.2.1, z_div f.2.2.1 p.a, z_div f.2.2.2.1 p.a, f.2.2.2.2)) p.f) (List.mem_map.mpr ⟨p.f, hmem, rfl⟩)
      have e9 : (k_at p.nm (fun f => (f.1, f.2.1, z_div f.2.2.1 p.a, z_div f.2.2.2.1 p.a, f.2.2.2.2)) p.f).1 = p.nm := by unfold k_at; rw [if_pos rfl]
      rw [e9] at h9
      exact h9
    · show (0 : Int32) ≤ p.a - 1
      rw [z_le, Int32.toInt_sub]
      have h1 : (1 : Int32).toInt = 1 := by decide
      have h0 : (0 : Int32).toInt = 0 := by decide
      rw [h1, h0, Int.bmod_eq_of_le (by omega) (by omega)]
      omega
  · rw [hk]
    obtain ⟨b1, ⟨b2, b3⟩, ⟨b4, b5⟩, b6, b7⟩ := a10 hk
    have za : (1 : Int) ≤ p.a.toInt := z_lit 1 (by decide) b2
    have zb : (1 : Int) ≤ p.b.toInt := z_lit 1 (by decide) b4
    have hmem := a4 (by omega)
    refine k_at_wf hw (fun f => rfl) (fun f hf hn => ?_) (fun f hf hn => ?_)
    · rw [k_uniq hdi hf hmem hn]
      show p.so ≠ 2
      rw [b1]; decide
    · have he := k_uniq hdi hf hmem hn
      have hty := h5 f hf
      have hs0 : f.2.1 = 0 := by rw [he]; exact b1
      refine ⟨Or.inl hs0, fun z => ?_, fun _ => ?_⟩
      · have z2 : f.2.1 = 2 := z
        rw [hs0] at z2
        exact absurd z2 (by decide)
      · refine z_scf_mono (by omega) (by omega) (hty.2.2 (by rw [hs0]; decide)) ?_ ?_
        · rw [he]; exact b6
        · rw [he]; exact b7
  · rw [hk]; exact hw
  · rw [hk]; exact hw
theorem k_chn_wf : ∀ {ps : List KP} {D : List KF}, k_wfL D → k_chn D ps → k_wfL (k_fws D ps)
  | [], _, h, _ => h
  | p :: t, _, h, hc => k_chn_wf (ps := t) (k_fw_wf h hc.1) hc.2
theorem k_rs_wf {L : List KF} (h : k_wfL L) : k_wfL (k_rs 0 L) := by
  obtain ⟨h1, h2, h3, h4, h5⟩ := h
  have e : k_rs 0 L = L.mapIdx (fun i f => (f.1, f.2.1, f.2.2.1, f.2.2.2.1, i)) := by
    refine List.ext_getElem? fun j => ?_
    rw [k_rs_at, List.getElem?_mapIdx, Nat.zero_add]
  have hmem : ∀ f ∈ k_rs 0 L, ∃ g ∈ L, f.1 = g.1 ∧ f.2.1 = g.2.1 ∧ f.2.2.1 = g.2.2.1 ∧ f.2.2.2.1 = g.2.2.2.1 := fun f hf => by
    obtain ⟨i, hi⟩ := List.mem_iff_getElem?.mp hf
    rw [k_rs_at] at hi
    cases hL : L[i]? with
    | none => rw [hL] at hi; cases hi
    | some g =>
      rw [hL] at hi
      cases hi
      exact ⟨g, List.mem_of_getElem? hL, rfl, rfl, rfl, rfl⟩
  have hnm : (k_rs 0 L).map (fun f : KF => f.1) = L.map (fun f : KF => f.1) := by
    refine List.ext_getElem? fun j => ?_
    rw [List.getElem?_map, List.getElem?_map, k_rs_at]
    cases L[j]? <;> rfl
  refine ⟨by rw [k_rs_len]; exact h1, fun f hf => ?_, ?_, fun f hf => ?_, fun f hf => ?_⟩
  · obtain ⟨g, g1, g2, -⟩ := hmem f hf
    rw [g2]; exact h2 g g1
  · show ((k_rs 0 L).map (fun f : KF => f.1)).Nodup
    rw [hnm]; exact h3
  · obtain ⟨g, g1, g2, -⟩ := hmem f hf
    rw [g2]
    have := h4 g g1
    rw [k_grp_iff] at this ⊢
    rcases this with z | ⟨q, q1, q2, q3⟩
    · exact Or.inl z
    · obtain ⟨i, hi⟩ := List.mem_iff_getElem?.mp q1
      exact Or.inr ⟨(q.1, q.2.1, q.2.2.1, q.2.2.2.1, 0 + i), List.mem_iff_getElem?.mpr ⟨i, by rw [k_rs_at, hi]; rfl⟩, q2, q3⟩
  · obtain ⟨g, g1, g2, g3, g4, g5⟩ := hmem f hf
    have := h5 g g1
    unfold k_tyo at this ⊢
    rw [g3, g4, g5]
    exact this
theorem a_fld_some {D : List KF} {o : Option (List Nat)} {f : KF} (h : a_fld D o = some f) : ∃ l, o = some l ∧ f ∈ D ∧ f.1 = l := by
  unfold a_fld at h
  cases ho : o with
  | none => rw [ho] at h; cases h
  | some l =>
    rw [ho, show k_fo D (some l) = k_fi D l from rfl] at h
    cases hi : k_fi D l with
    | none => rw [hi] at h; cases h
    | some i =>
      rw [hi] at h
      obtain ⟨-, e, e1, e2⟩ := k_fi_some hi
      have h9 : D[i]? = some f := h
      rw [e1] at h9
      cases h9
      exact ⟨l, rfl, List.mem_of_getElem? e1, e2⟩
/-- what is made may be done -/
theorem a_prm_can {D : List KF} {dn : Nat} {kd a b c : Int32} {pth : Int32} {p : KP} (hw : k_wfL D) (hsl : ∀ f ∈ D, f.2.2.2.2 < dn) (h : a_prm D dn kd (k_of pth) a b c = some p) : k_can p D ∧ (kd = nI p.kind ∧ p.kind ≤ 8) ∧ k_of pth = some p.nm ∧ p.a = a ∧ p.b = b ∧ p.sl < a_dn dn kd ∧ (p.kind = 5 → p.rs < a_dn dn kd) ∧ (p.kind ≠ 1 → a_fld D (k_of pth) = some p.f) ∧ (p.kind = 1 → p.so = a ∧ p.lo = (if a = 2 then 0 else b) ∧ p.hi = if a = 2 then 0 else c) := by
  unfold a_prm at h
  by_cases hk1 : kd = 1
  · rw [if_pos hk1] at h
    cases hb : b_add D (k_of pth) a b c with
    | false => rw [hb, if_neg (by decide)] at h; cases h
    | true =>
      rw [hb, if_pos rfl] at h
      cases ho : k_of pth with
      | none => rw [ho] at h; cases h
      | some l =>
        rw [ho] at h
        have h2 : ((1, l, a, b, (k_new l a b c dn).2.1, (k_new l a b c dn).2.2.1, (k_new l a b c dn).2.2.2.1, dn, 0) : KP) = p := Option.some.inj h
        subst h2
        have hlok := k_of_ok ho
        unfold b_add at hb
        rw [Bool.and_eq_true, Bool.and_eq_true, decide_eq_true_iff, ho] at hb
        obtain ⟨⟨b1, b2⟩, b3⟩ := hb
        have b4 := b1
        rw [k_room_iff] at b4
        have hdn : a_dn dn kd = dn + 1 := by unfold a_dn; rw [if_pos (Or.inl hk1)]
        have hty : k_tyo (k_new l a b c dn) := by
          unfold k_shape at b2
          refine ⟨?_, fun z => ?_, fun z => ?_⟩
          · show a = 0 ∨ a = 1 ∨ a = 2
            rw [Bool.or_eq_true, Bool.and_eq_true, Bool.or_eq_true, decide_eq_true_iff, decide_eq_true_iff, decide_eq_true_iff] at b2
            rcases b2 with z | ⟨z | z, -⟩
            · exact Or.inr (Or.inr z)
            · exact Or.inl z
            · exact Or.inr (Or.inl z)
          · have z2 : a = 2 := z
            exact ⟨if_pos z2, if_pos z2⟩
          · have z2 : ¬ a = 2 := z
            show (if a = 2 then 0 else b) ≤ if a = 2 then 0 else c
            rw [if_neg z2, if_neg z2]
            rw [decide_eq_false z2, Bool.false_or, Bool.and_eq_true] at b2
            exact of_decide_eq_true b2.2
        refine ⟨⟨⟨hlok, b4.1⟩, (by show 1 ≤ 8; omega), fun _ => ⟨b1, hty, b3, fun f hf z => ?_⟩, fun z => absurd rfl z, fun z => absurd (show (1 : Nat) = 0 from z) (by decide), fun z => absurd (show (1 : Nat) = 2 from z) (by decide), fun z => absurd (show (1 : Nat) = 3 from z) (by decide), fun z => absurd (show (1 : Nat) = 4 from z) (by decide), fun z => absurd (show (1 : Nat) = 5 from z) (by decide), fun z => absurd (show (1 : Nat) = 6 from z) (by decide), fun z => absurd (show (1 : Nat) = 7 from z) (by decide), fun z => absurd (show (1 : Nat) = 8 from z) (by decide)⟩, ⟨hk1, (by show 1 ≤ 8; omega)⟩, rfl, rfl, rfl, (by rw [hdn]; exact Nat.lt_succ_self _), fun z => absurd (show (1 : Nat) = 5 from z) (by decide), fun z => absurd rfl z, fun _ => ⟨rfl, rfl, rfl⟩⟩
        have h9 := hsl f hf
        have z2 : f.2.2.2.2 = dn := z
        omega
  · rw [if_neg hk1] at h
    cases hf : a_fld D (k_of pth) with
    | none => rw [hf] at h; cases h
    | some f =>
      rw [hf] at h
      have h' : (if kd < 0 then none else if b_knd D f kd.toNatClampNeg a b = true then some (kd.toNatClampNeg, f.1, a, b, f.2.1, f.2.2.1, f.2.2.2.1, f.2.2.2.2, if kd = 5 then dn else 0) else none) = some p := h
      obtain ⟨l, l1, l2, l3⟩ := a_fld_some hf
      by_cases hneg : kd < 0
      · rw [if_pos hneg] at h'; cases h'
      rw [if_neg hneg] at h'
      obtain ⟨k, k1, rfl⟩ := nI_of hneg
      rw [nI_clamp k1] at h'
      cases hb : b_knd D f k a b with
      | false => rw [hb, if_neg (by decide)] at h'; cases h'
      | true =>
        rw [hb, if_pos rfl] at h'
        cases h'
        have hfk := hw.2.1 f l2
        have hsf := hsl f l2
        have hkn1 : k ≠ 1 := fun z => hk1 (by rw [z]; rfl)
        have hk8 : k ≤ 8 := Classical.byContradiction fun hn => by
          have : b_knd D f k a b = false := by
            unfold b_knd
            match k, (show 9 ≤ k by omega) with
            | k + 9, _ => rfl
          rw [this] at hb; cases hb
        have hle : dn ≤ a_dn dn (nI k) := by unfold a_dn; split <;> omega
        have e5 : (if nI k = 5 then dn else 0) = if k = 5 then dn else 0 := by
          have : (nI k = 5) ↔ k = 5 := nI_eq k1 (by decide)
          by_cases z : k = 5
          · rw [if_pos z, if_pos (this.mpr z)]
          · rw [if_neg z, if_neg (fun y => z (this.mp y))]
        rw [e5]
        have hfn : k_ok 4 f.1 ∧ f.1 ≠ [] := hfk
        refine ⟨⟨hfn, hk8, fun z => absurd z hkn1, fun _ => l2, fun z => ?_, fun z => ?_, fun z => ?_, fun z => ?_, fun z => ?_, fun z => ?_, fun z => ?_, fun z => ?_⟩, ⟨rfl, hk8⟩, by rw [l1, l3], rfl, rfl, by show f.2.2.2.2 < _; omega, fun z => ?_, fun _ => rfl, fun z => absurd z hkn1⟩
        · have z2 : k = 0 := z
          subst z2
          have hb2 : b_ren D f.1 a = true := hb
          unfold b_ren at hb2
          rw [Bool.and_eq_true, decide_eq_true_iff, Option.isNone_iff_eq_none, k_fi_nn] at hb2
          exact hb2
        · have z2 : k = 2 := z
          subst z2
          exact of_decide_eq_true hb
        · have z2 : k = 3 := z
          subst z2
          exact of_decide_eq_true hb
        · have z2 : k = 4 := z
          subst z2
          have hb2 : b_lif D f.1 = true := hb
          unfold b_lif at hb2
          rw [Bool.and_eq_true, decide_eq_true_iff, Option.isNone_iff_eq_none, k_fi_nn] at hb2
          exact hb2
        · have z2 : k = 5 := z
          subst z2
          have hb2 : b_spl D f a b = true := hb
          unfold b_spl at hb2
          rw [Bool.and_eq_true, Bool.and_eq_true, decide_eq_true_iff, decide_eq_true_iff, Option.isNone_iff_eq_none, k_fi_nn] at hb2
          obtain ⟨⟨q1, q2, q3⟩, q4, q5⟩ := hb2
          refine ⟨q1, q2, q3, q4, q5, fun e he => ?_⟩
          show e.2.2.2.2 ≠ if 5 = 5 then dn else 0
          rw [if_pos rfl]
          have := hsl e he
          omega
        · have z2 : k = 6 := z
          subst z2
          have hb2 : b_scl f a b = true := hb
          unfold b_scl at hb2
          rw [Bool.and_eq_true, Bool.and_eq_true, decide_eq_true_iff, decide_eq_true_iff, decide_eq_true_iff] at hb2
          obtain ⟨⟨q1, q2, q3⟩, q4, q5⟩ := hb2
          exact ⟨q1, q2, q3, q4, q5⟩
        · have z2 : k = 7 := z
          subst z2
          have hb2 : b_map f a b = true := hb
          unfold b_map at hb2
          rw [Bool.and_eq_true, Bool.and_eq_true, Bool.and_eq_true, Bool.and_eq_true, Bool.and_eq_true, decide_eq_true_iff, decide_eq_true_iff, decide_eq_true_iff, decide_eq_true_iff, decide_eq_true_iff, decide_eq_true_iff] at hb2
          obtain ⟨q1, ⟨q2, q3⟩, ⟨q4, q5⟩, q6⟩ := hb2
          exact ⟨q1, q6, ⟨q2, q3⟩, q4, q5⟩
        · have z2 : k = 8 := z
          subst z2
          exact of_decide_eq_true hb
        · have z2 : k = 5 := z
          show (if k = 5 then dn else 0) < _
          rw [if_pos z2]
          unfold a_dn
          rw [if_pos (Or.inr (by rw [z2]; rfl))]
          omega
