/-! the words of the tables at every later state; reading and writing of fields and arrays; new cells -/
theorem q_gw_mv {s U : State} (hW : s.WarmedH U.vm) {w : Cond} (hg : q_gw w = true) (h : ∀ A : Array Value, w.before A s = true) (A : Array Value) : w.before A U = true := by
  unfold q_gw at hg
  rw [Bool.or_eq_true] at hg
  rcases hg with hg | hg
  · exact word_at hW (good_of_word hg) (h A)
  · cases w with
    | fieldLinkNest a i b n d hh => exact va_Nw.use rfl (va_Nw.warmF hW (h #[]))
    | methodLinkNest a i x hh => exact va_Nw.use rfl (va_Nw.warmM hW (h #[]))
    | declares x => exact va_Nw.use rfl (va_Nw.warmD hW (h #[]))
    | castable a b =>
      have h1 := h A
      simp only [Cond.before, Cond.holds, Cond.value, hW.alike.findClass, hW.alike.assignable] at h1 ⊢
      exact h1
    | arrayOver ty =>
      cases ty with
      | object C => exact va_AO.use (va_AO.moved hW.alike (va_AO.of (h #[])))
      | _ => cases hg
    | _ => cases hg
section QHeap
variable {g : q_G} {M : q_M} {mc ms c k : Nat} {h : q_H} {Q : q_O → q_H → Prop} {pc : Nat} {ls : List (Option Value)} {st : List Value}
variable {p : Program} {e : Env} {R : Room} {s : State} {m : MethodId} {args : Array Value} {below : List Frame} {meth : Method} {cd : Code}
theorem q_Cx.own (C : q_Cx g M mc ms p e R s m args below meth cd) : s.vm.findClass (q_ow M) = some m.cls := C.2.2.2.1
theorem q_Cx.ret (C : q_Cx g M mc ms p e R s m args below meth cd) : meth.sig.returnType = q_rt M := C.2.2.2.2.1
theorem q_Cx.locks (C : q_Cx g M mc ms p e R s m args below meth cd) : meth.locks = false := C.2.2.2.2.2.1
theorem q_Cx.tab (C : q_Cx g M mc ms p e R s m args below meth cd) : cd.exceptionTable.toList = tableOf (q_hs M) := C.2.2.2.2.2.2.1
theorem q_Cx.init (C : q_Cx g M mc ms p e R s m args below meth cd) : q_in M = true → meth.name = "<init>" := C.2.2.2.2.2.2.2.1
theorem q_Cx.gl (C : q_Cx g M mc ms p e R s m args below meth cd) : q_Gl g := C.2.2.2.2.2.2.2.2.1
theorem q_Cx.warm (C : q_Cx g M mc ms p e R s m args below meth cd) : (q_s0 g).WarmedH s.vm := C.2.2.2.2.2.2.2.2.2.1
theorem q_Cx.old (C : q_Cx g M mc ms p e R s m args below meth cd) : ∀ q : Nat, q < (q_s0 g).heap.size → s.heap[q]? = (q_s0 g).heap[q]? := C.2.2.2.2.2.2.2.2.2.2.1
theorem q_Cx.size (C : q_Cx g M mc ms p e R s m args below meth cd) : (q_s0 g).heap.size ≤ s.heap.size := C.2.2.2.2.2.2.2.2.2.2.2.1
theorem q_Cx.cells (C : q_Cx g M mc ms p e R s m args below meth cd) : R.cells = mc := C.2.2.2.2.2.2.2.2.2.2.2.2.1
theorem q_Cx.slots (C : q_Cx g M mc ms p e R s m args below meth cd) : R.slots = ms := C.2.2.2.2.2.2.2.2.2.2.2.2.2.1
theorem q_Cx.frames (C : q_Cx g M mc ms p e R s m args below meth cd) : q_fr M ≤ R.frames := C.2.2.2.2.2.2.2.2.2.2.2.2.2.2.1
theorem q_Cx.locals (C : q_Cx g M mc ms p e R s m args below meth cd) : q_lo M ≤ R.locals := C.2.2.2.2.2.2.2.2.2.2.2.2.2.2.2
theorem q_Cx.wd (C : q_Cx g M mc ms p e R s m args below meth cd) {w : Cond} (hw : w ∈ q_tb) : w.before args s = true := q_gw_mv C.warm (q_gwok w hw) (C.gl.2.1 w hw) args
theorem q_Cx.K (C : q_Cx g M mc ms p e R s m args below meth cd) : va_K g.2.2.1 q_cl (q_tyd g.2.2.2) s := va_K.moved C.warm.alike C.gl.2.2.1
theorem q_Cx.lay (C : q_Cx g M mc ms p e R s m args below meth cd) {ci : Nat} {r : vw_C} (hc : q_cl[ci]? = some r) : ∀ w ∈ u_ws r.1 r.2.1 r.2.2, w.before args s = true := fun w hw => C.wd (q_lay ci r hc w hw)
/-- a cell of ours is changed at one place -/
theorem q_Co.upd {H H1 : Heap} {h2 : q_H} {a kd n : Nat} (hC : q_Co g h H) (hT : h.2.1 a = some (kd, n)) (e1 : h2.1 = h.1) (eT : h2.2.1 = h.2.1)
    (eo : ∀ b : Nat, b ≠ a → h2.2.2.1 b = h.2.2.1 b ∧ h2.2.2.2.1 b = h.2.2.2.1 b ∧ h2.2.2.2.2 b = h.2.2.2.2 b) (z : H1.size = H.size) (ho : ∀ q : Nat, q ≠ a → H1[q]? = H[q]?) (hn : q_cell g h2 H1 a kd n) : q_Co g h2 H1 := by
  obtain ⟨c1, c2, c3⟩ := hC
  have ha := (c2 a kd n hT).1
  refine ⟨by rw [z, e1]; exact c1, fun b k2 n2 hb => ?_, fun b hb => ?_⟩
  · rw [eT] at hb
    by_cases hba : b = a
    · subst hba
      rw [hT] at hb
      cases hb
      exact ⟨by rw [e1]; exact ha, (c2 b kd n hT).2.1, hn⟩
    · obtain ⟨b1, b2, b3⟩ := c2 b k2 n2 hb
      obtain ⟨o1, o2, o3⟩ := eo b hba
      refine ⟨by rw [e1]; exact b1, b2, ?_⟩
      unfold q_cell at b3 ⊢
      rw [o1, o2, o3, ho b hba]
      refine ⟨b3.1, b3.2.1, fun hk => ?_⟩
      obtain ⟨r, r1, r2⟩ := b3.2.2 hk
      exact ⟨r, r1, r2.kept (ho b hba)⟩
  · rw [e1] at hb
    have hba : b ≠ a := by omega
    obtain ⟨o1, o2, o3⟩ := eo b hba
    rw [o1, o2, o3]
    exact c3 b hb
/-- nothing of ours is changed, and a cell comes -/
theorem q_Co.push {H H1 : Heap} {h2 : q_H} {kd n : Nat} (hC : q_Co g h H) (hA : (q_s0 g).heap.size ≤ H.size) (h51 : kd ≠ 50) (e1 : h2.1 = h.1 + 1) (eT : h2.2.1 = q_upT h.2.1 h.1 (kd, n)) (eI : h2.2.2 = h.2.2) (z : H1.size = H.size + 1) (ho : ∀ q : Nat, q < H.size → H1[q]? = H[q]?) (hn : q_cell g h2 H1 h.1 kd n) : q_Co g h2 H1 := by
  obtain ⟨c1, c2, c3⟩ := hC
  refine ⟨by rw [z, e1, c1], fun b k2 n2 hb => ?_, fun b hb => ?_⟩
  · rw [eT] at hb
    unfold q_upT at hb
    by_cases hba : b = h.1
    · rw [if_pos hba] at hb
      cases hb
      subst hba
      exact ⟨by rw [e1]; omega, fun _ => by show (q_s0 g).heap.size ≤ h.1; omega, hn⟩
    · rw [if_neg hba] at hb
      obtain ⟨b1, b2, b3⟩ := c2 b k2 n2 hb
      refine ⟨by rw [e1]; omega, b2, ?_⟩
      have hob : H1[b]? = H[b]? := ho b (by omega)
      unfold q_cell at b3 ⊢
      rw [eI, hob]
      refine ⟨b3.1, b3.2.1, fun hk => ?_⟩
      obtain ⟨r, r1, r2⟩ := b3.2.2 hk
      exact ⟨r, r1, r2.kept hob⟩
  · rw [e1] at hb
    rw [eI]
    exact c3 b (by omega)
theorem va_S.pushA {A : Nat → Prop} {H0 H H1 : Heap} {locs : List Loc} (hS : va_S A H0 H locs) (z : H1.size = H.size + 1) (ho : ∀ q : Nat, q < H.size → H1[q]? = H[q]?) : va_S A H0 H1 locs :=
  ⟨Nat.le_trans hS.1 (by omega), fun q h1 h2 => (ho q (Nat.lt_of_lt_of_le h1 hS.1)).trans (hS.2.1 q h1 h2), hS.2.2⟩
/-- getfield: of a field's kind the value -/
theorem q_get {a ci fk idx : Nat} {r : vw_C} {v : Value} (d : decode (q_bc M) pc = .ok (.getfield idx, 3)) (hc : q_cl[ci]? = some r) (hk : fk < r.2.2) (hw : Cond.fieldLink (q_ow M) idx (r.2.1 fk).1 (r.2.1 fk).2.1 (r.2.1 fk).2.2.1 ∈ q_tb)
    (hT : h.2.1 a = some (100 + ci, 0)) (hv : q_fv (q_ty ci fk) (h.2.2.1 a (nI fk)) (h.2.2.2.1 a (nI fk)) = v) (kk : q_V g M mc ms c k h Q (pc + 3) ls (v :: st)) : q_V g M mc ms c k h Q pc ls (.ref a :: st) := by
  intro p e R s m args below meth cd C H locs la hC hS hl
  obtain ⟨-, -, h3⟩ := hC.2.1 a _ _ hT
  obtain ⟨r2, hr2, cell, q1, q2, q3, q4⟩ := h3.2.2 (by omega)
  rw [Nat.add_sub_cancel_left] at hr2 q2 q4
  cases hc.symm.trans hr2
  obtain ⟨hSl, hfc, kC, hkC, hkind⟩ := C.K.1 ci r hc
  obtain ⟨cf, kf, fi, f, hi, hsl⟩ := hSl fk hk
  refine W.getf C.1 C.2.1 C.own (C.wd hw) hi (u_facts hfc hkC (u_lays (ws := u_ws r.1 r.2.1 r.2.2) (C.lay hc) (fun w hw => hw) hk) hi).1 q1 (by rw [q3]; exact fun z => by cases z) (v := v) ?_ rfl rfl d (kk p e R s m args below meth cd C H locs la hC hS hl)
  rw [hsl, q4 fk hk]
  exact congrArg some hv
theorem q_getN {a ci fk idx : Nat} {host : String} {r : vw_C} {v : Value} (d : decode (q_bc M) pc = .ok (.getfield idx, 3)) (hc : q_cl[ci]? = some r) (hk : fk < r.2.2) (hw : Cond.fieldLinkNest (q_ow M) idx (r.2.1 fk).1 (r.2.1 fk).2.1 (r.2.1 fk).2.2.1 host ∈ q_tb)
    (hT : h.2.1 a = some (100 + ci, 0)) (hv : q_fv (q_ty ci fk) (h.2.2.1 a (nI fk)) (h.2.2.2.1 a (nI fk)) = v) (kk : q_V g M mc ms c k h Q (pc + 3) ls (v :: st)) : q_V g M mc ms c k h Q pc ls (.ref a :: st) := by
  intro p e R s m args below meth cd C H locs la hC hS hl
  obtain ⟨-, -, h3⟩ := hC.2.1 a _ _ hT
  obtain ⟨r2, hr2, cell, q1, q2, q3, q4⟩ := h3.2.2 (by omega)
  rw [Nat.add_sub_cancel_left] at hr2 q2 q4
  cases hc.symm.trans hr2
  obtain ⟨hSl, hfc, kC, hkC, hkind⟩ := C.K.1 ci r hc
  obtain ⟨cf, kf, fi, f, hi, hsl⟩ := hSl fk hk
  refine va_Wgetf C.1 C.2.1 C.own (C.wd hw) hi (u_facts hfc hkC (u_lays (ws := u_ws r.1 r.2.1 r.2.2) (C.lay hc) (fun w hw => hw) hk) hi).1 q1 (by rw [q3]; exact fun z => by cases z) (v := v) ?_ rfl rfl d (kk p e R s m args below meth cd C H locs la hC hS hl)
  rw [hsl, q4 fk hk]
  exact congrArg some hv
/-- the slots of a class's fields are apart -/
theorem q_ap (C : q_Cx g M mc ms p e R s m args below meth cd) {ci : Nat} {r : vw_C} (hc : q_cl[ci]? = some r) : ∀ x y, x < r.2.2 → y < r.2.2 → x ≠ y → (g.2.2.1.2 ci) x ≠ (g.2.2.1.2 ci) y := by
  intro x y hx hy hne
  obtain ⟨hSl, -⟩ := C.K.1 ci r hc
  obtain ⟨_, _, _, fa, hia, ea⟩ := hSl x hx
  obtain ⟨_, _, _, fb, hib, eb⟩ := hSl y hy
  rw [← ea, ← eb]
  refine u_apart (u_lays (ws := u_ws r.1 r.2.1 r.2.2) (C.lay hc) (fun w hw => hw) hx) (u_lays (ws := u_ws r.1 r.2.1 r.2.2) (C.lay hc) (fun w hw => hw) hy) hia hib ?_
  rw [(State.fieldFound?_type hia (q_tyok ci r hc x hx)).1, (State.fieldFound?_type hib (q_tyok ci r hc y hy)).1]
  exact q_nmok ci r hc x hx y hy hne
/-- what a write of a field does to the clean heap -/
theorem q_putCo (C : q_Cx g M mc ms p e R s m args below meth cd) {H H1 : Heap} {h2 : q_H} {a ci fk : Nat} {r : vw_C} {cell : Cell} {v : Value} (hC : q_Co g h H) (hc : q_cl[ci]? = some r) (hk : fk < r.2.2) (hT : h.2.1 a = some (100 + ci, 0))
    (q2 : cell.cls = g.2.2.1.1 ci) (q3 : cell.vm = .none) (q4 : ∀ j, j < r.2.2 → cell.slots[g.2.2.1.2 ci j]? = some (q_fv (q_ty ci j) (h.2.2.1 a (nI j)) (h.2.2.2.1 a (nI j))))
    (e1 : h2.1 = h.1) (eT : h2.2.1 = h.2.1) (eJ : h2.2.2.2.2 = h.2.2.2.2) (eo : ∀ b : Nat, b ≠ a → h2.2.2.1 b = h.2.2.1 b ∧ h2.2.2.2.1 b = h.2.2.2.1 b) (ea : ∀ j, j < r.2.2 → q_fv (q_ty ci j) (h2.2.2.1 a (nI j)) (h2.2.2.2.1 a (nI j)) = if j = fk then v else q_fv (q_ty ci j) (h.2.2.1 a (nI j)) (h.2.2.2.1 a (nI j)))
    (hH : H1[a]? = some (cell.setSlot (g.2.2.1.2 ci fk) v)) (z : H1.size = H.size) (ho : ∀ q : Nat, q ≠ a → H1[q]? = H[q]?) : q_Co g h2 H1 := by
  refine hC.upd hT e1 eT (fun b hb => ⟨(eo b hb).1, (eo b hb).2, by rw [eJ]⟩) z ho ⟨fun z => by omega, fun z => by omega, fun _ => ⟨r, by rw [Nat.add_sub_cancel_left]; exact hc, ?_⟩⟩
  rw [Nat.add_sub_cancel_left]
  refine ⟨_, hH, q2, q3, fun j hj => ?_⟩
  rw [t_set q4 (q_ap C hc) hk v j hj]
  exact congrArg some (ea j hj).symm
/-- putfield of a field that isn't final -/
theorem q_putV {a ci fk idx : Nat} {r : vw_C} {v : Value} {h2 : q_H} (d : decode (q_bc M) pc = .ok (.putfield idx, 3)) (hc : q_cl[ci]? = some r) (hk : fk < r.2.2) (hw : Cond.fieldLink (q_ow M) idx (r.2.1 fk).1 (r.2.1 fk).2.1 (r.2.1 fk).2.2.1 ∈ q_tb)
    (hfin : (r.2.1 fk).2.2.2 = false) (hT : h.2.1 a = some (100 + ci, 0)) (hn : narrow (q_ty ci fk) v = v) (hf : fits (q_ty ci fk) v = true)
    (e1 : h2.1 = h.1) (eT : h2.2.1 = h.2.1) (eJ : h2.2.2.2.2 = h.2.2.2.2) (eo : ∀ b : Nat, b ≠ a → h2.2.2.1 b = h.2.2.1 b ∧ h2.2.2.2.1 b = h.2.2.2.1 b) (ea : ∀ j, j < r.2.2 → q_fv (q_ty ci j) (h2.2.2.1 a (nI j)) (h2.2.2.2.1 a (nI j)) = if j = fk then v else q_fv (q_ty ci j) (h.2.2.1 a (nI j)) (h.2.2.2.1 a (nI j)))
    (kk : q_V g M mc ms c k h2 Q (pc + 3) ls st) : q_V g M mc ms c k h Q pc ls (v :: .ref a :: st) := by
  intro p e R s m args below meth cd C H locs la hC hS hl
  obtain ⟨-, hA, h3⟩ := hC.2.1 a _ _ hT
  obtain ⟨r2, hr2, cell, q1, q2, q3, q4⟩ := h3.2.2 (by omega)
  rw [Nat.add_sub_cancel_left] at hr2 q2 q4
  cases hc.symm.trans hr2
  obtain ⟨hSl, hfc, kC, hkC, hkind⟩ := C.K.1 ci r hc
  obtain ⟨cf, kf, fi, f, hi, hsl⟩ := hSl fk hk
  have hlay := C.lay hc _ (u_in_lay hk)
  unfold u_lay at hlay
  rw [if_neg (by rw [hfin]; decide)] at hlay
  have hst := (u_facts hfc hkC (u_lays (ws := u_ws r.1 r.2.1 r.2.2) (C.lay hc) (fun w hw => hw) hk) hi).1
  have h6 := u_store hfc hkC hkind hlay hi (q_tyok ci r hc fk hk) hn hf
  refine W.putK C.1 C.2.1 (f := f) ⟨C.own, C.wd hw, ⟨_, _, _, hi⟩, hst⟩ (by rw [q2]; exact h6) q1 q3 (by rw [hsl]; exact k2_hasslot (q4 fk hk)) rfl rfl d fun H1 z1 z2 z3 => ?_
  rw [hsl] at z1 ⊢
  exact kk p e R s m args below meth cd C H1 _ la (q_putCo C hC hc hk hT q2 q3 q4 e1 eT eJ eo ea z1 z2 z3) (hS.put z2 z3 (hA (by omega))) hl
/-- putfield of a final field, in its class's constructor -/
theorem q_putF {a ci fk idx : Nat} {r : vw_C} {v : Value} {h2 : q_H} (d : decode (q_bc M) pc = .ok (.putfield idx, 3)) (hc : q_cl[ci]? = some r) (hk : fk < r.2.2) (hw : Cond.fieldLink (q_ow M) idx (r.2.1 fk).1 (r.2.1 fk).2.1 (r.2.1 fk).2.2.1 ∈ q_tb)
    (hfin : (r.2.1 fk).2.2.2 = true) (hin : q_in M = true) (hdecl : (r.2.1 fk).1 = q_ow M) (hT : h.2.1 a = some (100 + ci, 0)) (hn : narrow (q_ty ci fk) v = v) (hf : fits (q_ty ci fk) v = true)
    (e1 : h2.1 = h.1) (eT : h2.2.1 = h.2.1) (eJ : h2.2.2.2.2 = h.2.2.2.2) (eo : ∀ b : Nat, b ≠ a → h2.2.2.1 b = h.2.2.1 b ∧ h2.2.2.2.1 b = h.2.2.2.1 b) (ea : ∀ j, j < r.2.2 → q_fv (q_ty ci j) (h2.2.2.1 a (nI j)) (h2.2.2.2.1 a (nI j)) = if j = fk then v else q_fv (q_ty ci j) (h.2.2.1 a (nI j)) (h.2.2.2.1 a (nI j)))
    (kk : q_V g M mc ms c k h2 Q (pc + 3) ls st) : q_V g M mc ms c k h Q pc ls (v :: .ref a :: st) := by
  intro p e R s m args below meth cd C H locs la hC hS hl
  obtain ⟨-, hA, h3⟩ := hC.2.1 a _ _ hT
  obtain ⟨r2, hr2, cell, q1, q2, q3, q4⟩ := h3.2.2 (by omega)
  rw [Nat.add_sub_cancel_left] at hr2 q2 q4
  cases hc.symm.trans hr2
  obtain ⟨hSl, hfc, kC, hkC, hkind⟩ := C.K.1 ci r hc
  obtain ⟨cf, kf, fi, f, hi, hsl⟩ := hSl fk hk
  have hlay := C.lay hc _ (u_in_lay hk)
  unfold u_lay at hlay
  rw [if_pos hfin] at hlay
  have hst := (u_facts hfc hkC (u_lays (ws := u_ws r.1 r.2.1 r.2.2) (C.lay hc) (fun w hw => hw) hk) hi).1
  have hcf : m.cls = cf := by
    obtain ⟨_, _, c', _, _, _, -, -, hf', -, -, -, hown2, -⟩ := Cond.laysFinal_spec hlay
    have e1 : c' = cf := by have := hi.symm.trans hf'; simp at this; exact this.1.symm
    rw [hdecl] at hown2
    rw [← e1]; exact Option.some.inj (C.own.symm.trans hown2)
  have h6 := u_fits hfc hkC hkind (Or.inr hlay) hi (q_tyok ci r hc fk hk) hn hf
  refine W.putFinK C.1 C.2.1 C.own (C.wd hw) hi hst hcf (C.init hin) (by rw [q2]; exact h6) q1 q3 (by rw [hsl]; exact k2_hasslot (q4 fk hk)) rfl rfl d fun H1 z1 z2 z3 => ?_
  rw [hsl] at z1 ⊢
  exact kk p e R s m args below meth cd C H1 _ la (q_putCo C hC hc hk hT q2 q3 q4 e1 eT eJ eo ea z1 z2 z3) (hS.put z2 z3 (hA (by omega))) hl
end QHeap
