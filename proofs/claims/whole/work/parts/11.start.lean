/-! the law's start: what the Statement gives, in clean words -/
theorem q_words {s : State} {b : Nat} (hts : ∀ w ∈ lw_tbl, w.before #[Value.ref b] s = true) : ∀ w ∈ q_tb, ∀ A : Array Value, w.before A s = true := by
  intro w hw A
  obtain ⟨h1, h2⟩ := List.mem_filter.mp hw
  have h := hts w h1
  unfold q_gw at h2
  rw [Bool.or_eq_true] at h2
  rcases h2 with h2 | h2
  · exact word_at (State.WarmedH.refl s) (good_of_word h2) h
  · cases w with
    | fieldLinkNest a i b n d hh => exact va_Nw.use rfl (va_Nw.of rfl h)
    | methodLinkNest a i x hh => exact va_Nw.use rfl (va_Nw.of rfl h)
    | declares x => exact va_Nw.use rfl (va_Nw.of rfl h)
    | castable a b => exact va_Nw.use rfl (va_Nw.of rfl h)
    | arrayOver ty =>
      cases ty with
      | object C => exact va_AO.use (va_AO.of h)
      | _ => cases h2
    | _ => cases h2
theorem q_insok1 : (q_cl.all fun r => decide (Cond.instantiable r.1 r.2.2 ∈ q_tb)) = true := by decide +kernel
theorem q_insok {ci : Nat} {r : vw_C} (hr : q_cl[ci]? = some r) : Cond.instantiable r.1 r.2.2 ∈ q_tb := of_decide_eq_true (List.all_eq_true.mp q_insok1 r (List.mem_of_getElem? hr))
theorem q_cls {s : State} (hw : ∀ w ∈ q_tb, ∀ A : Array Value, w.before A s = true) : ∃ D : va_G, ∀ (ci : Nat) (r : vw_C), q_cl[ci]? = some r → u_Kn s r.1 r.2.1 r.2.2 (D.1 ci) (D.2 ci) := by
  have h : ∀ ci : Nat, ∃ q : ClassId × (Nat → Nat), ∀ r, q_cl[ci]? = some r → u_Kn s r.1 r.2.1 r.2.2 q.1 q.2 := by
    intro ci
    cases hr : q_cl[ci]? with
    | none => exact ⟨(0, fun _ => 0), fun r z => by cases z⟩
    | some r =>
      obtain ⟨cC, iS, h9⟩ := u_known (args := #[]) (ws := u_ws r.1 r.2.1 r.2.2) (fun w z => hw w (q_lay ci r hr w z) #[]) (fun w z => z) (hw _ (q_insok hr) #[])
      exact ⟨(cC, iS), fun r2 z => by cases z; exact h9⟩
  exact ⟨(fun ci => (Classical.choose (h ci)).1, fun ci => (Classical.choose (h ci)).2), fun ci r hr => Classical.choose_spec (h ci) r hr⟩
theorem q_arrP {s : State} {ty : FieldType} (hty : ty = .int ∨ ty = .long) (h : (Cond.arrayClass ty).before #[] s = true) : ∃ cA : ClassId, ArrOfT s cA ty ∧ va_RA s cA ty := by
  obtain ⟨c, k, comp, h1, h2, h3⟩ := Cond.arrayClass_spec h
  refine ⟨c, fun n z => ⟨fun k h => (by cases h), k, h2, comp, h3⟩, ?_⟩
  rcases hty with rfl | rfl
  · exact h1
  · exact h1
theorem q_arrO {s : State} {C : String} (h : (Cond.arrayOver (.object C)).before #[] s = true) : ∃ cA : ClassId, ArrOfT s cA (.object C) ∧ va_RA s cA (.object C) := by
  obtain ⟨comp, c, k, h1, h2, h3, h4, h5⟩ := Cond.arrayOver_spec h
  exact ⟨c, fun n z => ⟨fun k h => (by cases h), k, h3, comp, h4⟩, k, comp, h3, h4, h1, h5⟩
theorem q_arrs {s : State} (hw : ∀ w ∈ q_tb, ∀ A : Array Value, w.before A s = true) : ∃ dA : Nat → ClassId, ∀ (k : Nat) (q : ClassId × FieldType), (q_tyd dA)[k]? = some q → ArrOfT s q.1 q.2 ∧ va_RA s q.1 q.2 := by
  obtain ⟨c0, h0⟩ := q_arrP (Or.inl rfl) (hw (.arrayClass .int) w_91 #[])
  obtain ⟨c1, h1⟩ := q_arrP (Or.inr rfl) (hw (.arrayClass .long) w_1518 #[])
  obtain ⟨c2, h2⟩ := q_arrO (hw (.arrayOver (.object "LensPaths$Field")) w_48 #[])
  obtain ⟨c3, h3⟩ := q_arrO (hw (.arrayOver (.object "LensPaths$Primitive")) w_142 #[])
  obtain ⟨c4, h4⟩ := q_arrO (hw (.arrayOver (.object "LensPaths$Row")) w_175 #[])
  obtain ⟨c5, h5⟩ := q_arrO (hw (.arrayOver (.object "LensPaths$Schema")) w_39 #[])
  obtain ⟨c6, h6⟩ := q_arrO (hw (.arrayOver (.object "LensPaths$Step")) w_41 #[])
  refine ⟨fun i => [c0, c1, c2, c3, c4, c5, c6].getD i c0, fun k q hq => ?_⟩
  have hk : k < 7 := (List.getElem?_eq_some_iff.mp hq).1
  rcases (by omega : k = 0 ∨ k = 1 ∨ k = 2 ∨ k = 3 ∨ k = 4 ∨ k = 5 ∨ k = 6) with rfl | rfl | rfl | rfl | rfl | rfl | rfl
  · cases hq; exact h0
  · cases hq; exact h1
  · cases hq; exact h2
  · cases hq; exact h3
  · cases hq; exact h4
  · cases hq; exact h5
  · cases hq; exact h6
theorem q_stat {s U : State} {C n d : String} {A A2 : Array Value} (hl : (Cond.laysStatic C n d).before A s = true) (hr : (Cond.isRef (.static C n d)).before A s = true) (hW : s.vm.Alike U.vm) (hh : ∀ q : Nat, q < s.heap.size → U.heap[q]? = s.heap[q]?) : (Cond.laysStatic C n d).before A2 U = true ∧ (Cond.isRef (.static C n d)).before A2 U = true := by
  obtain ⟨c, k, i, f, a, cell, h1, h2, h3, h4, h5, h6, h7, h8, h9⟩ := Cond.laysStatic_spec hl
  obtain ⟨k2, hi, he⟩ := State.fieldFound?_setVm hW h2
  have hi2 : U.fieldFound? C n d = some (c, k2, i, f) := hi
  have e1 : U.vm.findClass C = some c := by rw [hW.findClass]; exact h1
  have e4 : k2.statics = some a := by rw [he]; exact h4
  have e9 : k2.staticTypes[f.slot]? = some f.type := by rw [he]; exact h9
  have e5 : U.heap[a]? = some cell := by rw [hh a (Array.getElem?_eq_some_iff.mp h5).1]; exact h5
  refine ⟨?_, ?_⟩
  · show (Cond.laysStatic C n d).holds A2 U none U [] = true
    exact Cond.laysStatic_of e1 hi2 h3 e4 e5 h6 h7 h8 e9
  · simp only [Cond.before, Cond.holds, Cond.value, Term.eval, State.fieldNamed?, h2, h3, h4, h5, h6] at hr
    simp only [Cond.before, Cond.holds, Cond.value, Term.eval, State.fieldNamed?, hi2, h3, e4, e5, h6]
    simp [h3, h4, h5, h6] at hr
    simp [h3, e4, e5, h6]
    exact hr
/-- the clean heap at the law's start: the script alone -/
def q_h0 (s : State) (b L : Nat) (xs : Nat → Int32) : q_H := (s.heap.size, fun a => if a = b then some (50, L) else none, fun a i => if a = b then xs i.toNatClampNeg else 0, fun _ _ => none, fun _ _ => 0)
theorem q_h0co {g : q_G} {b L : Nat} {xs : Nat → Int32} (hX : va_X b L xs (q_s0 g) (q_s0 g).heap) (hb : b < (q_s0 g).heap.size) (hL : L < 2 ^ 31) : q_Co g (q_h0 (q_s0 g) b L xs) (q_s0 g).heap := by
  obtain ⟨scr, x1, x2, x3, x4, x5⟩ := hX
  refine ⟨rfl, fun a k n ha => ?_, fun a ha => ⟨fun i => ?_, fun i => rfl, fun i => rfl⟩⟩
  · have ha' : (if a = b then some (50, L) else none) = some (k, n) := ha
    by_cases hab : a = b
    · rw [if_pos hab] at ha'
      cases ha'
      subst hab
      refine ⟨hb, fun z => absurd rfl z, fun z => by omega, fun _ => ⟨hL, scr, x1, x2, x3, x4, fun j hj => ?_⟩, fun z => by omega⟩
      rw [x5 j hj]
      show some (Value.int (xs j)) = some (Value.int (if a = a then xs (nI j).toNatClampNeg else 0))
      rw [if_pos rfl, nI_clamp (by omega)]
    · rw [if_neg hab] at ha'
      cases ha'
  · have ha' : (q_s0 g).heap.size ≤ a := ha
    show (if a = b then xs i.toNatClampNeg else 0) = 0
    rw [if_neg (by omega)]
