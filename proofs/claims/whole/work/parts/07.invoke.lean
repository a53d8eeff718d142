/-! calls by contract, an instruction each; throwing and catching -/
section QInv
variable {g : q_G} {M M2 : q_M} {mc ms c k mc2 ms2 idx : Nat} {h : q_H} {Q Q2 : q_O → q_H → Prop} {pc : Nat} {ls : List (Option Value)} {st0 as rest : List Value}
variable {sz : Nat} {T0 : q_T} {I : q_I} {R0 : q_R} {J : q_J}
theorem q_cwnamed {a : Array Value} {U : State} (hw : (q_cw M2).before a U = true) : ∃ mk, U.methodNamed? (q_nm M2) = some mk := by
  unfold q_cw at hw
  split at hw
  · exact Cond.code_named hw
  · obtain ⟨m9, m2, c2, hn9, -⟩ := Cond.codeWith_spec hw
    exact ⟨m9, hn9⟩
/-- what every call asks of its callee -/
def q_ck (M M2 : q_M) (n : Nat) : Prop := q_fr M2 + 1 ≤ q_fr M ∧ 8 + (q_ml M2 + 11) + q_lo M2 ≤ q_lo M ∧ q_cw M2 ∈ q_tb ∧ Cond.initialized (q_nm M2).cls ∈ q_tb ∧ ((q_nm M2).cls ≠ "java/lang/invoke/MethodHandle" ∧ (q_nm M2).cls ≠ "java/lang/invoke/VarHandle") ∧ (parseMethodDescriptor (q_nm M2).desc).map (fun d => d.parameters.length) = some n
theorem q_ck.len {n : Nat} (hk : q_ck M M2 n) {sig : MethodDescriptor} (h1 : parseMethodDescriptor (q_nm M2).desc = some sig) : n = sig.parameters.length := by
  have h2 := hk.2.2.2.2.2
  rw [h1] at h2
  exact (Option.some.inj h2).symm
theorem q_call {n : Nat} {ig : Instr} (d : decode (q_bc M) pc = .ok (ig, 3)) (hck : q_ck M M2 n) (hrest : (rest.map fun v => v.category).sum ≤ 8) (hc : c + mc2 ≤ mc) (hk : k + ms2 ≤ ms) (hM : q_C g M2 as h mc2 ms2 Q2)
    (hent : ∀ (p : Program) (e : Env) (R : Room) (s : State) (m : MethodId) (args : Array Value) (below : List Frame) (meth : Method) (cd : Code), q_Cx g M mc ms p e R s m args below meth cd → ∀ (H : Heap) (locs : List Loc) (la : Array Slot), q_Co g h H → ∀ T : State, T.heap = H → Stand p g.1 e R s m args below meth cd T locs c k →
      ∃ (vm1 : Vm) (mk : MethodId), s.methodNamed? (q_nm M2) = some mk ∧ Stand p g.1 e R s m args below meth cd (T.setVm vm1) locs c k ∧ ∀ target, (∀ acts, Steps p.tables e below (doInvoke e ((T.setVm vm1).setTop (F0 m pc la rest)) acts mk as.toArray).1 target) → Steps p.tables e below (T.setTop (F0 m pc la st0)) target)
    (kr : ∀ (v : Option Value) (h' : q_H), Q2 (.inl v) h' → q_V g M mc ms (c + mc2) (k + ms2) h' Q (pc + 3) ls (v.toList ++ rest)) (kx : ∀ (x : Nat × Nat) (h' : q_H), Q2 (.inr x) h' → q_VX g M mc ms (c + mc2) (k + ms2) h' Q pc ls x) : q_V g M mc ms c k h Q pc ls st0 := by
  intro p e R s m args below meth cd C H locs la hC hS hl
  exact q_inv C hM hC hS hl.1 hrest d hck.1 hck.2.1 hck.2.2.1 hck.2.2.2.1 hc hk (fun T hT X => hent p e R s m args below meth cd C H locs la hC T hT X)
    (fun v h' H' locs' z1 z2 z3 => kr v h' z1 p e R s m args below meth cd C H' locs' la z2 z3 hl) (fun x h' H' locs' ce z1 z2 z3 z4 z5 z6 => kx x h' z1 p e R s m args below meth cd C H' locs' la z2 z3 hl ce rest z4 z5 z6)
theorem q_callS (d : decode (q_bc M) pc = .ok (.invokestatic idx, 3)) (hck : q_ck M M2 as.length) (hl : Cond.methodLink (q_ow M) idx (q_nm M2) ∈ q_tb) (hs : Cond.static (q_nm M2) ∈ q_tb) (hst : st0 = as.reverse ++ rest) (hrest : (rest.map fun v => v.category).sum ≤ 8) (hc : c + mc2 ≤ mc) (hk : k + ms2 ≤ ms) (hM : q_C g M2 as h mc2 ms2 Q2)
    (kr : ∀ (v : Option Value) (h' : q_H), Q2 (.inl v) h' → q_V g M mc ms (c + mc2) (k + ms2) h' Q (pc + 3) ls (v.toList ++ rest)) (kx : ∀ (x : Nat × Nat) (h' : q_H), Q2 (.inr x) h' → q_VX g M mc ms (c + mc2) (k + ms2) h' Q pc ls x) : q_V g M mc ms c k h Q pc ls st0 := by
  refine q_call d hck hrest hc hk hM ?_ kr kx
  intro p e R s m args below meth cd C H locs la hC T hT X
  obtain ⟨mk, hn⟩ := q_cwnamed (C.wd hck.2.2.1)
  obtain ⟨m2, c2, h1, -, -, -, -, -, -, hsig⟩ := q_cwspec (C.wd hck.2.2.1) hn
  obtain ⟨kP, hkP, -⟩ := className_of_methodNamed hn
  obtain ⟨vm1, X1, st⟩ := X.invokestatic C.1 C.own (C.wd hl) hn h1 (Cond.static_spec hn h1 (C.wd hs)) hkP (Cond.initialized_spec (findClass_of_methodNamed hn) hkP (C.wd hck.2.2.2.1)) hck.2.2.2.2.1 (g := F0 m pc la st0) rfl (argsL := as) (rest := rest) (hck.len hsig) hst (by rw [C.2.1]; exact d)
  exact ⟨vm1, mk, hn, X1, st⟩
theorem q_callSN {host : String} (d : decode (q_bc M) pc = .ok (.invokestatic idx, 3)) (hck : q_ck M M2 as.length) (hl : Cond.methodLinkNest (q_ow M) idx (q_nm M2) host ∈ q_tb) (hs : Cond.static (q_nm M2) ∈ q_tb) (hst : st0 = as.reverse ++ rest) (hrest : (rest.map fun v => v.category).sum ≤ 8) (hc : c + mc2 ≤ mc) (hk : k + ms2 ≤ ms) (hM : q_C g M2 as h mc2 ms2 Q2)
    (kr : ∀ (v : Option Value) (h' : q_H), Q2 (.inl v) h' → q_V g M mc ms (c + mc2) (k + ms2) h' Q (pc + 3) ls (v.toList ++ rest)) (kx : ∀ (x : Nat × Nat) (h' : q_H), Q2 (.inr x) h' → q_VX g M mc ms (c + mc2) (k + ms2) h' Q pc ls x) : q_V g M mc ms c k h Q pc ls st0 := by
  refine q_call d hck hrest hc hk hM ?_ kr kx
  intro p e R s m args below meth cd C H locs la hC T hT X
  obtain ⟨mk, hn⟩ := q_cwnamed (C.wd hck.2.2.1)
  obtain ⟨m2, c2, h1, -, -, -, -, -, -, hsig⟩ := q_cwspec (C.wd hck.2.2.1) hn
  obtain ⟨kP, hkP, -⟩ := className_of_methodNamed hn
  obtain ⟨vm1, X1, st⟩ := X.invokestaticNest C.1 C.own (C.wd hl) hn h1 (Cond.static_spec hn h1 (C.wd hs)) hkP (Cond.initialized_spec (findClass_of_methodNamed hn) hkP (C.wd hck.2.2.2.1)) hck.2.2.2.2.1 (g := F0 m pc la st0) rfl (argsL := as) (rest := rest) (hck.len hsig) hst (by rw [C.2.1]; exact d)
  exact ⟨vm1, mk, hn, X1, st⟩
/-- the receiver's cell -/
theorem q_recv {p : Program} {e : Env} {R : Room} {s : State} {m : MethodId} {args : Array Value} {below : List Frame} {meth : Method} {cd : Code} {H : Heap} (C : q_Cx g M mc ms p e R s m args below meth cd) {b ci : Nat} {r : vw_C} (hC : q_Co g h H) (hc : q_cl[ci]? = some r) (hT : h.2.1 b = some (100 + ci, 0)) : ∃ cell : Cell, H[b]? = some cell ∧ (∀ z, cell.vm ≠ .statics z) ∧ s.vm.findClass r.1 = some cell.cls := by
  obtain ⟨-, -, h3⟩ := hC.2.1 b _ _ hT
  obtain ⟨r2, hr2, cell, q1, q2, q3, q4⟩ := h3.2.2 (by omega)
  rw [Nat.add_sub_cancel_left] at q2
  exact ⟨cell, q1, (fun z hz => by rw [q3] at hz; cases hz), (by rw [q2]; exact (C.K.1 ci r hc).2.1)⟩
theorem q_callV {b ci : Nat} {r : vw_C} (d : decode (q_bc M) pc = .ok (.invokevirtual idx, 3)) (hck : q_ck M M2 as.length) (hl : Cond.methodLink (q_ow M) idx (q_nm M2) ∈ q_tb) (hi : Cond.instanceMethod (q_nm M2) ∈ q_tb) (hc0 : q_cl[ci]? = some r) (hse : Cond.selects r.1 (q_nm M2) (q_nm M2) ∈ q_tb) (hT : h.2.1 b = some (100 + ci, 0)) (hst : st0 = as.reverse ++ .ref b :: rest) (hrest : (rest.map fun v => v.category).sum ≤ 8) (hc : c + mc2 ≤ mc) (hk : k + ms2 ≤ ms) (hM : q_C g M2 (.ref b :: as) h mc2 ms2 Q2)
    (kr : ∀ (v : Option Value) (h' : q_H), Q2 (.inl v) h' → q_V g M mc ms (c + mc2) (k + ms2) h' Q (pc + 3) ls (v.toList ++ rest)) (kx : ∀ (x : Nat × Nat) (h' : q_H), Q2 (.inr x) h' → q_VX g M mc ms (c + mc2) (k + ms2) h' Q pc ls x) : q_V g M mc ms c k h Q pc ls st0 := by
  refine q_call d hck hrest hc hk hM ?_ kr kx
  intro p e R s m args below meth cd C H locs la hC T hT9 X
  obtain ⟨cell, f1, f2, f3⟩ := q_recv C hC hc0 hT
  obtain ⟨mk, methM, hn, hmethM, hstM, habM⟩ := Cond.instanceMethod_spec (C.wd hi)
  obtain ⟨m2, c2, h1, -, -, -, -, -, -, hsig⟩ := q_cwspec (C.wd hck.2.2.1) hn
  cases hmethM.symm.trans h1
  obtain ⟨c3, r3, m3, q1, q2, q3, q4, kP, hkP, hkPi⟩ := Cond.selects_spec (C.wd hse)
  cases f3.symm.trans q1
  cases (State.methodFound?_of_named hn hck.2.2.2.2.1).symm.trans q2
  cases hn.symm.trans q3
  have hselP : selectMethod e.platform s.vm cell.cls mk = .method mk := by rw [Launch.admits_selectMethod X.admits]; exact q4
  obtain ⟨vm1, X1, st⟩ := X.invokevirtual C.1 C.own (C.wd hl) hn hmethM hstM hkP hkPi hck.2.2.2.2.1 (a := b) (cell := cell) (by rw [hT9]; exact f1) f2 hselP hmethM habM hkP hkPi (g := F0 m pc la st0) rfl (argsL := as) (rest := rest) (hck.len hsig) hst (by rw [C.2.1]; exact d)
  exact ⟨vm1, mk, hn, X1, st⟩
theorem q_callVN {b ci : Nat} {host : String} {r : vw_C} (d : decode (q_bc M) pc = .ok (.invokevirtual idx, 3)) (hck : q_ck M M2 as.length) (hl : Cond.methodLinkNest (q_ow M) idx (q_nm M2) host ∈ q_tb) (hi : Cond.instanceMethod (q_nm M2) ∈ q_tb) (hc0 : q_cl[ci]? = some r) (hse : Cond.selects r.1 (q_nm M2) (q_nm M2) ∈ q_tb) (hT : h.2.1 b = some (100 + ci, 0)) (hst : st0 = as.reverse ++ .ref b :: rest) (hrest : (rest.map fun v => v.category).sum ≤ 8) (hc : c + mc2 ≤ mc) (hk : k + ms2 ≤ ms) (hM : q_C g M2 (.ref b :: as) h mc2 ms2 Q2)
    (kr : ∀ (v : Option Value) (h' : q_H), Q2 (.inl v) h' → q_V g M mc ms (c + mc2) (k + ms2) h' Q (pc + 3) ls (v.toList ++ rest)) (kx : ∀ (x : Nat × Nat) (h' : q_H), Q2 (.inr x) h' → q_VX g M mc ms (c + mc2) (k + ms2) h' Q pc ls x) : q_V g M mc ms c k h Q pc ls st0 := by
  refine q_call d hck hrest hc hk hM ?_ kr kx
  intro p e R s m args below meth cd C H locs la hC T hT9 X
  obtain ⟨cell, f1, f2, f3⟩ := q_recv C hC hc0 hT
  obtain ⟨mk, methM, hn, hmethM, hstM, habM⟩ := Cond.instanceMethod_spec (C.wd hi)
  obtain ⟨m2, c2, h1, -, -, -, -, -, -, hsig⟩ := q_cwspec (C.wd hck.2.2.1) hn
  cases hmethM.symm.trans h1
  obtain ⟨c3, r3, m3, q1, q2, q3, q4, kP, hkP, hkPi⟩ := Cond.selects_spec (C.wd hse)
  cases f3.symm.trans q1
  cases (State.methodFound?_of_named hn hck.2.2.2.2.1).symm.trans q2
  cases hn.symm.trans q3
  have hselP : selectMethod e.platform s.vm cell.cls mk = .method mk := by rw [Launch.admits_selectMethod X.admits]; exact q4
  obtain ⟨vm1, X1, st⟩ := X.invokevirtualNest C.1 C.own (C.wd hl) hn hmethM hstM hkP hkPi hck.2.2.2.2.1 (a := b) (cell := cell) (by rw [hT9]; exact f1) f2 hselP hmethM habM hkP hkPi (g := F0 m pc la st0) rfl (argsL := as) (rest := rest) (hck.len hsig) hst (by rw [C.2.1]; exact d)
  exact ⟨vm1, mk, hn, X1, st⟩
theorem q_callI {b : Nat} (d : decode (q_bc M) pc = .ok (.invokespecial idx, 3)) (hck : q_ck M M2 as.length) (hh : q_hs M2 = []) (hrt : q_rt M2 = none) (hnm : (q_nm M2).name = "<init>") (hl : Cond.methodLink (q_ow M) idx (q_nm M2) ∈ q_tb) (hi : Cond.instanceMethod (q_nm M2) ∈ q_tb) (hst : st0 = as.reverse ++ .ref b :: rest) (hrest : (rest.map fun v => v.category).sum ≤ 8) (hc : c + mc2 ≤ mc) (hk : k + ms2 ≤ ms) (hM : q_C g M2 (.ref b :: as) h mc2 ms2 Q2)
    (kr : ∀ (v : Option Value) (h' : q_H), Q2 (.inl v) h' → q_V g M mc ms (c + mc2) (k + ms2) h' Q (pc + 3) ls (v.toList ++ rest)) (kx : ∀ (x : Nat × Nat) (h' : q_H), Q2 (.inr x) h' → q_VX g M mc ms (c + mc2) (k + ms2) h' Q pc ls x) : q_V g M mc ms c k h Q pc ls st0 := by
  refine q_call d hck hrest hc hk hM ?_ kr kx
  intro p e R s m args below meth cd C H locs la hC T hT X
  have hpl : e.platform.magicAccessors = ({} : Platform).magicAccessors := by rw [X.admits.platform]
  have hcode : (Cond.code (q_nm M2) (q_bc M2) (q_ml M2) none).before args s = true := by
    have z := C.wd hck.2.2.1
    unfold q_cw at z
    rw [if_pos hh, hrt] at z
    exact z
  obtain ⟨mk, methM, cM, kP, vm1, hn, -, -, -, -, -, -, -, hW1, st⟩ := Steps.initColdArgs (e := e) X.here C.1 X.warmed hpl C.own hnm hck.2.2.2.2.1 (C.wd hl) (C.wd hi) hcode (f := F0 m pc la st0) rfl (a := b) (argsL := as) (rest := rest) (fun sig z => hck.len z) hst (by rw [C.2.1]; exact d)
  exact ⟨vm1, mk, hn, X.noted hW1, st⟩
theorem q_callIN {b : Nat} {host : String} (d : decode (q_bc M) pc = .ok (.invokespecial idx, 3)) (hck : q_ck M M2 as.length) (hh : q_hs M2 = []) (hrt : q_rt M2 = none) (hnm : (q_nm M2).name = "<init>") (hl : Cond.methodLinkNest (q_ow M) idx (q_nm M2) host ∈ q_tb) (hi : Cond.instanceMethod (q_nm M2) ∈ q_tb) (hst : st0 = as.reverse ++ .ref b :: rest) (hrest : (rest.map fun v => v.category).sum ≤ 8) (hc : c + mc2 ≤ mc) (hk : k + ms2 ≤ ms) (hM : q_C g M2 (.ref b :: as) h mc2 ms2 Q2)
    (kr : ∀ (v : Option Value) (h' : q_H), Q2 (.inl v) h' → q_V g M mc ms (c + mc2) (k + ms2) h' Q (pc + 3) ls (v.toList ++ rest)) (kx : ∀ (x : Nat × Nat) (h' : q_H), Q2 (.inr x) h' → q_VX g M mc ms (c + mc2) (k + ms2) h' Q pc ls x) : q_V g M mc ms c k h Q pc ls st0 := by
  refine q_call d hck hrest hc hk hM ?_ kr kx
  intro p e R s m args below meth cd C H locs la hC T hT X
  have hpl : e.platform.magicAccessors = ({} : Platform).magicAccessors := by rw [X.admits.platform]
  have hcode : (Cond.code (q_nm M2) (q_bc M2) (q_ml M2) none).before args s = true := by
    have z := C.wd hck.2.2.1
    unfold q_cw at z
    rw [if_pos hh, hrt] at z
    exact z
  obtain ⟨mk, methM, cM, kP, vm1, hn, -, -, -, -, -, -, -, hW1, st⟩ := Steps.initColdArgsNest (e := e) X.here C.1 X.warmed hpl C.own hnm hck.2.2.2.2.1 (C.wd hl) (C.wd hi) hcode (f := F0 m pc la st0) rfl (a := b) (argsL := as) (rest := rest) (fun sig z => hck.len z) hst (by rw [C.2.1]; exact d)
  exact ⟨vm1, mk, hn, X.noted hW1, st⟩
end QInv
