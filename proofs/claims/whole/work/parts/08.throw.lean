/-! throw new E(): its four instructions as one; catching -/
section QThrow
variable {g : q_G} {M : q_M} {mc ms c k : Nat} {h : q_H} {Q : q_O → q_H → Prop} {pc : Nat} {ls : List (Option Value)} {st : List Value}
variable {sz : Nat} {T0 : q_T} {I : q_I} {R0 : q_R} {J : q_J}
variable {p : Program} {l : Launch} {e : Env} {R : Room} {s : State} {m : MethodId} {args : Array Value} {below : List Frame} {meth : Method} {cd : Code} {locs : List Loc} {cells slots : Nat}
/-- the frame as it stands, as if its method had just been called in the heap of now -/
def q_now (s T : State) (m : MethodId) (args : Array Value) (below : List Frame) : State := (T.setVm s.vm).setFrames (.invoking m args :: below)
theorem q_now_stand {T : State} (X : Stand p l e R s m args below meth cd T locs cells slots) {nc ns : Nat} (hc : cells + nc ≤ R.cells) (hs : slots + ns ≤ R.slots) :
    Stand p l e { frames := R.frames, locals := R.locals, cells := nc, slots := ns } (q_now s T m args below) m args below meth cd T [] 0 0 := by
  have top9 : (T.setVm s.vm).topJava?.isSome := X.here.top
  have cur9 : (T.setVm s.vm).cur < (T.setVm s.vm).threads.size := State.cur_lt_of_top top9
  have fr9 : (q_now s T m args below).frames = .invoking m args :: below := State.frames_setFrames _ cur9
  have use9 : (q_now s T m args below).localsInUse = s.localsInUse :=
    (State.localsInUse_invoking fr9 (meth := meth) (c := cd) X.method X.code).trans (State.localsInUse_invoking X.frames X.method X.code).symm
  have lim9 : e.platform.stackLimits (q_now s T m args below).me = e.platform.stackLimits s.me := (State.stackLimits_setFrames ..).trans X.limits
  have byt9 : (q_now s T m args below).me.stackBytes = s.me.stackBytes := (State.stackBytes_setFrames ..).trans X.bytes
  have room9 : (q_now s T m args below).hasRoom e.platform { frames := R.frames, locals := R.locals, cells := nc, slots := ns } = true := by
    have r9 := X.room
    have w1 := X.heapSize
    have w2 := X.used
    simp only [State.hasRoom, Bool.and_eq_true, decide_eq_true_eq] at r9 ⊢
    obtain ⟨⟨⟨⟨a1, a2, a3, a4, a5, a6⟩, a7⟩, a8⟩, -⟩ := r9
    rw [X.frames, List.length_cons] at a2 a3
    rw [fr9, use9, lim9, byt9, List.length_cons]
    refine ⟨⟨⟨⟨a1, a2, a3, a4, a5, a6⟩, ?_⟩, ?_⟩, X.book⟩
    · show T.heap.size + nc ≤ e.platform.maxCells
      omega
    · show T.slotsUsed + ns ≤ e.platform.maxSlots
      omega
  have nil9 : T.heap.toList.drop T.heap.size = [] := List.drop_eq_nil_of_le (Nat.le_of_eq Array.length_toList)
  obtain ⟨g₀, hg0⟩ := Option.isSome_iff_exists.mp top9
  obtain ⟨r, hr⟩ := State.topJava?_eq_some.mp hg0
  obtain ⟨t, ht, -⟩ := State.frames_cons hr
  refine ⟨X.admits, X.cas, X.clock, fr9, room9, X.hears, X.method, X.code, X.here, X.tail, X.warmed, X.limits.trans lim9.symm, X.bytes.trans byt9.symm, ?_, Nat.le_refl _, Nat.le_refl _, ?_, ?_, fun a c9 h9 => ⟨c9, h9, rfl, rfl, fun _ _ => rfl⟩⟩
  · show T.setVm s.vm = { ((T.setVm s.vm).setFrames (.invoking m args :: below)).setFrames (T.setVm s.vm).frames with heap := T.heap, slotsUsed := T.slotsUsed }
    rw [State.setFrames_setFrames, State.setFrames_self ht]
    rfl
  · show T.slotsUsed = T.slotsUsed + ((T.heap.toList.drop T.heap.size).map (·.slots.size)).sum
    rw [nil9]
    rfl
  · show ((T.heap.toList.drop T.heap.size).map (·.slots.size)).sum ≤ 0
    rw [nil9]
    exact Nat.le_refl _
/-- what lay there lies there, if nothing is named as written -/
theorem q_now_kept {u U : State} {nc ns : Nat} (hsm : u.sameButNew ({ U with vm := u.vm } : State) [] nc ns) : u.heap.size ≤ U.heap.size ∧ U.heap.size ≤ u.heap.size + nc ∧ ∀ q : Nat, q < u.heap.size → U.heap[q]? = u.heap[q]? := by
  obtain ⟨-, h2, h3, -, -, h6⟩ := hsm
  refine ⟨h2, h3, fun q hq => ?_⟩
  obtain ⟨c9, e1, e2, e3, e4⟩ := h6 q _ (Array.getElem?_eq_getElem hq)
  have e5 : c9.slots = (u.heap[q]).slots := Array.ext_getElem? fun i => e4 i List.not_mem_nil
  rw [e5] at e2
  have e6 : U.heap[q]? = some c9 := e1
  rw [e6, e2, Array.getElem?_eq_getElem hq]
set_option maxHeartbeats 1000000 in
theorem q_throw {x ik ic : Nat} {names : List String} (d0 : decode (q_bc M) pc = .ok (.new ik, 3)) (d3 : decode (q_bc M) (pc + 3) = .ok (.dup, 1)) (d4 : decode (q_bc M) (pc + 4) = .ok (.invokespecial ic, 3)) (d7 : decode (q_bc M) (pc + 7) = .ok (.athrow, 1))
    (hcls : Bundle.fit (q_xn x) = true) (hnm : ∀ n ∈ names, Bundle.fit n = true) (hln : names.length ≤ 2) (hfr : 6 ≤ q_fr M) (hlo : 90 ≤ q_lo M) (hk : Cond.classLink (q_ow M) ik (q_xn x) ∈ q_tb) (hini : Cond.initialized (q_xn x) ∈ q_tb) (hat : ∀ w ∈ Bundle.ownAtoms0 (q_ow M) ic (q_xn x) names, w ∈ q_tb ∨ w ∈ q_sw)
    (hout : (tableOf (q_hs M)).all (fun z => !covers z (pc + 7)) = true) (hst : (st.map fun v => v.category).sum ≤ 8) (h1 : c + 1 ≤ mc) (h2 : k + 6 ≤ ms) (kk : Q (.inr (x, sz)) (sz + 1, T0, I, R0, J)) : q_V g M mc ms c k (sz, T0, I, R0, J) Q pc ls st := by
  intro p e R s m args below meth cd C H locs la hC hS hl T hT X
  have htr : e.platform.stackTraces = false := (show e.platform.stackTraces = g.1.stackTraces by rw [X.admits.platform]).trans C.gl.1
  have Y := q_now_stand X (nc := 1) (ns := 6) (by rw [C.cells]; exact h1) (by rw [C.slots]; exact h2)
  obtain ⟨u, hu⟩ : ∃ u, u = q_now s T m args below := ⟨_, rfl⟩
  rw [← hu] at Y
  have uvm : u.vm = s.vm := by rw [hu]; rfl
  have uhp : u.heap = H := by rw [hu]; exact hT
  have hsz : H.size = sz := hC.1
  have uW : (q_s0 g).WarmedH u.vm := by rw [uvm]; exact C.warm
  have uold : ∀ q : Nat, q < (q_s0 g).heap.size → u.heap[q]? = (q_s0 g).heap[q]? := fun q hq => by
    rw [uhp, hS.2.1 q (Nat.lt_of_lt_of_le hq C.size) (fun z => Nat.lt_irrefl _ (Nat.lt_of_lt_of_le hq z))]
    exact C.old q hq
  have uwd : ∀ {w : Cond}, w ∈ q_tb → w.before args u = true := fun hw => q_gw_mv uW (q_gwok _ hw) (C.gl.2.1 _ hw) args
  have hat' : ∀ w ∈ Bundle.ownAtoms0 (q_ow M) ic (q_xn x) names, w.before args u = true := fun w hw => by
    rcases hat w hw with z | z
    · exact uwd z
    · exact C.gl.2.2.2 w z args u uW uold
  have uown : u.vm.findClass (q_ow M) = some m.cls := by rw [uvm]; exact C.own
  have hins : (Cond.instantiable (q_xn x) 6).before args u = true := hat' _ (by simp [Bundle.ownAtoms0])
  obtain ⟨vm1, cX, kX, hfX, hkX, -, -, X1, st1⟩ := Y.newCold C.1 (own := q_ow M) (C := q_xn x) (index := ik) (n := 6) uown (uwd hk) hins (uwd hini)
    (g := F0 m pc la st) rfl (by rw [C.2.1]; exact d0) (Nat.le_refl _) (Nat.le_refl _)
  obtain ⟨T1, hT1⟩ : ∃ T1, T1 = (T.setVm vm1).pushCell { cls := cX, slots := kX.instanceTypes.map defaultValue, vm := .none } := ⟨_, rfl⟩
  rw [← hT1] at X1 st1
  have hcA : T1.heap[T.heap.size]? = some (freshCell cX kX) := by rw [hT1]; exact State.heap_pushCell_size _ _
  have hcat : (Value.ref T.heap.size).category = 1 := rfl
  have d3' : decode cd.code (pc + 3) = .ok (.dup, 1) := by rw [C.2.1]; exact d3
  have hlo9 := C.locals
  have hfr9 := C.frames
  obtain ⟨U, hsteps, hrun, hend, hW, hsame, ce, hce, hO⟩ := X1.ctorThrow0 C.1 htr (own := q_ow M) (cls := q_xn x) (names := names) (ic := ic) uown hcls hnm hat' (fun z hz => nomatch hz) hfX hkX hcA (by rw [uhp, hT]; exact Nat.le_refl _)
    (g := { method := m, pc := pc + 4, locals := la, stack := .ref T.heap.size :: .ref T.heap.size :: st, locked := none }) rfl (by rw [C.2.2.1]; exact hl.1) rfl rfl (rest := st) rfl
    (by rw [C.2.1]; exact d4) (by rw [C.2.1]; exact d7) (outside_of_table C.tab hout) (by show names.length + 3 < R.frames; omega) (by
      show 2 * 0 + ((Value.ref T.heap.size :: st).map fun v => v.category).sum + (13 * (names.length + 1) + 41) ≤ R.locals
      rw [List.map_cons, List.sum_cons, hcat]; omega) C.locks
  obtain ⟨k1, k2, k3⟩ := q_now_kept hsame
  rw [uhp] at k1 k2 k3
  have hlt : T.heap.size < U.heap.size := (Array.getElem?_eq_some_iff.mp hce).1
  have hTs : T.heap.size = sz := by rw [hT]; exact hsz
  have hUs : U.heap.size = sz + 1 := by omega
  have hWs : s.WarmedH U.vm := by
    have z : u.WarmedH U.vm := hW
    rw [hu] at z
    exact State.WarmedH.trans (State.WarmedH.refl s) z
  have hall : s.sameButNew ({ U with vm := s.vm } : State) locs mc ms := by
    subst hu
    obtain ⟨e1, e2⟩ := hsame
    have e1' : ({ U with vm := s.vm } : State) = { (T.setVm s.vm).setFrames U.frames with heap := U.heap, slotsUsed := U.slotsUsed } := by
      have z : ({ U with vm := s.vm } : State) = { ((T.setVm s.vm).setFrames (.invoking m args :: below)).setFrames U.frames with heap := U.heap, slotsUsed := U.slotsUsed } := e1
      rw [State.setFrames_setFrames] at z
      exact z
    have z2 : (T.setVm s.vm).sameButNew ({ U with vm := s.vm } : State) [] (0 + 1) (0 + 6) := ⟨e1', e2⟩
    have z3 := X.same.trans z2
    rw [List.append_nil] at z3
    exact z3.mono h1 h2
  have hCo1 : q_Co g (sz + 1, T0, I, R0, J) U.heap := by
    obtain ⟨c1, c2, c3⟩ := hC
    refine ⟨hUs, fun a kd n ha => ?_, fun a ha => c3 a (by show sz ≤ a; have : sz + 1 ≤ a := ha; omega)⟩
    obtain ⟨b1, b2, b3⟩ := c2 a kd n ha
    have b1' : a < sz := b1
    have hkp : U.heap[a]? = H[a]? := k3 a (by omega)
    refine ⟨by show a < sz + 1; omega, b2, ?_⟩
    unfold q_cell at b3 ⊢
    rw [hkp]
    refine ⟨b3.1, b3.2.1, fun z => ?_⟩
    obtain ⟨r, r1, r2⟩ := b3.2.2 z
    exact ⟨r, r1, r2.kept hkp⟩
  refine ⟨U, ?_, .threw T.heap.size, hrun, hend, .inr (x, sz), (sz + 1, T0, I, R0, J), kk, hCo1, hWs, ?_, ⟨locs, hall, hS.2.2⟩, by rw [hTs], ce, by show U.heap[sz]? = _; rw [← hTs]; exact hce, hO.vm, ?_⟩
  · refine st1 _ ?_
    show Steps p.tables e below (T1.setTop { method := m, pc := pc + 3, locals := la, stack := .ref T.heap.size :: st, locked := none }) _
    jvm_step X1.here [X1.here.top, C.1, d3', Value.category]
    exact hsteps
  · exact ⟨Nat.le_trans hS.1 k1, fun q z1 z2 => by rw [k3 q (Nat.lt_of_lt_of_le z1 hS.1)]; exact hS.2.1 q z1 z2⟩
  · have z := hO.cls
    rw [uvm] at z
    exact z
/-! catching: the search through the table resolves the rows' classes as it goes -/
/-- a row that the exception passes by -/
def q_pass (pl : Platform) (s : State) (d : ClassId) (pc : Nat) (cl : ClassId) (y : ExceptionTableEntry) : Prop := covers y pc = false ∨ (y.catchType ≠ 0 ∧ ∃ c, s.vm.ClassLinks pl d y.catchType c ∧ s.vm.assignable cl c = false)
theorem q_search {S0 : State} {f : JFrame} {a : Addr} {cell : Cell} (hobj : ∀ z, cell.vm ≠ .statics z) (hk : ∃ z, S0.vm.classes[cell.cls]? = some z) (x : ExceptionTableEntry) (rest : List ExceptionTableEntry) (hx : covers x f.pc = true) (h0 : x.catchType ≠ 0)
    {cx : ClassId} (hlx : S0.vm.ClassLinks e.platform f.method.cls x.catchType cx) (hfit : S0.vm.assignable cell.cls cx = true) :
    ∀ (pre : List ExceptionTableEntry) (S : State), S0.WarmedH S.vm → S.heap[a]? = some cell → (∀ y ∈ pre, q_pass e.platform S0 f.method.cls f.pc cell.cls y) →
      ∃ vm1, S0.WarmedH vm1 ∧ ∀ (Qh : Handler → Pre) (E : CtlPost) (d : Bool) (acts : List Action), wp (findHandler.go f a (pre ++ x :: rest)) Qh E e d acts S ↔ Qh (.found x.handlerPc) d acts (S.setVm vm1) := by
  have one : ∀ (y : ExceptionTableEntry) (S : State) (cy : ClassId), S0.WarmedH S.vm → S.heap[a]? = some cell → covers y f.pc = true → y.catchType ≠ 0 → S0.vm.ClassLinks e.platform f.method.cls y.catchType cy → ∀ t : List ExceptionTableEntry,
      S0.WarmedH (S.vm.noted f.method.cls y.catchType (.cls cy)) ∧ ∀ (Qh : Handler → Pre) (E : CtlPost) (d : Bool) (acts : List Action), wp (findHandler.go f a (y :: t)) Qh E e d acts S ↔
        if S0.vm.assignable cell.cls cy = true then Qh (.found y.handlerPc) d acts (S.setVm (S.vm.noted f.method.cls y.catchType (.cls cy))) else wp (findHandler.go f a t) Qh E e d acts (S.setVm (S.vm.noted f.method.cls y.catchType (.cls cy))) := by
    intro y S cy hW hcell hy hy0 hl t
    obtain ⟨dk, _, _, kt, hd, _, _, _, _, hkt, _, hopen⟩ := hl.here
    have hal : S.vm.Alike (S.vm.noted f.method.cls y.catchType (.cls cy)) := (Vm.Alike.refl S.vm).noted _ _ _
    obtain ⟨k0, hk0⟩ := hk
    obtain ⟨k1, hk1, -⟩ := hW.alike.2.2 _ _ hk0
    obtain ⟨k2, hk2, -⟩ := hal.2.2 _ _ hk1
    obtain ⟨k3, hk3, -⟩ := hW.alike.2.2 _ _ hkt
    obtain ⟨k4, hk4, -⟩ := hal.2.2 _ _ hk3
    have has : (S.vm.noted f.method.cls y.catchType (.cls cy)).assignable cell.cls cy = S0.vm.assignable cell.cls cy := by rw [hal.assignable, hW.alike.assignable]
    obtain ⟨g1, g2⟩ := (resolveClass_links e.toSetting (hW.classLinks hl)).op (op := VmOp.resolveClass f.method.cls y.catchType) rfl
    refine ⟨hW.noted hd hopen (State.rightAt_cls hl), fun Qh E d acts => ?_⟩
    simp only [covers] at hy
    cases hb : S0.vm.assignable cell.cls cy <;> rw [hb] at has <;> simp [findHandler.go, hy, hy0, g1, g2, hcell, hobj, hk2, hk4, has, VmOp.dirties, VmOp.acts]
  intro pre
  induction pre with
  | nil =>
    intro S hW hcell _
    obtain ⟨w1, w2⟩ := one x S cx hW hcell hx h0 hlx rest
    exact ⟨_, w1, fun Qh E d acts => by rw [List.nil_append, w2, if_pos hfit]⟩
  | cons y ys ih =>
    intro S hW hcell hp
    have hp2 : ∀ z ∈ ys, q_pass e.platform S0 f.method.cls f.pc cell.cls z := fun z hz => hp z (List.mem_cons_of_mem _ hz)
    cases hcov : covers y f.pc with
    | false =>
      obtain ⟨vm1, w1, w2⟩ := ih S hW hcell hp2
      exact ⟨vm1, w1, fun Qh E d acts => by rw [List.cons_append, W.findHandler_go_skip hcov]; exact w2 Qh E d acts⟩
    | true =>
      rcases hp y List.mem_cons_self with z | ⟨z0, cy, hl, hno⟩
      · rw [hcov] at z; cases z
      · obtain ⟨v1, v2⟩ := one y S cy hW hcell hcov z0 hl (ys ++ x :: rest)
        obtain ⟨vm1, w1, w2⟩ := ih (S.setVm (S.vm.noted f.method.cls y.catchType (.cls cy))) v1 hcell hp2
        exact ⟨vm1, w1, fun Qh E d acts => by rw [List.cons_append, v2, if_neg (by rw [hno]; decide)]; exact w2 Qh E d acts⟩
/-- caught: the frame goes on at the row's handler -/
theorem q_VX.catch {x : Nat × Nat} {pre suf : List ExceptionTableEntry} {y : ExceptionTableEntry} {name : String} (htb : tableOf (q_hs M) = pre ++ y :: suf) (hy : covers y pc = true) (hy0 : y.catchType ≠ 0) (hlk : Cond.classLink (q_ow M) y.catchType name ∈ q_tb) (hcs : Cond.castable (q_xn x.1) name ∈ q_tb)
    (hpre : ∀ z ∈ pre, covers z pc = false ∨ (z.catchType ≠ 0 ∧ ∃ nm : String, Cond.classLink (q_ow M) z.catchType nm ∈ q_tb ∧ ∀ U : State, (q_s0 g).vm.Alike U.vm → ∀ a b : ClassId, U.vm.findClass (q_xn x.1) = some a → U.vm.findClass nm = some b → U.vm.assignable a b = false))
    (kk : q_V g M mc ms c k h Q y.handlerPc ls [.ref x.2]) : q_VX g M mc ms c k h Q pc ls x := by
  intro p e R s m args below meth cd C H locs la hC hS hl ce rest hce hcv hcl T hT X
  have hpl : e.platform.magicAccessors = ({} : Platform).magicAccessors := by rw [X.admits.platform]
  obtain ⟨c3, c4, hc3, hc4, hasg⟩ := Cond.castable_spec (C.wd hcs)
  cases Option.some.inj (hc3.symm.trans hcl)
  obtain ⟨c5, hc5, hcl5⟩ := Cond.classLink_spec C.own (C.wd hlk) e.platform hpl
  cases Option.some.inj (hc4.symm.trans hc5)
  obtain ⟨k9, h9, -⟩ := Vm.findClass_spec hcl
  have hme : m = (F0 m pc la rest).method := rfl
  obtain ⟨vm1, w1, w2⟩ := q_search (e := e) (S0 := s) (f := F0 m pc la rest) (a := x.2) (cell := ce) (fun z hz => by rw [hcv] at hz; cases hz) ⟨k9, h9⟩ y suf hy hy0 hcl5 hasg pre ((T.setTop (F0 m pc la rest)).pushFrame (.throwing x.2)) X.warmed (by show T.heap[x.2]? = _; rw [hT]; exact hce) (fun z hz => by
    rcases hpre z hz with w | ⟨w0, nm, wl, wn⟩
    · exact Or.inl w
    · obtain ⟨c6, hc6, hcl6⟩ := Cond.classLink_spec C.own (C.wd wl) e.platform hpl
      exact Or.inr ⟨w0, c6, hcl6, wn s C.warm.alike _ _ hcl hc6⟩)
  have X2 := X.noted w1
  obtain ⟨t, a1, b1⟩ := kk p e R s m args below meth cd C H locs la hC hS hl (T.setVm vm1) hT X2
  refine ⟨t, ?_, b1⟩
  obtain ⟨hgo, hwi⟩ := At.throwing (g := F0 m pc la rest) X.here x.2
  obtain ⟨g₀, hg0⟩ := Option.isSome_iff_exists.mp X.here.top
  obtain ⟨r, hr⟩ := State.topJava?_eq_some.mp hg0
  have hr2 : (T.setVm vm1).frames = .java g₀ :: r := hr
  refine Steps.head hgo hwi ?_
  have hfind : ∀ (Qh : Handler → Pre) (E : CtlPost) (d : Bool) (acts : List Action), wp (findHandler (F0 m pc la rest) x.2) Qh E e d acts ((T.setTop (F0 m pc la rest)).pushFrame (.throwing x.2)) ↔ Qh (.found y.handlerPc) d acts (((T.setTop (F0 m pc la rest)).pushFrame (.throwing x.2)).setVm vm1) := fun Qh E d acts => by
    rw [W.findHandler_eq (meth := meth) (code := cd) X.method' X.code, C.tab, htb]
    exact w2 Qh E d acts
  have hgo9 : (stepThrowing e ((T.setTop (F0 m pc la rest)).pushFrame (.throwing x.2)) x.2 (.java (F0 m pc la rest) :: T.frames.tail)).Is ((((T.setTop (F0 m pc la rest)).pushFrame (.throwing x.2)).setVm vm1).setFrames (.java (F0 m y.handlerPc la [.ref x.2]) :: T.frames.tail)) [] := by
    simp only [stepThrowing, searchFrame, vmDo]
    generalize hres : Sem.go _ e false [] ((T.setTop (F0 m pc la rest)).pushFrame (.throwing x.2)) = res
    obtain ⟨as, rfl, ha⟩ := Sem.eq_ok_of hres (a := Handler.found y.handlerPc) (s' := ((T.setTop (F0 m pc la rest)).pushFrame (.throwing x.2)).setVm vm1) (acts' := []) (by simp [hfind _ _ _ _])
    exact ⟨rfl, ha⟩
  rw [stepThread_throwing (frames_entered X.here.top _), hgo9.1]
  have e9 : (((T.setTop (F0 m pc la rest)).pushFrame (.throwing x.2)).setVm vm1).setFrames (.java (F0 m y.handlerPc la [.ref x.2]) :: T.frames.tail) = (T.setVm vm1).setTop (F0 m y.handlerPc la [.ref x.2]) := by
    rw [State.setTop_of_frames _ hr2, State.pushFrame, State.setTop_of_frames _ hr, State.setFrames_setFrames]
    rw [show ∀ (F G : List Frame), ((T.setFrames F).setVm vm1).setFrames G = (T.setVm vm1).setFrames G from fun F G => by
      rw [show (T.setFrames F).setVm vm1 = (T.setVm vm1).setFrames F from rfl, State.setFrames_setFrames], hr]
    rfl
  rw [e9]
  exact a1
end QThrow
