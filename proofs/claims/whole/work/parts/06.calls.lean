/-! the ends of a method; a contract out of a walk; calls; exceptions -/
section QEnds
variable {g : q_G} {M : q_M} {mc ms c k : Nat} {h : q_H} {Q : q_O → q_H → Prop} {pc : Nat} {ls : List (Option Value)} {st : List Value}
variable {sz : Nat} {T0 : q_T} {I : q_I} {R0 : q_R} {J : q_J}
variable {p : Program} {l : Launch} {e : Env} {R : Room} {s : State} {m : MethodId} {args : Array Value} {below : List Frame} {meth : Method} {cd : Code} {H : Heap} {locs : List Loc} {cells slots : Nat}
theorem q_Wm {Q1 Q2 : State → Prop} {gf : JFrame} (hk : ∀ t, Q1 t → Q2 t) (w : W p l e R s m args below meth cd H locs cells slots Q1 gf) : W p l e R s m args below meth cd H locs cells slots Q2 gf := fun T hT X => by
  obtain ⟨t, a, b⟩ := w T hT X
  exact ⟨t, a, hk t b⟩
/-- what the kit's return rows owe -/
def q_Rq (H : Heap) (v : Option Value) : Array Value → State → Outcome → State → Prop := fun _ s9 o t => o = .returned v ∧ t.heap = H ∧ s9.WarmedH t.vm
theorem q_fin {v : Option Value} (hC : q_Co g h H) (hS : va_S (q_A g) s.heap H locs) (kk : Q (.inl v) h) : ∀ t, MQ below (q_Rq H v) args s mc ms (q_A g) t → q_End g Q mc ms s below t := by
  rintro t ⟨o, b1, b2, ⟨b3, ht, hW⟩, L, ⟨-, hW2, hsame⟩, hL⟩
  subst b3
  exact ⟨_, b1, b2, .inl v, h, kk, by rw [ht]; exact hC, hW, hS.F ht, ⟨L, hsame, hL⟩, rfl⟩
theorem q_iret {v : Int32} (d : decode (q_bc M) pc = .ok (.ireturn, 1)) (hr : q_rt M = some .int) (h1 : c ≤ mc) (h2 : k ≤ ms) (kk : Q (.inl (some (.int v))) h) : q_V g M mc ms c k h Q pc ls [.int v] :=
  fun p e R s m args below meth cd C H locs la hC hS hl => W.widen h1 h2 (q_Wm (q_fin hC hS kk) (W.iret (Qc := q_Rq H (some (.int v))) (free := q_A g) C.1 C.2.1 (C.ret.trans hr) (fun t ht hW => ⟨rfl, ht, hW⟩) hS.2.2 d C.locks))
theorem q_zret {v : Int32} (d : decode (q_bc M) pc = .ok (.ireturn, 1)) (hr : q_rt M = some .boolean) (hv : v = 0 ∨ v = 1) (h1 : c ≤ mc) (h2 : k ≤ ms) (kk : Q (.inl (some (.int v))) h) : q_V g M mc ms c k h Q pc ls [.int v] :=
  fun p e R s m args below meth cd C H locs la hC hS hl => W.widen h1 h2 (q_Wm (q_fin hC hS kk) (W.zret (Qc := q_Rq H (some (.int v))) (free := q_A g) C.1 C.2.1 (C.ret.trans hr) (by rcases hv with rfl | rfl <;> decide) (fun t ht hW => ⟨rfl, ht, hW⟩) hS.2.2 d C.locks))
theorem q_lret {v : Int64} (d : decode (q_bc M) pc = .ok (.lreturn, 1)) (hr : q_rt M = some .long) (h1 : c ≤ mc) (h2 : k ≤ ms) (kk : Q (.inl (some (.long v))) h) : q_V g M mc ms c k h Q pc ls [.long v] :=
  fun p e R s m args below meth cd C H locs la hC hS hl => W.widen h1 h2 (q_Wm (q_fin hC hS kk) (W.lret (Qc := q_Rq H (some (.long v))) (free := q_A g) C.1 C.2.1 (C.ret.trans hr) (fun t ht hW => ⟨rfl, ht, hW⟩) hS.2.2 d C.locks))
theorem q_aret {v : Option Nat} {ty : String} (d : decode (q_bc M) pc = .ok (.areturn, 1)) (hr : q_rt M = some (.object ty)) (h1 : c ≤ mc) (h2 : k ≤ ms) (kk : Q (.inl (some (va_rf v))) h) : q_V g M mc ms c k h Q pc ls [va_rf v] :=
  fun p e R s m args below meth cd C H locs la hC hS hl => W.widen h1 h2 (q_Wm (q_fin hC hS kk) (W.aret (Qc := q_Rq H (some (va_rf v))) (free := q_A g) C.1 C.2.1 (C.ret.trans hr) (Or.inl ⟨_, rfl⟩) (by cases v; exact Or.inl rfl; exact Or.inr ⟨_, rfl⟩) (fun t ht hW => ⟨rfl, ht, hW⟩) hS.2.2 d C.locks))
theorem q_vret (d : decode (q_bc M) pc = .ok (.return_, 1)) (hr : q_rt M = none) (h1 : c ≤ mc) (h2 : k ≤ ms) (kk : Q (.inl none) h) : q_V g M mc ms c k h Q pc ls [] :=
  fun p e R s m args below meth cd C H locs la hC hS hl => W.widen h1 h2 (q_Wm (q_fin hC hS kk) (W.vret (Qc := q_Rq H none) (free := q_A g) C.1 C.2.1 (C.ret.trans hr) (fun t ht hW => ⟨rfl, ht, hW⟩) hS.2.2 d C.locks))
/-- invokespecial Object.<init> -/
theorem q_obj {a idx : Nat} (d : decode (q_bc M) pc = .ok (.invokespecial idx, 3)) (hw : Cond.methodLink (q_ow M) idx objectInit ∈ q_tb) (hi : Cond.instanceMethod objectInit ∈ q_tb) (hc : Cond.code objectInit ⟨#[0xb1]⟩ 1 none ∈ q_tb) (hst : (st.map fun v => v.category).sum ≤ 8) (hfr : 1 ≤ q_fr M) (hlo : 20 ≤ q_lo M)
    (kk : q_V g M mc ms c k h Q (pc + 3) ls st) : q_V g M mc ms c k h Q pc ls (.ref a :: st) :=
  fun p e R s m args below meth cd C H locs la hC hS hl => W.objInit C.1 C.2.1 C.own (C.wd hw) (C.wd hi) (C.wd hc) rfl (by rw [C.2.2.1]; exact hl.1) rfl d (by have := C.frames; omega) (by
    show 2 * 0 + (st.map fun v => v.category).sum + 12 ≤ R.locals
    have := C.locals; omega) (kk p e R s m args below meth cd C H locs la hC hS hl)
/-- what the code word says -/
theorem q_cwspec {M2 : q_M} {a : Array Value} {U : State} {mk : MethodId} (hw : (q_cw M2).before a U = true) (hn : U.methodNamed? (q_nm M2) = some mk) :
    ∃ (m2 : Method) (c2 : Code), U.vm.method? mk = some m2 ∧ m2.code = some c2 ∧ c2.code = q_bc M2 ∧ c2.maxLocals = q_ml M2 ∧ m2.sig.returnType = q_rt M2 ∧ m2.locks = false ∧ c2.exceptionTable.toList = tableOf (q_hs M2) ∧ parseMethodDescriptor (q_nm M2).desc = some m2.sig := by
  unfold q_cw at hw
  split at hw
  next hh =>
    obtain ⟨m2, c2, h1, h2, h3, h4, h5, h6, h7, h8⟩ := Cond.code_spec hn hw
    refine ⟨m2, c2, h1, h2, h3, h4, h5, h6, ?_, h8⟩
    rw [hh]
    have h0 : c2.exceptionTable.size = 0 := by simpa [Array.isEmpty] using h7
    exact List.eq_nil_of_length_eq_zero (by simpa using h0)
  next hh =>
    obtain ⟨m9, m2, c2, hn9, h1, h2, h3, h4, h7, h5, h6, h8⟩ := Cond.codeWith_spec hw
    cases hn.symm.trans hn9
    exact ⟨m2, c2, h1, h2, h3, h4, h5, h6, by rw [← h7, table_eq], h8⟩
/-- the locals at a method's entry -/
def q_e1 : List Value → List (Option Value)
  | [] => []
  | v :: t => if v.category = 2 then some v :: none :: q_e1 t else some v :: q_e1 t
theorem q_e1_ps : ∀ (as : List Value) (b : Nat), q_ps b (q_e1 as) = lv_args b as
  | [], b => rfl
  | v :: t, b => by
    unfold q_e1 lv_args
    by_cases hv : v.category = 2
    · rw [if_pos hv, if_pos hv, q_ps, q_ps, q_e1_ps t]
    · rw [if_neg hv, if_neg hv, q_ps, q_e1_ps t]
theorem q_ps_none : ∀ (n b : Nat), q_ps b (List.replicate n none) = []
  | 0, b => rfl
  | n + 1, b => by rw [List.replicate_succ, q_ps, q_ps_none n]
theorem q_ps_app : ∀ (a t : List (Option Value)) (b : Nat), q_ps b (a ++ t) = q_ps b a ++ q_ps (b + a.length) t
  | [], t, b => by simp [q_ps]
  | none :: a, t, b => by rw [List.cons_append, q_ps, q_ps, q_ps_app a t, List.length_cons, Nat.add_assoc, Nat.add_comm 1]
  | some v :: a, t, b => by rw [List.cons_append, q_ps, q_ps, q_ps_app a t, List.length_cons, List.cons_append, Nat.add_assoc, Nat.add_comm 1]
/-- THE CONTRACT OUT OF THE WALK -/
theorem q_C.of {as : List Value} {ls0 : List (Option Value)} (hp : plainName (q_nm M).cls = true) (hown : (q_nm M).cls = q_ow M) (hin : q_in M = true → (q_nm M).name = "<init>") (hz : (lg_sl as).length ≤ q_ml M) (hl0 : q_e1 as ++ List.replicate (q_ml M - (q_e1 as).length) none = ls0)
    (hV : q_V g M mc ms 0 0 h Q 0 ls0 []) : q_C g M as h mc ms Q := by
  refine MetFree.of_bodyS (code := q_bc M) (maxLocals := q_ml M) (ret := q_rt M) hp (fun args s m hpre hn => ?_) ?_
  · obtain ⟨m2, c2, h1, h2, h3, h4, h5, h6, -⟩ := q_cwspec (atoms_spec (ws := [q_cw M]) hpre _ List.mem_cons_self) hn
    exact ⟨m2, c2, h1, h2, h3, h4, h5, h6⟩
  · intro p e s m args below meth cd s₁ B hml hP _
    obtain ⟨rfl, hGl, hW, hold, hsize, hCo⟩ := hP
    obtain ⟨m2, c2, h1, h2, h3, h4, h5, h6, h7, -⟩ := q_cwspec (atoms_spec (ws := [q_cw M]) B.pre _ List.mem_cons_self) B.named
    have e1 : m2 = meth := Option.some.inj (h1.symm.trans B.method)
    subst e1
    have e2 : c2 = cd := Option.some.inj (h2.symm.trans (Stand.of_body B).code)
    subst e2
    have hf : s.vm.findClass (q_ow M) = some m.cls := by rw [← hown]; exact findClass_of_methodNamed B.named
    have hh0 : s₁.heap = s.heap := by rw [B.state]; rfl
    have C : q_Cx g M mc ms p e (q_rm M mc ms) s m as.toArray below m2 c2 :=
      ⟨B.exec, h3, h4, hf, h5, h6, h7, fun z => by rw [(name_of_methodNamed B.named B.method).1]; exact hin z, hGl, hW, hold, hsize, rfl, rfl, Nat.le_refl _, Nat.le_refl _⟩
    have hla := lv_entry as (n := q_ml M) hz
    have hlb : lv_has ((lg_sl as ++ List.replicate (q_ml M - (lg_sl as).length) Slot.unset).toArray) (q_ml M) (q_ps 0 ls0) := by
      rw [← hl0, q_ps_app, q_ps_none, List.append_nil, q_e1_ps]
      exact hla
    have hw := hV p e (q_rm M mc ms) s m as.toArray below m2 c2 C s.heap [] _ hCo va_S.rf hlb
    rw [← lg_entry_eq] at hw
    obtain ⟨t, a1, oc, b1, b2, b3⟩ := hw s₁ hh0 (Stand.of_body B)
    exact ⟨t, oc, a1, b1, b2, b3⟩
/-- an exception is in flight over this frame -/
def q_WX (p : Program) (l : Launch) (e : Env) (R : Room) (s : State) (m : MethodId) (args : Array Value) (below : List Frame) (meth : Method) (cd : Code) (H : Heap) (locs : List Loc) (cells slots : Nat) (QQ : State → Prop) (gf : JFrame) (q : Addr) : Prop :=
  ∀ T : State, T.heap = H → Stand p l e R s m args below meth cd T locs cells slots → ∃ t, Steps p.tables e below ((T.setTop gf).pushFrame (.throwing q)) t ∧ QQ t
def q_VX (g : q_G) (M : q_M) (mc ms c k : Nat) (h : q_H) (Q : q_O → q_H → Prop) (pc : Nat) (ls : List (Option Value)) (x : Nat × Nat) : Prop :=
  ∀ (p : Program) (e : Env) (R : Room) (s : State) (m : MethodId) (args : Array Value) (below : List Frame) (meth : Method) (cd : Code), q_Cx g M mc ms p e R s m args below meth cd →
    ∀ (H : Heap) (locs : List Loc) (la : Array Slot), q_Co g h H → va_S (q_A g) s.heap H locs → lv_has la (q_ml M) (q_ps 0 ls) → ∀ (ce : Cell) (rest : List Value), H[x.2]? = some ce → ce.vm = .none → s.vm.findClass (q_xn x.1) = some ce.cls →
      q_WX p g.1 e R s m args below meth cd H locs c k (q_End g Q mc ms s below) (F0 m pc la rest) x.2
/-- not caught here: it goes on to the caller -/
theorem q_VX.out {x : Nat × Nat} (hout : (tableOf (q_hs M)).all (fun z => !covers z pc) = true) (h1 : c ≤ mc) (h2 : k ≤ ms) (kk : Q (.inr x) h) : q_VX g M mc ms c k h Q pc ls x := by
  intro p e R s m args below meth cd C H locs la hC hS hl ce rest hce hcv hcl T hT X
  obtain ⟨st1, hrun, hend, hW, hsm⟩ := X.leaveThrown x.2 (g := F0 m pc la rest) rfl rfl rfl (outside_of_table C.tab hout) C.locks
  refine ⟨_, st1, .threw x.2, hrun, hend, .inr x, h, kk, ?_, hW, ?_, ⟨locs, hsm.mono h1 h2, hS.2.2⟩, rfl, ce, ?_, hcv, hcl⟩
  · show q_Co g h T.heap
    rw [hT]; exact hC
  · exact hS.F hT
  · show T.heap[x.2]? = some ce
    rw [hT]; exact hce
set_option maxHeartbeats 1000000 in
/-- A CALL BY CONTRACT, behind the instruction's own step -/
theorem q_inv {M2 : q_M} {as rest st0 : List Value} {mc2 ms2 : Nat} {Q2 : q_O → q_H → Prop} {la : Array Slot} {ig : Instr} {QQ : State → Prop} (C : q_Cx g M mc ms p e R s m args below meth cd) (hM : q_C g M2 as h mc2 ms2 Q2) (hC : q_Co g h H) (hS : va_S (q_A g) s.heap H locs)
    (hla : la.size = q_ml M) (hrest : (rest.map fun v => v.category).sum ≤ 8) (d : decode (q_bc M) pc = .ok (ig, 3)) (hfr0 : q_fr M2 + 1 ≤ q_fr M) (hlo0 : 8 + (q_ml M2 + 11) + q_lo M2 ≤ q_lo M) (hwc : q_cw M2 ∈ q_tb) (hini : Cond.initialized (q_nm M2).cls ∈ q_tb) (hc : c + mc2 ≤ mc) (hk : k + ms2 ≤ ms)
    (hent : ∀ T : State, T.heap = H → Stand p g.1 e R s m args below meth cd T locs c k → ∃ (vm1 : Vm) (mk : MethodId), s.methodNamed? (q_nm M2) = some mk ∧ Stand p g.1 e R s m args below meth cd (T.setVm vm1) locs c k ∧
      ∀ target, (∀ acts, Steps p.tables e below (doInvoke e ((T.setVm vm1).setTop (F0 m pc la rest)) acts mk as.toArray).1 target) → Steps p.tables e below (T.setTop (F0 m pc la st0)) target)
    (kr : ∀ (v : Option Value) (h' : q_H) (H' : Heap) (locs' : List Loc), Q2 (.inl v) h' → q_Co g h' H' → va_S (q_A g) s.heap H' locs' → W p g.1 e R s m args below meth cd H' locs' (c + mc2) (k + ms2) QQ (F0 m (pc + 3) la (v.toList ++ rest)))
    (kx : ∀ (x : Nat × Nat) (h' : q_H) (H' : Heap) (locs' : List Loc) (ce : Cell), Q2 (.inr x) h' → q_Co g h' H' → va_S (q_A g) s.heap H' locs' → H'[x.2]? = some ce → ce.vm = .none → s.vm.findClass (q_xn x.1) = some ce.cls → q_WX p g.1 e R s m args below meth cd H' locs' (c + mc2) (k + ms2) QQ (F0 m pc la rest) x.2) :
    W p g.1 e R s m args below meth cd H locs c k QQ (F0 m pc la st0) := by
  intro T hT X
  obtain ⟨vm1, mk, hn, X1, st⟩ := hent T hT X
  obtain ⟨U, hU⟩ : ∃ U, U = T.setVm vm1 := ⟨_, rfl⟩
  have hUh : U.heap = H := by rw [hU]; exact hT
  rw [← hU] at X1
  have hWU : (q_s0 g).WarmedH U.vm := State.WarmedH.trans C.warm X1.warmed
  have hnU : U.methodNamed? (q_nm M2) = some mk := X1.named hn
  have hword : (q_cw M2).before as.toArray U = true := q_gw_mv hWU (q_gwok _ hwc) (C.gl.2.1 _ hwc) _
  obtain ⟨methY, cY, hmY, hcY, -, hlY, -⟩ := q_cwspec hword hnU
  obtain ⟨kY, hkY, -⟩ := className_of_methodNamed hnU
  have hinitY : kY.init = .initialized := Cond.initialized_spec (args := as.toArray) (findClass_of_methodNamed hnU) hkY (q_gw_mv hWU (q_gwok _ hini) (C.gl.2.1 _ hini) _)
  have hAt : At U (F0 m pc la rest).method cd below := X1.here
  have d9 : decode cd.code (F0 m pc la rest).pc = .ok (ig, 3) := by rw [C.2.1]; exact d
  have hfr9 := C.frames
  have hlo9 := C.locals
  have happ : (headSpec [q_cw M2] (q_rm M2 mc2 ms2)).appliesLoose (q_nm M2) e.platform (U.calling (F0 m pc la rest) mk as.toArray) = true :=
    Spec.appliesLoose_calling (g := F0 m pc la rest) hAt d9 hnU hkY hinitY
      (X1.room_calling (g := F0 m pc la rest) (R' := q_rm M2 mc2 ms2) (by rw [C.2.2.1]; exact hla) hmY hcY (by show q_fr M2 + 1 ≤ R.frames; omega) (by
        rw [hlY]
        show 2 * 0 + (rest.map fun v => v.category).sum + (q_ml M2 + 11) + q_lo M2 ≤ R.locals
        omega) (by rw [C.cells]; exact hc) (by rw [C.slots]; exact hk)) (atoms_intro (fun w hw => by rw [List.mem_singleton.mp hw]; exact hword))
  obtain ⟨mid, hmid⟩ := hAt.above
  have hfr : (U.setTop (F0 m pc la rest)).frames = (.java (F0 m pc la rest) :: mid) ++ below := by rw [State.frames_setTop' (F0 m pc la rest) hAt.top, hmid]; rfl
  have hold9 : ∀ q : Nat, q < (q_s0 g).heap.size → H[q]? = (q_s0 g).heap[q]? := fun q hq => by
    rw [hS.2.1 q (Nat.lt_of_lt_of_le hq C.size) (fun z => Nat.lt_irrefl _ (Nat.lt_of_lt_of_le hq z))]
    exact C.old q hq
  have hP : q_St g h (U.calling (F0 m pc la rest) mk as.toArray) :=
    ⟨C.gl, hWU, fun q hq => by show U.heap[q]? = _; rw [hUh]; exact hold9 q hq, by show _ ≤ U.heap.size; rw [hUh]; exact Nat.le_trans C.size hS.1, by show q_Co g h U.heap; rw [hUh]; exact hC⟩
  obtain ⟨o, s₂, hsteps, -, hend, hq⟩ := Steps.callFree hM p X.admits X.cas X.clock (acts := []) hfr happ ⟨rfl, hP⟩ trivial
  have hq' : q_Post g Q2 mc2 ms2 (U.calling (F0 m pc la rest) mk as.toArray) o s₂ := hq
  rw [State.frames_setTop' (F0 m pc la rest) hAt.top] at hend
  obtain ⟨o2, h2, hQ2, hCo2, hW₂, hF2, ⟨L, ⟨e2, q2, q3, q4, q5, q6⟩, hL⟩, hoc⟩ := hq'
  have e3 : s₂ = ({ (U.calling (F0 m pc la rest) mk as.toArray).setFrames s₂.frames with heap := s₂.heap, slotsUsed := s₂.slotsUsed } : State).setVm s₂.vm := by
    have : s₂ = ({ s₂ with vm := (U.calling (F0 m pc la rest) mk as.toArray).vm } : State).setVm s₂.vm := rfl
    rw [e2] at this
    exact this
  have hW' : U.WarmedH s₂.vm := hW₂
  obtain ⟨g₀, hg0⟩ := Option.isSome_iff_exists.mp hAt.top
  obtain ⟨r, hr⟩ := State.topJava?_eq_some.mp hg0
  have hsame : U.sameButNew ({ U with heap := s₂.heap, slotsUsed := s₂.slotsUsed } : State) L mc2 ms2 := by
    refine ⟨?_, q2, q3, q4, q5, q6⟩
    obtain ⟨t, ht, -⟩ := State.frames_cons hr
    show ({ U with heap := s₂.heap, slotsUsed := s₂.slotsUsed } : State) = { U.setFrames U.frames with heap := s₂.heap, slotsUsed := s₂.slotsUsed }
    rw [State.setFrames_self ht]
  have hr' : (({ U with heap := s₂.heap, slotsUsed := s₂.slotsUsed } : State).setVm s₂.vm).frames = .java g₀ :: r := hr
  have XF : Stand p g.1 e R s m args below meth cd (({ U with heap := s₂.heap, slotsUsed := s₂.slotsUsed } : State).setVm s₂.vm) (locs ++ L) (c + mc2) (k + ms2) :=
    ⟨X1.admits, X1.cas, X1.clock, X1.frames, X1.room, X1.hears, X1.method, X1.code, (X1.here.setHeapUsed s₂.heap s₂.slotsUsed).setVm hW'.alike, X1.tail, State.WarmedH.trans X1.warmed hW', X1.limits, X1.bytes, X1.same.trans (hsame.setVm s.vm)⟩
  have hF2' : H.size ≤ s₂.heap.size ∧ ∀ q : Nat, q < H.size → ¬ q_A g q → s₂.heap[q]? = H[q]? := by
    obtain ⟨f1, f2⟩ := hF2
    have f1' : U.heap.size ≤ s₂.heap.size := f1
    have f2' : ∀ q : Nat, q < U.heap.size → ¬ q_A g q → s₂.heap[q]? = U.heap[q]? := f2
    rw [hUh] at f1' f2'
    exact ⟨f1', f2'⟩
  have hS2 : va_S (q_A g) s.heap s₂.heap (locs ++ L) := by
    refine ⟨Nat.le_trans hS.1 hF2'.1, fun q z1 z2 => ?_, fun q hq9 => ?_⟩
    · rw [hF2'.2 q (Nat.lt_of_lt_of_le z1 hS.1) z2]
      exact hS.2.1 q z1 z2
    · rcases List.mem_append.mp hq9 with z | z
      · exact hS.2.2 q z
      · exact hL q z
  cases o2 with
  | inl v =>
    have hoc' : o = .returned v := hoc
    subst hoc'
    obtain ⟨c₂, i₂, len₂, hc₂, hd₂, hf₂⟩ := hend
    have hcc : c₂ = cd := by
      have z1 : s₂.code? (F0 m pc la rest).method = U.code? (F0 m pc la rest).method := by
        rw [State.code?_eq, State.code?_eq, hW'.alike.method?]
      exact Option.some.inj (hc₂.symm.trans (z1.trans hAt.code))
    subst hcc
    have hlen : len₂ = 3 := by rw [d9] at hd₂; cases hd₂; rfl
    subst hlen
    have hs₂ : s₂ = (({ U with heap := s₂.heap, slotsUsed := s₂.slotsUsed } : State).setVm s₂.vm).setTop (F0 m (pc + 3) la (v.toList ++ rest)) := by
      refine e3.trans ?_
      rw [hf₂, State.calling_eq hAt.top, State.setFrames_setFrames, State.setTop_of_frames _ hr', hr]
      rfl
    obtain ⟨t, a1, b1⟩ := kr v h2 s₂.heap (locs ++ L) hQ2 hCo2 hS2 (({ U with heap := s₂.heap, slotsUsed := s₂.slotsUsed } : State).setVm s₂.vm) rfl XF
    rw [← hs₂] at a1
    exact ⟨t, st t (fun acts => by rw [← hU, doInvoke_state]; exact hsteps.trans a1), b1⟩
  | inr x =>
    obtain ⟨hoc', ce, hce, hcv, hcl⟩ := hoc
    subst hoc'
    have hf₂ : s₂.frames = .throwing x.2 :: .java (F0 m pc la rest) :: U.frames.tail := hend
    have hs₂ : s₂ = ((({ U with heap := s₂.heap, slotsUsed := s₂.slotsUsed } : State).setVm s₂.vm).setTop (F0 m pc la rest)).pushFrame (.throwing x.2) := by
      refine e3.trans ?_
      rw [hf₂, State.calling_eq hAt.top, State.setFrames_setFrames, State.pushFrame, State.frames_setTop _ hr', State.setTop_of_frames _ hr', State.setFrames_setFrames, hr]
      rfl
    have hcl' : s.vm.findClass (q_xn x.1) = some ce.cls := by
      have z : U.vm.findClass (q_xn x.1) = some ce.cls := hcl
      rw [X1.warmed.alike.findClass] at z
      exact z
    obtain ⟨t, a1, b1⟩ := kx x h2 s₂.heap (locs ++ L) ce hQ2 hCo2 hS2 hce hcv hcl' (({ U with heap := s₂.heap, slotsUsed := s₂.slotsUsed } : State).setVm s₂.vm) rfl XF
    rw [← hs₂] at a1
    exact ⟨t, st t (fun acts => by rw [← hU, doInvoke_state]; exact hsteps.trans a1), b1⟩
end QEnds
