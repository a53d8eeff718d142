/-! THE CLEAN MACHINE: a heap of ints, longs and references by address and place; one judgement (q_V) over it, one contract (q_C) a method. -/
abbrev q_T : Type := Nat → Option (Nat × Nat)
abbrev q_I : Type := Nat → Int32 → Int32
abbrev q_R : Type := Nat → Int32 → Option Nat
abbrev q_J : Type := Nat → Int32 → Int64
/-- how many cells; kind and length of each of ours; ints; references; longs -/
abbrev q_H : Type := Nat × q_T × q_I × q_R × q_J
/-- how a method ends: it returns; it throws (which exception, its cell) -/
abbrev q_O : Type := Option Value ⊕ (Nat × Nat)
/-- a method: name, bytes, locals, return type, own class, handlers, is it a constructor, frames and words that it needs -/
abbrev q_M : Type := MethodName × ByteArray × Nat × Option FieldType × String × List (Nat × Nat × Nat × Nat) × Bool × Nat × Nat
abbrev q_nm (M : q_M) : MethodName := M.1
abbrev q_bc (M : q_M) : ByteArray := M.2.1
abbrev q_ml (M : q_M) : Nat := M.2.2.1
abbrev q_rt (M : q_M) : Option FieldType := M.2.2.2.1
abbrev q_ow (M : q_M) : String := M.2.2.2.2.1
abbrev q_hs (M : q_M) : List (Nat × Nat × Nat × Nat) := M.2.2.2.2.2.1
abbrev q_in (M : q_M) : Bool := M.2.2.2.2.2.2.1
abbrev q_fr (M : q_M) : Nat := M.2.2.2.2.2.2.2.1
abbrev q_lo (M : q_M) : Nat := M.2.2.2.2.2.2.2.2
/-- the run: launch, the state at the law's start, classes and slots, array classes -/
abbrev q_G : Type := Launch × State × va_G × (Nat → ClassId)
abbrev q_s0 (g : q_G) : State := g.2.1
def q_A (g : q_G) : Nat → Prop := fun q => (q_s0 g).heap.size ≤ q
def q_fv (ty : FieldType) (x : Int32) (r : Option Nat) : Value := match ty with
  | .object _ => va_rf r
  | .array _ => va_rf r
  | _ => .int x
def q_el (k : Nat) (x : Int32) (y : Int64) (r : Option Nat) : Value := match k with
  | 0 => .int x
  | 1 => .long y
  | _ => va_rf r
def q_cell (g : q_G) (h : q_H) (H : Heap) (a k n : Nat) : Prop :=
  (k < 50 → n < 2 ^ 31 ∧ k < q_tyl.length ∧ H[a]? = some (arrV (g.2.2.2 k) n (fun j => q_el k (h.2.2.1 a (nI j)) (h.2.2.2.2 a (nI j)) (h.2.2.2.1 a (nI j))))) ∧
  (k = 50 → n < 2 ^ 31 ∧ ∃ cell : Cell, H[a]? = some cell ∧ (q_s0 g).isArrayOf cell .int ∧ cell.vm ≠ .unknown ∧ cell.slots.size = n ∧ ∀ j : Nat, j < n → cell.slots[j]? = some (.int (h.2.2.1 a (nI j)))) ∧
  (50 < k → ∃ r : vw_C, q_cl[k - 100]? = some r ∧ t_OB a (g.2.2.1.1 (k - 100)) r.2.2 (g.2.2.1.2 (k - 100)) H (fun j => q_fv (q_ty (k - 100) j) (h.2.2.1 a (nI j)) (h.2.2.2.1 a (nI j))))
/-- the machine's heap is the clean one: what lies in the table lies there so; what isn't made yet is all zero -/
def q_Co (g : q_G) (h : q_H) (H : Heap) : Prop :=
  H.size = h.1 ∧ (∀ a k n : Nat, h.2.1 a = some (k, n) → a < h.1 ∧ (k ≠ 50 → q_A g a) ∧ q_cell g h H a k n) ∧
  ∀ a : Nat, h.1 ≤ a → (∀ i : Int32, h.2.2.1 a i = 0) ∧ (∀ i : Int32, h.2.2.2.1 a i = none) ∧ ∀ i : Int32, h.2.2.2.2 a i = 0
def q_upI (I : q_I) (a : Nat) (i x : Int32) : q_I := fun b j => if b = a ∧ j = i then x else I b j
def q_upR (R : q_R) (a : Nat) (i : Int32) (x : Option Nat) : q_R := fun b j => if b = a ∧ j = i then x else R b j
def q_upJ (J : q_J) (a : Nat) (i : Int32) (x : Int64) : q_J := fun b j => if b = a ∧ j = i then x else J b j
def q_upT (T : q_T) (a : Nat) (q : Nat × Nat) : q_T := fun b => if b = a then some q else T b
theorem q_dfok : ∀ (ci : Nat) (r : vw_C), q_cl[ci]? = some r → ∀ j, j < r.2.2 → defaultValue (q_ty ci j) = q_fv (q_ty ci j) 0 none := by
  intro ci r hr j hj
  have h1 := q_tkok ci r hr j hj
  generalize q_ty ci j = ty at h1 ⊢
  cases ty <;> first | rfl | cases h1
/-- what is known of the run's start, once for all -/
def q_Gl (g : q_G) : Prop :=
  g.1.stackTraces = false ∧ (∀ w ∈ q_tb, ∀ A : Array Value, w.before A (q_s0 g) = true) ∧ va_K g.2.2.1 q_cl (q_tyd g.2.2.2) (q_s0 g) ∧
  ∀ w ∈ q_sw, ∀ (A : Array Value) (U : State), (q_s0 g).WarmedH U.vm → (∀ q : Nat, q < (q_s0 g).heap.size → U.heap[q]? = (q_s0 g).heap[q]?) → w.before A U = true
/-- a method's frame stands in such a run -/
def q_Cx (g : q_G) (M : q_M) (mc ms : Nat) (p : Program) (e : Env) (R : Room) (s : State) (m : MethodId) (args : Array Value) (below : List Frame) (meth : Method) (cd : Code) : Prop :=
  p.tables.exec = Jvm.exec ∧ cd.code = q_bc M ∧ cd.maxLocals = q_ml M ∧ s.vm.findClass (q_ow M) = some m.cls ∧ meth.sig.returnType = q_rt M ∧ meth.locks = false ∧ cd.exceptionTable.toList = tableOf (q_hs M) ∧ (q_in M = true → meth.name = "<init>") ∧
  q_Gl g ∧ (q_s0 g).WarmedH s.vm ∧ (∀ q : Nat, q < (q_s0 g).heap.size → s.heap[q]? = (q_s0 g).heap[q]?) ∧ (q_s0 g).heap.size ≤ s.heap.size ∧ R.cells = mc ∧ R.slots = ms ∧ q_fr M ≤ R.frames ∧ q_lo M ≤ R.locals
/-- the values that the locals hold, by place -/
def q_ps : Nat → List (Option Value) → List (Nat × Value)
  | _, [] => []
  | i, none :: t => q_ps (i + 1) t
  | i, some v :: t => (i, v) :: q_ps (i + 1) t
/-- how a method ends, for its caller -/
def q_Post (g : q_G) (Q : q_O → q_H → Prop) (mc ms : Nat) (st : State) (oc : Outcome) (t : State) : Prop :=
  ∃ (o : q_O) (h' : q_H), Q o h' ∧ q_Co g h' t.heap ∧ st.WarmedH t.vm ∧ va_F (q_A g) st t ∧ (∃ L : List Loc, st.sameButNew ({ t with vm := st.vm } : State) L mc ms ∧ ∀ q ∈ L, q_A g q.base) ∧
    match o with
    | .inl v => oc = .returned v
    | .inr x => oc = .threw x.2 ∧ ∃ ce : Cell, t.heap[x.2]? = some ce ∧ ce.vm = .none ∧ st.vm.findClass (q_xn x.1) = some ce.cls
def q_End (g : q_G) (Q : q_O → q_H → Prop) (mc ms : Nat) (s : State) (below : List Frame) : State → Prop := fun t => ∃ oc, t.status = .running ∧ Ended t below oc ∧ q_Post g Q mc ms s oc t
/-- THE JUDGEMENT: from this place of the method M, with these locals, stack and heap, and c cells and k slots made so far, the method ends so that Q holds, and has made at most mc cells of ms slots -/
def q_V (g : q_G) (M : q_M) (mc ms c k : Nat) (h : q_H) (Q : q_O → q_H → Prop) (pc : Nat) (ls : List (Option Value)) (st : List Value) : Prop :=
  ∀ (p : Program) (e : Env) (R : Room) (s : State) (m : MethodId) (args : Array Value) (below : List Frame) (meth : Method) (cd : Code), q_Cx g M mc ms p e R s m args below meth cd →
    ∀ (H : Heap) (locs : List Loc) (la : Array Slot), q_Co g h H → va_S (q_A g) s.heap H locs → lv_has la (q_ml M) (q_ps 0 ls) → W p g.1 e R s m args below meth cd H locs c k (q_End g Q mc ms s below) (F0 m pc la st)
def q_rm (M : q_M) (mc ms : Nat) : Room := { frames := q_fr M, cells := mc, slots := ms, locals := q_lo M }
def q_cw (M : q_M) : Cond := if q_hs M = [] then .code (q_nm M) (q_bc M) (q_ml M) (q_rt M) else .codeWith (q_nm M) (q_bc M) (q_ml M) (q_rt M) (q_hs M)
/-- what holds where a method is called -/
def q_St (g : q_G) (h : q_H) (U : State) : Prop := q_Gl g ∧ (q_s0 g).WarmedH U.vm ∧ (∀ q : Nat, q < (q_s0 g).heap.size → U.heap[q]? = (q_s0 g).heap[q]?) ∧ (q_s0 g).heap.size ≤ U.heap.size ∧ q_Co g h U.heap
/-- THE CONTRACT: called with these arguments at this heap M ends so that Q holds -/
def q_C (g : q_G) (M : q_M) (as : List Value) (h : q_H) (mc ms : Nat) (Q : q_O → q_H → Prop) : Prop :=
  MetFree g.1 (q_nm M) (headSpec [q_cw M] (q_rm M mc ms)) (fun a U => a = as.toArray ∧ q_St g h U) (fun _ _ _ _ _ => True) (fun _ st o t => q_Post g Q mc ms st o t)
theorem q_ps_mem : ∀ (ls : List (Option Value)) (b i : Nat) (v : Value), (i, v) ∈ q_ps b ls ↔ ∃ j : Nat, i = b + j ∧ ls[j]? = some (some v)
  | [], b, i, v => by simp [q_ps]
  | none :: t, b, i, v => by
    rw [q_ps, q_ps_mem t (b + 1) i v]
    constructor
    · rintro ⟨j, h1, h2⟩
      exact ⟨j + 1, by omega, by simpa using h2⟩
    · rintro ⟨j, h1, h2⟩
      cases j with
      | zero => simp at h2
      | succ j => exact ⟨j, by omega, by simpa using h2⟩
  | some w :: t, b, i, v => by
    rw [q_ps, List.mem_cons, q_ps_mem t (b + 1) i v]
    constructor
    · rintro (h | ⟨j, h1, h2⟩)
      · cases h
        exact ⟨0, by omega, by simp⟩
      · exact ⟨j + 1, by omega, by simpa using h2⟩
    · rintro ⟨j, h1, h2⟩
      cases j with
      | zero =>
        left
        simp at h2
        rw [h1, h2]
        rfl
      | succ j => exact Or.inr ⟨j, by omega, by simpa using h2⟩
theorem q_ld {la : Array Slot} {n i : Nat} {ls : List (Option Value)} {v : Value} (h : lv_has la n (q_ps 0 ls)) (hi : ls[i]? = some (some v)) : la[i]? = some (.val v) :=
  h.2.2 (i, v) ((q_ps_mem ls 0 i v).mpr ⟨i, by omega, hi⟩)
/-- fewer values -/
theorem q_has_sub {la : Array Slot} {n : Nat} {l l' : List (Nat × Value)} (h : lv_has la n l) (hs : ∀ q ∈ l', q ∈ l) : lv_has la n l' := ⟨h.1, h.2.1, fun q hq => h.2.2 q (hs q hq)⟩
/-- the slot ahead holds no value of two -/
def q_ok (ls : List (Option Value)) (i : Nat) : Prop := ∀ j : Nat, j + 1 = i → ∀ v : Value, ls[j]? = some (some v) → v.category = 1
theorem q_has_1 {la : Array Slot} {n i : Nat} {ls : List (Option Value)} {v : Value} (ho : q_ok ls i)
    (h : lv_has la n ((i, v) :: (q_ps 0 ls).filter (fun q => !(q.1 == i) && !(q.1 + 1 == i && q.2.category == 2)))) : lv_has la n (q_ps 0 (ls.set i (some v))) := by
  refine q_has_sub h fun q hq => ?_
  obtain ⟨i', w⟩ := q
  obtain ⟨j, h1, h2⟩ := (q_ps_mem _ 0 i' w).mp hq
  rw [Nat.zero_add] at h1
  subst h1
  by_cases hj : i' = i
  · subst hj
    have hlt : i' < (ls.set i' (some v)).length := (List.getElem?_eq_some_iff.mp h2).1
    rw [List.length_set] at hlt
    rw [List.getElem?_set_self hlt] at h2
    have h3 : v = w := Option.some.inj (Option.some.inj h2)
    rw [h3]
    exact List.mem_cons_self
  · rw [List.getElem?_set_ne (Ne.symm hj)] at h2
    refine List.mem_cons_of_mem _ (List.mem_filter.mpr ⟨(q_ps_mem ls 0 i' w).mpr ⟨i', by omega, h2⟩, ?_⟩)
    have e1 : (i' == i) = false := by simpa using hj
    rw [e1]
    by_cases hk : i' + 1 = i
    · have hc := ho i' hk w h2
      rw [hc]
      simp
    · have e2 : (i' + 1 == i) = false := by simpa using hk
      rw [e2]
      rfl
theorem q_has_2 {la : Array Slot} {n i : Nat} {ls : List (Option Value)} {v : Value} (ho : q_ok ls i)
    (h : lv_has la n ((i, v) :: (q_ps 0 ls).filter (fun q => !(q.1 == i) && (!(q.1 == i + 1) && !(q.1 + 1 == i && q.2.category == 2))))) : lv_has la n (q_ps 0 ((ls.set i (some v)).set (i + 1) none)) := by
  refine q_has_sub h fun q hq => ?_
  obtain ⟨i', w⟩ := q
  obtain ⟨j, h1, h2⟩ := (q_ps_mem _ 0 i' w).mp hq
  rw [Nat.zero_add] at h1
  subst h1
  by_cases hj1 : i' = i + 1
  · subst hj1
    have hlt : i + 1 < ((ls.set i (some v)).set (i + 1) none).length := (List.getElem?_eq_some_iff.mp h2).1
    rw [List.length_set] at hlt
    rw [List.getElem?_set_self hlt] at h2
    cases h2
  · rw [List.getElem?_set_ne (Ne.symm hj1)] at h2
    by_cases hj : i' = i
    · subst hj
      have hlt : i' < (ls.set i' (some v)).length := (List.getElem?_eq_some_iff.mp h2).1
      rw [List.length_set] at hlt
      rw [List.getElem?_set_self hlt] at h2
      have h3 : v = w := Option.some.inj (Option.some.inj h2)
      rw [h3]
      exact List.mem_cons_self
    · rw [List.getElem?_set_ne (Ne.symm hj)] at h2
      refine List.mem_cons_of_mem _ (List.mem_filter.mpr ⟨(q_ps_mem ls 0 i' w).mpr ⟨i', by omega, h2⟩, ?_⟩)
      have e1 : (i' == i) = false := by simpa using hj
      have e3 : (i' == i + 1) = false := by simpa using hj1
      rw [e1, e3]
      by_cases hk : i' + 1 = i
      · have hc := ho i' hk w h2
        rw [hc]
        simp
      · have e2 : (i' + 1 == i) = false := by simpa using hk
        rw [e2]
        rfl
