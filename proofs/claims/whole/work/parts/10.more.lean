/-! rules in the form that the walks use -/
section QMore
variable {g : q_G} {M M2 : q_M} {mc ms c k mc2 ms2 idx : Nat} {h : q_H} {Q : q_O → q_H → Prop} {pc : Nat} {ls : List (Option Value)} {st st0 as rest : List Value}
variable {sz : Nat} {T : q_T} {I : q_I} {R0 : q_R} {J : q_J}
theorem q_ok0 : q_ok ls 0 := fun j hj => by omega
theorem q_okI {i : Nat} {x : Int32} (hv : ls[i]? = some (some (.int x))) : q_ok ls (i + 1) := fun j hj v h9 => by
  obtain rfl : j = i := by omega
  rw [hv] at h9
  have e := Option.some.inj (Option.some.inj h9)
  rw [← e]
  rfl
theorem q_okR {i : Nat} {x : Nat} (hv : ls[i]? = some (some (.ref x))) : q_ok ls (i + 1) := fun j hj v h9 => by
  obtain rfl : j = i := by omega
  rw [hv] at h9
  have e := Option.some.inj (Option.some.inj h9)
  rw [← e]
  rfl
theorem q_okN {i : Nat} (hv : ls[i]? = some none) : q_ok ls (i + 1) := fun j hj v h9 => by
  obtain rfl : j = i := by omega
  rw [hv] at h9
  cases Option.some.inj h9
theorem q_getI {a ci fk : Nat} {r : vw_C} (d : decode (q_bc M) pc = .ok (.getfield idx, 3)) (hc : q_cl[ci]? = some r) (hk : fk < r.2.2) (hw : Cond.fieldLink (q_ow M) idx (r.2.1 fk).1 (r.2.1 fk).2.1 (r.2.1 fk).2.2.1 ∈ q_tb)
    (ht : ∀ (y : Int32) (q : Option Nat), q_fv (q_ty ci fk) y q = .int y) (hT : T a = some (100 + ci, 0)) (kk : q_V g M mc ms c k (sz, T, I, R0, J) Q (pc + 3) ls (.int (I a (nI fk)) :: st)) : q_V g M mc ms c k (sz, T, I, R0, J) Q pc ls (.ref a :: st) := q_get d hc hk hw hT (ht _ _) kk
theorem q_getR {a ci fk q : Nat} {r : vw_C} (d : decode (q_bc M) pc = .ok (.getfield idx, 3)) (hc : q_cl[ci]? = some r) (hk : fk < r.2.2) (hw : Cond.fieldLink (q_ow M) idx (r.2.1 fk).1 (r.2.1 fk).2.1 (r.2.1 fk).2.2.1 ∈ q_tb)
    (ht : ∀ (y : Int32) (q : Option Nat), q_fv (q_ty ci fk) y q = va_rf q) (hT : T a = some (100 + ci, 0)) (hR : R0 a (nI fk) = some q) (kk : q_V g M mc ms c k (sz, T, I, R0, J) Q (pc + 3) ls (.ref q :: st)) : q_V g M mc ms c k (sz, T, I, R0, J) Q pc ls (.ref a :: st) := q_get d hc hk hw hT ((ht _ _).trans (by show va_rf (R0 a (nI fk)) = _; rw [hR]; rfl)) kk
theorem q_getQ {a ci fk : Nat} {r : vw_C} (d : decode (q_bc M) pc = .ok (.getfield idx, 3)) (hc : q_cl[ci]? = some r) (hk : fk < r.2.2) (hw : Cond.fieldLink (q_ow M) idx (r.2.1 fk).1 (r.2.1 fk).2.1 (r.2.1 fk).2.2.1 ∈ q_tb)
    (ht : ∀ (y : Int32) (q : Option Nat), q_fv (q_ty ci fk) y q = va_rf q) (hT : T a = some (100 + ci, 0)) (kk : q_V g M mc ms c k (sz, T, I, R0, J) Q (pc + 3) ls (va_rf (R0 a (nI fk)) :: st)) : q_V g M mc ms c k (sz, T, I, R0, J) Q pc ls (.ref a :: st) := q_get d hc hk hw hT (ht _ _) kk
theorem q_aaldR {a kd n q : Nat} {i : Int32} {ty : String} (d : decode (q_bc M) pc = .ok (.aaload, 1)) (hty : (q_tyd g.2.2.2)[kd]? = some (g.2.2.2 kd, .object ty)) (h2 : 2 ≤ kd) (h50 : kd < 50) (hT : T a = some (kd, n)) (hi : vp_in i n) (hR : R0 a i = some q) (kk : q_V g M mc ms c k (sz, T, I, R0, J) Q (pc + 1) ls (.ref q :: st)) : q_V g M mc ms c k (sz, T, I, R0, J) Q pc ls (.int i :: .ref a :: st) := q_aald d hty h2 h50 hT hi (by rw [hR]; rfl) kk
theorem q_iaddN {x y : Nat} (d : decode (q_bc M) pc = .ok (.iadd, 1)) (kk : q_V g M mc ms c k h Q (pc + 1) ls (.int (nI (x + y)) :: st)) : q_V g M mc ms c k h Q pc ls (.int (nI y) :: .int (nI x) :: st) := q_iadd d (by rw [nI_add]; exact kk)
theorem q_imulN {x y : Nat} (d : decode (q_bc M) pc = .ok (.imul, 1)) (kk : q_V g M mc ms c k h Q (pc + 1) ls (.int (nI (x * y)) :: st)) : q_V g M mc ms c k h Q pc ls (.int (nI y) :: .int (nI x) :: st) := q_imul d (by rw [pk_mul]; exact kk)
theorem q_iincN {i x : Nat} {ls2 : List (Option Value)} (d : decode (q_bc M) pc = .ok (.iinc i 1, 3)) (hv : ls[i]? = some (some (.int (nI x)))) (hn : i < q_ml M) (ho : q_ok ls i) (hs : ls.set i (some (.int (nI (x + 1)))) = ls2) (kk : q_V g M mc ms c k h Q (pc + 3) ls2 st) : q_V g M mc ms c k h Q pc ls st := q_iinc d hv (by show nI x + Int32.ofInt 1 = nI (x + 1); rw [nI_succ]; rfl) hn ho hs kk
/-- fewer locals, or other names for them -/
theorem q_Vls {ls2 : List (Option Value)} (hs : ∀ (i : Nat) (v : Value), ls2[i]? = some (some v) → ls[i]? = some (some v)) (kk : q_V g M mc ms c k h Q pc ls2 st) : q_V g M mc ms c k h Q pc ls st := fun p e R s m args below meth cd C H locs la hC hS hl =>
  kk p e R s m args below meth cd C H locs la hC hS (q_has_sub hl (fun q hq => by
    obtain ⟨i, v⟩ := q
    obtain ⟨j, h1, h2⟩ := (q_ps_mem _ 0 i v).mp hq
    exact (q_ps_mem _ 0 i v).mpr ⟨j, h1, hs j v h2⟩))
theorem q_Vmono {Q2 : q_O → q_H → Prop} (hm : ∀ o h', Q o h' → Q2 o h') (kk : q_V g M mc ms c k h Q pc ls st) : q_V g M mc ms c k h Q2 pc ls st := fun p e R s m args below meth cd C H locs la hC hS hl => by
  refine q_Wm (fun t ht => ?_) (kk p e R s m args below meth cd C H locs la hC hS hl)
  obtain ⟨oc, b1, b2, o, h', z1, z2⟩ := ht
  exact ⟨oc, b1, b2, o, h', hm o h' z1, z2⟩
/-- contracts of methods that return -/
def q_Ci (g : q_G) (M : q_M) (as : List Value) (h : q_H) (mc ms : Nat) (P : Int32 → q_H → Prop) : Prop := q_C g M as h mc ms (fun o h' => ∃ r : Int32, o = .inl (some (.int r)) ∧ P r h')
def q_Cl (g : q_G) (M : q_M) (as : List Value) (h : q_H) (mc ms : Nat) (P : Int64 → q_H → Prop) : Prop := q_C g M as h mc ms (fun o h' => ∃ r : Int64, o = .inl (some (.long r)) ∧ P r h')
def q_Cr (g : q_G) (M : q_M) (as : List Value) (h : q_H) (mc ms : Nat) (P : Option Nat → q_H → Prop) : Prop := q_C g M as h mc ms (fun o h' => ∃ r : Option Nat, o = .inl (some (va_rf r)) ∧ P r h')
def q_Cv (g : q_G) (M : q_M) (as : List Value) (h : q_H) (mc ms : Nat) (P : q_H → Prop) : Prop := q_C g M as h mc ms (fun o h' => o = .inl none ∧ P h')
theorem q_callSi  {P : Int32 → q_H → Prop} (d : decode (q_bc M) pc = .ok (.invokestatic idx, 3)) (hck : q_ck M M2 as.length) (hl : Cond.methodLink (q_ow M) idx (q_nm M2) ∈ q_tb) (hs : Cond.static (q_nm M2) ∈ q_tb) (hst : st0 = as.reverse ++ rest) (hrest : (rest.map fun v => v.category).sum ≤ 8) (hc : c + mc2 ≤ mc) (hk : k + ms2 ≤ ms) (hM : q_Ci g M2 as h mc2 ms2 P) (kk : ∀ (r9 : Int32) (h9 : q_H), P r9 h9 → q_V g M mc ms (c + mc2) (k + ms2) h9 Q (pc + 3) ls (.int r9 :: rest)) : q_V g M mc ms c k h Q pc ls st0 :=
  q_callS d hck hl hs hst hrest hc hk hM (fun v h' z => by
    obtain ⟨r9, e9, p9⟩ := z
    cases e9
    exact kk r9 h' p9) (fun x h' z => by
    obtain ⟨r9, e9, -⟩ := z
    cases e9)
theorem q_callSl  {P : Int64 → q_H → Prop} (d : decode (q_bc M) pc = .ok (.invokestatic idx, 3)) (hck : q_ck M M2 as.length) (hl : Cond.methodLink (q_ow M) idx (q_nm M2) ∈ q_tb) (hs : Cond.static (q_nm M2) ∈ q_tb) (hst : st0 = as.reverse ++ rest) (hrest : (rest.map fun v => v.category).sum ≤ 8) (hc : c + mc2 ≤ mc) (hk : k + ms2 ≤ ms) (hM : q_Cl g M2 as h mc2 ms2 P) (kk : ∀ (r9 : Int64) (h9 : q_H), P r9 h9 → q_V g M mc ms (c + mc2) (k + ms2) h9 Q (pc + 3) ls (.long r9 :: rest)) : q_V g M mc ms c k h Q pc ls st0 :=
  q_callS d hck hl hs hst hrest hc hk hM (fun v h' z => by
    obtain ⟨r9, e9, p9⟩ := z
    cases e9
    exact kk r9 h' p9) (fun x h' z => by
    obtain ⟨r9, e9, -⟩ := z
    cases e9)
theorem q_callSr  {P : Option Nat → q_H → Prop} (d : decode (q_bc M) pc = .ok (.invokestatic idx, 3)) (hck : q_ck M M2 as.length) (hl : Cond.methodLink (q_ow M) idx (q_nm M2) ∈ q_tb) (hs : Cond.static (q_nm M2) ∈ q_tb) (hst : st0 = as.reverse ++ rest) (hrest : (rest.map fun v => v.category).sum ≤ 8) (hc : c + mc2 ≤ mc) (hk : k + ms2 ≤ ms) (hM : q_Cr g M2 as h mc2 ms2 P) (kk : ∀ (r9 : Option Nat) (h9 : q_H), P r9 h9 → q_V g M mc ms (c + mc2) (k + ms2) h9 Q (pc + 3) ls (va_rf r9 :: rest)) : q_V g M mc ms c k h Q pc ls st0 :=
  q_callS d hck hl hs hst hrest hc hk hM (fun v h' z => by
    obtain ⟨r9, e9, p9⟩ := z
    cases e9
    exact kk r9 h' p9) (fun x h' z => by
    obtain ⟨r9, e9, -⟩ := z
    cases e9)
theorem q_callSv  {P : q_H → Prop} (d : decode (q_bc M) pc = .ok (.invokestatic idx, 3)) (hck : q_ck M M2 as.length) (hl : Cond.methodLink (q_ow M) idx (q_nm M2) ∈ q_tb) (hs : Cond.static (q_nm M2) ∈ q_tb) (hst : st0 = as.reverse ++ rest) (hrest : (rest.map fun v => v.category).sum ≤ 8) (hc : c + mc2 ≤ mc) (hk : k + ms2 ≤ ms) (hM : q_Cv g M2 as h mc2 ms2 P) (kk : ∀ (h9 : q_H), P h9 → q_V g M mc ms (c + mc2) (k + ms2) h9 Q (pc + 3) ls rest) : q_V g M mc ms c k h Q pc ls st0 :=
  q_callS d hck hl hs hst hrest hc hk hM (fun v h' z => by
    obtain ⟨e9, p9⟩ := z
    cases e9
    exact kk h' p9) (fun x h' z => nomatch z.1)
theorem q_callSNi {host : String} {P : Int32 → q_H → Prop} (d : decode (q_bc M) pc = .ok (.invokestatic idx, 3)) (hck : q_ck M M2 as.length) (hl : Cond.methodLinkNest (q_ow M) idx (q_nm M2) host ∈ q_tb) (hs : Cond.static (q_nm M2) ∈ q_tb) (hst : st0 = as.reverse ++ rest) (hrest : (rest.map fun v => v.category).sum ≤ 8) (hc : c + mc2 ≤ mc) (hk : k + ms2 ≤ ms) (hM : q_Ci g M2 as h mc2 ms2 P) (kk : ∀ (r9 : Int32) (h9 : q_H), P r9 h9 → q_V g M mc ms (c + mc2) (k + ms2) h9 Q (pc + 3) ls (.int r9 :: rest)) : q_V g M mc ms c k h Q pc ls st0 :=
  q_callSN d hck hl hs hst hrest hc hk hM (fun v h' z => by
    obtain ⟨r9, e9, p9⟩ := z
    cases e9
    exact kk r9 h' p9) (fun x h' z => by
    obtain ⟨r9, e9, -⟩ := z
    cases e9)
theorem q_callSNl {host : String} {P : Int64 → q_H → Prop} (d : decode (q_bc M) pc = .ok (.invokestatic idx, 3)) (hck : q_ck M M2 as.length) (hl : Cond.methodLinkNest (q_ow M) idx (q_nm M2) host ∈ q_tb) (hs : Cond.static (q_nm M2) ∈ q_tb) (hst : st0 = as.reverse ++ rest) (hrest : (rest.map fun v => v.category).sum ≤ 8) (hc : c + mc2 ≤ mc) (hk : k + ms2 ≤ ms) (hM : q_Cl g M2 as h mc2 ms2 P) (kk : ∀ (r9 : Int64) (h9 : q_H), P r9 h9 → q_V g M mc ms (c + mc2) (k + ms2) h9 Q (pc + 3) ls (.long r9 :: rest)) : q_V g M mc ms c k h Q pc ls st0 :=
  q_callSN d hck hl hs hst hrest hc hk hM (fun v h' z => by
    obtain ⟨r9, e9, p9⟩ := z
    cases e9
    exact kk r9 h' p9) (fun x h' z => by
    obtain ⟨r9, e9, -⟩ := z
    cases e9)
theorem q_callSNr {host : String} {P : Option Nat → q_H → Prop} (d : decode (q_bc M) pc = .ok (.invokestatic idx, 3)) (hck : q_ck M M2 as.length) (hl : Cond.methodLinkNest (q_ow M) idx (q_nm M2) host ∈ q_tb) (hs : Cond.static (q_nm M2) ∈ q_tb) (hst : st0 = as.reverse ++ rest) (hrest : (rest.map fun v => v.category).sum ≤ 8) (hc : c + mc2 ≤ mc) (hk : k + ms2 ≤ ms) (hM : q_Cr g M2 as h mc2 ms2 P) (kk : ∀ (r9 : Option Nat) (h9 : q_H), P r9 h9 → q_V g M mc ms (c + mc2) (k + ms2) h9 Q (pc + 3) ls (va_rf r9 :: rest)) : q_V g M mc ms c k h Q pc ls st0 :=
  q_callSN d hck hl hs hst hrest hc hk hM (fun v h' z => by
    obtain ⟨r9, e9, p9⟩ := z
    cases e9
    exact kk r9 h' p9) (fun x h' z => by
    obtain ⟨r9, e9, -⟩ := z
    cases e9)
theorem q_callSNv {host : String} {P : q_H → Prop} (d : decode (q_bc M) pc = .ok (.invokestatic idx, 3)) (hck : q_ck M M2 as.length) (hl : Cond.methodLinkNest (q_ow M) idx (q_nm M2) host ∈ q_tb) (hs : Cond.static (q_nm M2) ∈ q_tb) (hst : st0 = as.reverse ++ rest) (hrest : (rest.map fun v => v.category).sum ≤ 8) (hc : c + mc2 ≤ mc) (hk : k + ms2 ≤ ms) (hM : q_Cv g M2 as h mc2 ms2 P) (kk : ∀ (h9 : q_H), P h9 → q_V g M mc ms (c + mc2) (k + ms2) h9 Q (pc + 3) ls rest) : q_V g M mc ms c k h Q pc ls st0 :=
  q_callSN d hck hl hs hst hrest hc hk hM (fun v h' z => by
    obtain ⟨e9, p9⟩ := z
    cases e9
    exact kk h' p9) (fun x h' z => nomatch z.1)
theorem q_callVi {b ci : Nat} {r : vw_C} {P : Int32 → q_H → Prop} (d : decode (q_bc M) pc = .ok (.invokevirtual idx, 3)) (hck : q_ck M M2 as.length) (hl : Cond.methodLink (q_ow M) idx (q_nm M2) ∈ q_tb) (hi : Cond.instanceMethod (q_nm M2) ∈ q_tb) (hc0 : q_cl[ci]? = some r) (hse : Cond.selects r.1 (q_nm M2) (q_nm M2) ∈ q_tb) (hT : h.2.1 b = some (100 + ci, 0)) (hst : st0 = as.reverse ++ .ref b :: rest) (hrest : (rest.map fun v => v.category).sum ≤ 8) (hc : c + mc2 ≤ mc) (hk : k + ms2 ≤ ms) (hM : q_Ci g M2 (.ref b :: as) h mc2 ms2 P) (kk : ∀ (r9 : Int32) (h9 : q_H), P r9 h9 → q_V g M mc ms (c + mc2) (k + ms2) h9 Q (pc + 3) ls (.int r9 :: rest)) : q_V g M mc ms c k h Q pc ls st0 :=
  q_callV d hck hl hi hc0 hse hT hst hrest hc hk hM (fun v h' z => by
    obtain ⟨r9, e9, p9⟩ := z
    cases e9
    exact kk r9 h' p9) (fun x h' z => by
    obtain ⟨r9, e9, -⟩ := z
    cases e9)
theorem q_callVl {b ci : Nat} {r : vw_C} {P : Int64 → q_H → Prop} (d : decode (q_bc M) pc = .ok (.invokevirtual idx, 3)) (hck : q_ck M M2 as.length) (hl : Cond.methodLink (q_ow M) idx (q_nm M2) ∈ q_tb) (hi : Cond.instanceMethod (q_nm M2) ∈ q_tb) (hc0 : q_cl[ci]? = some r) (hse : Cond.selects r.1 (q_nm M2) (q_nm M2) ∈ q_tb) (hT : h.2.1 b = some (100 + ci, 0)) (hst : st0 = as.reverse ++ .ref b :: rest) (hrest : (rest.map fun v => v.category).sum ≤ 8) (hc : c + mc2 ≤ mc) (hk : k + ms2 ≤ ms) (hM : q_Cl g M2 (.ref b :: as) h mc2 ms2 P) (kk : ∀ (r9 : Int64) (h9 : q_H), P r9 h9 → q_V g M mc ms (c + mc2) (k + ms2) h9 Q (pc + 3) ls (.long r9 :: rest)) : q_V g M mc ms c k h Q pc ls st0 :=
  q_callV d hck hl hi hc0 hse hT hst hrest hc hk hM (fun v h' z => by
    obtain ⟨r9, e9, p9⟩ := z
    cases e9
    exact kk r9 h' p9) (fun x h' z => by
    obtain ⟨r9, e9, -⟩ := z
    cases e9)
theorem q_callVr {b ci : Nat} {r : vw_C} {P : Option Nat → q_H → Prop} (d : decode (q_bc M) pc = .ok (.invokevirtual idx, 3)) (hck : q_ck M M2 as.length) (hl : Cond.methodLink (q_ow M) idx (q_nm M2) ∈ q_tb) (hi : Cond.instanceMethod (q_nm M2) ∈ q_tb) (hc0 : q_cl[ci]? = some r) (hse : Cond.selects r.1 (q_nm M2) (q_nm M2) ∈ q_tb) (hT : h.2.1 b = some (100 + ci, 0)) (hst : st0 = as.reverse ++ .ref b :: rest) (hrest : (rest.map fun v => v.category).sum ≤ 8) (hc : c + mc2 ≤ mc) (hk : k + ms2 ≤ ms) (hM : q_Cr g M2 (.ref b :: as) h mc2 ms2 P) (kk : ∀ (r9 : Option Nat) (h9 : q_H), P r9 h9 → q_V g M mc ms (c + mc2) (k + ms2) h9 Q (pc + 3) ls (va_rf r9 :: rest)) : q_V g M mc ms c k h Q pc ls st0 :=
  q_callV d hck hl hi hc0 hse hT hst hrest hc hk hM (fun v h' z => by
    obtain ⟨r9, e9, p9⟩ := z
    cases e9
    exact kk r9 h' p9) (fun x h' z => by
    obtain ⟨r9, e9, -⟩ := z
    cases e9)
theorem q_callVv {b ci : Nat} {r : vw_C} {P : q_H → Prop} (d : decode (q_bc M) pc = .ok (.invokevirtual idx, 3)) (hck : q_ck M M2 as.length) (hl : Cond.methodLink (q_ow M) idx (q_nm M2) ∈ q_tb) (hi : Cond.instanceMethod (q_nm M2) ∈ q_tb) (hc0 : q_cl[ci]? = some r) (hse : Cond.selects r.1 (q_nm M2) (q_nm M2) ∈ q_tb) (hT : h.2.1 b = some (100 + ci, 0)) (hst : st0 = as.reverse ++ .ref b :: rest) (hrest : (rest.map fun v => v.category).sum ≤ 8) (hc : c + mc2 ≤ mc) (hk : k + ms2 ≤ ms) (hM : q_Cv g M2 (.ref b :: as) h mc2 ms2 P) (kk : ∀ (h9 : q_H), P h9 → q_V g M mc ms (c + mc2) (k + ms2) h9 Q (pc + 3) ls rest) : q_V g M mc ms c k h Q pc ls st0 :=
  q_callV d hck hl hi hc0 hse hT hst hrest hc hk hM (fun v h' z => by
    obtain ⟨e9, p9⟩ := z
    cases e9
    exact kk h' p9) (fun x h' z => nomatch z.1)
theorem q_callVNi {b ci : Nat} {host : String} {r : vw_C} {P : Int32 → q_H → Prop} (d : decode (q_bc M) pc = .ok (.invokevirtual idx, 3)) (hck : q_ck M M2 as.length) (hl : Cond.methodLinkNest (q_ow M) idx (q_nm M2) host ∈ q_tb) (hi : Cond.instanceMethod (q_nm M2) ∈ q_tb) (hc0 : q_cl[ci]? = some r) (hse : Cond.selects r.1 (q_nm M2) (q_nm M2) ∈ q_tb) (hT : h.2.1 b = some (100 + ci, 0)) (hst : st0 = as.reverse ++ .ref b :: rest) (hrest : (rest.map fun v => v.category).sum ≤ 8) (hc : c + mc2 ≤ mc) (hk : k + ms2 ≤ ms) (hM : q_Ci g M2 (.ref b :: as) h mc2 ms2 P) (kk : ∀ (r9 : Int32) (h9 : q_H), P r9 h9 → q_V g M mc ms (c + mc2) (k + ms2) h9 Q (pc + 3) ls (.int r9 :: rest)) : q_V g M mc ms c k h Q pc ls st0 :=
  q_callVN d hck hl hi hc0 hse hT hst hrest hc hk hM (fun v h' z => by
    obtain ⟨r9, e9, p9⟩ := z
    cases e9
    exact kk r9 h' p9) (fun x h' z => by
    obtain ⟨r9, e9, -⟩ := z
    cases e9)
theorem q_callVNl {b ci : Nat} {host : String} {r : vw_C} {P : Int64 → q_H → Prop} (d : decode (q_bc M) pc = .ok (.invokevirtual idx, 3)) (hck : q_ck M M2 as.length) (hl : Cond.methodLinkNest (q_ow M) idx (q_nm M2) host ∈ q_tb) (hi : Cond.instanceMethod (q_nm M2) ∈ q_tb) (hc0 : q_cl[ci]? = some r) (hse : Cond.selects r.1 (q_nm M2) (q_nm M2) ∈ q_tb) (hT : h.2.1 b = some (100 + ci, 0)) (hst : st0 = as.reverse ++ .ref b :: rest) (hrest : (rest.map fun v => v.category).sum ≤ 8) (hc : c + mc2 ≤ mc) (hk : k + ms2 ≤ ms) (hM : q_Cl g M2 (.ref b :: as) h mc2 ms2 P) (kk : ∀ (r9 : Int64) (h9 : q_H), P r9 h9 → q_V g M mc ms (c + mc2) (k + ms2) h9 Q (pc + 3) ls (.long r9 :: rest)) : q_V g M mc ms c k h Q pc ls st0 :=
  q_callVN d hck hl hi hc0 hse hT hst hrest hc hk hM (fun v h' z => by
    obtain ⟨r9, e9, p9⟩ := z
    cases e9
    exact kk r9 h' p9) (fun x h' z => by
    obtain ⟨r9, e9, -⟩ := z
    cases e9)
theorem q_callVNr {b ci : Nat} {host : String} {r : vw_C} {P : Option Nat → q_H → Prop} (d : decode (q_bc M) pc = .ok (.invokevirtual idx, 3)) (hck : q_ck M M2 as.length) (hl : Cond.methodLinkNest (q_ow M) idx (q_nm M2) host ∈ q_tb) (hi : Cond.instanceMethod (q_nm M2) ∈ q_tb) (hc0 : q_cl[ci]? = some r) (hse : Cond.selects r.1 (q_nm M2) (q_nm M2) ∈ q_tb) (hT : h.2.1 b = some (100 + ci, 0)) (hst : st0 = as.reverse ++ .ref b :: rest) (hrest : (rest.map fun v => v.category).sum ≤ 8) (hc : c + mc2 ≤ mc) (hk : k + ms2 ≤ ms) (hM : q_Cr g M2 (.ref b :: as) h mc2 ms2 P) (kk : ∀ (r9 : Option Nat) (h9 : q_H), P r9 h9 → q_V g M mc ms (c + mc2) (k + ms2) h9 Q (pc + 3) ls (va_rf r9 :: rest)) : q_V g M mc ms c k h Q pc ls st0 :=
  q_callVN d hck hl hi hc0 hse hT hst hrest hc hk hM (fun v h' z => by
    obtain ⟨r9, e9, p9⟩ := z
    cases e9
    exact kk r9 h' p9) (fun x h' z => by
    obtain ⟨r9, e9, -⟩ := z
    cases e9)
theorem q_callVNv {b ci : Nat} {host : String} {r : vw_C} {P : q_H → Prop} (d : decode (q_bc M) pc = .ok (.invokevirtual idx, 3)) (hck : q_ck M M2 as.length) (hl : Cond.methodLinkNest (q_ow M) idx (q_nm M2) host ∈ q_tb) (hi : Cond.instanceMethod (q_nm M2) ∈ q_tb) (hc0 : q_cl[ci]? = some r) (hse : Cond.selects r.1 (q_nm M2) (q_nm M2) ∈ q_tb) (hT : h.2.1 b = some (100 + ci, 0)) (hst : st0 = as.reverse ++ .ref b :: rest) (hrest : (rest.map fun v => v.category).sum ≤ 8) (hc : c + mc2 ≤ mc) (hk : k + ms2 ≤ ms) (hM : q_Cv g M2 (.ref b :: as) h mc2 ms2 P) (kk : ∀ (h9 : q_H), P h9 → q_V g M mc ms (c + mc2) (k + ms2) h9 Q (pc + 3) ls rest) : q_V g M mc ms c k h Q pc ls st0 :=
  q_callVN d hck hl hi hc0 hse hT hst hrest hc hk hM (fun v h' z => by
    obtain ⟨e9, p9⟩ := z
    cases e9
    exact kk h' p9) (fun x h' z => nomatch z.1)
theorem q_callIv {b : Nat} {P : q_H → Prop} (d : decode (q_bc M) pc = .ok (.invokespecial idx, 3)) (hck : q_ck M M2 as.length) (hh : q_hs M2 = []) (hrt : q_rt M2 = none) (hnm : (q_nm M2).name = "<init>") (hl : Cond.methodLink (q_ow M) idx (q_nm M2) ∈ q_tb) (hi : Cond.instanceMethod (q_nm M2) ∈ q_tb) (hst : st0 = as.reverse ++ .ref b :: rest) (hrest : (rest.map fun v => v.category).sum ≤ 8) (hc : c + mc2 ≤ mc) (hk : k + ms2 ≤ ms) (hM : q_Cv g M2 (.ref b :: as) h mc2 ms2 P) (kk : ∀ (h9 : q_H), P h9 → q_V g M mc ms (c + mc2) (k + ms2) h9 Q (pc + 3) ls rest) : q_V g M mc ms c k h Q pc ls st0 :=
  q_callI d hck hh hrt hnm hl hi hst hrest hc hk hM (fun v h' z => by
    obtain ⟨e9, p9⟩ := z
    cases e9
    exact kk h' p9) (fun x h' z => nomatch z.1)
theorem q_callINv {b : Nat} {host : String} {P : q_H → Prop} (d : decode (q_bc M) pc = .ok (.invokespecial idx, 3)) (hck : q_ck M M2 as.length) (hh : q_hs M2 = []) (hrt : q_rt M2 = none) (hnm : (q_nm M2).name = "<init>") (hl : Cond.methodLinkNest (q_ow M) idx (q_nm M2) host ∈ q_tb) (hi : Cond.instanceMethod (q_nm M2) ∈ q_tb) (hst : st0 = as.reverse ++ .ref b :: rest) (hrest : (rest.map fun v => v.category).sum ≤ 8) (hc : c + mc2 ≤ mc) (hk : k + ms2 ≤ ms) (hM : q_Cv g M2 (.ref b :: as) h mc2 ms2 P) (kk : ∀ (h9 : q_H), P h9 → q_V g M mc ms (c + mc2) (k + ms2) h9 Q (pc + 3) ls rest) : q_V g M mc ms c k h Q pc ls st0 :=
  q_callIN d hck hh hrt hnm hl hi hst hrest hc hk hM (fun v h' z => by
    obtain ⟨e9, p9⟩ := z
    cases e9
    exact kk h' p9) (fun x h' z => nomatch z.1)
end QMore
