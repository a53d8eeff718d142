/-! fields by kind; arrays; new cells -/
theorem arrV_congr (cI : ClassId) (N : Nat) {f f2 : Nat → Value} (hf : ∀ j, j < N → f j = f2 j) : arrV cI N f = arrV cI N f2 := by
  unfold arrV
  congr 2
  funext j
  exact hf j.val j.isLt
section QCells
variable {g : q_G} {M : q_M} {mc ms c k : Nat} {h : q_H} {Q : q_O → q_H → Prop} {pc : Nat} {ls : List (Option Value)} {st : List Value}
variable {sz : Nat} {T : q_T} {I : q_I} {R0 : q_R} {J : q_J}
theorem q_putI {a ci fk idx : Nat} {r : vw_C} {x : Int32} (d : decode (q_bc M) pc = .ok (.putfield idx, 3)) (hc : q_cl[ci]? = some r) (hk : fk < r.2.2) (hw : Cond.fieldLink (q_ow M) idx (r.2.1 fk).1 (r.2.1 fk).2.1 (r.2.1 fk).2.2.1 ∈ q_tb)
    (hfin : (r.2.1 fk).2.2.2 = false ∨ ((r.2.1 fk).2.2.2 = true ∧ q_in M = true ∧ (r.2.1 fk).1 = q_ow M)) (ht : ∀ (y : Int32) (q : Option Nat), q_fv (q_ty ci fk) y q = .int y) (hn : narrow (q_ty ci fk) (.int x) = .int x) (hf : fits (q_ty ci fk) (.int x) = true) (hT : T a = some (100 + ci, 0))
    (kk : q_V g M mc ms c k (sz, T, q_upI I a (nI fk) x, R0, J) Q (pc + 3) ls st) : q_V g M mc ms c k (sz, T, I, R0, J) Q pc ls (.int x :: .ref a :: st) := by
  have hs := q_szok ci r hc
  have ea : ∀ j, j < r.2.2 → q_fv (q_ty ci j) (q_upI I a (nI fk) x a (nI j)) (R0 a (nI j)) = if j = fk then Value.int x else q_fv (q_ty ci j) (I a (nI j)) (R0 a (nI j)) := by
    intro j hj
    unfold q_upI
    by_cases hjk : j = fk
    · subst hjk
      rw [if_pos ⟨rfl, rfl⟩, if_pos rfl, ht]
    · rw [if_neg hjk, if_neg (fun z => hjk ((nI_eq (by omega) (by omega)).mp z.2))]
  have eo : ∀ b : Nat, b ≠ a → q_upI I a (nI fk) x b = I b ∧ R0 b = R0 b := fun b hb => ⟨by funext j; unfold q_upI; rw [if_neg (fun z => hb z.1)], rfl⟩
  rcases hfin with hfin | ⟨hfin, hi, ho⟩
  · exact q_putV (h2 := (sz, T, q_upI I a (nI fk) x, R0, J)) d hc hk hw hfin hT hn hf rfl rfl rfl eo ea kk
  · exact q_putF (h2 := (sz, T, q_upI I a (nI fk) x, R0, J)) d hc hk hw hfin hi ho hT hn hf rfl rfl rfl eo ea kk
theorem q_putR {a ci fk idx : Nat} {r : vw_C} {x : Option Nat} (d : decode (q_bc M) pc = .ok (.putfield idx, 3)) (hc : q_cl[ci]? = some r) (hk : fk < r.2.2) (hw : Cond.fieldLink (q_ow M) idx (r.2.1 fk).1 (r.2.1 fk).2.1 (r.2.1 fk).2.2.1 ∈ q_tb)
    (hfin : (r.2.1 fk).2.2.2 = false ∨ ((r.2.1 fk).2.2.2 = true ∧ q_in M = true ∧ (r.2.1 fk).1 = q_ow M)) (ht : ∀ (y : Int32) (q : Option Nat), q_fv (q_ty ci fk) y q = va_rf q) (hn : narrow (q_ty ci fk) (va_rf x) = va_rf x) (hf : fits (q_ty ci fk) (va_rf x) = true) (hT : T a = some (100 + ci, 0))
    (kk : q_V g M mc ms c k (sz, T, I, q_upR R0 a (nI fk) x, J) Q (pc + 3) ls st) : q_V g M mc ms c k (sz, T, I, R0, J) Q pc ls (va_rf x :: .ref a :: st) := by
  have hs := q_szok ci r hc
  have ea : ∀ j, j < r.2.2 → q_fv (q_ty ci j) (I a (nI j)) (q_upR R0 a (nI fk) x a (nI j)) = if j = fk then va_rf x else q_fv (q_ty ci j) (I a (nI j)) (R0 a (nI j)) := by
    intro j hj
    unfold q_upR
    by_cases hjk : j = fk
    · subst hjk
      rw [if_pos ⟨rfl, rfl⟩, if_pos rfl, ht]
    · rw [if_neg hjk, if_neg (fun z => hjk ((nI_eq (by omega) (by omega)).mp z.2))]
  have eo : ∀ b : Nat, b ≠ a → I b = I b ∧ q_upR R0 a (nI fk) x b = R0 b := fun b hb => ⟨rfl, by funext j; unfold q_upR; rw [if_neg (fun z => hb z.1)]⟩
  rcases hfin with hfin | ⟨hfin, hi, ho⟩
  · exact q_putV (h2 := (sz, T, I, q_upR R0 a (nI fk) x, J)) d hc hk hw hfin hT hn hf rfl rfl rfl eo ea kk
  · exact q_putF (h2 := (sz, T, I, q_upR R0 a (nI fk) x, J)) d hc hk hw hfin hi ho hT hn hf rfl rfl rfl eo ea kk
/-- arrays of ints -/
theorem q_iald {a n : Nat} {i : Int32} (d : decode (q_bc M) pc = .ok (.iaload, 1)) (hT : T a = some (0, n)) (hi : vp_in i n) (kk : q_V g M mc ms c k (sz, T, I, R0, J) Q (pc + 1) ls (.int (I a i) :: st)) : q_V g M mc ms c k (sz, T, I, R0, J) Q pc ls (.int i :: .ref a :: st) := by
  intro p e R s m args below meth cd C H locs la hC hS hl
  obtain ⟨-, -, h3⟩ := hC.2.1 a _ _ hT
  obtain ⟨hn, -, hce⟩ := h3.1 (by omega)
  obtain ⟨j, hj, rfl⟩ := vp_in_of hi hn
  refine W.iald (v := .int (I a (nI j))) C.1 C.2.1 hce ((C.K.2 0 _ rfl).1 n _) (fun z => by cases z) (by rw [arrV_size]; exact hi) ?_ rfl rfl d (kk p e R s m args below meth cd C H locs la hC hS hl)
  rw [nI_clamp (by omega), arrV_read _ _ hj]
  rfl
theorem q_ialdX {a n : Nat} {i : Int32} (d : decode (q_bc M) pc = .ok (.iaload, 1)) (hT : T a = some (50, n)) (hi : vp_in i n) (kk : q_V g M mc ms c k (sz, T, I, R0, J) Q (pc + 1) ls (.int (I a i) :: st)) : q_V g M mc ms c k (sz, T, I, R0, J) Q pc ls (.int i :: .ref a :: st) := by
  intro p e R s m args below meth cd C H locs la hC hS hl
  obtain ⟨-, -, h3⟩ := hC.2.1 a _ _ hT
  obtain ⟨hn, cell, hce, hA, hu, hz, hr⟩ := h3.2.1 rfl
  obtain ⟨j, hj, rfl⟩ := vp_in_of hi hn
  refine W.iald (v := .int (I a (nI j))) C.1 C.2.1 hce (State.isArrayOf_alike C.warm.alike hA) hu (by rw [hz]; exact hi) ?_ rfl rfl d (kk p e R s m args below meth cd C H locs la hC hS hl)
  rw [nI_clamp (by omega)]
  exact hr j hj
theorem q_alen {a kd n : Nat} (d : decode (q_bc M) pc = .ok (.arraylength, 1)) (hT : T a = some (kd, n)) (hk : kd < 50) (kk : q_V g M mc ms c k (sz, T, I, R0, J) Q (pc + 1) ls (.int (nI n) :: st)) : q_V g M mc ms c k (sz, T, I, R0, J) Q pc ls (.ref a :: st) := by
  intro p e R s m args below meth cd C H locs la hC hS hl
  obtain ⟨-, -, h3⟩ := hC.2.1 a _ _ hT
  obtain ⟨hn, hlt, hce⟩ := h3.1 hk
  obtain ⟨ty, hty⟩ : ∃ ty, (q_tyd g.2.2.2)[kd]? = some (g.2.2.2 kd, ty) := q_tyd_at g.2.2.2 hlt
  exact W.alen (n := nI n) C.1 C.2.1 hce ((C.K.2 kd _ hty).1 n _) (by rw [arrV_size]; rfl) rfl rfl d (kk p e R s m args below meth cd C H locs la hC hS hl)
theorem q_alenX {a n : Nat} (d : decode (q_bc M) pc = .ok (.arraylength, 1)) (hT : T a = some (50, n)) (kk : q_V g M mc ms c k (sz, T, I, R0, J) Q (pc + 1) ls (.int (nI n) :: st)) : q_V g M mc ms c k (sz, T, I, R0, J) Q pc ls (.ref a :: st) := by
  intro p e R s m args below meth cd C H locs la hC hS hl
  obtain ⟨-, -, h3⟩ := hC.2.1 a _ _ hT
  obtain ⟨hn, cell, hce, hA, hu, hz, hr⟩ := h3.2.1 rfl
  exact W.alen (n := nI n) C.1 C.2.1 hce (State.isArrayOf_alike C.warm.alike hA) (by rw [hz]; rfl) rfl rfl d (kk p e R s m args below meth cd C H locs la hC hS hl)
theorem q_iast {a n : Nat} {i x : Int32} (d : decode (q_bc M) pc = .ok (.iastore, 1)) (hT : T a = some (0, n)) (hi : vp_in i n) (kk : q_V g M mc ms c k (sz, T, q_upI I a i x, R0, J) Q (pc + 1) ls st) : q_V g M mc ms c k (sz, T, I, R0, J) Q pc ls (.int x :: .int i :: .ref a :: st) := by
  intro p e R s m args below meth cd C H locs la hC hS hl
  obtain ⟨-, hA, h3⟩ := hC.2.1 a _ _ hT
  obtain ⟨hn, hlt, hce⟩ := h3.1 (by omega)
  obtain ⟨j, hj, rfl⟩ := vp_in_of hi hn
  refine W.iast C.1 C.2.1 hce ((C.K.2 0 _ rfl).1 n _) (fun z => by cases z) (by rw [arrV_size]; exact hi) rfl rfl d fun H1 z1 z2 z3 => ?_
  rw [nI_clamp (by omega)] at z1 ⊢
  refine kk p e R s m args below meth cd C H1 _ la (hC.upd (h2 := (sz, T, q_upI I a (nI j) x, R0, J)) hT rfl rfl (fun b hb => ⟨by funext i9; show q_upI I a (nI j) x b i9 = _; unfold q_upI; rw [if_neg (fun z => hb z.1)], rfl, rfl⟩) z2 z3 ⟨fun _ => ⟨hn, hlt, ?_⟩, fun z => by omega, fun z => by omega⟩) (hS.put z2 z3 (hA (by omega))) hl
  rw [z1, arrV_store]
  congr 1
  refine arrV_congr _ _ fun j2 hj2 => ?_
  show updV _ j (Value.int x) j2 = Value.int (q_upI I a (nI j) x a (nI j2))
  unfold updV q_upI
  by_cases hjk : j2 = j
  · subst hjk
    rw [if_pos rfl, if_pos ⟨rfl, rfl⟩]
  · rw [if_neg hjk, if_neg (fun z => hjk ((nI_eq (by omega) (by omega)).mp z.2))]
    rfl
/-- arrays of longs -/
theorem q_lald {a n : Nat} {i : Int32} (d : decode (q_bc M) pc = .ok (.laload, 1)) (hT : T a = some (1, n)) (hi : vp_in i n) (kk : q_V g M mc ms c k (sz, T, I, R0, J) Q (pc + 1) ls (.long (J a i) :: st)) : q_V g M mc ms c k (sz, T, I, R0, J) Q pc ls (.int i :: .ref a :: st) := by
  intro p e R s m args below meth cd C H locs la hC hS hl
  obtain ⟨-, -, h3⟩ := hC.2.1 a _ _ hT
  obtain ⟨hn, -, hce⟩ := h3.1 (by omega)
  obtain ⟨j, hj, rfl⟩ := vp_in_of hi hn
  refine W.lald (v := .long (J a (nI j))) C.1 C.2.1 hce ((C.K.2 1 _ rfl).1 n _) (fun z => by cases z) (by rw [arrV_size]; exact hi) ?_ rfl rfl d (kk p e R s m args below meth cd C H locs la hC hS hl)
  rw [nI_clamp (by omega), arrV_read _ _ hj]
  rfl
theorem q_last {a n : Nat} {i : Int32} {x : Int64} (d : decode (q_bc M) pc = .ok (.lastore, 1)) (hT : T a = some (1, n)) (hi : vp_in i n) (kk : q_V g M mc ms c k (sz, T, I, R0, q_upJ J a i x) Q (pc + 1) ls st) : q_V g M mc ms c k (sz, T, I, R0, J) Q pc ls (.long x :: .int i :: .ref a :: st) := by
  intro p e R s m args below meth cd C H locs la hC hS hl
  obtain ⟨-, hA, h3⟩ := hC.2.1 a _ _ hT
  obtain ⟨hn, hlt, hce⟩ := h3.1 (by omega)
  obtain ⟨j, hj, rfl⟩ := vp_in_of hi hn
  refine W.last C.1 C.2.1 hce ((C.K.2 1 _ rfl).1 n _) (fun z => by cases z) (by rw [arrV_size]; exact hi) rfl rfl d fun H1 z1 z2 z3 => ?_
  rw [nI_clamp (by omega)] at z1 ⊢
  refine kk p e R s m args below meth cd C H1 _ la (hC.upd (h2 := (sz, T, I, R0, q_upJ J a (nI j) x)) hT rfl rfl (fun b hb => ⟨rfl, rfl, by funext i9; show q_upJ J a (nI j) x b i9 = _; unfold q_upJ; rw [if_neg (fun z => hb z.1)]⟩) z2 z3 ⟨fun _ => ⟨hn, hlt, ?_⟩, fun z => by omega, fun z => by omega⟩) (hS.put z2 z3 (hA (by omega))) hl
  rw [z1, arrV_store]
  congr 1
  refine arrV_congr _ _ fun j2 hj2 => ?_
  show updV _ j (Value.long x) j2 = Value.long (q_upJ J a (nI j) x a (nI j2))
  unfold updV q_upJ
  by_cases hjk : j2 = j
  · subst hjk
    rw [if_pos rfl, if_pos ⟨rfl, rfl⟩]
  · rw [if_neg hjk, if_neg (fun z => hjk ((nI_eq (by omega) (by omega)).mp z.2))]
    rfl
/-- arrays of references to objects of one class -/
theorem q_el_ref {kd : Nat} (hk : 2 ≤ kd) (x : Int32) (y : Int64) (r : Option Nat) : q_el kd x y r = va_rf r := by
  match kd, hk with
  | kd + 2, _ => rfl
theorem q_aald {a kd n : Nat} {i : Int32} {ty : String} {v : Value} (d : decode (q_bc M) pc = .ok (.aaload, 1)) (hty : (q_tyd g.2.2.2)[kd]? = some (g.2.2.2 kd, .object ty)) (h2 : 2 ≤ kd) (h50 : kd < 50) (hT : T a = some (kd, n)) (hi : vp_in i n) (hv : va_rf (R0 a i) = v) (kk : q_V g M mc ms c k (sz, T, I, R0, J) Q (pc + 1) ls (v :: st)) : q_V g M mc ms c k (sz, T, I, R0, J) Q pc ls (.int i :: .ref a :: st) := by
  intro p e R s m args below meth cd C H locs la hC hS hl
  obtain ⟨-, -, h3⟩ := hC.2.1 a _ _ hT
  obtain ⟨hn, -, hce⟩ := h3.1 h50
  obtain ⟨j, hj, rfl⟩ := vp_in_of hi hn
  refine W.aald (v := v) (ty := .object ty) C.1 C.2.1 hce ((C.K.2 kd _ hty).1 n _) rfl (fun z => by cases z) (by rw [arrV_size]; exact hi) ?_ rfl rfl d (kk p e R s m args below meth cd C H locs la hC hS hl)
  rw [nI_clamp (by omega), arrV_read _ _ hj, q_el_ref h2, ← hv]
theorem q_aast {a kd n v ci : Nat} {i : Int32} {r : vw_C} (d : decode (q_bc M) pc = .ok (.aastore, 1)) (hc : q_cl[ci]? = some r) (hty : (q_tyd g.2.2.2)[kd]? = some (g.2.2.2 kd, .object r.1)) (h2 : 2 ≤ kd) (h50 : kd < 50) (hT : T a = some (kd, n)) (hTv : T v = some (100 + ci, 0)) (hi : vp_in i n) (kk : q_V g M mc ms c k (sz, T, I, q_upR R0 a i (some v), J) Q (pc + 1) ls st) : q_V g M mc ms c k (sz, T, I, R0, J) Q pc ls (.ref v :: .int i :: .ref a :: st) := by
  intro p e R s m args below meth cd C H locs la hC hS hl
  obtain ⟨-, hA, h3⟩ := hC.2.1 a _ _ hT
  obtain ⟨hn, hlt, hce⟩ := h3.1 h50
  obtain ⟨-, -, h3v⟩ := hC.2.1 v _ _ hTv
  obtain ⟨r2, hr2, cellV, g1, g2, g3, -⟩ := h3v.2.2 (by omega)
  rw [Nat.add_sub_cancel_left] at hr2 g2
  cases hc.symm.trans hr2
  have hcls := (C.K.1 ci r hc).2
  obtain ⟨kA, comp, k1, k2, k3, -⟩ := (C.K.2 kd _ hty).2
  have hcomp : comp = g.2.2.1.1 ci := Option.some.inj (k3.symm.trans hcls.1)
  subst hcomp
  obtain ⟨kC, hkC, -⟩ := hcls.2
  obtain ⟨j, hj, rfl⟩ := vp_in_of hi hn
  refine W.aast C.1 C.2.1 hce (fun q z => by cases z) (fun z => by cases z) k1 k2 rfl hkC ⟨nI_pos (by omega), by rw [arrV_size, nI_clamp (by omega)]; exact hj⟩ g1 (fun q z => by rw [g3] at z; cases z) (by rw [g2]; exact hkC) (by rw [g2]; exact va_assign hcls) rfl rfl d fun H1 z1 z2 z3 => ?_
  rw [nI_clamp (by omega)] at z1 ⊢
  refine kk p e R s m args below meth cd C H1 _ la (hC.upd (h2 := (sz, T, I, q_upR R0 a (nI j) (some v), J)) hT rfl rfl (fun b hb => ⟨rfl, by funext i9; show q_upR R0 a (nI j) (some v) b i9 = _; unfold q_upR; rw [if_neg (fun z => hb z.1)], rfl⟩) z2 z3 ⟨fun _ => ⟨hn, hlt, ?_⟩, fun z => by omega, fun z => by omega⟩) (hS.put z2 z3 (hA (by omega))) hl
  rw [z1, arrV_store]
  congr 1
  refine arrV_congr _ _ fun j2 hj2 => ?_
  show updV _ j (Value.ref v) j2 = q_el kd _ _ (q_upR R0 a (nI j) (some v) a (nI j2))
  rw [q_el_ref h2]
  unfold updV q_upR
  by_cases hjk : j2 = j
  · subst hjk
    rw [if_pos rfl, if_pos ⟨rfl, rfl⟩]
    rfl
  · rw [if_neg hjk, if_neg (fun z => hjk ((nI_eq (by omega) (by omega)).mp z.2))]
    exact q_el_ref h2 _ _ _
/-- new cells: they lie at the heap's end, all zero -/
theorem q_new {ci idx : Nat} {r : vw_C} (d : decode (q_bc M) pc = .ok (.new idx, 3)) (hc : q_cl[ci]? = some r) (hw : Cond.classLink (q_ow M) idx r.1 ∈ q_tb) (hi : Cond.instantiable r.1 r.2.2 ∈ q_tb) (hini : Cond.initialized r.1 ∈ q_tb) (h1 : c + 1 ≤ mc) (h2 : k + r.2.2 ≤ ms)
    (kk : q_V g M mc ms (c + 1) (k + r.2.2) (sz + 1, q_upT T sz (100 + ci, 0), I, R0, J) Q (pc + 3) ls (.ref sz :: st)) : q_V g M mc ms c k (sz, T, I, R0, J) Q pc ls st := by
  intro p e R s m args below meth cd C H locs la hC hS hl
  have hKn := C.K.1 ci r hc
  refine W.newcK C.1 C.2.1 C.own (C.wd hw) (C.wd hi) (C.wd hini) rfl d (by rw [C.cells]; exact h1) (by rw [C.slots]; exact h2) hKn.2.1 rfl fun H1 kC hkC z1 z2 z3 => ?_
  have hsz : H.size = sz := hC.1
  rw [hsz] at z1 z2
  have hC1 : q_Co g (sz + 1, q_upT T sz (100 + ci, 0), I, R0, J) H1 := by
    refine hC.push (kd := 100 + ci) (n := 0) (Nat.le_trans C.size hS.1) (by omega) rfl rfl rfl (by rw [z2, hsz]) z3 ⟨fun z => by omega, fun z => by omega, fun _ => ⟨r, by rw [Nat.add_sub_cancel_left]; exact hc, ?_⟩⟩
    rw [Nat.add_sub_cancel_left]
    refine (u_born (ws := u_ws r.1 r.2.1 r.2.2) (q_ty ci) (C.lay hc) (fun w hw => hw) hKn hkC z1 (q_tyok ci r hc)).to fun j hj => ?_
    obtain ⟨f1, f2, -⟩ := hC.2.2 sz (Nat.le_refl _)
    show defaultValue (q_ty ci j) = q_fv (q_ty ci j) (I sz (nI j)) (R0 sz (nI j))
    have f1' : I sz (nI j) = 0 := f1 (nI j)
    have f2' : R0 sz (nI j) = none := f2 (nI j)
    rw [f1', f2']
    exact q_dfok ci r hc j hj
  rw [hsz]
  exact kk p e R s m args below meth cd C H1 locs la hC1 (hS.pushA (by rw [z2, hsz]) z3) hl
theorem q_newa {n : Int32} {N : Nat} {kd : Nat} {ty : FieldType} {at9 : ArrayType} (d : decode (q_bc M) pc = .ok (.newarray at9, 2)) (hk : (kd = 0 ∧ at9 = .int) ∨ (kd = 1 ∧ at9 = .long)) (hw : Cond.arrayClass (newarray.typeOf at9) ∈ q_tb) (hn : n = nI N) (hN : N * 8 ≤ 536870912) (h1 : c + 1 ≤ mc) (h2 : k + N ≤ ms)
    (kk : q_V g M mc ms (c + 1) (k + N) (sz + 1, q_upT T sz (kd, N), I, R0, J) Q (pc + 2) ls (.ref sz :: st)) : q_V g M mc ms c k (sz, T, I, R0, J) Q pc ls (.int n :: st) := by
  intro p e R s m args below meth cd C H locs la hC hS hl
  have hsz : H.size = sz := hC.1
  subst hn
  have hb : N * componentBytes (newarray.typeOf at9) ≤ 536870912 := by
    rcases hk with ⟨-, rfl⟩ | ⟨-, rfl⟩
    · show N * 4 ≤ 536870912; omega
    · show N * 8 ≤ 536870912; omega
  refine va_newaK C.1 C.2.1 (C.wd hw) rfl d rfl (nI_pos (by omega)) (nI_clamp (by omega)) hb (by rw [C.cells]; exact h1) (by rw [C.slots]; exact h2) hsz fun H1 cA z1 z2 z3 hAr hNm => ?_
  have hcA : cA = g.2.2.2 kd := by
    rcases hk with ⟨rfl, rfl⟩ | ⟨rfl, rfl⟩
    · exact Option.some.inj (hNm.symm.trans (C.K.2 0 _ rfl).2)
    · exact Option.some.inj (hNm.symm.trans (C.K.2 1 _ rfl).2)
  subst hcA
  refine kk p e R s m args below meth cd C H1 locs la ?_ (hS.pushA (by rw [z2, hsz]) (fun q hq => z3 q (by omega))) hl
  have hk1 : kd ≤ 1 := by rcases hk with ⟨z, -⟩ | ⟨z, -⟩ <;> omega
  refine hC.push (kd := kd) (n := N) (Nat.le_trans C.size hS.1) (by omega) rfl rfl rfl (by rw [z2, hsz]) (fun q hq => z3 q (by omega)) ⟨fun _ => ⟨by omega, by show kd < 7; omega, ?_⟩, fun z => absurd z (by omega), fun z => absurd z (by omega)⟩
  obtain ⟨f1, f2, f3⟩ := hC.2.2 sz (Nat.le_refl _)
  show H1[sz]? = _
  rw [z1]
  congr 1
  refine arrV_congr _ _ fun j hj => ?_
  have f1' : I sz (nI j) = 0 := f1 (nI j)
  have f3' : J sz (nI j) = 0 := f3 (nI j)
  show _ = q_el kd (I sz (nI j)) (J sz (nI j)) _
  rw [f1', f3']
  rcases hk with ⟨rfl, rfl⟩ | ⟨rfl, rfl⟩ <;> rfl
theorem q_newq {n : Int32} {N kd idx : Nat} {ty : String} (d : decode (q_bc M) pc = .ok (.anewarray idx, 3)) (hty : (q_tyd g.2.2.2)[kd]? = some (g.2.2.2 kd, .object ty)) (h9 : 2 ≤ kd) (h50 : kd < 50) (hlt : kd < q_tyl.length) (hw : Cond.classLink (q_ow M) idx ty ∈ q_tb) (ho : Cond.arrayOver (.object ty) ∈ q_tb) (hn : n = nI N) (hN : N * 4 ≤ 536870912) (h1 : c + 1 ≤ mc) (h2 : k + N ≤ ms)
    (kk : q_V g M mc ms (c + 1) (k + N) (sz + 1, q_upT T sz (kd, N), I, R0, J) Q (pc + 3) ls (.ref sz :: st)) : q_V g M mc ms c k (sz, T, I, R0, J) Q pc ls (.int n :: st) := by
  intro p e R s m args below meth cd C H locs la hC hS hl
  have hsz : H.size = sz := hC.1
  subst hn
  have hcl : (nI N).toNatClampNeg = N := nI_clamp (by omega)
  refine W.anew C.1 C.2.1 C.own (C.wd hw) (C.wd ho) rfl d rfl (nI_pos (by omega)) (by rw [hcl]; exact hN) (by rw [C.cells]; exact h1) (by rw [C.slots, hcl]; exact h2) fun cA kA comp f1 f2 f3 f4 => ?_
  rw [hcl, hsz]
  obtain ⟨kA2, comp2, k1, k2, k3, k4⟩ := (C.K.2 kd _ hty).2
  have hcA : cA = g.2.2.2 kd := Option.some.inj (f1.symm.trans k4)
  subst hcA
  have o1 : ∀ q : Nat, q < H.size → (H.push ({ cls := g.2.2.2 kd, slots := Array.replicate N .null, vm := .none } : Cell))[q]? = H[q]? := fun q hq => by rw [Array.getElem?_push, if_neg (Nat.ne_of_lt hq)]
  refine kk p e R s m args below meth cd C _ locs la ?_ (hS.pushA (by rw [Array.size_push]) o1) hl
  refine hC.push (kd := kd) (n := N) (Nat.le_trans C.size hS.1) (by omega) rfl rfl rfl (by rw [Array.size_push]) o1 ⟨fun _ => ⟨by omega, hlt, ?_⟩, fun z => by omega, fun z => by omega⟩
  obtain ⟨g1, g2, g3⟩ := hC.2.2 sz (Nat.le_refl _)
  show (H.push _)[sz]? = _
  rw [← hsz, Array.getElem?_push_size, arrV_new, hsz]
  congr 1
  refine arrV_congr _ _ fun j hj => ?_
  have g2' : R0 sz (nI j) = none := g2 (nI j)
  show _ = q_el kd _ _ (R0 sz (nI j))
  rw [g2', q_el_ref h9]
  rfl
end QCells
