/-! THE STATE, of which both sides are pictures -/
/-- a primitive: its names and arguments, the field's sort and bounds as before (of one that is added: as it comes), the slots -/
abbrev KP : Type := Nat × List Nat × Int32 × Int32 × Int32 × Int32 × Int32 × Nat × Nat
abbrev KP.kind (p : KP) : Nat := p.1
abbrev KP.nm (p : KP) : List Nat := p.2.1
abbrev KP.a (p : KP) : Int32 := p.2.2.1
abbrev KP.b (p : KP) : Int32 := p.2.2.2.1
abbrev KP.so (p : KP) : Int32 := p.2.2.2.2.1
abbrev KP.lo (p : KP) : Int32 := p.2.2.2.2.2.1
abbrev KP.hi (p : KP) : Int32 := p.2.2.2.2.2.2.1
abbrev KP.sl (p : KP) : Nat := p.2.2.2.2.2.2.2.1
abbrev KP.rs (p : KP) : Nat := p.2.2.2.2.2.2.2.2
/-- a step: from, to, primitives, fields before, slots behind -/
abbrev KS : Type := Nat × Nat × List KP × Nat × List Nat
abbrev KS.fr (s : KS) : Nat := s.1
abbrev KS.to (s : KS) : Nat := s.2.1
abbrev KS.pr (s : KS) : List KP := s.2.2.1
abbrev KS.nb (s : KS) : Nat := s.2.2.2.1
abbrev KS.sb (s : KS) : List Nat := s.2.2.2.2
/-- a kept thing: 0 nothing, 1 kept whole, 2 changed forth, 3 changed back; the thing, and what came of it -/
abbrev KK : Type := Nat × List Int32 × List Int32
/-- a record: version, values, kept things -/
abbrev KR : Type := Nat × List (List Int32) × (Nat → KK)
abbrev KR.ver (r : KR) : Nat := r.1
abbrev KR.val (r : KR) : List (List Int32) := r.2.1
abbrev KR.kp (r : KR) : Nat → KK := r.2.2
/-- versions, steps, begun, under way: from, primitives, schema, next slot; records -/
abbrev KA : Type := List (List KF) × List KS × Bool × Bool × Nat × List KP × List KF × Nat × (Nat → Option KR)
abbrev KA.vs (S : KA) : List (List KF) := S.1
abbrev KA.ss (S : KA) : List KS := S.2.1
abbrev KA.bg (S : KA) : Bool := S.2.2.1
abbrev KA.op (S : KA) : Bool := S.2.2.2.1
abbrev KA.df (S : KA) : Nat := S.2.2.2.2.1
abbrev KA.dp (S : KA) : List KP := S.2.2.2.2.2.1
abbrev KA.dD (S : KA) : List KF := S.2.2.2.2.2.2.1
abbrev KA.dn (S : KA) : Nat := S.2.2.2.2.2.2.2.1
abbrev KA.rs (S : KA) : Nat → Option KR := S.2.2.2.2.2.2.2.2
/-- does the handle live -/
def KA.lv (S : KA) (h : Nat) : Bool := (S.rs h).isSome
/-- the class's side of the heap -/
def c_reg (x b : Nat) : Prop := (x ≤ b ∧ b < x + 83) ∨ x + 114 ≤ b
def c_out (x a n : Nat) : Prop := (x ≤ a ∧ a + n ≤ x + 83) ∨ x + 114 ≤ a
theorem c_out.reg {x a n b : Nat} (h : c_out x a n) (h1 : a ≤ b) (h2 : b < a + n) : c_reg x b := by
  rcases h with h | h
  · exact Or.inl ⟨by omega, by omega⟩
  · exact Or.inr (by omega)
def c_lay (x : Nat) (T : q_T) (R : q_R) : Prop := q_L 10 t_Lens x T R ∧ q_L 9 t_Versions (x + 1) T R ∧ q_L 2 t_Draft (x + 32) T R ∧ q_L 0 t_Carrier (x + 69) T R ∧ q_L 1 (t_Cells 238) (x + 70) T R ∧ q_L 8 t_Terms (x + 72) T R
def c_ver (x : Nat) (vs : List (List KF)) (T : q_T) (I : q_I) (R : q_R) : Prop := I (x + 1) (nI 1) = nI vs.length ∧ ∀ v L, vs[v]? = some L → ∃ (s : Nat) (w : Nat → Nat), R (x + 2) (nI v) = some s ∧ c_out x s 26 ∧ s ≠ x + 33 ∧ k_sc s L w T I R
/-- a primitive's object -/
def k_prm (p : Nat) (q : KP) (T : q_T) (I : q_I) : Prop := T p = some (104, 0) ∧ I p (nI 0) = nI q.kind ∧ I p (nI 1) = nI q.sl ∧ I p (nI 2) = q.so ∧ I p (nI 3) = q.lo ∧ I p (nI 4) = q.hi ∧ (5 ≤ q.kind → q.kind ≤ 7 → I p (nI 5) = q.a) ∧ (6 ≤ q.kind → q.kind ≤ 7 → I p (nI 6) = q.b) ∧ (q.kind = 5 → I p (nI 7) = nI q.rs)
/-- a step's object -/
def k_stp (x t i : Nat) (st : KS) (T : q_T) (I : q_I) (R : q_R) : Prop := x + 114 ≤ t ∧ T t = some (107, 0) ∧ I t (nI 0) = nI i ∧ I t (nI 1) = nI st.fr ∧ I t (nI 2) = nI st.to ∧ I t (nI 3) = nI st.pr.length ∧ I t (nI 5) = nI st.nb ∧ R t (nI 4) = some (t + 1) ∧ T (t + 1) = some (3, 8) ∧ R t (nI 6) = some (t + 2) ∧ T (t + 2) = some (0, st.sb.length) ∧
  (∀ j q, st.pr[j]? = some q → ∃ p, R (t + 1) (nI j) = some p ∧ x + 114 ≤ p ∧ k_prm p q T I) ∧ ∀ j n, st.sb[j]? = some n → I (t + 2) (nI j) = nI n
def c_stp (x : Nat) (ss : List KS) (T : q_T) (I : q_I) (R : q_R) : Prop := I (x + 1) (nI 3) = nI ss.length ∧ ∀ i st, ss[i]? = some st → ∃ t, R (x + 3) (nI i) = some t ∧ k_stp x t i st T I R
def c_drf (x : Nat) (S : KA) (T : q_T) (I : q_I) (R : q_R) : Prop := I (x + 32) (nI 5) = p_b S.op ∧ ∃ (D : List KF) (w : Nat → Nat), k_sc (x + 33) D w T I R ∧
  (S.op = true → D = S.dD ∧ I (x + 32) (nI 2) = nI S.dp.length ∧ I (x + 32) (nI 3) = nI S.df ∧ (∀ L, S.vs[S.df]? = some L → I (x + 32) (nI 4) = nI L.length) ∧ I (x + 32) (nI 6) = nI S.dn ∧ ∀ j q, S.dp[j]? = some q → ∃ p, R (x + 59) (nI j) = some p ∧ x + 114 ≤ p ∧ k_prm p q T I)
/-- the class's word for a kept thing -/
def k_cc (n : Nat) : Int32 := if n = 0 then nI 0 else if n = 2 then nI 1 else nI 2
def k_rec (r : Nat) (c : KR) (I : q_I) : Prop := I r (nI 1) = nI c.ver ∧ (∀ i v, c.val[i]? = some v → k_rw (I (r + 2)) (i * 7) v) ∧ ∀ k, k < 128 → I (r + 3) (nI k) = k_cc (c.kp k).1 ∧ ((c.kp k).1 ≠ 0 → k_rw (I (r + 5)) (k * 7) (c.kp k).2.1) ∧ (2 ≤ (c.kp k).1 → k_rw (I (r + 7)) (k * 7) (c.kp k).2.2)
def c_row (x : Nat) (rs : Nat → Option KR) (T : q_T) (I : q_I) (R : q_R) : Prop := (∀ h, h < 16 → (R (x + 60) (nI h) = none → rs h = none) ∧ ∀ r, R (x + 60) (nI h) = some r → c_out x r 8 ∧ r_new r T R ∧ I r (nI 0) = p_b (rs h).isSome ∧ (∀ c, rs h = some c → k_rec r c I) ∧ ∀ h', h' < 16 → R (x + 60) (nI h') = some r → h' = h) ∧
  ∃ q, R x (nI 3) = some q ∧ c_out x q 8 ∧ r_new q T R ∧ ∀ h, h < 16 → R (x + 60) (nI h) ≠ some q
/-- THE CLASS'S SIDE shows the state S -/
def relC (S : KA) (x sz : Nat) (T : q_T) (I : q_I) (R : q_R) : Prop := c_lay x T R ∧ c_ver x S.vs T I R ∧ c_stp x S.ss T I R ∧ c_drf x S T I R ∧ c_row x S.rs T I R ∧ I x (nI 6) = p_b S.bg ∧ x + 114 ≤ sz ∧ ∀ a q, T a = some q → a < sz
/-- the reference's primitive -/
def k_mp (m q : Nat) (p : KP) (I : q_I) : Prop := I (m + 9) (nI q) = nI p.kind ∧ I (m + 9) (nI (q + 1)) = nI (k_path p.nm) ∧ I (m + 9) (nI (q + 2)) = p.a ∧ I (m + 9) (nI (q + 3)) = p.b ∧ I (m + 9) (nI (q + 5)) = p.so ∧ I (m + 9) (nI (q + 6)) = p.lo ∧ I (m + 9) (nI (q + 7)) = p.hi
def m_ver (m : Nat) (vs : List (List KF)) (I : q_I) : Prop := I m (nI 1) = nI vs.length ∧ ∀ v L, vs[v]? = some L → I (m + 1) (nI v) = nI L.length ∧ ∀ i f, L[i]? = some f → I (m + 2) (nI (24 * v + i)) = nI (k_path f.1) ∧ I (m + 3) (nI (24 * v + i)) = f.2.1 ∧ I (m + 4) (nI (24 * v + i)) = f.2.2.1 ∧ I (m + 5) (nI (24 * v + i)) = f.2.2.2.1
def m_prs (m i : Nat) (pr : List KP) (I : q_I) : Prop := I (m + 8) (nI i) = nI pr.length ∧ ∀ j p, pr[j]? = some p → k_mp m (8 * (8 * i + j)) p I
def m_stp (m : Nat) (S : KA) (I : q_I) : Prop := I m (nI 8) = nI S.ss.length ∧ (∀ i st, S.ss[i]? = some st → I (m + 6) (nI i) = nI st.fr ∧ I (m + 7) (nI i) = nI st.to ∧ m_prs m i st.pr I) ∧ I m (nI 13) = p_b S.op ∧ (S.op = true → I (m + 6) (nI S.ss.length) = nI S.df ∧ m_prs m S.ss.length S.dp I)
def m_kpt (a b h : Nat) (K : Nat → KK) (I : q_I) : Prop := ∀ k, k < 128 → I a (nI (128 * h + k)) = nI (K k).1 ∧ ((K k).1 ≠ 0 → k_rw (I b) (14 * (128 * h + k)) (K k).2.1) ∧ (2 ≤ (K k).1 → k_rw (I b) (14 * (128 * h + k) + 7) (K k).2.2)
def m_row (m : Nat) (rs : Nat → Option KR) (I : q_I) : Prop := ∀ h, h < 16 → (rs h = none → I (m + 10) (nI h) = -1) ∧ ∀ c, rs h = some c → I (m + 10) (nI h) = nI c.ver ∧ (∀ i v, c.val[i]? = some v → k_rw (I (m + 11)) (7 * (24 * h + i)) v) ∧ m_kpt (m + 12) (m + 13) h c.kp I
/-- THE REFERENCE'S SIDE shows the state S -/
def relM (S : KA) (m : Nat) (T : q_T) (I : q_I) (R : q_R) : Prop := q_L 11 t_Model m T R ∧ m_ver m S.vs I ∧ m_stp m S I ∧ m_row m S.rs I ∧ I m (nI 7) = p_b S.bg
/-- what stays when the class works -/
def c_fr (x sz : Nat) (T : q_T) (I : q_I) (R : q_R) (sz' : Nat) (T' : q_T) (I' : q_I) (R' : q_R) : Prop := sz ≤ sz' ∧ (∀ a q, T a = some q → T' a = some q) ∧ (∀ b, ¬ c_reg x b → I' b = I b) ∧ ∀ b, ¬ c_reg x b → R' b = R b
/-- what stays when the reference works -/
def m_fr (x : Nat) (I I' : q_I) : Prop := ∀ b, b < x + 83 ∨ x + 113 ≤ b → I' b = I b
theorem relM.keep {S : KA} {x sz sz' : Nat} {T T' : q_T} {I I' : q_I} {R R' : q_R} (h : relM S (x + 83) T I R) (hf : c_fr x sz T I R sz' T' I' R') : relM S (x + 83) T' I' R' := by
  obtain ⟨h1, h2, h3, h4, h5⟩ := h
  have e : ∀ j, j < 31 → I' (x + 83 + j) = I (x + 83 + j) := fun j hj => hf.2.2.1 _ (by unfold c_reg; omega)
  have e0 : I' (x + 83) = I (x + 83) := e 0 (by omega)
  refine ⟨h1.keep hf.2.1 (fun fk off kd n z => by rw [hf.2.2.2 _ (by unfold c_reg; omega)]), ?_, ?_, ?_, by rw [e0]; exact h5⟩
  · unfold m_ver
    rw [e0, e 1 (by omega), e 2 (by omega), e 3 (by omega), e 4 (by omega), e 5 (by omega)]
    exact h2
  · unfold m_stp m_prs k_mp
    rw [e0, e 6 (by omega), e 7 (by omega), e 8 (by omega), e 9 (by omega)]
    exact h3
  · unfold m_row m_kpt
    rw [e 10 (by omega), e 11 (by omega), e 12 (by omega), e 13 (by omega)]
    exact h4
theorem k_prm.cong {p : Nat} {q : KP} {T : q_T} {I I' : q_I} (h : k_prm p q T I) (hI : I' p = I p) : k_prm p q T I' := by
  unfold k_prm
  rw [hI]
  exact h
theorem k_stp.cong {x t i : Nat} {st : KS} {T : q_T} {I I' : q_I} {R : q_R} (h : k_stp x t i st T I R) (hI : ∀ b, x + 114 ≤ b → I' b = I b) : k_stp x t i st T I' R := by
  have h0 := h.1
  unfold k_stp
  rw [hI t h0, hI (t + 2) (by omega)]
  obtain ⟨a1, a2, a3, a4, a5, a6, a7, a8, a9, a10, a11, a12, a13⟩ := h
  refine ⟨a1, a2, a3, a4, a5, a6, a7, a8, a9, a10, a11, fun j q hq => ?_, a13⟩
  obtain ⟨p, p1, p2, p3⟩ := a12 j q hq
  exact ⟨p, p1, p2, p3.cong (hI p p2)⟩
theorem k_rec.cong {r : Nat} {c : KR} {I I' : q_I} (h : k_rec r c I) (hI : ∀ b, r ≤ b → b < r + 8 → I' b = I b) : k_rec r c I' := by
  unfold k_rec
  rw [hI r (by omega) (by omega), hI (r + 2) (by omega) (by omega), hI (r + 3) (by omega) (by omega), hI (r + 5) (by omega) (by omega), hI (r + 7) (by omega) (by omega)]
  exact h
theorem relC.keep {S : KA} {x sz : Nat} {T : q_T} {I I' : q_I} {R : q_R} (h : relC S x sz T I R) (hf : m_fr x I I') : relC S x sz T I' R := by
  obtain ⟨h1, h2, h3, h4, h5, h6, h7, h8⟩ := h
  have hr : ∀ b, c_reg x b → I' b = I b := fun b hb => hf b (by rcases hb with hb | hb <;> omega)
  refine ⟨h1, ?_, ?_, ?_, ?_, by rw [hf x (by omega)]; exact h6, h7, h8⟩
  · refine ⟨by rw [hf (x + 1) (by omega)]; exact h2.1, fun v L hv => ?_⟩
    obtain ⟨s, w, a1, a2, a3, a4⟩ := h2.2 v L hv
    exact ⟨s, w, a1, a2, a3, a4.cong (fun b b1 b2 => hr b (a2.reg b1 b2))⟩
  · refine ⟨by rw [hf (x + 1) (by omega)]; exact h3.1, fun i st hi => ?_⟩
    obtain ⟨t, a1, a2⟩ := h3.2 i st hi
    exact ⟨t, a1, a2.cong (fun b hb => hf b (by omega))⟩
  · obtain ⟨a1, D, w, a2, a3⟩ := h4
    refine ⟨by rw [hf (x + 32) (by omega)]; exact a1, D, w, a2.cong (fun b b1 b2 => hf b (by omega)), fun ho => ?_⟩
    obtain ⟨b1, b2, b3, b4, b5, b6⟩ := a3 ho
    rw [hf (x + 32) (by omega)]
    refine ⟨b1, b2, b3, b4, b5, fun j q hq => ?_⟩
    obtain ⟨p, p1, p2, p3⟩ := b6 j q hq
    exact ⟨p, p1, p2, p3.cong (hf p (by omega))⟩
  · refine ⟨fun i hi => ?_, h5.2⟩
    obtain ⟨a1, a2⟩ := h5.1 i hi
    refine ⟨a1, fun r hr2 => ?_⟩
    obtain ⟨b1, b2, b3, b4, b5⟩ := a2 r hr2
    refine ⟨b1, b2, ?_, fun c hc => (b4 c hc).cong (fun b z1 z2 => hr b (b1.reg z1 z2)), b5⟩
    rw [hr r (b1.reg (Nat.le_refl _) (by omega))]
    exact b3
