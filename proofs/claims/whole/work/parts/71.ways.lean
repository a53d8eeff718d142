/-! ways over steps: how far, and which stops -/
/-- the first number from i on, of j, that is so -/
def k_lst (b : Nat → Bool) : Nat → Nat → Option Nat
  | _, 0 => none
  | i, j + 1 => if b i = true then some i else k_lst b (i + 1) j
theorem k_lst_some {b : Nat → Bool} : ∀ {j i k : Nat}, k_lst b i j = some k → i ≤ k ∧ k < i + j ∧ b k = true ∧ ∀ q, i ≤ q → q < k → b q = false
  | 0, i, k, h => by cases h
  | j + 1, i, k, h => by
    unfold k_lst at h
    by_cases hb : b i = true
    · rw [if_pos hb] at h
      cases h
      exact ⟨Nat.le_refl _, by omega, hb, fun q h1 h2 => by omega⟩
    · rw [if_neg hb] at h
      obtain ⟨a1, a2, a3, a4⟩ := k_lst_some h
      refine ⟨by omega, by omega, a3, fun q h1 h2 => ?_⟩
      by_cases hq : q = i
      · rw [hq]; exact Bool.not_eq_true _ ▸ hb
      · exact a4 q (by omega) h2
theorem k_lst_none {b : Nat → Bool} : ∀ {j i : Nat}, k_lst b i j = none → ∀ q, i ≤ q → q < i + j → b q = false
  | 0, i, _, q, h1, h2 => by omega
  | j + 1, i, h, q, h1, h2 => by
    unfold k_lst at h
    by_cases hb : b i = true
    · rw [if_pos hb] at h; cases h
    · rw [if_neg hb] at h
      by_cases hq : q = i
      · rw [hq]; exact Bool.not_eq_true _ ▸ hb
      · exact k_lst_none h q (by omega) (by omega)
theorem k_lst_is {b : Nat → Bool} {i j k : Nat} (h1 : i ≤ k) (h2 : k < i + j) (hb : b k = true) (hn : ∀ q, i ≤ q → q < k → b q = false) : k_lst b i j = some k := by
  cases h : k_lst b i j with
  | none => rw [k_lst_none h k h1 h2] at hb; cases hb
  | some q =>
    obtain ⟨a1, a2, a3, a4⟩ := k_lst_some h
    rcases Nat.lt_trichotomy q k with z | z | z
    · rw [hn q a1 z] at a3; cases a3
    · rw [z]
    · rw [a4 k h1 z] at hb; cases hb
/-- from where the goal is reached over d steps at most -/
def k_ball (A : Nat → Nat → Bool) (n g : Nat) : Nat → Nat → Bool
  | 0, v => decide (v = g)
  | d + 1, v => k_ball A n g d v || (List.range n).any (fun u => A v u && k_ball A n g d u)
theorem k_ball_up {A : Nat → Nat → Bool} {n g d v : Nat} (h : k_ball A n g d v = true) : k_ball A n g (d + 1) v = true := by
  rw [k_ball, h, Bool.true_or]
theorem k_ball_mono {A : Nat → Nat → Bool} {n g v d e : Nat} (h : k_ball A n g d v = true) (hde : d ≤ e) : k_ball A n g e v = true := by
  induction e with
  | zero => rw [show d = 0 by omega] at h; exact h
  | succ e ih =>
    by_cases hd : d = e + 1
    · rw [← hd]; exact h
    · exact k_ball_up (ih (by omega))
theorem k_ball_adj {A : Nat → Nat → Bool} {n g d u v : Nat} (hu : u < n) (ha : A v u = true) (h : k_ball A n g d u = true) : k_ball A n g (d + 1) v = true := by
  rw [k_ball, Bool.or_eq_true]
  right
  rw [List.any_eq_true]
  exact ⟨u, List.mem_range.mpr hu, by rw [ha, h]; rfl⟩
theorem k_ball_inv {A : Nat → Nat → Bool} {n g d v : Nat} (h : k_ball A n g (d + 1) v = true) : k_ball A n g d v = true ∨ ∃ u, u < n ∧ A v u = true ∧ k_ball A n g d u = true := by
  rw [k_ball, Bool.or_eq_true] at h
  rcases h with h | h
  · exact Or.inl h
  · rw [List.any_eq_true] at h
    obtain ⟨u, hu, h2⟩ := h
    rw [Bool.and_eq_true] at h2
    exact Or.inr ⟨u, List.mem_range.mp hu, h2.1, h2.2⟩
/-- where two counts are one, the smaller set is the larger one -/
theorem k_cnt {p q : Nat → Bool} (hpq : ∀ v, p v = true → q v = true) : ∀ (l : List Nat), l.countP q ≤ l.countP p → ∀ v ∈ l, q v = true → p v = true
  | [], _, v, hv, _ => by cases hv
  | a :: t, h, v, hv, hq => by
    have hle : t.countP p ≤ t.countP q := List.countP_mono_left (fun x _ hx => hpq x hx)
    rw [List.countP_cons, List.countP_cons] at h
    by_cases hqa : q a = true
    · rw [if_pos hqa] at h
      by_cases hpa : p a = true
      · rw [if_pos hpa] at h
        rcases List.mem_cons.mp hv with rfl | hv
        · exact hpa
        · exact k_cnt hpq t (by omega) v hv hq
      · rw [if_neg hpa] at h
        omega
    · rw [if_neg hqa, if_neg (fun z => hqa (hpq a z))] at h
      rcases List.mem_cons.mp hv with rfl | hv
      · exact absurd hq hqa
      · exact k_cnt hpq t (by omega) v hv hq
theorem k_cnt_le (p : Nat → Bool) (n : Nat) : (List.range n).countP p ≤ n := by
  have := List.countP_le_length (p := p) (l := List.range n)
  rwa [List.length_range] at this
/-- once nothing more comes, nothing ever comes -/
theorem k_ball_stop {A : Nat → Nat → Bool} {n g d : Nat} (h : ∀ v, v < n → k_ball A n g (d + 1) v = true → k_ball A n g d v = true) : ∀ (e v : Nat), v < n → k_ball A n g (d + e) v = true → k_ball A n g d v = true
  | 0, v, _, hb => hb
  | e + 1, v, hv, hb => by
    rcases k_ball_inv (show k_ball A n g (d + e + 1) v = true from hb) with h1 | ⟨u, hu, ha, h1⟩
    · exact k_ball_stop h e v hv h1
    · exact h v hv (k_ball_adj hu ha (k_ball_stop h e u hu h1))
theorem k_ball_grow {A : Nat → Nat → Bool} {n g : Nat} (hg : g < n) : ∀ d, (∃ d', d' ≤ d ∧ ∀ v, v < n → k_ball A n g (d' + 1) v = true → k_ball A n g d' v = true) ∨ d + 1 ≤ (List.range n).countP (k_ball A n g d)
  | 0 => by
    right
    have : (List.range n).countP (k_ball A n g 0) ≠ 0 := by
      rw [Ne, List.countP_eq_zero]
      intro h
      exact h g (List.mem_range.mpr hg) (by rw [k_ball]; exact decide_eq_true rfl)
    omega
  | d + 1 => by
    rcases k_ball_grow hg d with ⟨d', h1, h2⟩ | h
    · exact Or.inl ⟨d', by omega, h2⟩
    · by_cases hc : (List.range n).countP (k_ball A n g (d + 1)) ≤ (List.range n).countP (k_ball A n g d)
      · left
        refine ⟨d, by omega, fun v hv hb => ?_⟩
        exact k_cnt (p := k_ball A n g d) (q := k_ball A n g (d + 1)) (fun v => k_ball_up) (List.range n) hc v (List.mem_range.mpr hv) hb
      · right
        omega
theorem k_ball_all {A : Nat → Nat → Bool} {n g d v : Nat} (hg : g < n) (hv : v < n) (h : k_ball A n g d v = true) : k_ball A n g (n - 1) v = true := by
  rcases k_ball_grow (A := A) hg (n - 1) with ⟨d', h1, h2⟩ | h1
  · by_cases hd : d ≤ d'
    · exact k_ball_mono h (by omega)
    · have := k_ball_stop h2 (d - d') v hv (by rw [show d' + (d - d') = d by omega]; exact h)
      exact k_ball_mono this h1
  · have h2 := k_cnt_le (k_ball A n g (n - 1)) n
    have h3 : (List.range n).countP (fun _ => true) ≤ (List.range n).countP (k_ball A n g (n - 1)) := by
      rw [List.countP_true, List.length_range]; omega
    exact k_cnt (p := k_ball A n g (n - 1)) (q := fun _ => true) (fun _ _ => rfl) (List.range n) h3 v (List.mem_range.mpr hv) rfl
/-- how far it is -/
def k_far (A : Nat → Nat → Bool) (n g v : Nat) : Option Nat := k_lst (fun d => k_ball A n g d v) 0 n
theorem k_far_ub {A : Nat → Nat → Bool} {n g v d : Nat} (hg : g < n) (hv : v < n) (h : k_ball A n g d v = true) : ∃ e, k_far A n g v = some e ∧ e ≤ d := by
  have h1 := k_ball_all hg hv h
  cases hf : k_far A n g v with
  | none =>
    have := k_lst_none hf (n - 1) (by omega) (by omega)
    rw [h1] at this; cases this
  | some e =>
    obtain ⟨a1, a2, a3, a4⟩ := k_lst_some hf
    refine ⟨e, rfl, Classical.byContradiction fun hn => ?_⟩
    have := a4 d (by omega) (by omega)
    rw [h] at this; cases this
theorem k_far_ball {A : Nat → Nat → Bool} {n g v d : Nat} (h : k_far A n g v = some d) : d < n ∧ k_ball A n g d v = true := by
  obtain ⟨a1, a2, a3, a4⟩ := k_lst_some h
  exact ⟨by omega, a3⟩
/-- a table of distances with a number for 'never' that is right -/
def k_rgt (A : Nat → Nat → Bool) (n g C : Nat) (F : Nat → Nat) : Prop := ∀ v, v < n → F v = (k_far A n g v).getD C
theorem k_rgt_of {A : Nat → Nat → Bool} {n g C : Nat} {F : Nat → Nat} (hg : g < n) (hn : n ≤ C) (h1 : ∀ v, v < n → F v < C → k_ball A n g (F v) v = true) (h2 : ∀ v k, v < n → k < n → k_ball A n g k v = true → F v ≤ k) (h3 : ∀ v, v < n → F v ≤ C) : k_rgt A n g C F := by
  intro v hv
  cases hf : k_far A n g v with
  | none =>
    show F v = C
    refine Classical.byContradiction fun hne => ?_
    have := h3 v hv
    obtain ⟨e, he, -⟩ := k_far_ub hg hv (h1 v hv (by omega))
    rw [hf] at he; cases he
  | some d =>
    show F v = d
    obtain ⟨d1, d2⟩ := k_far_ball hf
    have h4 := h2 v d hv d1 d2
    obtain ⟨e, he, he2⟩ := k_far_ub hg hv (h1 v hv (by omega))
    rw [hf] at he
    cases he
    omega
/-- the next stop -/
def k_nx (A : Nat → Nat → Bool) (n g u d : Nat) : Option Nat := k_lst (fun v => A u v && decide (k_far A n g v = some d)) 0 n
theorem k_nx_some {A : Nat → Nat → Bool} {n g u d : Nat} (hg : g < n) (hu : u < n) (h : k_far A n g u = some (d + 1)) : ∃ v, k_nx A n g u d = some v ∧ v < n ∧ A u v = true ∧ k_far A n g v = some d := by
  obtain ⟨d1, d2⟩ := k_far_ball h
  have hex : ∃ v, v < n ∧ A u v = true ∧ k_far A n g v = some d := by
    rcases k_ball_inv d2 with h1 | ⟨v, hv, ha, h1⟩
    · obtain ⟨e, he, he2⟩ := k_far_ub hg hu h1
      rw [h] at he; cases he; omega
    · obtain ⟨e, he, he2⟩ := k_far_ub hg hv h1
      refine ⟨v, hv, ha, ?_⟩
      obtain ⟨e1, e2⟩ := k_far_ball he
      obtain ⟨e3, he3, he4⟩ := k_far_ub hg hu (k_ball_adj hv ha e2)
      rw [h] at he3
      cases he3
      rw [he, show e = d by omega]
  cases hk : k_nx A n g u d with
  | none =>
    obtain ⟨v, v1, v2, v3⟩ := hex
    have := k_lst_none hk v (by omega) (by omega)
    rw [v2, decide_eq_true v3] at this
    cases this
  | some v =>
    obtain ⟨a1, a2, a3, -⟩ := k_lst_some hk
    rw [Bool.and_eq_true, decide_eq_true_iff] at a3
    exact ⟨v, rfl, by omega, a3.1, a3.2⟩
theorem k_far0 {A : Nat → Nat → Bool} {n g v : Nat} (hg : g < n) : k_far A n g v = some 0 ↔ v = g := by
  constructor
  · intro h
    have := (k_far_ball h).2
    rw [k_ball] at this
    exact of_decide_eq_true this
  · rintro rfl
    exact k_lst_is (Nat.le_refl _) (by omega) (by rw [k_ball]; exact decide_eq_true rfl) (fun q h1 h2 => by omega)
/-- the stops of the way from u on, over d steps -/
def k_wy (A : Nat → Nat → Bool) (n g : Nat) : Nat → Nat → List Nat
  | 0, u => [u]
  | d + 1, u => u :: k_wy A n g d ((k_nx A n g u d).getD u)
theorem k_wy_len (A : Nat → Nat → Bool) (n g : Nat) : ∀ (d u : Nat), (k_wy A n g d u).length = d + 1
  | 0, u => rfl
  | d + 1, u => by rw [k_wy, List.length_cons, k_wy_len A n g d]
theorem k_wy_hd (A : Nat → Nat → Bool) (n g d u : Nat) : (k_wy A n g d u)[0]? = some u := by cases d <;> rfl
theorem k_wy_ok {A : Nat → Nat → Bool} {n g : Nat} (hg : g < n) : ∀ (d u : Nat), u < n → k_far A n g u = some d → (∀ (i v : Nat), (k_wy A n g d u)[i]? = some v → v < n ∧ k_far A n g v = some (d - i)) ∧ ∀ (i v w : Nat), (k_wy A n g d u)[i]? = some v → (k_wy A n g d u)[i + 1]? = some w → A v w = true ∧ k_nx A n g v (d - i - 1) = some w
  | 0, u, hu, hf => by
    refine ⟨fun i v hv => ?_, fun i v w hv hw => ?_⟩
    · cases i with
      | zero => cases hv; exact ⟨hu, hf⟩
      | succ i => cases hv
    · cases hw
  | d + 1, u, hu, hf => by
    obtain ⟨v1, n1, n2, n3, n4⟩ := k_nx_some hg hu hf
    have e : k_wy A n g (d + 1) u = u :: k_wy A n g d v1 := by rw [k_wy, n1]; rfl
    obtain ⟨i1, i2⟩ := k_wy_ok hg d v1 n2 n4
    rw [e]
    refine ⟨fun i v hv => ?_, fun i v w hv hw => ?_⟩
    · cases i with
      | zero => cases hv; exact ⟨hu, hf⟩
      | succ i =>
        have := i1 i v (by simpa using hv)
        rw [show d + 1 - (i + 1) = d - i by omega]
        exact this
    · cases i with
      | zero =>
        cases hv
        have hw2 : (k_wy A n g d v1)[0]? = some w := by simpa using hw
        rw [k_wy_hd] at hw2
        cases hw2
        exact ⟨n3, n1⟩
      | succ i =>
        have := i2 i v w (by simpa using hv) (by simpa using hw)
        rw [show d + 1 - (i + 1) - 1 = d - i - 1 by omega]
        exact this
