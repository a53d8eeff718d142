/-! where the cells of an object lie: field, offset, kind, length -/
def t_Model : List (Nat × Nat × Nat × Nat) := [(2, 1, 0, 8), (3, 2, 0, 192), (4, 3, 0, 192), (5, 4, 0, 192), (6, 5, 0, 192), (9, 6, 0, 17), (10, 7, 0, 17), (11, 8, 0, 17), (12, 9, 0, 1088), (14, 10, 0, 16), (15, 11, 0, 2688), (16, 12, 0, 2048), (17, 13, 0, 28672), (19, 14, 0, 26), (20, 15, 0, 26), (21, 16, 0, 26), (22, 17, 0, 26), (23, 18, 0, 182), (24, 19, 0, 26), (25, 20, 0, 128), (26, 21, 0, 1792), (30, 22, 0, 1024), (31, 23, 0, 5120), (32, 24, 0, 24), (34, 25, 0, 9), (35, 26, 0, 9), (36, 27, 0, 8), (37, 28, 0, 7), (38, 29, 0, 7)]
def t_Versions : List (Nat × Nat × Nat × Nat) := [(0, 1, 5, 8), (2, 2, 6, 16), (4, 3, 0, 8), (5, 4, 0, 8)]
def t_Schema : List (Nat × Nat × Nat × Nat) := [(0, 1, 2, 24)]
def t_Draft : List (Nat × Nat × Nat × Nat) := [(0, 1, 106, 0), (1, 27, 3, 8)]
def t_Row : List (Nat × Nat × Nat × Nat) := [(2, 1, 101, 0), (3, 3, 0, 128), (4, 4, 101, 0), (5, 6, 101, 0)]
def t_Carrier : List (Nat × Nat × Nat × Nat) := [(0, 1, 101, 0)]
def t_Terms : List (Nat × Nat × Nat × Nat) := [(0, 1, 0, 24), (1, 2, 0, 24), (2, 3, 0, 32), (3, 4, 0, 152), (4, 5, 0, 152), (5, 6, 0, 152), (6, 7, 0, 152), (7, 8, 0, 152), (8, 9, 0, 152), (9, 10, 0, 152)]
def t_Lens : List (Nat × Nat × Nat × Nat) := [(0, 1, 109, 0), (1, 32, 102, 0), (2, 60, 4, 16), (4, 69, 100, 0), (5, 72, 108, 0)]
def t_Cells (n : Nat) : List (Nat × Nat × Nat × Nat) := [(0, 1, 0, n)]
def q_L (ci : Nat) (tb : List (Nat × Nat × Nat × Nat)) (a : Nat) (T : q_T) (R : q_R) : Prop := T a = some (100 + ci, 0) ∧ ∀ fk off kd n, tb.lookup fk = some (off, kd, n) → R a (nI fk) = some (a + off) ∧ T (a + off) = some (kd, n)
/-- by the table's rows -/
def q_La (a : Nat) (T : q_T) (R : q_R) : List (Nat × Nat × Nat × Nat) → Prop
  | [] => True
  | r :: t => (R a (nI r.1) = some (a + r.2.1) ∧ T (a + r.2.1) = some r.2.2) ∧ q_La a T R t
theorem q_L.mk {ci : Nat} {tb : List (Nat × Nat × Nat × Nat)} {a : Nat} {T : q_T} {R : q_R} (h1 : T a = some (100 + ci, 0)) (h2 : q_La a T R tb) : q_L ci tb a T R := by
  refine ⟨h1, ?_⟩
  clear h1
  induction tb with
  | nil => intro fk off kd n h; cases h
  | cons r t ih =>
    intro fk off kd n h
    obtain ⟨f, q⟩ := r
    rw [List.lookup_cons] at h
    by_cases hf : fk = f
    · subst hf
      simp only [beq_self_eq_true] at h
      cases h
      exact h2.1
    · rw [show (fk == f) = false by simpa using hf] at h
      exact ih h2.2 fk off kd n h
/-- it stays where the tables stay and the object's references stay -/
theorem q_L.keep {ci : Nat} {tb : List (Nat × Nat × Nat × Nat)} {a : Nat} {T T2 : q_T} {R R2 : q_R} (h : q_L ci tb a T R) (hT : ∀ b q, T b = some q → T2 b = some q) (hR : ∀ fk off kd n, tb.lookup fk = some (off, kd, n) → R2 a (nI fk) = R a (nI fk)) : q_L ci tb a T2 R2 :=
  ⟨hT _ _ h.1, fun fk off kd n z => ⟨(hR fk off kd n z).trans (h.2 fk off kd n z).1, hT _ _ (h.2 fk off kd n z).2⟩⟩
