/-! reading behind writing -/
theorem q_upT_self {T : q_T} {a : Nat} {q : Nat × Nat} : q_upT T a q a = some q := if_pos rfl
theorem q_upT_ne {T : q_T} {a b : Nat} {q : Nat × Nat} (h : b ≠ a) : q_upT T a q b = T b := if_neg h
theorem q_upR_self {R : q_R} {a : Nat} {i : Int32} {x : Option Nat} : q_upR R a i x a i = x := if_pos ⟨rfl, rfl⟩
theorem q_upR_nea {R : q_R} {a b : Nat} {i j : Int32} {x : Option Nat} (h : b ≠ a) : q_upR R a i x b j = R b j := if_neg (fun z => h z.1)
theorem q_upR_nei {R : q_R} {a b : Nat} {i j : Int32} {x : Option Nat} (h : j ≠ i) : q_upR R a i x b j = R b j := if_neg (fun z => h z.2)
theorem q_upI_self {I : q_I} {a : Nat} {i x : Int32} : q_upI I a i x a i = x := if_pos ⟨rfl, rfl⟩
theorem q_upI_nea {I : q_I} {a b : Nat} {i j x : Int32} (h : b ≠ a) : q_upI I a i x b j = I b j := if_neg (fun z => h z.1)
theorem q_upI_nei {I : q_I} {a b : Nat} {i j x : Int32} (h : j ≠ i) : q_upI I a i x b j = I b j := if_neg (fun z => h z.2)
theorem q_nI_inj {a b : Nat} (h : nI a = nI b) : a % 4294967296 = b % 4294967296 := by
  have h1 := congrArg (fun x : Int32 => x.toBitVec.toNat) h
  exact h1
theorem q_upR_nk {R : q_R} {a b k1 k2 : Nat} {x : Option Nat} (h : k2 % 4294967296 ≠ k1 % 4294967296) : q_upR R a (nI k1) x b (nI k2) = R b (nI k2) := q_upR_nei (fun z => h (q_nI_inj z))
theorem q_upI_nk {I : q_I} {a b k1 k2 : Nat} {x : Int32} (h : k2 % 4294967296 ≠ k1 % 4294967296) : q_upI I a (nI k1) x b (nI k2) = I b (nI k2) := q_upI_nei (fun z => h (q_nI_inj z))
theorem q_newN {g : q_G} {M : q_M} {mc ms c k : Nat} {Q : q_O → q_H → Prop} {pc : Nat} {ls : List (Option Value)} {st : List Value} {sz : Nat} {T : q_T} {I : q_I} {R0 : q_R} {J : q_J} {ci idx N : Nat} {r : vw_C} (d : decode (q_bc M) pc = .ok (.new idx, 3)) (hc : q_cl[ci]? = some r) (hN : r.2.2 = N) (hw : Cond.classLink (q_ow M) idx r.1 ∈ q_tb) (hi : Cond.instantiable r.1 r.2.2 ∈ q_tb) (hini : Cond.initialized r.1 ∈ q_tb) (h1 : c + 1 ≤ mc) (h2 : k + N ≤ ms)
    (kk : q_V g M mc ms (c + 1) (k + N) (sz + 1, q_upT T sz (100 + ci, 0), I, R0, J) Q (pc + 3) ls (.ref sz :: st)) : q_V g M mc ms c k (sz, T, I, R0, J) Q pc ls st := by
  subst hN
  exact q_new d hc hw hi hini h1 h2 kk
