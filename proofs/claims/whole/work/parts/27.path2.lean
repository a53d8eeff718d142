/-! paths and keys, on: digits, parents, prefixes, order -/
theorem k_andn {K s : Nat} : nI K &&& (nI (127 * 2 ^ s) ^^^ (-1)) = nI (K / 2 ^ (s + 7) * 2 ^ (s + 7) + K % 2 ^ s) := by
  apply Int32.toBitVec_inj.mp
  apply BitVec.eq_of_getLsbD_eq
  intro i hi
  rw [Int32.toBitVec_and, Int32.toBitVec_xor, BitVec.getLsbD_and, BitVec.getLsbD_xor, k_bv, k_bv, k_bv, BitVec.getLsbD_ofNat, BitVec.getLsbD_ofNat, BitVec.getLsbD_ofNat]
  have h1 : (Int32.toBitVec (-1)).getLsbD i = true := by
    have : ∀ i, i < 32 → (Int32.toBitVec (-1)).getLsbD i = true := by decide +kernel
    exact this i hi
  rw [h1, decide_eq_true hi, Bool.true_and, Bool.true_and, Bool.true_and, Nat.testBit_mul_two_pow, show (127 : Nat) = 2 ^ 7 - 1 from rfl, Nat.testBit_two_pow_sub_one, Nat.mul_comm (K / 2 ^ (s + 7)), Nat.testBit_two_pow_mul_add _ (Nat.lt_of_lt_of_le (Nat.mod_lt K (Nat.two_pow_pos s)) (Nat.pow_le_pow_right (by decide) (by omega))), Nat.testBit_mod_two_pow, Nat.testBit_div_two_pow]
  by_cases h2 : i < s + 7
  · rw [if_pos h2]
    by_cases h3 : i < s
    · rw [decide_eq_true h3, decide_eq_false (show ¬ i ≥ s by omega)]
      simp
    · rw [decide_eq_false h3, decide_eq_true (show i ≥ s by omega), decide_eq_true (show i - s < 7 by omega)]
      simp
  · rw [if_neg h2, decide_eq_false (show ¬ i - s < 7 by omega), show i - (s + 7) + (s + 7) = i by omega]
    simp
theorem k_cases {l : List Nat} (h : k_ok 4 l) : l = [] ∨ (∃ a, l = [a] ∧ 1 ≤ a ∧ a ≤ 100) ∨ (∃ a b, l = [a, b] ∧ (1 ≤ a ∧ a ≤ 100) ∧ 1 ≤ b ∧ b ≤ 100) ∨ (∃ a b c, l = [a, b, c] ∧ (1 ≤ a ∧ a ≤ 100) ∧ (1 ≤ b ∧ b ≤ 100) ∧ 1 ≤ c ∧ c ≤ 100) ∨ ∃ a b c d, l = [a, b, c, d] ∧ (1 ≤ a ∧ a ≤ 100) ∧ (1 ≤ b ∧ b ≤ 100) ∧ (1 ≤ c ∧ c ≤ 100) ∧ 1 ≤ d ∧ d ≤ 100 := by
  obtain ⟨h1, h2⟩ := h
  match l, h1, h2 with
  | [], _, _ => exact Or.inl rfl
  | [a], _, h2 => exact Or.inr (Or.inl ⟨a, rfl, h2 a (by simp)⟩)
  | [a, b], _, h2 => exact Or.inr (Or.inr (Or.inl ⟨a, b, rfl, h2 a (by simp), h2 b (by simp)⟩))
  | [a, b, c], _, h2 => exact Or.inr (Or.inr (Or.inr (Or.inl ⟨a, b, c, rfl, h2 a (by simp), h2 b (by simp), h2 c (by simp)⟩)))
  | [a, b, c, d], _, h2 => exact Or.inr (Or.inr (Or.inr (Or.inr ⟨a, b, c, d, rfl, h2 a (by simp), h2 b (by simp), h2 c (by simp), h2 d (by simp)⟩)))
  | _ :: _ :: _ :: _ :: _ :: _, h1, _ => simp at h1
/-- how far up the last name stands -/
abbrev k_sh (l : List Nat) : Nat := 7 * (4 - l.length)
theorem k_key_lt {l : List Nat} (h : k_ok 4 l) : k_key l < 2 ^ 28 := by
  have h1 := k_kf_lt h
  rw [show (128 : Nat) ^ 4 = 2 ^ 28 by decide] at h1
  exact h1
theorem k_key0 : k_key [] = 0 := rfl
theorem k_key1 (a : Nat) : k_key [a] = a * 2097152 := by simp [k_kf]
theorem k_key2 (a b : Nat) : k_key [a, b] = a * 2097152 + b * 16384 := by simp [k_kf]
theorem k_key3 (a b c : Nat) : k_key [a, b, c] = a * 2097152 + b * 16384 + c * 128 := by simp [k_kf]; omega
theorem k_key4 (a b c d : Nat) : k_key [a, b, c, d] = a * 2097152 + b * 16384 + c * 128 + d := by simp [k_kf]; omega
theorem k_low {l : List Nat} (h : k_ok 4 l) {i : Nat} (hi : i < 4 - l.length) : k_key l / 2 ^ (7 * i) % 128 = 0 := by
  have hi4 : i = 0 ∨ i = 1 ∨ i = 2 ∨ i = 3 := by omega
  rcases k_cases h with rfl | ⟨a, rfl, ha⟩ | ⟨a, b, rfl, ha, hb⟩ | ⟨a, b, c, rfl, ha, hb, hc⟩ | ⟨a, b, c, d, rfl, ha, hb, hc, hd⟩ <;> simp only [List.length_nil, List.length_cons, k_key0, k_key1, k_key2, k_key3, k_key4] at hi ⊢ <;> rcases hi4 with rfl | rfl | rfl | rfl <;> simp only [Nat.mul_zero, Nat.mul_one, Nat.pow_zero, show 2 ^ 7 = 128 from rfl, show 2 ^ (7 * 2) = 16384 from rfl, show 2 ^ (7 * 3) = 2097152 from rfl] <;> omega
theorem k_top {l : List Nat} (h : k_ok 4 l) (h0 : l ≠ []) : k_key l / 2 ^ (k_sh l) % 128 = l.getLast h0 ∧ 1 ≤ l.getLast h0 ∧ l.getLast h0 ≤ 100 := by
  rcases k_cases h with rfl | ⟨a, rfl, ha⟩ | ⟨a, b, rfl, ha, hb⟩ | ⟨a, b, c, rfl, ha, hb, hc⟩ | ⟨a, b, c, d, rfl, ha, hb, hc, hd⟩
  · exact absurd rfl h0
  all_goals
    simp only [k_key1, k_key2, k_key3, k_key4]
    simp [k_sh]
    omega
theorem k_kf_snoc : ∀ (j : Nat) (t : List Nat) (x : Nat), t.length < j → k_kf j (t ++ [x]) = k_kf j t + x * 128 ^ (j - t.length - 1)
  | 0, t, x, h => absurd h (Nat.not_lt_zero _)
  | j + 1, [], x, _ => by
    cases j <;> simp [k_kf]
  | j + 1, n :: t, x, h => by
    have ih := k_kf_snoc j t x (Nat.lt_of_succ_lt_succ h)
    show n * 128 ^ j + k_kf j (t ++ [x]) = n * 128 ^ j + k_kf j t + x * 128 ^ (j + 1 - (t.length + 1) - 1)
    rw [ih, Nat.add_sub_add_right, Nat.add_assoc]
theorem k_kf_mul : ∀ (j : Nat) (t : List Nat), t.length ≤ j → ∃ q, k_kf j t = q * 128 ^ (j - t.length)
  | 0, t, _ => ⟨0, by simp [k_kf]⟩
  | j + 1, [], _ => ⟨0, by simp [k_kf]⟩
  | j + 1, n :: t, h => by
    obtain ⟨q, hq⟩ := k_kf_mul j t (Nat.le_of_succ_le_succ h)
    refine ⟨n * 128 ^ t.length + q, ?_⟩
    have hl : t.length ≤ j := Nat.le_of_succ_le_succ h
    show n * 128 ^ j + k_kf j t = (n * 128 ^ t.length + q) * 128 ^ (j + 1 - (t.length + 1))
    rw [hq, Nat.add_sub_add_right, Nat.add_mul, Nat.mul_assoc, ← Nat.pow_add, show t.length + (j - t.length) = j by omega]
theorem k_dm {q x e : Nat} (hx : x < 128) : (q * 128 ^ (e + 1) + x * 128 ^ e) / 128 ^ (e + 1) = q ∧ (q * 128 ^ (e + 1) + x * 128 ^ e) % 128 ^ e = 0 := by
  have hp : 0 < 128 ^ e := Nat.pow_pos (by decide)
  constructor
  · rw [Nat.mul_comm q, Nat.mul_add_div (Nat.pow_pos (by decide)), Nat.div_eq_of_lt, Nat.add_zero]
    rw [Nat.pow_succ, Nat.mul_comm (128 ^ e)]
    exact Nat.mul_lt_mul_of_pos_right hx hp
  · rw [Nat.pow_succ, Nat.mul_comm (128 ^ e) 128, ← Nat.mul_assoc, ← Nat.add_mul, Nat.mul_mod_left]
theorem k_parm {l : List Nat} (h : k_ok 4 l) (h0 : l ≠ []) : ∃ q, k_key l.dropLast = q * 128 ^ (4 - l.length + 1) := by
  have hl : 0 < l.length := List.length_pos_iff.mpr h0
  obtain ⟨q, hq⟩ := k_kf_mul 4 l.dropLast (by rw [List.length_dropLast]; have := h.1; omega)
  refine ⟨q, ?_⟩
  rw [List.length_dropLast] at hq
  rw [show 4 - l.length + 1 = 4 - (l.length - 1) by have := h.1; omega]
  exact hq
theorem k_snoc {l : List Nat} (h : k_ok 4 l) (h0 : l ≠ []) (x : Nat) : k_key (l.dropLast ++ [x]) = k_key l.dropLast + x * 128 ^ (4 - l.length) := by
  have hl : 0 < l.length := List.length_pos_iff.mpr h0
  have := k_kf_snoc 4 l.dropLast x (by rw [List.length_dropLast]; have := h.1; omega)
  rw [List.length_dropLast, show 4 - (l.length - 1) - 1 = 4 - l.length by omega] at this
  exact this
theorem k_par {l : List Nat} (h : k_ok 4 l) : k_key l / 2 ^ (k_sh l + 7) * 2 ^ (k_sh l + 7) + k_key l % 2 ^ (k_sh l) = k_key l.dropLast := by
  by_cases h0 : l = []
  · subst h0
    show k_key [] / _ * _ + k_key [] % _ = k_key []
    rw [k_key0, Nat.zero_div, Nat.zero_mul, Nat.zero_mod]
  · obtain ⟨q, hq⟩ := k_parm h h0
    have h1 := k_snoc h h0 (l.getLast h0)
    rw [List.dropLast_concat_getLast, hq] at h1
    have hx : l.getLast h0 < 128 := by have := h.2 _ (List.getLast_mem h0); omega
    obtain ⟨e1, e2⟩ := k_dm (q := q) (e := 4 - l.length) hx
    rw [show k_sh l + 7 = 7 * (4 - l.length + 1) by rw [k_sh]; omega, k_sh, Nat.pow_mul, Nat.pow_mul, show (2 : Nat) ^ 7 = 128 from rfl, h1, e1, e2, hq, Nat.add_zero]
theorem k_ok_drop {j : Nat} {l : List Nat} (h : k_ok j l) : k_ok j l.dropLast := ⟨by rw [List.length_dropLast]; have := h.1; omega, fun n hn => h.2 n ((List.dropLast_subset l) hn)⟩
theorem k_bes {l : List Nat} (h : k_ok 4 l) (h0 : l ≠ []) (n : Nat) : k_key (l.dropLast ++ [n]) = k_key l.dropLast + n * 2 ^ (k_sh l) := by
  rw [k_snoc h h0, k_sh, Nat.pow_mul]
theorem k_parmod {l : List Nat} (h : k_ok 4 l) (h0 : l ≠ []) : ∃ q, k_key l.dropLast = q * 2 ^ (k_sh l + 7) := by
  obtain ⟨q, hq⟩ := k_parm h h0
  exact ⟨q, by rw [show k_sh l + 7 = 7 * (4 - l.length + 1) by rw [k_sh]; omega, Nat.pow_mul]; exact hq⟩
theorem k_two {q x y A B : Nat} (hA : A < q) (hB : B < q) : x * q + A = y * q + B ↔ x = y ∧ A = B := by
  constructor
  · intro h
    have h1 : (x * q + A) / q = x := by rw [Nat.mul_comm, Nat.mul_add_div (by omega), Nat.div_eq_of_lt hA, Nat.add_zero]
    have h2 : (y * q + B) / q = y := by rw [Nat.mul_comm, Nat.mul_add_div (by omega), Nat.div_eq_of_lt hB, Nat.add_zero]
    have h3 : x = y := by rw [← h1, h, h2]
    subst h3
    exact ⟨rfl, by omega⟩
  · rintro ⟨rfl, rfl⟩; rfl
theorem k_kf_inj : ∀ {j : Nat} {l m : List Nat}, k_ok j l → k_ok j m → k_kf j l = k_kf j m → l = m
  | _, [], [], _, _, _ => rfl
  | 0, _ :: _, _, h, _, _ => absurd h.1 (by simp)
  | 0, _, _ :: _, _, h, _ => absurd h.1 (by simp)
  | j + 1, [], y :: u, _, h, e => by
    have := h.2 y List.mem_cons_self
    have h9 : 0 < y * 128 ^ j := Nat.mul_pos (by omega) (Nat.pow_pos (by decide))
    simp only [k_kf] at e
    omega
  | j + 1, x :: t, [], h, _, e => by
    have := h.2 x List.mem_cons_self
    have h9 : 0 < x * 128 ^ j := Nat.mul_pos (by omega) (Nat.pow_pos (by decide))
    simp only [k_kf] at e
    omega
  | j + 1, x :: t, y :: u, h, h2, e => by
    have a1 : k_ok j t := ⟨Nat.le_of_succ_le_succ h.1, fun m hm => h.2 m (List.mem_cons_of_mem _ hm)⟩
    have a2 : k_ok j u := ⟨Nat.le_of_succ_le_succ h2.1, fun m hm => h2.2 m (List.mem_cons_of_mem _ hm)⟩
    simp only [k_kf] at e
    obtain ⟨e1, e2⟩ := (k_two (k_kf_lt a1) (k_kf_lt a2)).mp e
    rw [e1, k_kf_inj a1 a2 e2]
theorem k_key_inj {l m : List Nat} (hl : k_ok 4 l) (hm : k_ok 4 m) (h : k_key l = k_key m) : l = m := k_kf_inj hl hm h
/-- within: its names begin with the other's -/
theorem k_kf_within : ∀ {j : Nat} {l m : List Nat}, k_ok j l → k_ok j m → (k_kf j l / 128 ^ (j - m.length) = k_kf j m / 128 ^ (j - m.length) ↔ m <+: l)
  | j, l, [], hl, _ => by
    have h1 : k_kf j l / 128 ^ j = 0 := Nat.div_eq_of_lt (k_kf_lt hl)
    have h2 : k_kf j [] / 128 ^ j = 0 := Nat.div_eq_of_lt (k_kf_lt ⟨Nat.zero_le _, fun n hn => nomatch hn⟩)
    simp [h1, h2]
  | 0, _, _ :: _, _, h => absurd h.1 (by simp)
  | j + 1, [], y :: u, _, h => by
    have hy := h.2 y List.mem_cons_self
    have hu : u.length ≤ j := Nat.le_of_succ_le_succ h.1
    have h9 : 128 ^ (j - u.length) ≤ k_kf (j + 1) (y :: u) := by
      have h8 : 128 ^ (j - u.length) ≤ 128 ^ j := Nat.pow_le_pow_right (by decide) (by omega)
      have h7 : 1 * 128 ^ j ≤ y * 128 ^ j := Nat.mul_le_mul_right _ hy.1
      simp only [k_kf]
      omega
    have h6 : 0 < k_kf (j + 1) (y :: u) / 128 ^ (j - u.length) := Nat.div_pos h9 (Nat.pow_pos (by decide))
    have h5 : k_kf (j + 1) [] = 0 := rfl
    rw [List.length_cons, Nat.add_sub_add_right, h5, Nat.zero_div]
    constructor
    · intro z; omega
    · intro z; simp at z
  | j + 1, x :: t, y :: u, h, h2 => by
    have a1 : k_ok j t := ⟨Nat.le_of_succ_le_succ h.1, fun m hm => h.2 m (List.mem_cons_of_mem _ hm)⟩
    have a2 : k_ok j u := ⟨Nat.le_of_succ_le_succ h2.1, fun m hm => h2.2 m (List.mem_cons_of_mem _ hm)⟩
    have ih := k_kf_within a1 a2
    have hu : u.length ≤ j := a2.1
    have hq : (128 : Nat) ^ j = 128 ^ u.length * 128 ^ (j - u.length) := by rw [← Nat.pow_add]; congr 1; omega
    have hp : 0 < 128 ^ (j - u.length) := Nat.pow_pos (by decide)
    have dv : ∀ (x A : Nat), (x * 128 ^ j + A) / 128 ^ (j - u.length) = x * 128 ^ u.length + A / 128 ^ (j - u.length) := by
      intro x A
      rw [hq, ← Nat.mul_assoc, Nat.mul_comm _ (128 ^ (j - u.length)), Nat.mul_add_div hp]
    have lt : ∀ A, A < 128 ^ j → A / 128 ^ (j - u.length) < 128 ^ u.length := fun A hA => Nat.div_lt_of_lt_mul (by rw [Nat.mul_comm, ← hq]; exact hA)
    simp only [k_kf]
    rw [List.length_cons, Nat.add_sub_add_right, dv, dv, k_two (lt _ (k_kf_lt a1)) (lt _ (k_kf_lt a2)), ih, List.cons_prefix_cons, eq_comm]
theorem k_within {l m : List Nat} (hl : k_ok 4 l) (hm : k_ok 4 m) : k_key l / 2 ^ (k_sh m) = k_key m / 2 ^ (k_sh m) ↔ m <+: l := by
  rw [k_sh, Nat.pow_mul]
  exact k_kf_within hl hm
theorem k_path_inj {l m : List Nat} (hl : k_ok 4 l) (hm : k_ok 4 m) (h : k_path l = k_path m) : l = m := by
  have h1 := k_names_path hl
  have h2 := k_names_path hm
  rw [h] at h1
  exact Option.some.inj (h1.symm.trans h2)
/-- the reference's order of paths -/
def k_bef : List Nat → List Nat → Bool
  | [], [] => false
  | [], _ :: _ => true
  | _ :: _, [] => false
  | x :: t, y :: u => if x = y then k_bef t u else decide (x < y)
theorem k_bef_key : ∀ {j : Nat} {l m : List Nat}, k_ok j l → k_ok j m → (k_bef l m = true ↔ k_kf j l < k_kf j m)
  | _, [], [], _, _ => by simp [k_bef]
  | 0, _ :: _, _, h, _ => absurd h.1 (by simp)
  | 0, _, _ :: _, _, h => absurd h.1 (by simp)
  | j + 1, [], y :: u, _, h => by
    have := h.2 y List.mem_cons_self
    have h9 : 0 < y * 128 ^ j := Nat.mul_pos (by omega) (Nat.pow_pos (by decide))
    simp only [k_bef, k_kf, true_iff]
    omega
  | j + 1, x :: t, [], h, _ => by simp [k_bef, k_kf]
  | j + 1, x :: t, y :: u, h, h2 => by
    have a1 : k_ok j t := ⟨Nat.le_of_succ_le_succ h.1, fun m hm => h.2 m (List.mem_cons_of_mem _ hm)⟩
    have a2 : k_ok j u := ⟨Nat.le_of_succ_le_succ h2.1, fun m hm => h2.2 m (List.mem_cons_of_mem _ hm)⟩
    have b1 := k_kf_lt a1
    have b2 := k_kf_lt a2
    simp only [k_bef, k_kf]
    by_cases hxy : x = y
    · subst hxy
      rw [if_pos rfl, k_bef_key a1 a2]
      omega
    · rw [if_neg hxy, decide_eq_true_iff]
      constructor
      · intro hlt
        have : (x + 1) * 128 ^ j ≤ y * 128 ^ j := Nat.mul_le_mul_right _ hlt
        rw [Nat.succ_mul] at this
        omega
      · intro hlt
        by_cases h5 : y < x
        · exfalso
          have : (y + 1) * 128 ^ j ≤ x * 128 ^ j := Nat.mul_le_mul_right _ h5
          rw [Nat.succ_mul] at this
          omega
        · omega
theorem k_path_take : ∀ (l : List Nat) (d : Nat), (∀ n ∈ l, n ≤ 100) → k_path l % 128 ^ d = k_path (l.take d)
  | [], d, _ => by simp [k_path]
  | n :: t, 0, _ => by simp [k_path, Nat.mod_one]
  | n :: t, d + 1, h => by
    have hn := h n List.mem_cons_self
    have ih := k_path_take t d (fun m hm => h m (List.mem_cons_of_mem _ hm))
    show (n + 128 * k_path t) % 128 ^ (d + 1) = n + 128 * k_path (t.take d)
    rw [← ih, Nat.pow_succ, Nat.mul_comm (128 ^ d) 128, Nat.mod_mul, show (n + 128 * k_path t) % 128 = n by omega, show (n + 128 * k_path t) / 128 = k_path t by omega]
theorem k_path_app : ∀ (l m : List Nat), k_path (l ++ m) = k_path l + 128 ^ l.length * k_path m
  | [], m => by simp [k_path]
  | n :: t, m => by
    show n + 128 * k_path (t ++ m) = n + 128 * k_path t + 128 ^ (t.length + 1) * k_path m
    rw [k_path_app t m, Nat.mul_add, Nat.pow_succ, Nat.mul_comm (128 ^ t.length) 128, Nat.mul_assoc, Nat.add_assoc]
theorem k_path_drop : ∀ (l : List Nat) (d : Nat), (∀ n ∈ l, n ≤ 100) → k_path l / 128 ^ d = k_path (l.drop d)
  | l, 0, _ => by simp
  | [], d + 1, _ => by simp [k_path]
  | n :: t, d + 1, h => by
    have hn := h n List.mem_cons_self
    have ih := k_path_drop t d (fun m hm => h m (List.mem_cons_of_mem _ hm))
    show (n + 128 * k_path t) / 128 ^ (d + 1) = k_path (t.drop d)
    rw [← ih, Nat.pow_succ, Nat.mul_comm (128 ^ d) 128, ← Nat.div_div_eq_div_mul, show (n + 128 * k_path t) / 128 = k_path t by omega]
