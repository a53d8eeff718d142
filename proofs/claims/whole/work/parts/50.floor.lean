/-! dividing down -/
theorem k_bm {x : Int} (h1 : -9223372036854775808 ≤ x) (h2 : x < 9223372036854775808) : x.bmod (2 ^ 64) = x := Int.bmod_eq_of_le (by omega) (by omega)
/-- what the reference does -/
def k_flr (a b : Int64) : Int64 := if a < a / b * b then a / b - 1 else a / b
theorem k_tdiv {a b : Int} (hb : 0 < b) : (a.tdiv b * b ≤ a ∧ a.tdiv b = a / b) ∨ (a < a.tdiv b * b ∧ a.tdiv b = a / b + 1) := by
  by_cases ha : 0 ≤ a
  · left
    have h1 : a.tdiv b = a / b := Int.tdiv_eq_ediv_of_nonneg ha
    rw [h1]
    exact ⟨Int.ediv_mul_le a (by omega), rfl⟩
  · have h1 := Int.tdiv_eq_ediv (a := a) (b := b)
    by_cases hd : b ∣ a
    · left
      rw [if_pos (Or.inr hd), Int.add_zero] at h1
      rw [h1]
      exact ⟨Int.ediv_mul_le a (by omega), rfl⟩
    · right
      rw [if_neg (fun z => by rcases z with z | z; exact ha z; exact hd z), Int.sign_eq_one_of_pos hb] at h1
      rw [h1]
      refine ⟨?_, rfl⟩
      exact Int.lt_ediv_add_one_mul_self a hb
theorem k_flr_int {a b : Int64} (hb : 0 < b.toInt) (h1 : -4611686018427387904 ≤ a.toInt) (h2 : a.toInt < 4611686018427387904) : (k_flr a b).toInt = a.toInt / b.toInt := by
  have hq : (a / b).toInt = a.toInt.tdiv b.toInt := by
    rw [Int64.toInt_div]
    apply k_bm
    · have := Int.natAbs_tdiv_le_natAbs a.toInt b.toInt
      omega
    · have := Int.natAbs_tdiv_le_natAbs a.toInt b.toInt
      omega
  have hm : (a / b * b).toInt = a.toInt.tdiv b.toInt * b.toInt := by
    rw [Int64.toInt_mul, hq]
    have h3 : (a.toInt.tdiv b.toInt * b.toInt).natAbs ≤ a.toInt.natAbs := by
      rw [Int.natAbs_mul, Int.natAbs_tdiv]
      exact Nat.div_mul_le_self _ _
    apply k_bm <;> omega
  unfold k_flr
  rcases k_tdiv (a := a.toInt) hb with ⟨c1, c2⟩ | ⟨c1, c2⟩
  · rw [if_neg, hq, c2]
    rw [Int64.lt_iff_toInt_lt, hm]
    omega
  · rw [if_pos, Int64.toInt_sub, hq, c2]
    · have : (1 : Int64).toInt = 1 := by decide
      rw [this, k_bm]
      · omega
      · have := Int.natAbs_tdiv_le_natAbs a.toInt b.toInt
        omega
      · have := Int.natAbs_tdiv_le_natAbs a.toInt b.toInt
        omega
    · rw [Int64.lt_iff_toInt_lt, hm]
      exact c1
theorem k_neg64 (x : Int64) : x < 0 ↔ x.toInt < 0 := by
  rw [Int64.lt_iff_toInt_lt]; rfl
theorem k_neg32 (x : Int32) : x < 0 ↔ x.toInt < 0 := by
  rw [Int32.lt_iff_toInt_lt]; rfl
theorem k_xneg64 (x y : Int64) : x ^^^ y < 0 ↔ ¬ (x.toInt < 0 ↔ y.toInt < 0) := by
  rw [k_neg64]
  have h : ∀ z : Int64, z.toInt < 0 ↔ z.toBitVec.msb = true := fun z => by
    rw [BitVec.msb_eq_toInt, decide_eq_true_iff]; rfl
  rw [h, h, h, Int64.toBitVec_xor, BitVec.msb_xor]
  cases x.toBitVec.msb <;> cases y.toBitVec.msb <;> decide
theorem k_xneg32 (x y : Int32) : x ^^^ y < 0 ↔ ¬ (x.toInt < 0 ↔ y.toInt < 0) := by
  rw [k_neg32]
  have h : ∀ z : Int32, z.toInt < 0 ↔ z.toBitVec.msb = true := fun z => by
    rw [BitVec.msb_eq_toInt, decide_eq_true_iff]; rfl
  rw [h, h, h, Int32.toBitVec_xor, BitVec.msb_xor]
  cases x.toBitVec.msb <;> cases y.toBitVec.msb <;> decide
theorem k_tdiv2 {a b : Int} (hb : 0 < b) : (0 ≤ a → a.tdiv b = a / b) ∧ (a < 0 → a.tdiv b * b = a → a.tdiv b = a / b) ∧ (a < 0 → a.tdiv b * b ≠ a → a.tdiv b = a / b + 1) := by
  refine ⟨fun h => Int.tdiv_eq_ediv_of_nonneg h, fun h e => ?_, fun h e => ?_⟩
  · rcases k_tdiv (a := a) hb with ⟨c1, c2⟩ | ⟨c1, c2⟩
    · exact c2
    · omega
  · rcases k_tdiv (a := a) hb with ⟨c1, c2⟩ | ⟨c1, c2⟩
    · exfalso
      have h3 : (a.tdiv b * b).natAbs ≤ a.natAbs := by
        rw [Int.natAbs_mul, Int.natAbs_tdiv]
        exact Nat.div_mul_le_self _ _
      omega
    · exact c2
/-- what Math.floorDiv does -/
def k_fdl (a b : Int64) : Int64 := if a ^^^ b < 0 ∧ ¬ a / b * b = a then a / b - 1 else a / b
theorem k_q64 {a b : Int64} (hb : 0 < b.toInt) (h1 : -4611686018427387904 ≤ a.toInt) (h2 : a.toInt < 4611686018427387904) : (a / b).toInt = a.toInt.tdiv b.toInt ∧ (a / b * b).toInt = a.toInt.tdiv b.toInt * b.toInt := by
  have hq : (a / b).toInt = a.toInt.tdiv b.toInt := by
    rw [Int64.toInt_div]
    apply k_bm
    · have := Int.natAbs_tdiv_le_natAbs a.toInt b.toInt
      omega
    · have := Int.natAbs_tdiv_le_natAbs a.toInt b.toInt
      omega
  refine ⟨hq, ?_⟩
  rw [Int64.toInt_mul, hq]
  have h3 : (a.toInt.tdiv b.toInt * b.toInt).natAbs ≤ a.toInt.natAbs := by
    rw [Int.natAbs_mul, Int.natAbs_tdiv]
    exact Nat.div_mul_le_self _ _
  apply k_bm <;> omega
theorem k_fdl_int {a b : Int64} (hb : 0 < b.toInt) (h1 : -4611686018427387904 ≤ a.toInt) (h2 : a.toInt < 4611686018427387904) : (k_fdl a b).toInt = a.toInt / b.toInt := by
  obtain ⟨hq, hm⟩ := k_q64 hb h1 h2
  obtain ⟨t1, t2, t3⟩ := k_tdiv2 (a := a.toInt) hb
  have hx := k_xneg64 a b
  have hb2 : ¬ b.toInt < 0 := by omega
  have he : a / b * b = a ↔ a.toInt.tdiv b.toInt * b.toInt = a.toInt := by rw [← hm, Int64.toInt_inj]
  have hn := Int.natAbs_tdiv_le_natAbs a.toInt b.toInt
  unfold k_fdl
  by_cases ha : a.toInt < 0
  · by_cases hd : a.toInt.tdiv b.toInt * b.toInt = a.toInt
    · rw [if_neg (fun z => z.2 (he.mpr hd)), hq, t2 ha hd]
    · rw [if_pos ⟨hx.mpr (by simp [ha, hb2]), fun z => hd (he.mp z)⟩, Int64.toInt_sub, hq]
      have h9 := t3 ha hd
      have : (1 : Int64).toInt = 1 := by decide
      rw [this, k_bm] <;> omega
  · rw [if_neg (fun z => (hx.mp z.1) (by simp [ha, hb2])), hq, t1 (by omega)]
theorem k_bm32 {x : Int} (h1 : -2147483648 ≤ x) (h2 : x < 2147483648) : x.bmod (2 ^ 32) = x := Int.bmod_eq_of_le (by omega) (by omega)
def k_fdi (a b : Int32) : Int32 := if a ^^^ b < 0 ∧ ¬ a / b * b = a then a / b - 1 else a / b
theorem k_q32 {a b : Int32} (hb : 0 < b.toInt) : (a / b).toInt = a.toInt.tdiv b.toInt ∧ (a / b * b).toInt = a.toInt.tdiv b.toInt * b.toInt := by
  have l1 := Int32.le_toInt a
  have l2 := Int32.toInt_lt a
  have hn := Int.natAbs_tdiv_le_natAbs a.toInt b.toInt
  have hlt : a.toInt.tdiv b.toInt < 2147483648 := by
    by_cases ha : 0 ≤ a.toInt
    · omega
    · have : a.toInt.tdiv b.toInt ≤ 0 := by
        obtain ⟨t1, t2, t3⟩ := k_tdiv2 (a := a.toInt) hb
        have h5 : a.toInt / b.toInt < 0 := Int.ediv_neg_of_neg_of_pos (by omega) hb
        by_cases hd : a.toInt.tdiv b.toInt * b.toInt = a.toInt
        · rw [t2 (by omega) hd]; omega
        · rw [t3 (by omega) hd]; omega
      omega
  have hq : (a / b).toInt = a.toInt.tdiv b.toInt := by
    rw [Int32.toInt_div]
    apply k_bm32 <;> omega
  refine ⟨hq, ?_⟩
  rw [Int32.toInt_mul, hq]
  have h3 : (a.toInt.tdiv b.toInt * b.toInt).natAbs ≤ a.toInt.natAbs := by
    rw [Int.natAbs_mul, Int.natAbs_tdiv]
    exact Nat.div_mul_le_self _ _
  have h4 : a.toInt.tdiv b.toInt * b.toInt < 2147483648 := by
    by_cases ha : 0 ≤ a.toInt
    · omega
    · have h6 : a.toInt.tdiv b.toInt ≤ 0 := by
        obtain ⟨t1, t2, t3⟩ := k_tdiv2 (a := a.toInt) hb
        have h5 : a.toInt / b.toInt < 0 := Int.ediv_neg_of_neg_of_pos (by omega) hb
        by_cases hd : a.toInt.tdiv b.toInt * b.toInt = a.toInt
        · rw [t2 (by omega) hd]; omega
        · rw [t3 (by omega) hd]; omega
      have := Int.mul_nonpos_of_nonpos_of_nonneg h6 (Int.le_of_lt hb)
      omega
  apply k_bm32 <;> omega
theorem k_fdi_int {a b : Int32} (hb : 0 < b.toInt) : (k_fdi a b).toInt = a.toInt / b.toInt := by
  obtain ⟨hq, hm⟩ := k_q32 (a := a) hb
  obtain ⟨t1, t2, t3⟩ := k_tdiv2 (a := a.toInt) hb
  have hx := k_xneg32 a b
  have hb2 : ¬ b.toInt < 0 := by omega
  have he : a / b * b = a ↔ a.toInt.tdiv b.toInt * b.toInt = a.toInt := by rw [← hm, Int32.toInt_inj]
  have hn := Int.natAbs_tdiv_le_natAbs a.toInt b.toInt
  have l1 := Int32.le_toInt a
  unfold k_fdi
  by_cases ha : a.toInt < 0
  · by_cases hd : a.toInt.tdiv b.toInt * b.toInt = a.toInt
    · rw [if_neg (fun z => z.2 (he.mpr hd)), hq, t2 ha hd]
    · rw [if_pos ⟨hx.mpr (by simp [ha, hb2]), fun z => hd (he.mp z)⟩, Int32.toInt_sub, hq]
      have h9 := t3 ha hd
      have h5 : a.toInt / b.toInt < 0 := Int.ediv_neg_of_neg_of_pos ha hb
      have h6 : a.toInt ≤ a.toInt / b.toInt := by
        have e2 := Int.lt_ediv_add_one_mul_self a.toInt hb
        by_cases h7 : a.toInt ≤ a.toInt / b.toInt
        · exact h7
        · exfalso
          have h8 : (a.toInt / b.toInt + 1) * b.toInt ≤ (a.toInt / b.toInt + 1) * 1 := Int.mul_le_mul_of_nonpos_left (by omega) (by omega)
          omega
      have : (1 : Int32).toInt = 1 := by decide
      rw [this, k_bm32] <;> omega
  · rw [if_neg (fun z => (hx.mp z.1) (by simp [ha, hb2])), hq, t1 (by omega)]
