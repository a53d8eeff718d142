/-! numbers: ints as longs, and back -/
theorem z_i64 (a : Int32) : a.toInt64.toInt = a.toInt := Int32.toInt_toInt64 a
theorem z_bd (a : Int32) : -2147483648 ≤ a.toInt ∧ a.toInt ≤ 2147483647 := ⟨Int32.le_toInt a, by have := Int32.toInt_lt a; omega⟩
theorem z_prod {x y A B : Int} (hA : 0 ≤ A) (hx1 : -A ≤ x) (hx2 : x ≤ A) (hy1 : -B ≤ y) (hy2 : y ≤ B) : -(A * B) ≤ x * y ∧ x * y ≤ A * B := by
  have h1 : x.natAbs ≤ A.natAbs := by omega
  have h2 : y.natAbs ≤ B.natAbs := by omega
  have h3 := Nat.mul_le_mul h1 h2
  rw [← Int.natAbs_mul, ← Int.natAbs_mul] at h3
  have h4 : 0 ≤ A * B := Int.mul_nonneg hA (by omega)
  omega
theorem z_mul (a x : Int32) : (a.toInt64 * x.toInt64).toInt = a.toInt * x.toInt := by
  have h1 := z_bd a
  have h2 := z_bd x
  have h3 := z_prod (x := a.toInt) (y := x.toInt) (A := 2147483648) (B := 2147483648) (by omega) (by omega) (by omega) (by omega) (by omega)
  rw [Int64.toInt_mul, z_i64, z_i64]
  exact Int.bmod_eq_of_le (by omega) (by omega)
theorem z_l2i (v : Int64) : v.toInt32 = Int32.ofInt v.toInt := (Int32.ofInt_int64ToInt v).symm
theorem z_ofInt {z : Int} (h : -2147483648 ≤ z ∧ z ≤ 2147483647) : (Int32.ofInt z).toInt = z := Int32.toInt_ofInt_of_le (by omega) (by omega)
theorem z_rt (v : Int64) : v = v.toInt32.toInt64 ↔ (-2147483648 ≤ v.toInt ∧ v.toInt ≤ 2147483647) := by
  rw [← Int64.toInt_inj, z_i64, z_l2i]
  constructor
  · intro h
    rw [h]
    exact z_bd _
  · intro h
    rw [z_ofInt h]
/-- division keeps within the larger of the bounds -/
theorem z_dv {x b : Int} (hb : 0 < b) (h : -2147483648 ≤ x ∧ x ≤ 2147483647) : -2147483648 ≤ x / b ∧ x / b ≤ 2147483647 := by
  constructor
  · rw [Int.le_ediv_iff_mul_le hb]
    have : (-2147483648 : Int) * b ≤ -2147483648 * 1 := Int.mul_le_mul_of_nonpos_left (by omega) (by omega)
    omega
  · have h1 : x / b ≤ 2147483647 / b := Int.ediv_le_ediv hb h.2
    have h2 : (2147483647 : Int) / b ≤ 2147483647 := Int.ediv_le_self _ (by omega)
    omega
