/-! paths and keys: names in order -/
theorem k_sm : ∀ n, n < 32 → ((nI n &&& 31).toBitVec.smod 32).toNat = n := by decide +kernel
theorem k_um : ∀ n, n < 32 → (((nI n).toUInt32 &&& Int32.toUInt32 31).toBitVec % 32).toNat = n := by decide +kernel
theorem k_ofBV (x : Int32) : x = nI x.toBitVec.toNat := Int32.toBitVec_inj.mp (by show _ = BitVec.ofNat 32 _; simp)
theorem k_bv (a : Nat) : (nI a).toBitVec = BitVec.ofNat 32 a := rfl
theorem k_shr {a s : Nat} (ha : a < 2 ^ 31) (hs : s < 32) : nI a >>> (nI s &&& 31) = nI (a / 2 ^ s) := by
  apply Int32.toBitVec_inj.mp
  rw [Int32.toBitVec_shiftRight, BitVec.sshiftRight_eq', k_sm s hs]
  have hm : (nI a).toBitVec.msb = false := by
    rw [BitVec.msb_eq_decide, pk_tn (by omega)]
    exact decide_eq_false (by omega)
  rw [BitVec.sshiftRight_eq_of_msb_false hm]
  apply BitVec.eq_of_toNat_eq
  rw [BitVec.toNat_ushiftRight, pk_tn (by omega), Nat.shiftRight_eq_div_pow, pk_tn]
  exact Nat.lt_of_le_of_lt (Nat.div_le_self _ _) (by omega)
theorem k_ushr {a s : Nat} (ha : a < 2 ^ 32) (hs : s < 32) : ((nI a).toUInt32 >>> ((nI s).toUInt32 &&& Int32.toUInt32 31)).toInt32 = nI (a / 2 ^ s) := by
  apply Int32.toBitVec_inj.mp
  show ((nI a).toUInt32 >>> ((nI s).toUInt32 &&& Int32.toUInt32 31)).toBitVec = _
  rw [UInt32.toBitVec_shiftRight, BitVec.ushiftRight_eq', k_um s hs]
  apply BitVec.eq_of_toNat_eq
  show ((nI a).toBitVec >>> s).toNat = _
  rw [BitVec.toNat_ushiftRight, pk_tn ha, Nat.shiftRight_eq_div_pow, pk_tn]
  exact Nat.lt_of_le_of_lt (Nat.div_le_self _ _) ha
theorem k_shl (a : Nat) {s : Nat} (hs : s < 32) : nI a <<< (nI s &&& 31) = nI (a * 2 ^ s) := by
  apply Int32.toBitVec_inj.mp
  rw [Int32.toBitVec_shiftLeft, BitVec.shiftLeft_eq', k_sm s hs]
  apply BitVec.eq_of_toNat_eq
  rw [BitVec.toNat_shiftLeft, k_bv, k_bv, BitVec.toNat_ofNat, BitVec.toNat_ofNat, Nat.shiftLeft_eq, Nat.mod_mul_mod]
theorem k_or (a b : Nat) : nI a ||| nI b = nI (a ||| b) := by
  apply Int32.toBitVec_inj.mp
  rw [Int32.toBitVec_or, k_bv, k_bv, k_bv, BitVec.ofNat_or]
theorem k_and (a b : Nat) : nI a &&& nI b = nI (a &&& b) := by
  apply Int32.toBitVec_inj.mp
  rw [Int32.toBitVec_and, k_bv, k_bv, k_bv, BitVec.ofNat_and]
theorem k_orA {a b s : Nat} (h : b < 2 ^ s) : nI (a * 2 ^ s) ||| nI b = nI (a * 2 ^ s + b) := by
  rw [k_or, ← Nat.shiftLeft_eq, Nat.shiftLeft_add_eq_or_of_lt h]
theorem k_and127 {a : Nat} (h : a < 2 ^ 32) : nI a &&& nI 127 = nI (a % 128) := pk_andN h 7 rfl
/-- a path's names, first to last; none: it is no path -/
def k_names : Nat → Nat → Option (List Nat)
  | 0, P => if P = 0 then some [] else none
  | j + 1, P => if P = 0 then some [] else if P % 128 = 0 ∨ 100 < P % 128 then none else (k_names j (P / 128)).map (P % 128 :: ·)
def k_of (p : Int32) : Option (List Nat) := k_names 4 p.toBitVec.toNat
def k_ok (j : Nat) (l : List Nat) : Prop := l.length ≤ j ∧ ∀ n ∈ l, 1 ≤ n ∧ n ≤ 100
def k_path : List Nat → Nat
  | [] => 0
  | n :: t => n + 128 * k_path t
/-- the names in the highest places first -/
def k_kf : Nat → List Nat → Nat
  | 0, _ => 0
  | _ + 1, [] => 0
  | j + 1, n :: t => n * 128 ^ j + k_kf j t
abbrev k_key (l : List Nat) : Nat := k_kf 4 l
theorem k_names_some {j P : Nat} {l : List Nat} (h : k_names j P = some l) : k_ok j l ∧ P = k_path l := by
  induction j generalizing P l with
  | zero =>
    unfold k_names at h
    split at h
    · rename_i h0
      cases h
      exact ⟨⟨Nat.le_refl _, fun n hn => nomatch hn⟩, h0⟩
    · cases h
  | succ j ih =>
    unfold k_names at h
    split at h
    · rename_i h0
      cases h
      exact ⟨⟨Nat.zero_le _, fun n hn => nomatch hn⟩, h0⟩
    · split at h
      · cases h
      · rename_i h1 h2
        cases h3 : k_names j (P / 128) with
        | none => rw [h3] at h; cases h
        | some t =>
          rw [h3] at h
          cases h
          obtain ⟨⟨a1, a2⟩, a3⟩ := ih h3
          refine ⟨⟨Nat.succ_le_succ a1, fun n hn => ?_⟩, ?_⟩
          · rcases List.mem_cons.mp hn with rfl | hn
            · omega
            · exact a2 n hn
          · show P = P % 128 + 128 * k_path t
            omega
theorem k_names_path : ∀ {j : Nat} {l : List Nat}, k_ok j l → k_names j (k_path l) = some l
  | 0, [], _ => rfl
  | 0, n :: t, h => absurd h.1 (Nat.not_succ_le_zero _)
  | j + 1, [], _ => rfl
  | j + 1, n :: t, h => by
    have hn := h.2 n List.mem_cons_self
    have ih := k_names_path (j := j) (l := t) ⟨Nat.le_of_succ_le_succ h.1, fun m hm => h.2 m (List.mem_cons_of_mem _ hm)⟩
    unfold k_names
    have e1 : k_path (n :: t) = n + 128 * k_path t := rfl
    rw [if_neg (by omega), if_neg (by omega), show k_path (n :: t) / 128 = k_path t by omega, ih, show k_path (n :: t) % 128 = n by omega]
    rfl
theorem k_path_lt : ∀ {j : Nat} {l : List Nat}, k_ok j l → k_path l < 128 ^ j
  | 0, [], _ => by decide
  | 0, n :: t, h => absurd h.1 (Nat.not_succ_le_zero _)
  | j + 1, [], _ => by unfold k_path; exact Nat.pow_pos (by decide)
  | j + 1, n :: t, h => by
    have hn := h.2 n List.mem_cons_self
    have ih := k_path_lt (j := j) (l := t) ⟨Nat.le_of_succ_le_succ h.1, fun m hm => h.2 m (List.mem_cons_of_mem _ hm)⟩
    show n + 128 * k_path t < 128 ^ (j + 1)
    rw [Nat.pow_succ]
    omega
theorem k_kf_lt : ∀ {j : Nat} {l : List Nat}, k_ok j l → k_kf j l < 128 ^ j
  | 0, l, _ => by unfold k_kf; decide
  | j + 1, [], _ => by unfold k_kf; exact Nat.pow_pos (by decide)
  | j + 1, n :: t, h => by
    have hn := h.2 n List.mem_cons_self
    have ih := k_kf_lt (j := j) (l := t) ⟨Nat.le_of_succ_le_succ h.1, fun m hm => h.2 m (List.mem_cons_of_mem _ hm)⟩
    show n * 128 ^ j + k_kf j t < 128 ^ (j + 1)
    rw [Nat.pow_succ]
    have : n * 128 ^ j ≤ 100 * 128 ^ j := Nat.mul_le_mul_right _ hn.2
    omega
