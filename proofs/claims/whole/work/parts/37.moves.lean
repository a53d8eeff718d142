/-! taking a field out; moving what is under a name -/
theorem k_fi_at {L : List KF} (hd : k_dis L) {i : Nat} {f : KF} (hf : L[i]? = some f) : k_fi L f.1 = some i := by
  induction L generalizing i with
  | nil => cases hf
  | cons e t ih =>
    have hd2 : e.1 ∉ t.map (·.1) ∧ k_dis t := by
      have : (e.1 :: t.map (·.1)).Nodup := hd
      exact List.nodup_cons.mp this
    cases i with
    | zero =>
      have : e = f := by simpa using hf
      subst this
      unfold k_fi
      rw [if_pos rfl]
    | succ i =>
      have h2 : t[i]? = some f := by simpa using hf
      unfold k_fi
      rw [if_neg (fun z => hd2.1 (List.mem_map.mpr ⟨f, List.mem_of_getElem? h2, z.symm⟩)), ih hd2.2 h2]
      rfl
/-- the places while a field is taken out, and behind -/
def k_ov (w : Nat → Nat) (i k j : Nat) : Nat := if j < i then w j else if j < k then w (j + 1) else w j
def k_ow (w : Nat → Nat) (i n j : Nat) : Nat := if j < i then w j else if j < n then w (j + 1) else if j = n then w i else w j
theorem k_ow_inj {w : Nat → Nat} {i n : Nat} (hi : i ≤ n) (hn : n < 24) (hw : ∀ p q, p < 24 → q < 24 → w p = w q → p = q) : ∀ p q, p < 24 → q < 24 → k_ow w i n p = k_ow w i n q → p = q := by
  intro p q hp hq h
  unfold k_ow at h
  by_cases p1 : p < i <;> by_cases q1 : q < i
  all_goals try rw [if_pos p1] at h
  all_goals try rw [if_neg p1] at h
  all_goals try rw [if_pos q1] at h
  all_goals try rw [if_neg q1] at h
  · exact hw p q hp hq h
  all_goals by_cases p2 : p < n <;> by_cases q2 : q < n
  all_goals try rw [if_pos p2] at h
  all_goals try rw [if_neg p2] at h
  all_goals try rw [if_pos q2] at h
  all_goals try rw [if_neg q2] at h
  all_goals by_cases p3 : p = n <;> by_cases q3 : q = n
  all_goals try rw [if_pos p3] at h
  all_goals try rw [if_neg p3] at h
  all_goals try rw [if_pos q3] at h
  all_goals try rw [if_neg q3] at h
  all_goals first | omega | (have := hw _ _ (by omega) (by omega) h; omega)
theorem k_kf_app : ∀ (j : Nat) (m r : List Nat), m.length ≤ j → k_kf j (m ++ r) = k_kf j m + k_kf (j - m.length) r
  | j, [], r, _ => by
    have : k_kf j [] = 0 := by cases j <;> rfl
    simp [this]
  | 0, _ :: _, _, h => absurd h (by simp)
  | j + 1, n :: t, r, h => by
    have ih := k_kf_app j t r (Nat.le_of_succ_le_succ h)
    show n * 128 ^ j + k_kf j (t ++ r) = n * 128 ^ j + k_kf j t + k_kf (j + 1 - (t.length + 1)) r
    rw [ih, Nat.add_sub_add_right, Nat.add_assoc]
theorem k_kf_up : ∀ (r : List Nat) (j d : Nat), r.length ≤ j → k_kf (j + d) r = k_kf j r * 128 ^ d
  | [], j, d, _ => by
    have h1 : k_kf (j + d) [] = 0 := by cases j + d <;> rfl
    have h2 : k_kf j [] = 0 := by cases j <;> rfl
    rw [h1, h2, Nat.zero_mul]
  | n :: t, 0, d, h => absurd h (by simp)
  | n :: t, j + 1, d, h => by
    have ih := k_kf_up t j d (Nat.le_of_succ_le_succ h)
    rw [show j + 1 + d = (j + d) + 1 by omega]
    show n * 128 ^ (j + d) + k_kf (j + d) t = (n * 128 ^ j + k_kf j t) * 128 ^ d
    rw [ih, Nat.add_mul, Nat.mul_assoc, ← Nat.pow_add]
/-- a field that lies under m lies under m' then -/
def k_mn (m m' l : List Nat) : List Nat := if m <+: l then m' ++ l.drop m.length else l
def k_mf (m m' : List Nat) (f : KF) : KF := (k_mn m m' f.1, f.2)
theorem k_mn_ok {m m' l : List Nat} (hm' : k_ok 4 m') (hl : k_ok 4 l) (hle : m'.length ≤ m.length) : k_ok 4 (k_mn m m' l) := by
  unfold k_mn
  split
  · rename_i h
    have := h.length_le
    have := hl.1
    refine ⟨by rw [List.length_append, List.length_drop]; omega, fun n hn => ?_⟩
    rcases List.mem_append.mp hn with h | h
    · exact hm'.2 n h
    · exact hl.2 n (List.mem_of_mem_drop h)
  · exact hl
theorem k_mn_ne {m m' l : List Nat} (h0 : m' ≠ []) (hl : l ≠ []) : k_mn m m' l ≠ [] := by
  unfold k_mn
  split
  · simp [h0]
  · exact hl
theorem k_mn_key {m m' l : List Nat} (hm : k_ok 4 m) (hm' : k_ok 4 m') (hl : k_ok 4 l) (hle : m'.length ≤ m.length) (hp : m <+: l) : ∃ q, k_key m' = q * 2 ^ k_sh m' ∧ k_key l % 2 ^ k_sh m * 2 ^ (k_sh m' - k_sh m) < 2 ^ k_sh m' ∧ k_key (k_mn m m' l) = k_key m' + k_key l % 2 ^ k_sh m * 2 ^ (k_sh m' - k_sh m) := by
  obtain ⟨r, rfl⟩ := hp
  have h4 := hm.1
  have h5 := hm'.1
  have h6 := hl.1
  rw [List.length_append] at h6
  obtain ⟨q, hq⟩ := k_kf_mul 4 m' hm'.1
  obtain ⟨p, hp⟩ := k_kf_mul 4 m hm.1
  have hr : k_ok (4 - m.length) r := ⟨by omega, fun n hn => hl.2 n (List.mem_append_right _ hn)⟩
  have hlt := k_kf_lt hr
  have e1 : (2 : Nat) ^ k_sh m = 128 ^ (4 - m.length) := by rw [k_sh, Nat.pow_mul]
  have e2 : (2 : Nat) ^ k_sh m' = 128 ^ (4 - m'.length) := by rw [k_sh, Nat.pow_mul]
  have e3 : (2 : Nat) ^ (k_sh m' - k_sh m) = 128 ^ (m.length - m'.length) := by
    rw [show k_sh m' - k_sh m = 7 * (m.length - m'.length) by rw [k_sh, k_sh]; omega, Nat.pow_mul]
  have e4 : (128 : Nat) ^ (4 - m'.length) = 128 ^ (4 - m.length) * 128 ^ (m.length - m'.length) := by rw [← Nat.pow_add]; congr 1; omega
  have e5 : k_key (m ++ r) % 2 ^ k_sh m = k_kf (4 - m.length) r := by
    rw [k_key, k_kf_app 4 m r hm.1, hp, e1, Nat.add_comm, Nat.add_mul_mod_self_right, Nat.mod_eq_of_lt hlt]
  refine ⟨q, by rw [e2]; exact hq, ?_, ?_⟩
  · rw [e5, e2, e3, e4]
    exact Nat.mul_lt_mul_of_pos_right hlt (Nat.pow_pos (by decide))
  · have e6 : k_mn m m' (m ++ r) = m' ++ r := by
      unfold k_mn
      rw [if_pos (List.prefix_append m r), List.drop_left]
    rw [e6, e5, e3, k_key, k_kf_app 4 m' r hm'.1, show 4 - m'.length = (4 - m.length) + (m.length - m'.length) by omega, k_kf_up r _ _ hr.1]
