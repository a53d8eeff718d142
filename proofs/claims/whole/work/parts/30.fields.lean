/-! schemas: fields in order -/
/-- a field: names, sort, low, high, slot -/
abbrev KF : Type := List Nat × Int32 × Int32 × Int32 × Nat
/-- the place of the first field with this key -/
def k_fx (k : Int32) : Nat → List KF → Int32
  | _, [] => -1
  | i, f :: t => if nI (k_key f.1) = k then nI i else k_fx k (i + 1) t
def p_idx : Option Nat → Int32
  | none => -1
  | some i => nI i
/-- the place of the field with these names -/
def k_fi : List KF → List Nat → Option Nat
  | [], _ => none
  | f :: t, m => if f.1 = m then some 0 else (k_fi t m).map (· + 1)
def k_fo (L : List KF) : Option (List Nat) → Option Nat
  | none => none
  | some m => k_fi L m
def k_okf (L : List KF) : Prop := ∀ f ∈ L, k_ok 4 f.1 ∧ f.1 ≠ []
theorem k_keyI {l m : List Nat} (hl : k_ok 4 l) (hm : k_ok 4 m) : nI (k_key l) = nI (k_key m) ↔ l = m := by
  have h1 := k_key_lt hl
  have h2 := k_key_lt hm
  constructor
  · intro h
    have h3 := congrArg (fun x : Int32 => x.toBitVec.toNat) h
    have h4 : (nI (k_key l)).toBitVec.toNat = (nI (k_key m)).toBitVec.toNat := h3
    rw [pk_tn (by omega), pk_tn (by omega)] at h4
    exact k_key_inj hl hm h4
  · rintro rfl; rfl
theorem k_fx_idx {L : List KF} (hL : k_okf L) {m : List Nat} (hm : k_ok 4 m) : ∀ i, k_fx (nI (k_key m)) i L = p_idx ((k_fi L m).map (· + i)) := by
  induction L with
  | nil => intro i; rfl
  | cons f t ih =>
    intro i
    have hf := hL f List.mem_cons_self
    have ht : k_okf t := fun f hf => hL f (List.mem_cons_of_mem _ hf)
    unfold k_fx k_fi
    by_cases h : f.1 = m
    · rw [if_pos h, if_pos ((k_keyI hf.1 hm).mpr h)]
      show nI i = nI (0 + i)
      rw [Nat.zero_add]
    · rw [if_neg h, if_neg (fun z => h ((k_keyI hf.1 hm).mp z)), ih ht (i + 1)]
      cases k_fi t m with
      | none => rfl
      | some j => show nI (j + (i + 1)) = nI (j + 1 + i); congr 1; omega
theorem k_fx_none {L : List KF} (hL : k_okf L) : ∀ i, k_fx (-1) i L = -1 := by
  induction L with
  | nil => intro i; rfl
  | cons f t ih =>
    intro i
    have hf := hL f List.mem_cons_self
    have h1 := k_key_lt hf.1
    unfold k_fx
    rw [if_neg, ih (fun f hf => hL f (List.mem_cons_of_mem _ hf))]
    intro z
    have h3 := congrArg (fun x : Int32 => x.toBitVec.toNat) z
    have h4 : (nI (k_key f.1)).toBitVec.toNat = 4294967295 := h3
    rw [pk_tn (by omega)] at h4
    omega
theorem k_fi_some {L : List KF} {m : List Nat} {i : Nat} (h : k_fi L m = some i) : i < L.length ∧ ∃ f, L[i]? = some f ∧ f.1 = m := by
  induction L generalizing i with
  | nil => cases h
  | cons f t ih =>
    unfold k_fi at h
    by_cases hf : f.1 = m
    · rw [if_pos hf] at h
      cases h
      exact ⟨by simp, f, rfl, hf⟩
    · rw [if_neg hf] at h
      cases h2 : k_fi t m with
      | none => rw [h2] at h; cases h
      | some j =>
        rw [h2] at h
        cases h
        obtain ⟨a1, f2, a2, a3⟩ := ih h2
        exact ⟨by simp; omega, f2, by simpa using a2, a3⟩
theorem k_fi_none {L : List KF} {m : List Nat} (h : k_fi L m = none) : ∀ f ∈ L, f.1 ≠ m := by
  induction L with
  | nil => intro f hf; cases hf
  | cons f t ih =>
    unfold k_fi at h
    by_cases hf : f.1 = m
    · rw [if_pos hf] at h; cases h
    · rw [if_neg hf] at h
      intro f2 hf2
      rcases List.mem_cons.mp hf2 with rfl | hf2
      · exact hf
      · exact ih (by cases h2 : k_fi t m with | none => rfl | some j => rw [h2] at h; cases h) f2 hf2
/-- is there a record type of these names -/
def k_grp (L : List KF) (m : List Nat) : Bool := decide (m = []) || L.any (fun f => decide (f.1 = m) && decide (f.2.1 = 2))
/-- how many fields lie within -/
def k_cin (L : List KF) (m : List Nat) : Nat := (L.filter (fun f => decide (f.1 ≠ m) && decide (m <+: f.1))).length
/-- may a field of these names come -/
def k_room (L : List KF) : Option (List Nat) → Bool
  | none => false
  | some m => decide (m ≠ []) && k_grp L m.dropLast && (k_fi L m).isNone
/-- distinct names -/
def k_dis (L : List KF) : Prop := (L.map (·.1)).Nodup
theorem k_grp_fi {L : List KF} (hd : k_dis L) {m : List Nat} {i : Nat} {f : KF} (h : k_fi L m = some i) (hf : L[i]? = some f) : L.any (fun f => decide (f.1 = m) && decide (f.2.1 = 2)) = decide (f.2.1 = 2) := by
  induction L generalizing i with
  | nil => cases h
  | cons e t ih =>
    have hd2 : e.1 ∉ t.map (·.1) ∧ k_dis t := by
      have : (e.1 :: t.map (·.1)).Nodup := hd
      exact List.nodup_cons.mp this
    unfold k_fi at h
    by_cases he : e.1 = m
    · rw [if_pos he] at h
      cases h
      have hfe : e = f := by simpa using hf
      subst hfe
      rw [List.any_cons]
      have : t.any (fun f => decide (f.1 = m) && decide (f.2.1 = 2)) = false := by
        rw [List.any_eq_false]
        intro f2 hf2
        have : ¬ f2.1 = m := fun z => hd2.1 (List.mem_map.mpr ⟨f2, hf2, by rw [z, he]⟩)
        simp [this]
      rw [this, Bool.or_false]
      simp [he]
    · rw [if_neg he] at h
      cases h2 : k_fi t m with
      | none => rw [h2] at h; cases h
      | some j =>
        rw [h2] at h
        cases h
        rw [List.any_cons, ih hd2.2 h2 (by simpa using hf)]
        simp [he]
theorem k_grp_no {L : List KF} {m : List Nat} (h : k_fi L m = none) : L.any (fun f => decide (f.1 = m) && decide (f.2.1 = 2)) = false := by
  rw [List.any_eq_false]
  intro f hf
  have := k_fi_none h f hf
  simp [this]
