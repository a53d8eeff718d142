/-! the law's start: both objects and the long array are made -/
section LStart
variable {g : q_G}
theorem q_L.cong {ci : Nat} {tb : List (Nat × Nat × Nat × Nat)} {a N : Nat} {T T2 : q_T} {R R2 : q_R} (h : q_L ci tb a T R) (hN : ∀ fk off kd n, tb.lookup fk = some (off, kd, n) → off ≤ N) (hT : ∀ b, a ≤ b → b ≤ a + N → T2 b = T b ∧ R2 b = R b) : q_L ci tb a T2 R2 := by
  refine ⟨(hT a (by omega) (by omega)).1.trans h.1, fun fk off kd n z => ?_⟩
  have h1 := hN fk off kd n z
  obtain ⟨h2, h3⟩ := h.2 fk off kd n z
  exact ⟨by rw [(hT a (by omega) (by omega)).2]; exact h2, (hT (a + off) (by omega) (by omega)).1.trans h3⟩
theorem q_lkN {tb : List (Nat × Nat × Nat × Nat)} {N : Nat} (h : (tb.all fun r => decide (r.2.1 ≤ N)) = true) : ∀ fk off kd n, tb.lookup fk = some (off, kd, n) → off ≤ N := by
  induction tb with
  | nil => intro fk off kd n z; cases z
  | cons r t ih =>
    intro fk off kd n z
    obtain ⟨f, q⟩ := r
    rw [List.all_cons, Bool.and_eq_true] at h
    rw [List.lookup_cons] at z
    by_cases hf : fk = f
    · subst hf
      simp only [beq_self_eq_true] at z
      cases z
      exact of_decide_eq_true h.1
    · rw [show (fk == f) = false by simpa using hf] at z
      exact ih h.2 fk off kd n z
theorem s_new.cong {s : Nat} {T T2 : q_T} {R R2 : q_R} (h : s_new s T R) (hT : ∀ b, s ≤ b → b ≤ s + 25 → T2 b = T b ∧ R2 b = R b) : s_new s T2 R2 :=
  ⟨h.1.cong (N := 1) (q_lkN rfl) (fun b h1 h2 => hT b h1 (by omega)), fun i hi => ⟨by rw [(hT (s + 1) (by omega) (by omega)).2]; exact (h.2 i hi).1, (hT (s + 2 + i) (by omega) (by omega)).1.trans (h.2 i hi).2⟩⟩
theorem r_new.cong {s : Nat} {T T2 : q_T} {R R2 : q_R} (h : r_new s T R) (hT : ∀ b, s ≤ b → b ≤ s + 7 → T2 b = T b ∧ R2 b = R b) : r_new s T2 R2 :=
  ⟨h.1.cong (N := 6) (q_lkN rfl) (fun b h1 h2 => hT b h1 (by omega)), h.2.1.cong (N := 1) (q_lkN rfl) (fun b h1 h2 => hT b (by omega) (by omega)), h.2.2.1.cong (N := 1) (q_lkN rfl) (fun b h1 h2 => hT b (by omega) (by omega)), h.2.2.2.cong (N := 1) (q_lkN rfl) (fun b h1 h2 => hT b (by omega) (by omega))⟩
theorem x_new.cong {x : Nat} {T T2 : q_T} {R R2 : q_R} (h : x_new x T R) (hT : ∀ b, x ≤ b → b < x + 83 → T2 b = T b ∧ R2 b = R b) : x_new x T2 R2 := by
  obtain ⟨h1, h2, h3, h4, h5, h6, h7, h8, h9, h10, h11⟩ := h
  refine ⟨h1.cong (N := 72) (q_lkN rfl) (fun b a1 a2 => hT b (by omega) (by omega)), ?_, h3.cong (N := 4) (q_lkN rfl) (fun b a1 a2 => hT b (by omega) (by omega)), ?_, h5.cong (fun b a1 a2 => hT b (by omega) (by omega)), h6.cong (N := 27) (q_lkN rfl) (fun b a1 a2 => hT b (by omega) (by omega)), h7.cong (fun b a1 a2 => hT b (by omega) (by omega)), h8.cong (fun b a1 a2 => hT b (by omega) (by omega)), h9.cong (N := 1) (q_lkN rfl) (fun b a1 a2 => hT b (by omega) (by omega)), h10.cong (N := 1) (q_lkN rfl) (fun b a1 a2 => hT b (by omega) (by omega)), h11.cong (N := 10) (q_lkN rfl) (fun b a1 a2 => hT b (by omega) (by omega))⟩
  · rw [(hT x (by omega) (by omega)).2]; exact h2
  · rw [(hT (x + 2) (by omega) (by omega)).2]; exact h4
/-- the heap when the law's loop begins: x the class's object, x + 83 the reference, x + 113 the long array -/
def q_Start (b x L : Nat) (f : Int32 → Int32) (sz : Nat) (T : q_T) (I : q_I) (R : q_R) : Prop :=
  sz = x + 114 ∧ b < x ∧ q_Lw b x L f T I ∧ x_new x T R ∧ q_L 11 t_Model (x + 83) T R ∧
  (∀ a i, a ≠ b → a ≠ x + 83 → a ≠ x + 93 → I a i = if a = x + 1 ∧ i = nI 1 then nI 1 else 0) ∧ I (x + 83) (nI 1) = nI 1 ∧ (∀ k, k < 39 → k ≠ 1 → I (x + 83) (nI k) = 0) ∧ (∀ k, k < 16 → I (x + 93) (nI k) = -1) ∧
  (∀ i, R (x + 3) i = none) ∧ (∀ i, R (x + 59) i = none) ∧ (∀ i, R (x + 60) i = none) ∧ (∀ i, i ≠ nI 0 → R (x + 2) i = none) ∧ ∀ a, x + 114 ≤ a → T a = none
theorem q_lawV_of (Inv : Nat → Nat → Nat → (Int32 → Int32) → q_Inv) (h0 : ∀ b x L f sz T I R, L ≤ 3072 → q_Start b x L f sz T I R → Inv b x L f (L / 6) sz T I R)
    (hLw : ∀ b x L f n sz T I R, Inv b x L f n sz T I R → q_Lw b x L f T I) (hmono : ∀ b x L f n sz T I R, Inv b x L f (n + 1) sz T I R → Inv b x L f n sz T I R)
    (hops : ∀ g : q_G, q_Gl g → q_NC g → ∀ b x L f, q_Ops g b x L f (Inv b x L f)) : q_LawV := by
  intro g hG hNC b L xs hL hb
  obtain ⟨sz, hsz⟩ : ∃ sz, sz = (q_s0 g).heap.size := ⟨_, rfl⟩
  rw [← hsz] at hb
  unfold q_h0
  rw [← hsz]
  obtain ⟨T0, hT0⟩ : ∃ T0 : q_T, T0 = fun a => if a = b then some (50, L) else none := ⟨_, rfl⟩
  obtain ⟨I0, hI0⟩ : ∃ I0 : q_I, I0 = fun a i => if a = b then xs i.toNatClampNeg else 0 := ⟨_, rfl⟩
  obtain ⟨R0, hR0⟩ : ∃ R0 : q_R, R0 = fun _ _ => none := ⟨_, rfl⟩
  obtain ⟨J0, hJ0⟩ : ∃ J0 : q_J, J0 = fun _ _ => 0 := ⟨_, rfl⟩
  rw [← hT0, ← hI0, ← hR0, ← hJ0]
  have tb : T0 b = some (50, L) := by rw [hT0]; exact if_pos rfl
  have rn : ∀ a i, R0 a i = none := fun a i => by rw [hR0]
  have i0 : ∀ a i, a ≠ b → I0 a i = 0 := fun a i h => by rw [hI0]; exact if_neg h
  refine q_newN (ci := 10) (N := 7) d_Law_law_0 rfl rfl w_24 w_25 w_1 (by omega) (by omega) ?_
  refine q_dup d_Law_law_3 rfl ?_
  refine q_callIv (M2 := M_Lens_init) d_Law_law_4 ⟨(Nat.le_of_ble_eq_true rfl), (Nat.le_of_ble_eq_true rfl), w_28, w_1, ⟨by decide, by decide⟩, show _ = some 0 by decide +kernel⟩ rfl rfl rfl w_26 w_27 rfl (Nat.le_of_ble_eq_true rfl) (by omega) (by omega) (c_Lens_init sz rfl q_upT_self) ?_
  rintro _ ⟨T1, R1, rfl, hx, h1, h2, h3, h4, h5, h6⟩
  refine q_astore_n d_Law_law_7 rfl (Nat.le_of_ble_eq_true rfl) (by first | exact q_ok0 | exact q_okI rfl | exact q_okR rfl | exact q_okN rfl) rfl ?_
  refine q_newN (ci := 11) (N := 39) d_Law_law_8 rfl rfl w_1098 w_1099 w_10 (by omega) (by omega) ?_
  refine q_dup d_Law_law_11 rfl ?_
  refine q_callIv (M2 := M_Model_init) d_Law_law_12 ⟨(Nat.le_of_ble_eq_true rfl), (Nat.le_of_ble_eq_true rfl), w_1102, w_10, ⟨by decide, by decide⟩, show _ = some 0 by decide +kernel⟩ rfl rfl rfl w_1100 w_1101 rfl (Nat.le_of_ble_eq_true rfl) (by omega) (by omega) (c_Model_init (sz + 83) rfl q_upT_self) ?_
  rintro _ ⟨T2, I2, R2, rfl, hm, g1, g2, g3, g4, g5, g6⟩
  refine q_astore_n d_Law_law_15 rfl (Nat.le_of_ble_eq_true rfl) (by first | exact q_ok0 | exact q_okI rfl | exact q_okR rfl | exact q_okN rfl) rfl ?_
  refine q_iconst (v := nI 1) d_Law_law_16 (by decide) ?_
  refine q_newa (ty := .int) (kd := 1) (N := 1) d_Law_law_17 (Or.inr ⟨rfl, rfl⟩) w_1518 rfl (by omega) (by omega) (by omega) ?_
  refine q_astore_n d_Law_law_19 rfl (Nat.le_of_ble_eq_true rfl) (by first | exact q_ok0 | exact q_okI rfl | exact q_okR rfl | exact q_okN rfl) rfl ?_
  refine q_iconst (v := nI 0) d_Law_law_20 (by decide) ?_
  refine q_istore d_Law_law_21 (Nat.le_of_ble_eq_true rfl) (by first | exact q_ok0 | exact q_okI rfl | exact q_okR rfl | exact q_okN rfl) rfl ?_
  refine q_loop (x := sz) (f := I0 b) hNC (hLw b sz L (I0 b)) (hmono b sz L (I0 b)) hL (hops g hG hNC b sz L (I0 b)) (L / 6) 0 _ _ _ _ _ _ _ none none (by omega) (by omega) (by omega) (by omega) (h0 b sz L (I0 b) _ _ _ _ hL ?_)
  have tl : ∀ a, a < sz + 83 → T2 a = T1 a := fun a ha => by rw [(g1 a ha).1, q_upT_ne (by omega)]
  have rl : ∀ a, a < sz + 83 → R2 a = R1 a := fun a ha => (g1 a ha).2
  have il : ∀ a i, a ≠ sz + 83 → a ≠ sz + 93 → I2 a i = q_upI I0 (sz + 1) (nI 1) (nI 1) a i := fun a i a1 a2 => g3 a i a1 (by omega)
  have ib : I2 b = I0 b := by
    funext i
    rw [il b i (by omega) (by omega), q_upI_nea (by omega)]
  refine ⟨by omega, hb, ⟨?_, ib, ?_, ?_, ?_⟩, ?_, ?_, ?_, g4, ?_, g6, ?_, ?_, ?_, ?_, ?_⟩
  · rw [q_upT_ne (by omega), tl b (by omega), (h1 b hb).1, q_upT_ne (by omega), tb]
  · rw [q_upT_ne (by omega), tl sz (by omega)]; exact hx.1.1
  · rw [q_upT_ne (by omega)]; exact hm.1
  · exact q_upT_self
  · exact hx.cong (fun a a1 a2 => ⟨by rw [q_upT_ne (by omega), tl a (by omega)], rl a (by omega)⟩)
  · exact hm.cong (N := 29) (q_lkN rfl) (fun a a1 a2 => ⟨by rw [q_upT_ne (by omega)], rfl⟩)
  · intro a i a1 a2 a3
    rw [il a i a2 a3]
    by_cases h : a = sz + 1 ∧ i = nI 1
    · rw [if_pos h, h.1, h.2, q_upI_self]
    · rw [if_neg h]
      unfold q_upI
      rw [if_neg h, i0 a i a1]
  · intro k k1 k2
    rw [g5 k k1 k2, q_upI_nea (by omega), i0 _ _ (by omega)]
  · intro i; rw [rl _ (by omega), h3 i, rn]
  · intro i; rw [rl _ (by omega), h4 i, rn]
  · intro i; rw [rl _ (by omega), h5 i, rn]
  · intro i hi; rw [rl _ (by omega), h6 i hi, rn]
  · intro a ha
    rw [q_upT_ne (by omega), (g2 a (by omega)).1, q_upT_ne (by omega), (h2 a (by omega)).1, q_upT_ne (by omega), hT0]
    exact if_neg (by omega)
end LStart
