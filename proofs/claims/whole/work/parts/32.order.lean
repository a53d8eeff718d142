/-! moving a field down in its list; order -/
def k_mvl (L : List KF) (i a : Nat) (f : KF) : List KF := L.take a ++ f :: ((L.take i).drop a ++ L.drop (i + 1))
/-- the places while a field goes down, and behind -/
def k_v (w : Nat → Nat) (i a j : Nat) : Nat := if j ≤ a then w j else if j ≤ i then w (j - 1) else w j
def k_w (w : Nat → Nat) (i a j : Nat) : Nat := if j < a then w j else if j = a then w i else if j ≤ i then w (j - 1) else w j
theorem k_mvl_at {L : List KF} {i a : Nat} {f : KF} (hf : L[i]? = some f) (ha : a ≤ i) (j : Nat) : (k_mvl L i a f)[j]? = if j < a then L[j]? else if j = a then some f else if j ≤ i then L[j - 1]? else L[j]? := by
  have hi : i < L.length := (List.getElem?_eq_some_iff.mp hf).1
  unfold k_mvl
  by_cases h1 : j < a
  · rw [if_pos h1, List.getElem?_append_left (by rw [List.length_take]; omega), List.getElem?_take_of_lt h1]
  · rw [if_neg h1, List.getElem?_append_right (by rw [List.length_take]; omega), List.length_take, Nat.min_eq_left (by omega)]
    by_cases h2 : j = a
    · rw [if_pos h2, h2, Nat.sub_self]; rfl
    · rw [if_neg h2]
      obtain ⟨d, rfl⟩ : ∃ d, j = a + d + 1 := ⟨j - a - 1, by omega⟩
      rw [show a + d + 1 - a = d + 1 by omega, List.getElem?_cons_succ]
      by_cases h3 : a + d + 1 ≤ i
      · rw [if_pos h3, List.getElem?_append_left (by rw [List.length_drop, List.length_take]; omega), List.getElem?_drop, List.getElem?_take_of_lt (by omega), Nat.add_sub_cancel]
      · rw [if_neg h3, List.getElem?_append_right (by rw [List.length_drop, List.length_take]; omega), List.length_drop, List.length_take, Nat.min_eq_left (by omega), List.getElem?_drop]
        congr 1; omega
theorem k_split3 {L : List KF} {i a : Nat} {f : KF} (hf : L[i]? = some f) (ha : a ≤ i) : L = L.take a ++ ((L.take i).drop a ++ f :: L.drop (i + 1)) := by
  have hi : i < L.length := (List.getElem?_eq_some_iff.mp hf).1
  have h1 : L.take i = L.take a ++ (L.take i).drop a := by
    have := (List.take_append_drop a (L.take i)).symm
    rwa [List.take_take, Nat.min_eq_left ha] at this
  have h2 : L.drop i = f :: L.drop (i + 1) := by
    rw [List.drop_eq_getElem_cons hi]
    congr 1
    exact (List.getElem?_eq_some_iff.mp hf).2
  calc L = L.take i ++ L.drop i := (List.take_append_drop i L).symm
    _ = (L.take a ++ (L.take i).drop a) ++ (f :: L.drop (i + 1)) := by rw [← h1, h2]
    _ = _ := by rw [List.append_assoc]
theorem k_mvl_perm {L : List KF} {i a : Nat} {f : KF} (hf : L[i]? = some f) (ha : a ≤ i) : (k_mvl L i a f).Perm L := by
  have h := k_split3 hf ha
  unfold k_mvl
  have h2 : (L.take a ++ f :: ((L.take i).drop a ++ L.drop (i + 1))).Perm (L.take a ++ ((L.take i).drop a ++ f :: L.drop (i + 1))) := (List.perm_append_left_iff _).mpr List.perm_middle.symm
  rw [← h] at h2
  exact h2
abbrev k_le (f e : KF) : Prop := k_key f.1 ≤ k_key e.1
def k_srt (L : List KF) : Prop := L.Pairwise k_le
theorem k_mvl_srt {L : List KF} {i a : Nat} {f : KF} (hf : L[i]? = some f) (ha : a ≤ i) (hs : k_srt (L.take i)) (hlo : ∀ e ∈ L.take a, k_le e f) (hhi : ∀ e ∈ (L.take i).drop a, k_le f e) : k_srt ((k_mvl L i a f).take (i + 1)) := by
  have hi : i < L.length := (List.getElem?_eq_some_iff.mp hf).1
  have e : (k_mvl L i a f).take (i + 1) = L.take a ++ f :: (L.take i).drop a := by
    unfold k_mvl
    rw [show L.take a ++ f :: ((L.take i).drop a ++ L.drop (i + 1)) = (L.take a ++ f :: (L.take i).drop a) ++ L.drop (i + 1) by simp]
    have hl : (L.take a ++ f :: (L.take i).drop a).length = i + 1 := by simp; omega
    rw [← hl, List.take_left]
  rw [e]
  have h1 : L.take i = L.take a ++ (L.take i).drop a := by
    have := (List.take_append_drop a (L.take i)).symm
    rwa [List.take_take, Nat.min_eq_left ha] at this
  unfold k_srt at hs ⊢
  rw [h1, List.pairwise_append] at hs
  rw [List.pairwise_append, List.pairwise_cons]
  refine ⟨hs.1, ⟨hhi, hs.2.1⟩, fun x hx y hy => ?_⟩
  rcases List.mem_cons.mp hy with rfl | hy
  · exact hlo x hx
  · exact hs.2.2 x hx y hy
/-- all below the place before are not above what stands there -/
theorem k_srt_lo {L : List KF} {i a : Nat} {e : KF} (hs : k_srt (L.take i)) (ha : a < i) (he : L[a]? = some e) : ∀ x ∈ L.take (a + 1), k_le x e := by
  intro x hx
  obtain ⟨j, hj, hxj⟩ := List.mem_iff_getElem.mp hx
  rw [List.length_take] at hj
  rw [List.getElem_take] at hxj
  have hal : a < L.length := (List.getElem?_eq_some_iff.mp he).1
  have hea : L[a] = e := (List.getElem?_eq_some_iff.mp he).2
  by_cases hja : j = a
  · subst hja
    rw [← hxj, hea]; exact Nat.le_refl _
  · have := List.pairwise_iff_getElem.mp hs j a (by rw [List.length_take]; omega) (by rw [List.length_take]; omega) (by omega)
    rw [List.getElem_take, List.getElem_take, hxj, hea] at this
    exact this
theorem k_w_inj {w : Nat → Nat} {i a : Nat} (ha : a ≤ i) (hi : i < 24) (hw : ∀ p q, p < 24 → q < 24 → w p = w q → p = q) : ∀ p q, p < 24 → q < 24 → k_w w i a p = k_w w i a q → p = q := by
  intro p q hp hq h
  unfold k_w at h
  by_cases p1 : p < a <;> by_cases q1 : q < a
  all_goals try rw [if_pos p1] at h
  all_goals try rw [if_neg p1] at h
  all_goals try rw [if_pos q1] at h
  all_goals try rw [if_neg q1] at h
  · exact hw p q hp hq h
  all_goals by_cases p2 : p = a <;> by_cases q2 : q = a
  all_goals try rw [if_pos p2] at h
  all_goals try rw [if_neg p2] at h
  all_goals try rw [if_pos q2] at h
  all_goals try rw [if_neg q2] at h
  all_goals by_cases p3 : p ≤ i <;> by_cases q3 : q ≤ i
  all_goals try rw [if_pos p3] at h
  all_goals try rw [if_neg p3] at h
  all_goals try rw [if_pos q3] at h
  all_goals try rw [if_neg q3] at h
  all_goals first | omega | (have := hw _ _ (by omega) (by omega) h; omega)
