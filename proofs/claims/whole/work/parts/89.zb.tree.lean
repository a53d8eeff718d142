/-! clash: terms, as rows of tokens; tables of terms -/
section Tree
/-- a token: kind, length of the first part, number, a, b, low, high -/
abbrev KT : Type := List (Nat × Nat × Int32 × Int32 × Int32 × Int32 × Int32)
def z_t0 : Nat × Nat × Int32 × Int32 × Int32 × Int32 × Int32 := (0, 0, 0, 0, 0, 0, 0)
def z_k (t : KT) : Nat := (t.headD z_t0).1
def z_n (t : KT) : Nat := (t.headD z_t0).2.1
def z_x (t : KT) : Int32 := (t.headD z_t0).2.2.1
def z_a (t : KT) : Int32 := (t.headD z_t0).2.2.2.1
def z_b (t : KT) : Int32 := (t.headD z_t0).2.2.2.2.1
def z_lo (t : KT) : Int32 := (t.headD z_t0).2.2.2.2.2.1
def z_hi (t : KT) : Int32 := (t.headD z_t0).2.2.2.2.2.2
def z_c1 (t : KT) : KT := if z_k t = 7 then t.tail.take (z_n t) else t.tail
def z_c2 (t : KT) : KT := t.tail.drop (z_n t)
def z_lf (k : Nat) (x : Int32) : KT := [(k, 0, x, 0, 0, 0, 0)]
def z_u1 (k : Nat) (t : KT) (a b lo hi : Int32) : KT := (k, 0, 0, a, b, lo, hi) :: t
def z_u2 (t u : KT) (a : Int32) : KT := (7, t.length, 0, a, 0, 0, 0) :: (t ++ u)
/-- a term is in order -/
def z_ok (t : KT) : Prop := z_k t ≤ 11 ∧ (z_k t ≤ 2 → t = z_lf (z_k t) (z_x t)) ∧ (3 ≤ z_k t → z_k t ≠ 7 → t = z_u1 (z_k t) (z_c1 t) (z_a t) (z_b t) (z_lo t) (z_hi t)) ∧ (z_k t = 7 → t = z_u2 (z_c1 t) (z_c2 t) (z_a t))
theorem z_ok_lf {k : Nat} (hk : k ≤ 2) (x : Int32) : z_ok (z_lf k x) := ⟨by show k ≤ 11; omega, fun _ => rfl, fun h => absurd (show 3 ≤ k from h) (by omega), fun h => absurd (show k = 7 from h) (by omega)⟩
theorem z_c1_u1 {k : Nat} (hk : k ≠ 7) (t : KT) (a b lo hi : Int32) : z_c1 (z_u1 k t a b lo hi) = t := by
  show (if k = 7 then _ else _) = t
  rw [if_neg hk]; rfl
theorem z_ok_u1 {k : Nat} (h3 : 3 ≤ k) (h11 : k ≤ 11) (h7 : k ≠ 7) (t : KT) (a b lo hi : Int32) : z_ok (z_u1 k t a b lo hi) := by
  refine ⟨h11, fun h => absurd (show k ≤ 2 from h) (by omega), fun _ _ => ?_, fun h => absurd (show k = 7 from h) h7⟩
  rw [z_c1_u1 h7]; rfl
theorem z_c1_u2 (t u : KT) (a : Int32) : z_c1 (z_u2 t u a) = t := by
  show (t ++ u).take t.length = t
  exact List.take_left
theorem z_c2_u2 (t u : KT) (a : Int32) : z_c2 (z_u2 t u a) = u := by
  show (t ++ u).drop t.length = u
  exact List.drop_left
theorem z_ok_u2 (t u : KT) (a : Int32) : z_ok (z_u2 t u a) := by
  refine ⟨by show 7 ≤ 11; omega, fun h => absurd (show 7 ≤ 2 from h) (by omega), fun _ h => absurd (show (7 : Nat) = 7 from rfl) h, fun _ => ?_⟩
  rw [z_c1_u2, z_c2_u2]; rfl
/-- its parts stand in the table -/
def z_cl (tb : List KT) (t : KT) : Prop := (3 ≤ z_k t → z_c1 t ∈ tb) ∧ (z_k t = 7 → z_c2 t ∈ tb)
def z_tok (tb : List KT) : Prop := tb.Nodup ∧ ∀ t ∈ tb, z_ok t ∧ z_cl tb t
def z_e1 (tb : List KT) (t : KT) : Int32 := if z_k t ≤ 2 then z_x t else nI (tb.idxOf (z_c1 t))
def z_e2 (tb : List KT) (t : KT) : Int32 := if z_k t = 7 then nI (tb.idxOf (z_c2 t)) else 0
theorem z_ix {tb : List KT} {t : KT} (h : t ∈ tb) : tb[tb.idxOf t]? = some t := by
  have h1 := List.idxOf_lt_length_of_mem h
  rw [List.getElem?_eq_getElem h1, List.getElem_idxOf h1]
theorem z_ix_lt {tb : List KT} {t : KT} (h : t ∈ tb) : tb.idxOf t < tb.length := List.idxOf_lt_length_of_mem h
theorem z_ix_inj {tb : List KT} {t u : KT} (ht : t ∈ tb) (hu : u ∈ tb) (h : tb.idxOf t = tb.idxOf u) : t = u := by
  have h1 := z_ix ht
  rw [h, z_ix hu] at h1
  exact (Option.some.inj h1).symm
theorem z_ix_at {tb : List KT} (hn : tb.Nodup) {i : Nat} {t : KT} (h : tb[i]? = some t) : tb.idxOf t = i := by
  obtain ⟨h1, h2⟩ := List.getElem?_eq_some_iff.mp h
  rw [← h2]
  exact List.Nodup.idxOf_getElem hn i h1
theorem z_inj {tb : List KT} (h31 : tb.length < 2 ^ 31) {t u : KT} (ht : z_ok t) (hu : z_ok u) (ct : z_cl tb t) (cu : z_cl tb u) (hk : z_k t = z_k u) (h1 : z_e1 tb t = z_e1 tb u) (h2 : z_e2 tb t = z_e2 tb u) (ha : z_a t = z_a u) (hb : z_b t = z_b u) (hl : z_lo t = z_lo u) (hh : z_hi t = z_hi u) : t = u := by
  by_cases k2 : z_k t ≤ 2
  · unfold z_e1 at h1
    rw [if_pos k2, if_pos (by rw [← hk]; exact k2)] at h1
    rw [ht.2.1 k2, hu.2.1 (by rw [← hk]; exact k2), hk, h1]
  · have c1 : z_c1 t = z_c1 u := by
      unfold z_e1 at h1
      rw [if_neg k2, if_neg (by rw [← hk]; exact k2)] at h1
      have m1 := ct.1 (by omega)
      have m2 := cu.1 (by omega)
      have i1 := z_ix_lt m1
      have i2 := z_ix_lt m2
      exact z_ix_inj m1 m2 ((nI_eq (by omega) (by omega)).mp h1)
    by_cases k7 : z_k t = 7
    · have c2 : z_c2 t = z_c2 u := by
        unfold z_e2 at h2
        rw [if_pos k7, if_pos (by rw [← hk]; exact k7)] at h2
        have m1 := ct.2 k7
        have m2 := cu.2 (by rw [← hk]; exact k7)
        have i1 := z_ix_lt m1
        have i2 := z_ix_lt m2
        exact z_ix_inj m1 m2 ((nI_eq (by omega) (by omega)).mp h2)
      rw [ht.2.2.2 k7, hu.2.2.2 (by rw [← hk]; exact k7), c1, c2, ha]
    · rw [ht.2.2.1 (by omega) k7, hu.2.2.1 (by omega) (by rw [← hk]; exact k7), hk, c1, ha, hb, hl, hh]
/-- a term comes into the table -/
def z_add (tb : List KT) (t : KT) : List KT := if t ∈ tb then tb else tb ++ [t]
def z_ex (tb tb' : List KT) : Prop := ∃ e, tb' = tb ++ e
theorem z_ex.refl (tb : List KT) : z_ex tb tb := ⟨[], (List.append_nil tb).symm⟩
theorem z_ex.trans {a b c : List KT} (h : z_ex a b) (h2 : z_ex b c) : z_ex a c := by
  obtain ⟨e, rfl⟩ := h
  obtain ⟨e2, rfl⟩ := h2
  exact ⟨e ++ e2, List.append_assoc a e e2⟩
theorem z_ex.mem {a b : List KT} (h : z_ex a b) {t : KT} (ht : t ∈ a) : t ∈ b := by
  obtain ⟨e, rfl⟩ := h
  exact List.mem_append_left _ ht
theorem z_ex.ix {a b : List KT} (h : z_ex a b) {t : KT} (ht : t ∈ a) : b.idxOf t = a.idxOf t := by
  obtain ⟨e, rfl⟩ := h
  rw [List.idxOf_append, if_pos ht]
theorem z_ex.e1 {a b : List KT} (h : z_ex a b) {t : KT} (ht : z_cl a t) : z_e1 b t = z_e1 a t := by
  unfold z_e1
  by_cases k2 : z_k t ≤ 2
  · rw [if_pos k2, if_pos k2]
  · rw [if_neg k2, if_neg k2, h.ix (ht.1 (by omega))]
theorem z_ex.e2 {a b : List KT} (h : z_ex a b) {t : KT} (ht : z_cl a t) : z_e2 b t = z_e2 a t := by
  unfold z_e2
  by_cases k7 : z_k t = 7
  · rw [if_pos k7, if_pos k7, h.ix (ht.2 k7)]
  · rw [if_neg k7, if_neg k7]
theorem z_ex.cl {a b : List KT} (h : z_ex a b) {t : KT} (ht : z_cl a t) : z_cl b t := ⟨fun z => h.mem (ht.1 z), fun z => h.mem (ht.2 z)⟩
theorem z_add_ex (tb : List KT) (t : KT) : z_ex tb (z_add tb t) := by
  unfold z_add
  split
  · exact z_ex.refl tb
  · exact ⟨[t], rfl⟩
theorem z_add_mem (tb : List KT) (t : KT) : t ∈ z_add tb t := by
  unfold z_add
  split
  · assumption
  · exact List.mem_append_right _ (List.mem_singleton.mpr rfl)
theorem z_add_len (tb : List KT) (t : KT) : (z_add tb t).length ≤ tb.length + 1 := by
  unfold z_add
  split
  · omega
  · rw [List.length_append]; simp
theorem z_add_tok {tb : List KT} {t : KT} (h : z_tok tb) (ht : z_ok t) (hc : z_cl tb t) : z_tok (z_add tb t) := by
  have hex := z_add_ex tb t
  have hm : ∀ u ∈ z_add tb t, u ∈ tb ∨ u = t := fun u hu => by
    unfold z_add at hu
    by_cases h1 : t ∈ tb
    · rw [if_pos h1] at hu; exact Or.inl hu
    · rw [if_neg h1] at hu
      rcases List.mem_append.mp hu with z | z
      · exact Or.inl z
      · exact Or.inr (List.mem_singleton.mp z)
  refine ⟨?_, fun u hu => ?_⟩
  · unfold z_add
    by_cases h1 : t ∈ tb
    · rw [if_pos h1]; exact h.1
    · rw [if_neg h1]
      refine List.nodup_append.mpr ⟨h.1, List.nodup_cons.mpr ⟨List.not_mem_nil, List.nodup_nil⟩, fun a ha b hb => ?_⟩
      rw [List.mem_singleton.mp hb]
      exact fun z => h1 (z ▸ ha)
  · rcases hm u hu with z | z
    · exact ⟨(h.2 u z).1, hex.cl (h.2 u z).2⟩
    · rw [z]; exact ⟨ht, hex.cl hc⟩
theorem z_cl_lf (tb : List KT) {k : Nat} (hk : k ≤ 2) (x : Int32) : z_cl tb (z_lf k x) := ⟨fun h => absurd (show 3 ≤ k from h) (by omega), fun h => absurd (show k = 7 from h) (by omega)⟩
theorem z_cl_u1 {tb : List KT} {k : Nat} {t : KT} (h7 : k ≠ 7) (ht : t ∈ tb) (a b lo hi : Int32) : z_cl tb (z_u1 k t a b lo hi) := ⟨fun _ => by rw [z_c1_u1 h7]; exact ht, fun h => absurd (show k = 7 from h) h7⟩
theorem z_cl_u2 {tb : List KT} {t u : KT} (ht : t ∈ tb) (hu : u ∈ tb) (a : Int32) : z_cl tb (z_u2 t u a) := ⟨fun _ => by rw [z_c1_u2]; exact ht, fun _ => by rw [z_c2_u2]; exact hu⟩
/-- what the primitives make of terms -/
def z_dft (p : KP) : KT := if p.so = 1 then z_lf 2 0 else z_lf 1 (p_near p.lo p.hi)
def z_wrp (t : KT) : KT := z_u1 3 t 0 0 0 0
def z_unw (p : KP) (t : KT) : KT := if z_k t = 3 then z_c1 t else if z_k t = 2 then z_lf 1 (p_near p.lo p.hi) else z_u1 4 t 0 0 0 0
def z_sp1 (p : KP) (t : KT) : KT := if z_k t = 1 then z_lf 1 (z_div (z_x t) p.a) else if z_k t = 7 ∧ z_a t = p.a then z_c1 t else z_u1 5 t p.a 0 0 0
def z_sp2 (p : KP) (t : KT) : KT := if z_k t = 1 then z_lf 1 (z_mod (z_x t) p.a) else if z_k t = 7 ∧ z_a t = p.a then z_c2 t else z_u1 6 t p.a 0 0 0
def z_jn (p : KP) (t u : KT) : KT := if z_k t = 1 ∧ z_k u = 1 then z_lf 1 (z_x t * p.a + z_x u) else if z_k t = 5 ∧ z_k u = 6 ∧ (z_c1 t == z_c1 u) = true ∧ z_a t = p.a ∧ z_a u = p.a then z_c1 t else z_u2 t u p.a
def z_sf (p : KP) (t : KT) : KT := if p.a = p.b then t else if z_k t = 1 then z_lf 1 (z_scf p.a p.b (z_x t)) else z_u1 8 t p.a p.b 0 0
def z_sb (p : KP) (t : KT) : KT := if p.a = p.b then t else if z_k t = 1 then z_lf 1 (z_scb p.a p.b p.lo p.hi (z_x t)) else z_u1 9 t p.a p.b p.lo p.hi
def z_mp (p : KP) (t : KT) : KT := if z_k t = 1 then z_lf 1 (if z_x t = p.a then p.b else z_x t) else z_u1 10 t p.a p.b 0 0
def z_so (t : KT) : KT := if z_k t = 2 ∨ z_k t = 3 ∨ z_k t = 11 then t else z_u1 11 t 0 0 0 0
abbrev KZ : Type := Nat → KT
def z_go (fw : Bool) (p : KP) (Z : KZ) : KZ := match p.kind with
  | 1 => if fw = true then k_ud Z p.sl (z_dft p) else Z
  | 2 => if fw = true then Z else k_ud Z p.sl (z_dft p)
  | 3 => if fw = true then k_ud Z p.sl (z_wrp (Z p.sl)) else k_ud Z p.sl (z_unw p (Z p.sl))
  | 5 => if fw = true then k_ud (k_ud Z p.sl (z_sp1 p (Z p.sl))) p.rs (z_sp2 p (Z p.sl)) else k_ud Z p.sl (z_jn p (Z p.sl) (Z p.rs))
  | 6 => if fw = true then k_ud Z p.sl (z_sf p (Z p.sl)) else k_ud Z p.sl (z_sb p (Z p.sl))
  | 7 => if fw = true then k_ud Z p.sl (z_mp p (Z p.sl)) else Z
  | 8 => if fw = true then k_ud Z p.sl (z_so (Z p.sl)) else Z
  | _ => Z
end Tree
