/-! reading both sides; a record is changed -/
section Sides
variable {g : q_G} {sz x : Nat} {T : q_T} {I : q_I} {R : q_R} {J : q_J} {S : KA}
theorem q_C.imp {M : q_M} {as : List Value} {h : q_H} {mc ms : Nat} {Q Q' : q_O → q_H → Prop} (hc : q_C g M as h mc ms Q) (hQ : ∀ o h', Q o h' → Q' o h') : q_C g M as h mc ms Q' := by
  intro p e h1 h2 h3 s m args below h4 h5 h6 h7
  obtain ⟨n, o, a1, a2, a3, a4⟩ := hc p e h1 h2 h3 s m args below h4 h5 h6 h7
  obtain ⟨o', h', q1, q2⟩ := a4
  exact ⟨n, o, a1, a2, a3, o', h', hQ _ _ q1, q2⟩
theorem c_fr.refl (x sz : Nat) (T : q_T) (I : q_I) (R : q_R) : c_fr x sz T I R sz T I R := ⟨Nat.le_refl _, fun _ _ z => z, fun _ _ => rfl, fun _ _ => rfl⟩
theorem c_fr.up (x sz : Nat) (T : q_T) (I : q_I) (R : q_R) : c_fr x sz T I R (sz + 1) T I R := ⟨Nat.le_succ _, fun _ _ z => z, fun _ _ => rfl, fun _ _ => rfl⟩
theorem c_fr.trans {sz1 sz2 : Nat} {T1 T2 : q_T} {I1 I2 : q_I} {R1 R2 : q_R} (h : c_fr x sz T I R sz1 T1 I1 R1) (h2 : c_fr x sz1 T1 I1 R1 sz2 T2 I2 R2) : c_fr x sz T I R sz2 T2 I2 R2 := ⟨Nat.le_trans h.1 h2.1, fun a q z => h2.2.1 a q (h.2.1 a q z), fun b hb => (h2.2.2.1 b hb).trans (h.2.2.1 b hb), fun b hb => (h2.2.2.2 b hb).trans (h.2.2.2 b hb)⟩
theorem relC.up (h : relC S x sz T I R) : relC S x (sz + 1) T I R := ⟨h.1, h.2.1, h.2.2.1, h.2.2.2.1, h.2.2.2.2.1, h.2.2.2.2.2.1, Nat.le_succ_of_le h.2.2.2.2.2.2.1, fun a q z => Nat.lt_succ_of_lt (h.2.2.2.2.2.2.2 a q z)⟩
theorem relC.hs (h : relC S x sz T I R) : k_hs x (fun i => R (x + 60) (nI i)) S.lv T I R := by
  intro i hi
  obtain ⟨a1, a2⟩ := h.2.2.2.2.1.1 i hi
  refine ⟨rfl, fun z => ?_, fun r hr => ?_⟩
  · show (S.rs i).isSome = false
    rw [a1 z]; rfl
  · obtain ⟨-, b2, b3, -⟩ := a2 r hr
    exact ⟨b2.1.1, b3⟩
/-- a handle, or not -/
theorem k_hcase (S : KA) (v : Int32) : k_ish S.lv v = false ∨ ∃ (h : Nat) (c : KR), h < 16 ∧ v = nI h ∧ S.rs h = some c ∧ k_ish S.lv v = true := by
  cases hb : k_ish S.lv v with
  | false => exact Or.inl rfl
  | true =>
    right
    have h1 := hb
    rw [k_ish, Bool.and_eq_true] at h1
    obtain ⟨j, j1, rfl⟩ := k_bel_of (by decide) h1.1
    rw [nI_clamp (by omega)] at h1
    cases hr : S.rs j with
    | none => rw [show S.lv j = (S.rs j).isSome from rfl, hr] at h1; cases h1.2
    | some c => exact ⟨j, c, j1, rfl, hr, rfl⟩
theorem relC.rowAt (h : relC S x sz T I R) {i : Nat} {c : KR} (hi : i < 16) (hc : S.rs i = some c) : ∃ r, R (x + 60) (nI i) = some r ∧ c_out x r 8 ∧ r_new r T R ∧ I r (nI 0) = 1 ∧ k_rec r c I ∧ ∀ i', i' < 16 → R (x + 60) (nI i') = some r → i' = i := by
  obtain ⟨a1, a2⟩ := h.2.2.2.2.1.1 i hi
  cases hr : R (x + 60) (nI i) with
  | none => rw [a1 hr] at hc; cases hc
  | some r =>
    obtain ⟨b1, b2, b3, b4, b5⟩ := a2 r hr
    rw [hc] at b3
    exact ⟨r, rfl, b1, b2, b3, b4 c hc, b5⟩
theorem relC.verAt (h : relC S x sz T I R) {v : Nat} {L : List KF} (hv : S.vs[v]? = some L) : ∃ (s : Nat) (w : Nat → Nat), R (x + 2) (nI v) = some s ∧ c_out x s 26 ∧ s ≠ x + 33 ∧ k_sc s L w T I R := h.2.1.2 v L hv
theorem c_needHandle_ok (hC : relC S x sz T I R) {v : Int32} (hb : k_ish S.lv v = true) : q_Cv g M_Lens_needHandle [.ref x, .int v] (sz, T, I, R, J) 1 6 (fun h' => h' = (sz, T, I, R, J)) := by
  refine (c_Lens_needHandle hC.1.1 hC.hs v).imp fun o h' z => ?_
  rcases z with ⟨-, z2, z3⟩ | ⟨z1, -, -⟩
  · exact ⟨z2, z3⟩
  · rw [hb] at z1; cases z1
theorem c_needHandle_no (hC : relC S x sz T I R) {v : Int32} (hb : k_ish S.lv v = false) : q_C g M_Lens_needHandle [.ref x, .int v] (sz, T, I, R, J) 1 6 (fun o h' => o = .inr (2, sz) ∧ h' = (sz + 1, T, I, R, J)) := by
  refine (c_Lens_needHandle hC.1.1 hC.hs v).imp fun o h' z => ?_
  rcases z with ⟨z1, -, -⟩ | ⟨-, z2, z3⟩
  · rw [hb] at z1; cases z1
  · exact ⟨z2, z3⟩
theorem c_needVersion_ok (hC : relC S x sz T I R) {v : Int32} (hb : k_bel S.vs.length v = true) : q_Cv g M_Lens_needVersion [.ref x, .int v] (sz, T, I, R, J) 1 6 (fun h' => h' = (sz, T, I, R, J)) := by
  refine (c_Lens_needVersion hC.1.1 hC.1.2.1 hC.2.1.1 v).imp fun o h' z => ?_
  rcases z with ⟨-, z2, z3⟩ | ⟨z1, -, -⟩
  · exact ⟨z2, z3⟩
  · rw [hb] at z1; cases z1
theorem c_needVersion_no (hC : relC S x sz T I R) {v : Int32} (hb : k_bel S.vs.length v = false) : q_C g M_Lens_needVersion [.ref x, .int v] (sz, T, I, R, J) 1 6 (fun o h' => o = .inr (2, sz) ∧ h' = (sz + 1, T, I, R, J)) := by
  refine (c_Lens_needVersion hC.1.1 hC.1.2.1 hC.2.1.1 v).imp fun o h' z => ?_
  rcases z with ⟨z1, -, -⟩ | ⟨-, z2, z3⟩
  · rw [hb] at z1; cases z1
  · exact ⟨z2, z3⟩
/-- a call ends with the j-th exception, and nothing else has happened -/
theorem c_xi_no (hC : relC S x sz T I R) {xs : List Nat} {j i : Nat} (hj : xs[j]? = some i) : q_Xi xs (c_sp x sz T I R J (nI (j + 1), 0, S)) (.inr (i, sz)) (sz + 1, T, I, R, J) := Or.inr ⟨j, sz, i, hj, rfl, rfl, fun _ => rfl, _, _, _, _, rfl, c_fr.up x sz T I R, hC.up⟩
theorem c_xv_no (hC : relC S x sz T I R) {xs : List Nat} {j i : Nat} (hj : xs[j]? = some i) : q_Xv xs (c_spv x sz T I R J (nI (j + 1), 0, S)) (.inr (i, sz)) (sz + 1, T, I, R, J) := Or.inr ⟨j, sz, i, hj, rfl, rfl, fun _ => rfl, _, _, _, _, rfl, c_fr.up x sz T I R, hC.up⟩
theorem c_xi_is (hC : relC S x sz T I R) {xs : List Nat} (r : Int32) : q_Xi xs (c_sp x sz T I R J (0, r, S)) (.inl (some (.int r))) (sz, T, I, R, J) := Or.inl ⟨r, rfl, rfl, fun _ => rfl, _, _, _, _, rfl, c_fr.refl x sz T I R, hC⟩
/-- another record stands under the handle -/
def KA.setR (S : KA) (h : Nat) (o : Option KR) : KA := (S.vs, S.ss, S.bg, S.op, S.df, S.dp, S.dD, S.dn, fun k => if k = h then o else S.rs k)
theorem k_stp.cong2 {t i : Nat} {st : KS} {I' : q_I} (h : k_stp x t i st T I R) (hI : ∀ a q, T a = some q → (q.1 = 107 ∨ q.1 = 104) → I' a = I a) (h2 : ∀ a n, T a = some (107, 0) → T (a + 1) = some (3, 8) → T (a + 2) = some (0, n) → I' (a + 2) = I (a + 2)) : k_stp x t i st T I' R := by
  obtain ⟨a1, a2, a3, a4, a5, a6, a7, a8, a9, a10, a11, a12, a13⟩ := h
  have e1 := hI t _ a2 (Or.inl rfl)
  have e2 := h2 t _ a2 a9 a11
  unfold k_stp
  rw [e1, e2]
  refine ⟨a1, a2, a3, a4, a5, a6, a7, a8, a9, a10, a11, fun j q hq => ?_, a13⟩
  obtain ⟨p, p1, p2, p3⟩ := a12 j q hq
  exact ⟨p, p1, p2, p3.cong (hI p _ p3.1 (Or.inr rfl))⟩
theorem r_ne {r : Nat} (hr : r_new r T R) {a : Nat} {q : Nat × Nat} (ha : T a = some q) (h1 : q.1 ≠ 105) (h2 : q.1 ≠ 101) (h3 : q.1 ≠ 0) : a < r ∨ r + 8 ≤ a := by
  obtain ⟨t0, t1, t2, t3, t4, t5, t6, t7⟩ := r_T0 hr
  refine Classical.byContradiction fun hn => ?_
  have : a = r ∨ a = r + 1 ∨ a = r + 2 ∨ a = r + 3 ∨ a = r + 4 ∨ a = r + 5 ∨ a = r + 6 ∨ a = r + 7 := by omega
  rcases this with rfl | rfl | rfl | rfl | rfl | rfl | rfl | rfl
  · rw [t0] at ha; cases ha; exact h1 rfl
  · rw [t1] at ha; cases ha; exact h2 rfl
  · rw [t2] at ha; cases ha; exact h3 rfl
  · rw [t3] at ha; cases ha; exact h3 rfl
  · rw [t4] at ha; cases ha; exact h2 rfl
  · rw [t5] at ha; cases ha; exact h3 rfl
  · rw [t6] at ha; cases ha; exact h2 rfl
  · rw [t7] at ha; cases ha; exact h3 rfl
theorem r_ne2 {r : Nat} (hr : r_new r T R) {a n : Nat} (h0 : T a = some (107, 0)) (h1 : T (a + 1) = some (3, 8)) (h2 : T (a + 2) = some (0, n)) : a + 2 < r ∨ r + 8 ≤ a + 2 := by
  have e0 := r_ne hr h0 (by decide) (by decide) (by decide)
  have e1 := r_ne hr h1 (by decide) (by decide) (by decide)
  obtain ⟨t0, t1, -⟩ := r_T0 hr
  refine Classical.byContradiction fun hn => ?_
  have : a + 2 = r := by omega
  rw [this, t0] at h2
  cases h2
/-- where only a row's cells change, all else of the class stays -/
theorem relC.row (h : relC S x sz T I R) {i r : Nat} {o : Option KR} {I' : q_I} (hi : i < 16) (hr : R (x + 60) (nI i) = some r) (hI : ∀ b, b < r ∨ r + 8 ≤ b → I' b = I b) (h0 : I' r (nI 0) = p_b o.isSome) (hk : ∀ c, o = some c → k_rec r c I') : relC (S.setR i o) x sz T I' R ∧ c_fr x sz T I R sz T I' R := by
  obtain ⟨h1, h2, h3, h4, h5, h6, h7, h8⟩ := h
  obtain ⟨b1, b2, b3, b4, b5⟩ := (h5.1 i hi).2 r hr
  have hne : ∀ a q, T a = some q → q.1 ≠ 105 → q.1 ≠ 101 → q.1 ≠ 0 → I' a = I a := fun a q z z1 z2 z3 => hI a (r_ne b2 z z1 z2 z3)
  have hx : I' x = I x := hne x _ h1.1.1 (by decide) (by decide) (by decide)
  have hx1 : I' (x + 1) = I (x + 1) := hne _ _ h1.2.1.1 (by decide) (by decide) (by decide)
  have hx32 : I' (x + 32) = I (x + 32) := hne _ _ h1.2.2.1.1 (by decide) (by decide) (by decide)
  have hsc : ∀ s L w, k_sc s L w T I R → k_sc s L w T I' R := fun s L w hs => hs.cong (fun b z1 z2 => by
    refine hI b ?_
    refine Classical.byContradiction fun hn => ?_
    obtain ⟨t0, t1, t2, t3, t4, t5, t6, t7⟩ := r_T0 b2
    have : b = r ∨ b = r + 1 ∨ b = r + 2 ∨ b = r + 3 ∨ b = r + 4 ∨ b = r + 5 ∨ b = r + 6 ∨ b = r + 7 := by omega
    rcases this with e | e | e | e | e | e | e | e
    · exact hs.1.ne z1 z2 t0 (by decide) (by decide) (by decide) e
    · exact hs.1.ne z1 z2 t1 (by decide) (by decide) (by decide) e
    · exact hs.1.ne z1 z2 t2 (by decide) (by decide) (by decide) e
    · exact hs.1.ne z1 z2 t3 (by decide) (by decide) (by decide) e
    · exact hs.1.ne z1 z2 t4 (by decide) (by decide) (by decide) e
    · exact hs.1.ne z1 z2 t5 (by decide) (by decide) (by decide) e
    · exact hs.1.ne z1 z2 t6 (by decide) (by decide) (by decide) e
    · exact hs.1.ne z1 z2 t7 (by decide) (by decide) (by decide) e)
  refine ⟨⟨h1, ⟨by rw [hx1]; exact h2.1, fun v L hv => ?_⟩, ⟨by rw [hx1]; exact h3.1, fun j st hj => ?_⟩, ?_, ⟨fun j hj => ?_, h5.2⟩, by rw [hx]; exact h6, h7, h8⟩, Nat.le_refl _, fun _ _ z => z, fun b hb => hI b ?_, fun _ _ => rfl⟩
  · obtain ⟨s, w, a1, a2, a3, a4⟩ := h2.2 v L hv
    exact ⟨s, w, a1, a2, a3, hsc _ _ _ a4⟩
  · obtain ⟨t, a1, a2⟩ := h3.2 j st hj
    refine ⟨t, a1, a2.cong2 (fun a q z z1 => ?_) (fun a n z z1 z2 => hI _ (r_ne2 b2 z z1 z2))⟩
    rcases z1 with z1 | z1
    · exact hne a q z (by rw [z1]; decide) (by rw [z1]; decide) (by rw [z1]; decide)
    · exact hne a q z (by rw [z1]; decide) (by rw [z1]; decide) (by rw [z1]; decide)
  · obtain ⟨a1, D, w, a2, a3⟩ := h4
    refine ⟨by rw [hx32]; exact a1, D, w, hsc _ _ _ a2, fun ho => ?_⟩
    obtain ⟨d1, d2, d3, d4, d5, d6⟩ := a3 ho
    rw [hx32]
    refine ⟨d1, d2, d3, d4, d5, fun j q hq => ?_⟩
    obtain ⟨p, p1, p2, p3⟩ := d6 j q hq
    exact ⟨p, p1, p2, p3.cong (hne p _ p3.1 (by decide) (by decide) (by decide))⟩
  · by_cases hji : j = i
    · subst hji
      have e : (S.setR j o).rs j = o := if_pos rfl
      rw [e]
      refine ⟨fun z => (by rw [hr] at z; cases z), fun r' hr' => ?_⟩
      obtain rfl : r = r' := Option.some.inj (hr.symm.trans hr')
      exact ⟨b1, b2, h0, hk, b5⟩
    · have e : (S.setR i o).rs j = S.rs j := if_neg hji
      rw [e]
      obtain ⟨e1, e2⟩ := h5.1 j hj
      refine ⟨e1, fun r' hr' => ?_⟩
      obtain ⟨f1, f2, f3, f4, f5⟩ := e2 r' hr'
      have hrr : r' ≠ r := fun z => hji (f5 i hi (by rw [z]; exact hr)).symm
      have hd := r_dis f2 b2 hrr
      refine ⟨f1, f2, ?_, fun c hc => (f4 c hc).cong (fun b z1 z2 => hI b (by omega)), f5⟩
      rw [hI r' (by omega)]
      exact f3
  · refine Classical.byContradiction fun hn => hb (b1.reg (by omega) (by omega))
/-- the reference's fields that no working changes -/
def m_p9 (m : Nat) (I I' : q_I) : Prop := (∀ b, b < m ∨ m + 30 ≤ b → I' b = I b) ∧ (∀ j, 1 ≤ j → j ≤ 9 → I' (m + j) = I (m + j)) ∧ I' m (nI 1) = I m (nI 1) ∧ I' m (nI 7) = I m (nI 7) ∧ I' m (nI 8) = I m (nI 8) ∧ I' m (nI 13) = I m (nI 13)
def m_ps (m : Nat) (I I' : q_I) : Prop := m_p9 m I I' ∧ ∀ j, 10 ≤ j → j ≤ 13 → I' (m + j) = I (m + j)
theorem m_ps.refl (m : Nat) (I : q_I) : m_ps m I I := ⟨⟨fun _ _ => rfl, fun _ _ _ => rfl, rfl, rfl, rfl, rfl⟩, fun _ _ _ => rfl⟩
theorem m_p9.trans {m : Nat} {I I1 I2 : q_I} (h : m_p9 m I I1) (h2 : m_p9 m I1 I2) : m_p9 m I I2 := ⟨fun b hb => (h2.1 b hb).trans (h.1 b hb), fun j j1 j2 => (h2.2.1 j j1 j2).trans (h.2.1 j j1 j2), h2.2.2.1.trans h.2.2.1, h2.2.2.2.1.trans h.2.2.2.1, h2.2.2.2.2.1.trans h.2.2.2.2.1, h2.2.2.2.2.2.trans h.2.2.2.2.2⟩
theorem m_ps.trans {m : Nat} {I I1 I2 : q_I} (h : m_ps m I I1) (h2 : m_ps m I1 I2) : m_ps m I I2 := ⟨h.1.trans h2.1, fun j j1 j2 => (h2.2 j j1 j2).trans (h.2 j j1 j2)⟩
theorem m_wk.ps {m : Nat} {I I' : q_I} (h : m_wk m I I') : m_ps m I I' := ⟨⟨fun b hb => h.1 b (by omega) (by omega), fun j j1 j2 => h.1 (m + j) (by omega) (by omega), h.2 _ (fun z => absurd (q_nI_inj z) (by decide)), h.2 _ (fun z => absurd (q_nI_inj z) (by decide)), h.2 _ (fun z => absurd (q_nI_inj z) (by decide)), h.2 _ (fun z => absurd (q_nI_inj z) (by decide))⟩, fun j j1 j2 => h.1 (m + j) (by omega) (by omega)⟩
theorem m_p9.fr {I' : q_I} (h : m_p9 (x + 83) I I') : m_fr x I I' := fun b hb => h.1 b (by omega)
/-- an int of the reference's own that is none of the state's -/
theorem m_ps.int {m k : Nat} {v : Int32} (hk : k < 39) (h1 : k ≠ 1) (h7 : k ≠ 7) (h8 : k ≠ 8) (h13 : k ≠ 13) : m_ps m I (q_upI I m (nI k) v) := ⟨⟨fun b hb => by funext i; rw [q_upI_nea (by omega)], fun j j1 j2 => by funext i; rw [q_upI_nea (by omega)], q_upI_nk (by omega), q_upI_nk (by omega), q_upI_nk (by omega), q_upI_nk (by omega)⟩, fun j j1 j2 => by funext i; rw [q_upI_nea (by omega)]⟩
theorem relM.p9 {m : Nat} {I' : q_I} (h : relM S m T I R) (hf : m_p9 m I I') {rs : Nat → Option KR} (hr : m_row m rs I') : relM (S.vs, S.ss, S.bg, S.op, S.df, S.dp, S.dD, S.dn, rs) m T I' R := by
  obtain ⟨h1, h2, h3, h4, h5⟩ := h
  obtain ⟨f0, f1, f2, f3, f4, f5⟩ := hf
  refine ⟨h1, ?_, ?_, hr, by rw [f3]; exact h5⟩
  · unfold m_ver
    rw [f2, f1 1 (by omega) (by omega), f1 2 (by omega) (by omega), f1 3 (by omega) (by omega), f1 4 (by omega) (by omega), f1 5 (by omega) (by omega)]
    exact h2
  · unfold m_stp m_prs k_mp
    rw [f4, f5, f1 6 (by omega) (by omega), f1 7 (by omega) (by omega), f1 8 (by omega) (by omega), f1 9 (by omega) (by omega)]
    exact h3
theorem relM.ps {m : Nat} {I' : q_I} (h : relM S m T I R) (hf : m_ps m I I') : relM S m T I' R := by
  refine h.p9 hf.1 (rs := S.rs) ?_
  have := h.2.2.2.1
  unfold m_row m_kpt at this ⊢
  rw [hf.2 10 (by omega) (by omega), hf.2 11 (by omega) (by omega), hf.2 12 (by omega) (by omega), hf.2 13 (by omega) (by omega)]
  exact this
theorem relM.mh {m : Nat} (hw : wf S) (h : relM S m T I R) : k_mh m S.lv I := by
  intro i hi
  obtain ⟨a1, a2⟩ := h.2.2.2.1 i hi
  show _ ↔ (S.rs i).isSome = false
  cases hr : S.rs i with
  | none => rw [a1 hr]; exact ⟨fun _ => rfl, fun _ => by decide⟩
  | some c =>
    rw [(a2 c hr).1]
    have := (hw.2.2.2.1 i c hi hr).1
    have := hw.1.2.1
    exact ⟨fun z => absurd z (nI_pos (by omega)), fun z => by cases z⟩
end Sides
