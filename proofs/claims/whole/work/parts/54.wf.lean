/-! what is well formed; the law's invariant -/
/-- dividing down, and what SCALE does -/
def z_div (x a : Int32) : Int32 := Int32.ofInt (x.toInt / a.toInt)
def z_mod (x a : Int32) : Int32 := Int32.ofInt (x.toInt % a.toInt)
def z_scf (a b x : Int32) : Int32 := Int32.ofInt (a.toInt * x.toInt / b.toInt)
def z_scb (a b lo hi x : Int32) : Int32 := Int32.ofInt (max lo.toInt (min hi.toInt (b.toInt * x.toInt / a.toInt)))
def z_int (z : Int) : Prop := -2147483648 ≤ z ∧ z ≤ 2147483647
/-- beside a place; a place one up -/
def k_bsd (l : List Nat) (n : Int32) : List Nat := l.dropLast ++ [n.toNatClampNeg + 1]
def k_lif (l : List Nat) : List Nat := l.dropLast.dropLast ++ [l.getLastD 0]
def k_tg (p : KP) : List Nat := if p.kind = 0 then k_bsd p.nm p.a else k_lif p.nm
/-- one field is made anew -/
def k_at (n : List Nat) (u : KF → KF) (f : KF) : KF := if f.1 = n then u f else f
/-- a primitive, forth, on a list of fields -/
def k_fw (p : KP) (D : List KF) : List KF := match p.kind with
  | 0 => D.map (k_mf p.nm (k_tg p))
  | 1 => D ++ [(p.nm, p.so, p.lo, p.hi, p.sl)]
  | 2 => D.filter (fun f => decide (f.1 ≠ p.nm))
  | 3 => D.map (k_at p.nm (fun f => (f.1, 1, f.2.2)))
  | 4 => D.map (k_mf p.nm (k_tg p))
  | 5 => D.map (k_at p.nm (fun f => (f.1, f.2.1, z_div f.2.2.1 p.a, z_div f.2.2.2.1 p.a, f.2.2.2.2))) ++ [(k_bsd p.nm p.b, 0, 0, p.a - 1, p.rs)]
  | 6 => D.map (k_at p.nm (fun f => (f.1, f.2.1, z_scf p.a p.b f.2.2.1, z_scf p.a p.b f.2.2.2.1, f.2.2.2.2)))
  | _ => D
/-- a primitive, back -/
def k_bk (p : KP) (D : List KF) : List KF := match p.kind with
  | 0 => D.map (k_mf (k_tg p) p.nm)
  | 1 => D.filter (fun f => decide (f.1 ≠ p.nm))
  | 2 => D ++ [(p.nm, p.so, p.lo, p.hi, p.sl)]
  | 3 => D.map (k_at p.nm (fun f => (f.1, 0, f.2.2)))
  | 4 => D.map (k_mf (k_tg p) p.nm)
  | 5 => (D.map (k_at p.nm (fun f => (f.1, f.2.1, p.lo, p.hi, f.2.2.2.2)))).filter (fun f => decide (f.1 ≠ k_bsd p.nm p.b))
  | 6 => D.map (k_at p.nm (fun f => (f.1, f.2.1, p.lo, p.hi, f.2.2.2.2)))
  | _ => D
/-- a field's type is in order -/
def k_tyo (f : KF) : Prop := (f.2.1 = 0 ∨ f.2.1 = 1 ∨ f.2.1 = 2) ∧ (f.2.1 = 2 → f.2.2.1 = 0 ∧ f.2.2.2.1 = 0) ∧ (f.2.1 ≠ 2 → f.2.2.1 ≤ f.2.2.2.1)
/-- a list of fields is a schema -/
def k_wfL (L : List KF) : Prop := L.length ≤ 24 ∧ k_okf L ∧ k_dis L ∧ (∀ f ∈ L, k_grp L f.1.dropLast = true) ∧ ∀ f ∈ L, k_tyo f
/-- a version's list -/
def k_wfV (L : List KF) : Prop := k_wfL L ∧ k_srt L
/-- the field on which a primitive works -/
abbrev KP.f (p : KP) : KF := (p.nm, p.so, p.lo, p.hi, p.sl)
/-- may the primitive be done here -/
def k_can (p : KP) (D : List KF) : Prop := (k_ok 4 p.nm ∧ p.nm ≠ []) ∧ p.kind ≤ 8 ∧
  (p.kind = 1 → k_room D (some p.nm) = true ∧ k_tyo p.f ∧ D.length < 24 ∧ ∀ f ∈ D, f.2.2.2.2 ≠ p.sl) ∧
  (p.kind ≠ 1 → p.f ∈ D) ∧
  (p.kind = 0 → (0 ≤ p.a ∧ p.a ≤ 99) ∧ ∀ f ∈ D, f.1 ≠ k_tg p) ∧
  (p.kind = 2 → k_cin D p.nm = 0) ∧
  (p.kind = 3 → p.so = 0) ∧
  (p.kind = 4 → 2 ≤ p.nm.length ∧ ∀ f ∈ D, f.1 ≠ k_tg p) ∧
  (p.kind = 5 → p.so = 0 ∧ (2 ≤ p.a ∧ p.a ≤ 1000) ∧ (0 ≤ p.b ∧ p.b ≤ 99) ∧ (∀ f ∈ D, f.1 ≠ k_bsd p.nm p.b) ∧ D.length < 24 ∧ ∀ f ∈ D, f.2.2.2.2 ≠ p.rs) ∧
  (p.kind = 6 → p.so = 0 ∧ (1 ≤ p.a ∧ p.a ≤ 1000) ∧ (1 ≤ p.b ∧ p.b ≤ 1000) ∧ z_int (p.a.toInt * p.lo.toInt / p.b.toInt) ∧ z_int (p.a.toInt * p.hi.toInt / p.b.toInt)) ∧
  (p.kind = 7 → p.so = 0 ∧ p.a ≠ p.b ∧ (p.lo ≤ p.a ∧ p.a ≤ p.hi) ∧ p.lo ≤ p.b ∧ p.b ≤ p.hi) ∧
  (p.kind = 8 → p.so = 1)
/-- a row of primitives -/
def k_chn : List KF → List KP → Prop
  | _, [] => True
  | D, p :: t => k_can p D ∧ k_chn (k_fw p D) t
def k_fws : List KF → List KP → List KF
  | D, [] => D
  | D, p :: t => k_fws (k_fw p D) t
theorem k_fws_snoc (ps : List KP) (p : KP) : ∀ D, k_fws D (ps ++ [p]) = k_fw p (k_fws D ps) := by
  induction ps with
  | nil => intro D; rfl
  | cons q t ih => intro D; exact ih (k_fw q D)
theorem k_chn_snoc (ps : List KP) (p : KP) : ∀ D, k_chn D (ps ++ [p]) ↔ k_chn D ps ∧ k_can p (k_fws D ps) := by
  induction ps with
  | nil => intro D; show k_can p D ∧ True ↔ True ∧ k_can p D; exact and_comm
  | cons q t ih =>
    intro D
    show k_can q D ∧ k_chn (k_fw q D) (t ++ [p]) ↔ (k_can q D ∧ k_chn (k_fw q D) t) ∧ k_can p (k_fws (k_fw q D) t)
    rw [ih, and_assoc]
/-- the slots of a row of primitives -/
def k_sls (n : Nat) (D : List KF) (ps : List KP) : Prop := (∀ f ∈ k_fws D ps, f.2.2.2.2 < n) ∧ ∀ p ∈ ps, p.sl < n ∧ (p.kind = 5 → p.rs < n)
/-- a value is in order for a field -/
def k_shp (so : Int32) (v : List Int32) : Prop := v.length ≤ 6 ∧ (so = 0 → v.length = 1) ∧ (so = 2 → v = [])
/-- a kept thing is in order for its primitive -/
def k_kok (o : Option KP) (K : KK) : Prop := K.1 = 0 ∨ ∃ p, o = some p ∧ ((((p.kind = 1 ∨ p.kind = 2) ∧ k_shp p.so K.2.1) ∨ (p.kind = 3 ∧ K.2.1.length ≤ 6)) ∧ K.1 = 1 ∨ (((p.kind = 6 ∨ p.kind = 7) ∧ K.2.1.length = 1) ∨ (p.kind = 8 ∧ K.2.1.length ≤ 6)) ∧ (K.1 = 2 ∨ K.1 = 3) ∧ K.2.2.length ≤ 6)
def k_pat (ss : List KS) (k : Nat) : Option KP := (ss[k / 8]?).bind (fun st => st.pr[k % 8]?)
def w_rec (vs : List (List KF)) (ss : List KS) (c : KR) : Prop := c.ver < vs.length ∧ (∀ L, vs[c.ver]? = some L → c.val.length = L.length ∧ ∀ (i : Nat) (f : KF) (v : List Int32), L[i]? = some f → c.val[i]? = some v → k_shp f.2.1 v) ∧ ∀ k, k < 128 → k_kok (k_pat ss k) (c.kp k)
def w_stp (vs : List (List KF)) (st : KS) : Prop := st.fr < vs.length ∧ st.to < vs.length ∧ st.fr ≠ st.to ∧ st.pr.length ≤ 8 ∧ ∀ L L2, vs[st.fr]? = some L → vs[st.to]? = some L2 → st.nb = L.length ∧ k_chn (k_rs 0 L) st.pr ∧ k_sls 32 (k_rs 0 L) st.pr ∧ ∃ D : List KF, D.Perm (k_fws (k_rs 0 L) st.pr) ∧ D.map k_st = L2.map k_st ∧ st.sb = D.map (·.2.2.2.2)
def w_drf (S : KA) : Prop := S.op = true → S.df < S.vs.length ∧ S.dp.length ≤ 8 ∧ ∀ L, S.vs[S.df]? = some L → k_chn (k_rs 0 L) S.dp ∧ k_sls S.dn (k_rs 0 L) S.dp ∧ S.dn ≤ L.length + S.dp.length ∧ S.dD.Perm (k_fws (k_rs 0 L) S.dp) ∧ k_srt S.dD
def wf (S : KA) : Prop := (1 ≤ S.vs.length ∧ S.vs.length ≤ 8 ∧ ∀ L ∈ S.vs, k_wfV L) ∧ (S.ss.length ≤ 16 ∧ ∀ st ∈ S.ss, w_stp S.vs st) ∧ w_drf S ∧ (∀ h c, h < 16 → S.rs h = some c → w_rec S.vs S.ss c) ∧ (S.bg = false → S.vs.length = 1 ∧ S.ss = [] ∧ S.op = false ∧ ∀ h, h < 16 → S.rs h = none)
/-- the law's invariant -/
def q_INV (b x L : Nat) (f : Int32 → Int32) (_n sz : Nat) (T : q_T) (I : q_I) (R : q_R) : Prop := (T b = some (50, L) ∧ I b = f ∧ T x = some (110, 0) ∧ T (x + 83) = some (111, 0) ∧ T (x + 113) = some (1, 1)) ∧ b < x ∧ ∃ S : KA, wf S ∧ relC S x sz T I R ∧ relM S (x + 83) T I R
/-- what a call does: the word of its exception, its answer, the state behind it -/
abbrev KO : Type := Int32 × Int32 × KA
def c_sp (x sz : Nat) (T : q_T) (I : q_I) (R : q_R) (J : q_J) (o : KO) (k r : Int32) (h' : q_H) : Prop := k = o.1 ∧ (k = 0 → r = o.2.1) ∧ ∃ (sz' : Nat) (T' : q_T) (I' : q_I) (R' : q_R), h' = (sz', T', I', R', J) ∧ c_fr x sz T I R sz' T' I' R' ∧ relC o.2.2 x sz' T' I' R'
def c_spv (x sz : Nat) (T : q_T) (I : q_I) (R : q_R) (J : q_J) (o : KO) (k : Int32) (h' : q_H) : Prop := c_sp x sz T I R J o k o.2.1 h'
def m_sp (x sz : Nat) (T : q_T) (I : q_I) (R : q_R) (J : q_J) (o : KO) (v : Int32) (h' : q_H) : Prop := (o.1 = 0 → v = o.2.1) ∧ ∃ I' : q_I, h' = (sz, T, I', R, J) ∧ I' (x + 83) (nI 0) = o.1 ∧ m_fr x I I' ∧ relM o.2.2 (x + 83) T I' R
def m_spv (x sz : Nat) (T : q_T) (I : q_I) (R : q_R) (J : q_J) (o : KO) (h' : q_H) : Prop := m_sp x sz T I R J o o.2.1 h'
/-- the two sides together -/
theorem q_both {g : q_G} {b x L n sz : Nat} {f : Int32 → Int32} {T : q_T} {I : q_I} {R : q_R} {J : q_J} {S : KA} {o : KO} (hI : (T b = some (50, L) ∧ I b = f ∧ T x = some (110, 0) ∧ T (x + 83) = some (111, 0) ∧ T (x + 113) = some (1, 1)) ∧ b < x) (hm : relM S (x + 83) T I R) (hw : wf o.2.2) {k r : Int32} {h1 : q_H} (hP : c_sp x sz T I R J o k r h1) :
    ((h1.2.1 b = some (50, L) ∧ h1.2.2.1 b = f ∧ h1.2.1 x = some (110, 0) ∧ h1.2.1 (x + 83) = some (111, 0) ∧ h1.2.1 (x + 113) = some (1, 1)) ∧ relM S (x + 83) h1.2.1 h1.2.2.1 h1.2.2.2.1 ∧ ∀ (J1 : q_J) (v : Int32) (h2 : q_H), m_sp x h1.1 h1.2.1 h1.2.2.1 h1.2.2.2.1 J1 o v h2 → (k = 0 → v = r) ∧ h2.2.2.1 (x + 83) (nI 0) = k ∧ h2.2.2.2.2 = J1 ∧ q_INV b x L f n h2.1 h2.2.1 h2.2.2.1 h2.2.2.2.1) := by
  obtain ⟨⟨i1, i2, i3, i4, i5⟩, i6⟩ := hI
  obtain ⟨rfl, p2, sz', T', I', R', rfl, p3, p4⟩ := hP
  have hq : T' b = some (50, L) ∧ I' b = f ∧ T' x = some (110, 0) ∧ T' (x + 83) = some (111, 0) ∧ T' (x + 113) = some (1, 1) := ⟨p3.2.1 _ _ i1, by rw [p3.2.2.1 b (by unfold c_reg; omega)]; exact i2, p3.2.1 _ _ i3, p3.2.1 _ _ i4, p3.2.1 _ _ i5⟩
  refine ⟨hq, hm.keep p3, fun J1 v h2 hv => ?_⟩
  obtain ⟨v1, I2, rfl, v2, v3, v4⟩ := hv
  refine ⟨fun hk => by rw [p2 hk]; exact v1 hk, v2, rfl, ⟨hq.1, (v3 b (by omega)).trans hq.2.1, hq.2.2⟩, i6, o.2.2, hw, p4.keep v3, v4⟩
/-- returns an int, or throws the j-th: 0, or j + 1 -/
def q_Xi (xs : List Nat) (P : Int32 → Int32 → q_H → Prop) : q_O → q_H → Prop := fun o h' => (∃ r : Int32, o = .inl (some (.int r)) ∧ P 0 r h') ∨ ∃ (j e i : Nat), xs[j]? = some i ∧ o = .inr (i, e) ∧ P (nI (j + 1)) 0 h'
def q_Xv (xs : List Nat) (P : Int32 → q_H → Prop) : q_O → q_H → Prop := fun o h' => (o = .inl none ∧ P 0 h') ∨ ∃ (j e i : Nat), xs[j]? = some i ∧ o = .inr (i, e) ∧ P (nI (j + 1)) h'
