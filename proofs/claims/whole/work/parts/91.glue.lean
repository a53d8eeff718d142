/-! from the law's walk in clean words to the claim -/
/-- none of the five exceptions is another -/
def q_NC (g : q_G) : Prop := ∀ i j : Nat, i < 5 → j < 5 → i ≠ j → ∀ U : State, (q_s0 g).vm.Alike U.vm → ∀ a b : ClassId, U.vm.findClass (q_xn i) = some a → U.vm.findClass (q_xn j) = some b → U.vm.assignable a b = false
/-- WHAT IS WANTED OF THE LAW -/
def q_LawV : Prop := ∀ (g : q_G), q_Gl g → q_NC g → ∀ (b L : Nat) (xs : Nat → Int32), L ≤ 3072 → b < (q_s0 g).heap.size → q_V g M_Law_law 601024 7293034 0 0 (q_h0 (q_s0 g) b L xs) (fun o _ => o = .inl (some (.int 1))) 0 [some (.ref b), none, none, none, none, none, none] []
def R_law : String := "LensPathsLaw"
def lw_P (b : Addr) (xs : List Int32) (args : Array Value) (s : State) : Prop := args = #[.ref b] ∧ s.IntsAt b xs ∧ xs.length ≤ 3072 ∧ (Jvm.Cond.and given_1 narrow_1).before args s = true
def lw_Q (_ : Array Value) (s : State) (o : Outcome) (t : State) : Prop := o = .returned (some (.int 1)) ∧ Framed s o t [] 601024 7293034
theorem q_ncast {a b : String} {A : Array Value} {s : State} (h : (Cond.not (.castable a b)).before A s = true) : ∀ U : State, s.vm.Alike U.vm → ∀ c d : ClassId, U.vm.findClass a = some c → U.vm.findClass b = some d → U.vm.assignable c d = false := by
  intro U hU c d hc hd
  rw [hU.findClass] at hc hd
  rw [hU.assignable]
  simp only [Cond.before, Cond.holds, Cond.value, hc, hd] at h
  simpa using h
theorem q_drop {s t : State} {L : List Loc} {n k : Nat} (h : s.sameButNew t L n k) (hL : ∀ q ∈ L, s.heap.size ≤ q.base) : s.sameButNew t [] n k := by
  obtain ⟨h1, h2, h3, h4, h5, h6⟩ := h
  refine ⟨h1, h2, h3, h4, h5, fun a c hc => ?_⟩
  obtain ⟨c', e1, e2, e3, e4⟩ := h6 a c hc
  refine ⟨c', e1, e2, e3, fun i _ => e4 i fun hm => ?_⟩
  have hb : s.heap.size ≤ a := hL _ hm
  exact absurd (Array.getElem?_eq_some_iff.mp hc).1 (Nat.not_lt.mpr hb)
theorem q_nc_all : (List.range 5).all (fun i => (List.range 5).all fun j => i == j || decide (Cond.not (.castable (q_xn i) (q_xn j)) ∈ flatC (Jvm.Cond.and given_1 narrow_1))) = true := by decide +kernel
theorem q_nc {g : q_G} {A : Array Value} (h : (Jvm.Cond.and given_1 narrow_1).before A (q_s0 g) = true) : q_NC g := by
  intro i j hi hj hij
  have h1 := List.all_eq_true.mp (List.all_eq_true.mp q_nc_all i (List.mem_range.mpr hi)) j (List.mem_range.mpr hj)
  have h2 : (i == j) = false := by simpa using hij
  rw [h2, Bool.false_or] at h1
  exact q_ncast (flat_of_before _ h _ (of_decide_eq_true h1))
theorem q_sw0 : Cond.laysStatic "java/lang/Throwable" "UNASSIGNED_STACK" "[Ljava/lang/StackTraceElement;" ∈ lw_tbl := List.mem_append_right _ (by decide +kernel)
theorem q_sw1 : Cond.laysStatic "java/lang/Throwable" "SUPPRESSED_SENTINEL" "Ljava/util/List;" ∈ lw_tbl := List.mem_append_right _ (by decide +kernel)
theorem q_gl {l : Launch} {s : State} {b : Nat} (hst : l.stackTraces = false) (hts : ∀ w ∈ lw_tbl, w.before #[Value.ref b] s = true) (hgv : (Jvm.Cond.and given_1 narrow_1).before #[Value.ref b] s = true) : ∃ (D : va_G) (dA : Nat → ClassId), q_Gl (l, s, D, dA) := by
  have hw := q_words hts
  obtain ⟨D, hD⟩ := q_cls hw
  obtain ⟨dA, hA⟩ := q_arrs hw
  refine ⟨D, dA, hst, hw, ⟨hD, hA⟩, ?_⟩
  intro w hw1 A U hU hold
  have r1 : (Cond.isRef (.static "java/lang/Throwable" "UNASSIGNED_STACK" "[Ljava/lang/StackTraceElement;")).before #[Value.ref b] s = true := flat_of_before _ hgv _ (by decide +kernel)
  have r2 : (Cond.isRef (.static "java/lang/Throwable" "SUPPRESSED_SENTINEL" "Ljava/util/List;")).before #[Value.ref b] s = true := flat_of_before _ hgv _ (by decide +kernel)
  have s1 := q_stat (A2 := A) (hts _ q_sw0) r1 hU.alike hold
  have s2 := q_stat (A2 := A) (hts _ q_sw1) r2 hU.alike hold
  unfold q_sw at hw1
  rcases List.mem_cons.mp hw1 with rfl | hw1
  · exact s1.2
  rcases List.mem_cons.mp hw1 with rfl | hw1
  · exact s2.2
  rcases List.mem_cons.mp hw1 with rfl | hw1
  · exact s1.1
  rcases List.mem_cons.mp hw1 with rfl | hw1
  · exact s2.1
  · cases hw1
set_option maxHeartbeats 4000000 in
theorem lw_walk (hLaw : q_LawV) (l : Launch) (hst : l.stackTraces = false) (b : Addr) (xs : List Int32) : MetFree l x (headSpec (Jvm.Cond.code x code maxLocals ret :: tables_1) room_1) (lw_P b xs) (fun _ _ _ _ _ => True) lw_Q := by
  refine MetFree.of_bodyS (code := code) (maxLocals := maxLocals) (ret := ret) (by decide) ?_ ?_
  · intro args s m h hn
    obtain ⟨meth, c, h1, h2, h3, h4, h5, h6, -, -⟩ := Cond.code_spec hn (atoms_spec (ws := Jvm.Cond.code x code maxLocals ret :: tables_1) h _ List.mem_cons_self)
    exact ⟨meth, c, h1, h2, h3, h4, h5, h6⟩
  · intro p e s m args below meth c s₁ B hml0 hP _
    obtain ⟨rfl, hx, hbd, hgv⟩ := hP
    obtain ⟨scr, harrAt, hlist, hof, hsmall⟩ := hx
    obtain ⟨hcb, hkn, -, -⟩ := State.arrayAt?_spec harrAt
    have hown : s.vm.findClass R_law = some m.cls := findClass_of_methodNamed B.named
    have hts0 : ∀ c ∈ (Jvm.Cond.code x code maxLocals ret :: tables_1), c.before #[Value.ref b] s = true := atoms_spec (ws := Jvm.Cond.code x code maxLocals ret :: tables_1) B.pre
    have hts : ∀ w ∈ lw_tbl, w.before #[Value.ref b] s = true := k2_hts_sels lw_privs (fun w hw => hts0 w (List.mem_cons_of_mem _ hw)) lw_privs_ok
    have hcw : (q_cw M_Law_law).before #[Value.ref b] s = true := hts0 _ List.mem_cons_self
    obtain ⟨m2, c2, h1, h2, h3, h4, h5, h6, h7, -⟩ := q_cwspec (M2 := M_Law_law) hcw B.named
    have e1 : m2 = meth := Option.some.inj (h1.symm.trans B.method)
    subst e1
    have e2 : c2 = c := Option.some.inj (h2.symm.trans (Stand.of_body B).code)
    subst e2
    have X₀ : Stand p l e room_1 s m #[Value.ref b] below m2 c2 s₁ [] 0 0 := Stand.of_body B
    have hh0 : s₁.heap = s.heap := by rw [B.state]; rfl
    have hsz : scr.slots.size = xs.length := by rw [← Array.length_toList, hlist, List.length_map]
    have hval : ∀ j : Nat, j < xs.length → scr.slots[j]? = some (.int (xs.getD j 0)) := fun j hj => by
      rw [← Array.getElem?_toList, hlist]
      simp [hj]
    have hbl : b < s.heap.size := (Array.getElem?_eq_some_iff.mp hcb).1
    have hX : va_X b xs.length (fun j => xs.getD j 0) s s.heap := ⟨scr, hcb, hof, hkn, hsz, hval⟩
    obtain ⟨D, dA, hGl⟩ := q_gl hst hts hgv
    have C : q_Cx (l, s, D, dA) M_Law_law 601024 7293034 p e room_1 s m #[Value.ref b] below m2 c2 :=
      ⟨B.exec, h3, h4, hown, h5, h6, h7, fun (z : q_in M_Law_law = true) => absurd z (by decide), hGl, State.WarmedH.refl s, fun _ _ => rfl, Nat.le_refl _, rfl, rfl, by decide, by decide⟩
    have hCo := q_h0co (g := (l, s, D, dA)) hX hbl (by omega)
    have hV := hLaw (l, s, D, dA) hGl (q_nc (g := (l, s, D, dA)) hgv) b xs.length (fun j => xs.getD j 0) hbd hbl
    have hla := lv_entry ([Value.ref b] : List Value) (n := 7) (Nat.le_of_ble_eq_true rfl)
    have hw := hV p e room_1 s m #[Value.ref b] below m2 c2 C s.heap [] _ hCo va_S.rf hla
    rw [← lg_entry_eq] at hw
    obtain ⟨t, a1, oc, b1, b2, o, h', q1, q2, q3, q4, ⟨L, q5, q6⟩, q7⟩ := hw s₁ hh0 X₀
    subst q1
    have q8 : oc = .returned (some (.int 1)) := q7
    subst q8
    exact ⟨t, _, a1, b1, b2, rfl, ⟨_, rfl⟩, q3, q_drop q5 q6⟩
theorem lw_pre_spec {args : Array Value} {s : State} (h : (Jvm.Cond.and given_1 narrow_1).before args s = true) (hr : rest_1_c.before args s = true) : ∃ (b : Addr) (xs : List Int32), lw_P b xs args s := by
  have hs := flat_of_before _ h
  have hq := flat_of_before _ hr
  have hc : (Cond.count 1).before args s = true := hs _ (by decide +kernel)
  have harr : (Cond.arrayOf (.arg 0) .int).before args s = true := hs _ (by decide +kernel)
  have hle : (Cond.le (.length (.arg 0)) (.int 3072)).before args s = true := hs _ (by decide +kernel)
  have hlen : (Cond.isInt (.length (.arg 0))).before args s = true := hq _ (by decide +kernel)
  have hall : (Cond.all (.arg 0) (.isInt (.elem (.arg 0) (.index 0)))).before args s = true := hq _ (by decide +kernel)
  obtain ⟨b, xs, hb, hx⟩ := State.ints_of_pre rfl harr hlen hall
  have hsm : xs.length < 2 ^ 31 := hx.choose_spec.2.2.2
  have hev : (Term.length (.arg 0)).eval args s none [] s = some (.int xs.length.toInt32) := hx.length_eval hb
  have hv := Cond.le_ints hev (show (Term.int 3072).eval args s none [] s = some (.int 3072) from rfl)
  have hd : xs.length.toInt32 ≤ 3072 := by
    simpa [Cond.before, Cond.holds, hv] using hle
  have hN : xs.length ≤ 3072 := (Int32.ofNat_le_ofNat hsm (by decide)).mp (show Int32.ofNat xs.length ≤ Int32.ofNat 3072 from hd)
  exact ⟨b, xs, Cond.one_arg hc (show args[0]? = some (.ref b) from hb), hx, hN, h⟩
theorem lw_comes (hLaw : q_LawV) (l : Launch) (hst : l.stackTraces = false) : Comes l x (Jvm.Cond.code x code maxLocals ret :: tables_1) room_1 (fun tb e args s => Calls_1 tb e args s ∧ rest_1 tb e args s ∧ Pre_1 tb e args s)
    (fun _ _ args s o t => lw_Q args s o t) := by
  intro p e ha hc hk s m args below hf hfit hheap happ hpre
  obtain ⟨b, xs, hP⟩ := lw_pre_spec hpre.2.2 hpre.2.1
  obtain ⟨k, o, h1, h2, h3, hQ⟩ := lw_walk hLaw l hst b xs p e ha hc hk s m args below hf ((Spec.applies_iff_loose hf).mp happ).1 hP trivial
  exact ⟨k, o, h1, h2, h3, hQ⟩
theorem lw_frame {s t : State} {o : Outcome} {args : Array Value} (h : Framed s o t [] 601024 7293034) :
    Framed s o t (fieldLocs frame_1_writes args s ++ arrayLocs frame_1_arrays args s ++ staticLocs frame_1_statics s) 601024 7293034 := h
theorem q_st0 {l : Launch} (hf : l.flags = flags0) : l.stackTraces = false := by
  unfold Launch.stackTraces; rw [hf]; decide
theorem lw_limb (hLaw : q_LawV) (L : Cond) (hL : ∀ (args : Array Value) (s t : State), L.after args s (.returned (some (.int 1))) t = true) :
    ArmFor flags0 classFile x code maxLocals ret World_1 tables_1 room_1 Calls_1 rest_1 Pre_1
      (fun tb e a s o t => postC L tb e a s o t ∧ Framed s o t (fieldLocs frame_1_writes a s ++ arrayLocs frame_1_arrays a s ++ staticLocs frame_1_statics s) 601024 7293034) := by
  intro l hfl _ _ p e ha hc hk s m args below hf hfit hheap happ hpre
  obtain ⟨k, o, h1, h2, h3, rfl, hF⟩ := lw_comes hLaw l (q_st0 hfl) p e ha hc hk s m args below hf hfit hheap happ hpre
  exact ⟨k, _, h1, h2, h3, hL args s _, lw_frame hF⟩
theorem q_ivc (hLaw : q_LawV) : Claimed_1_1 ∧ Claimed_1_2 := ⟨lw_limb hLaw limb_1_1 (fun args s t => by simp [limb_1_1, Cond.after, Cond.holds, Cond.value]), lw_limb hLaw limb_1_2 (fun args s t => Cond.after_iff.mpr (by
  first | (rw [show limb_1_2 = Cond.eq .result (.int 1) from rfl, Cond.eq_ints (x := 1) (y := 1) rfl rfl]; simp; done) | (simp [limb_1_2, Cond.value, Term.eval]; done)))⟩
