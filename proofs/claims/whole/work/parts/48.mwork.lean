/-! the reference's fields at work -/
abbrev M_Model_isRecord : q_M := (⟨"LensPathsModel", "isRecord", "(I)Z"⟩, prog_14_method_10_code, 3, (some .boolean), "LensPathsModel", [], false, 1, 22)
theorem d_Model_isRecord_0 : decode prog_14_method_10_code 0 = .ok (.aload_n 0, 1) := by decide +kernel
theorem d_Model_isRecord_1 : decode prog_14_method_10_code 1 = .ok (.iload_n 1, 1) := by decide +kernel
theorem d_Model_isRecord_2 : decode prog_14_method_10_code 2 = .ok (.invokevirtual 111, 3) := by decide +kernel
theorem d_Model_isRecord_5 : decode prog_14_method_10_code 5 = .ok (.istore_n 2, 1) := by decide +kernel
theorem d_Model_isRecord_6 : decode prog_14_method_10_code 6 = .ok (.iload_n 1, 1) := by decide +kernel
theorem d_Model_isRecord_7 : decode prog_14_method_10_code 7 = .ok (.ifCond .eq 17, 3) := by decide +kernel
theorem d_Model_isRecord_10 : decode prog_14_method_10_code 10 = .ok (.iload_n 2, 1) := by decide +kernel
theorem d_Model_isRecord_11 : decode prog_14_method_10_code 11 = .ok (.ifCond .lt 17, 3) := by decide +kernel
theorem d_Model_isRecord_14 : decode prog_14_method_10_code 14 = .ok (.aload_n 0, 1) := by decide +kernel
theorem d_Model_isRecord_15 : decode prog_14_method_10_code 15 = .ok (.getfield 56, 3) := by decide +kernel
theorem d_Model_isRecord_18 : decode prog_14_method_10_code 18 = .ok (.iload_n 2, 1) := by decide +kernel
theorem d_Model_isRecord_19 : decode prog_14_method_10_code 19 = .ok (.iaload, 1) := by decide +kernel
theorem d_Model_isRecord_20 : decode prog_14_method_10_code 20 = .ok (.iconst 2, 1) := by decide +kernel
theorem d_Model_isRecord_21 : decode prog_14_method_10_code 21 = .ok (.if_icmp .ne 7, 3) := by decide +kernel
theorem d_Model_isRecord_24 : decode prog_14_method_10_code 24 = .ok (.iconst 1, 1) := by decide +kernel
theorem d_Model_isRecord_25 : decode prog_14_method_10_code 25 = .ok (.goto 4, 3) := by decide +kernel
theorem d_Model_isRecord_28 : decode prog_14_method_10_code 28 = .ok (.iconst 0, 1) := by decide +kernel
theorem d_Model_isRecord_29 : decode prog_14_method_10_code 29 = .ok (.ireturn, 1) := by decide +kernel
section MWork
variable {g : q_G} {sz : Nat} {T : q_T} {I : q_I} {R : q_R} {J : q_J}
/-- its arrays of work hold these fields, in its own order -/
def k_mw (m : Nat) (M : List KF) (I : q_I) : Prop := I m (nI 18) = nI M.length ∧ M.length ≤ 26 ∧ ∀ (i : Nat) (f : KF), M[i]? = some f → I (m + 14) (nI i) = nI (k_path f.1) ∧ I (m + 15) (nI i) = f.2.1 ∧ I (m + 16) (nI i) = f.2.2.1 ∧ I (m + 17) (nI i) = f.2.2.2.1
theorem k_of_path {l : List Nat} (h : k_ok 4 l) : k_of (nI (k_path l)) = some l := by
  have h1 := k_p28 h
  unfold k_of
  rw [pk_tn (by omega)]
  exact k_names_path h
theorem k_of_iff {l : List Nat} (h : k_ok 4 l) (p : Int32) : nI (k_path l) = p ↔ k_of p = some l := by
  constructor
  · rintro rfl
    exact k_of_path h
  · intro hp
    obtain ⟨h1, h2⟩ := k_names_some hp
    rw [k_ofBV p, h2]
theorem k_of_ok {p : Int32} {l : List Nat} (h : k_of p = some l) : k_ok 4 l := (k_names_some h).1
theorem p_find_fo {f : Int32 → Int32} {M : List KF} (hok : k_okf M) (hf : ∀ i e, M[i]? = some e → f (nI i) = nI (k_path e.1)) (p : Int32) : ∀ (j : Nat), j ≤ M.length → p_find f p M.length j = p_idx ((k_fo (M.drop (M.length - j)) (k_of p)).map (· + (M.length - j)))
  | 0, _ => by
    have : M.drop (M.length - 0) = [] := List.drop_of_length_le (by omega)
    rw [this]
    cases k_of p <;> rfl
  | j + 1, hj => by
    have ih := p_find_fo hok hf p j (by omega)
    obtain ⟨i, hi⟩ : ∃ i, i = M.length - (j + 1) := ⟨_, rfl⟩
    have hi2 : M.length - j = i + 1 := by omega
    rw [p_find, ← hi, ih, hi2]
    have hlt : i < M.length := by omega
    have hd : M.drop i = M[i] :: M.drop (i + 1) := List.drop_eq_getElem_cons hlt
    have he : M[i]? = some M[i] := List.getElem?_eq_getElem hlt
    have hk := (hok _ (List.mem_of_getElem? he)).1
    rw [hd, hf i _ he]
    cases ho : k_of p with
    | none =>
      rw [if_neg (fun z => by rw [(k_of_iff hk p).mp z] at ho; cases ho)]
      rfl
    | some l =>
      show _ = p_idx ((k_fi (M[i] :: M.drop (i + 1)) l).map (· + i))
      by_cases hm : M[i].1 = l
      · rw [if_pos ((k_of_iff hk p).mpr (by rw [ho, hm])), k_fi, if_pos hm]
        show nI i = nI (0 + i)
        rw [Nat.zero_add]
      · rw [if_neg (fun z => hm (by have := (k_of_iff hk p).mp z; rw [ho] at this; exact (Option.some.inj this).symm)), k_fi, if_neg hm]
        show p_idx ((k_fi (M.drop (i + 1)) l).map (· + (i + 1))) = _
        cases k_fi (M.drop (i + 1)) l with
        | none => rfl
        | some q => show nI (q + (i + 1)) = nI (q + 1 + i); congr 1; omega
theorem c_Model_findF {m : Nat} {M : List KF} (hL : q_L 11 t_Model m T R) (hM : k_mw m M I) (hok : k_okf M) (p : Int32) : q_Ci g M_Model_find [.ref m, .int p] (sz, T, I, R, J) 0 0 (fun r h' => r = p_idx (k_fo M (k_of p)) ∧ h' = (sz, T, I, R, J)) := by
  have h := c_Model_find (g := g) (sz := sz) (I := I) (J := J) m p M.length hL hM.1 hM.2.1
  rw [p_find_fo hok (fun i e he => (hM.2.2 i e he).1) p M.length (Nat.le_refl _), Nat.sub_self, List.drop_zero] at h
  have e : ∀ o : Option Nat, o.map (· + 0) = o := fun o => by cases o <;> rfl
  rw [e] at h
  exact h
theorem c_Model_isRecord {m : Nat} {M : List KF} (hL : q_L 11 t_Model m T R) (hM : k_mw m M I) (hok : k_okf M) (hd : k_dis M) {l : List Nat} (hl : k_ok 4 l) : q_Ci g M_Model_isRecord [.ref m, .int (nI (k_path l))] (sz, T, I, R, J) 0 0 (fun r h' => r = p_b (k_grp M l) ∧ h' = (sz, T, I, R, J)) := by
  have h28 := k_p28 hl
  have h26 := hM.2.1
  refine q_C.of (ls0 := [some (.ref m), some (.int (nI (k_path l))), none]) (by decide) rfl (by decide) (Nat.le_of_ble_eq_true rfl) rfl ?_
  refine q_aload_n d_Model_isRecord_0 rfl rfl ?_
  refine q_iload_n d_Model_isRecord_1 rfl rfl ?_
  refine q_callVi (M2 := M_Model_find) d_Model_isRecord_2 ⟨(Nat.le_of_ble_eq_true rfl), (Nat.le_of_ble_eq_true rfl), w_1266, w_10, ⟨by decide, by decide⟩, show _ = some 1 by decide +kernel⟩ w_1263 w_1265 (ci := 11) rfl s_53 hL.1 rfl (Nat.le_of_ble_eq_true rfl) (by omega) (by omega) (c_Model_findF hL hM hok (nI (k_path l))) ?_
  rintro _ _ ⟨rfl, rfl⟩
  rw [k_of_path hl, show k_fo M (some l) = k_fi M l from rfl]
  refine q_istore_n d_Model_isRecord_5 rfl (Nat.le_of_ble_eq_true rfl) (by first | exact q_ok0 | exact q_okI rfl | exact q_okR rfl | exact q_okN rfl) rfl ?_
  refine q_iload_n d_Model_isRecord_6 rfl rfl ?_
  refine q_if_eq (tgt := 24) d_Model_isRecord_7 rfl (fun hc => ?_) (fun hc => ?_)
  · have e := nI_zero (by omega) hc
    have e2 : l = [] := k_path_inj hl ⟨by simp, fun n hn => nomatch hn⟩ e
    refine q_iconst (v := nI 1) d_Model_isRecord_24 (by decide) ?_
    refine q_goto (tgt := 29) d_Model_isRecord_25 rfl ?_
    refine q_zret d_Model_isRecord_29 rfl (by first | exact Or.inl rfl | exact Or.inr rfl | assumption) (by omega) (by omega) ?_
    exact ⟨_, rfl, by rw [k_grp, e2]; rfl, rfl⟩
  · have e2 : l ≠ [] := fun z => hc (by rw [z]; rfl)
    have e3 : k_grp M l = M.any (fun f => decide (f.1 = l) && decide (f.2.1 = 2)) := by rw [k_grp, decide_eq_false e2, Bool.false_or]
    rw [e3]
    cases hf : k_fi M l with
    | none =>
      rw [k_grp_no hf]
      refine q_iload_n d_Model_isRecord_10 rfl rfl ?_
      refine q_if_lt (tgt := 28) d_Model_isRecord_11 rfl (fun hc => ?_) (fun hc => ?_)
      · refine q_iconst (v := nI 0) d_Model_isRecord_28 (by decide) ?_
        refine q_zret d_Model_isRecord_29 rfl (by first | exact Or.inl rfl | exact Or.inr rfl | assumption) (by omega) (by omega) ?_
        exact ⟨_, rfl, rfl, rfl⟩
      · exact absurd (show p_idx none < 0 by decide) hc
    | some i =>
      obtain ⟨b1, f, b2, b3⟩ := k_fi_some hf
      rw [k_grp_fi hd hf b2]
      refine q_iload_n d_Model_isRecord_10 rfl rfl ?_
      refine q_if_lt (tgt := 28) d_Model_isRecord_11 rfl (fun hc => ?_) (fun hc => ?_)
      · exact absurd hc (nI_pos (by omega))
      · rw [show p_idx (some i) = nI i from rfl]
        refine q_aload_n d_Model_isRecord_14 rfl rfl ?_
        refine q_getR (ci := 11) (fk := 20) d_Model_isRecord_15 rfl (Nat.le_of_ble_eq_true rfl) w_1124 (fun _ _ => rfl) hL.1 (hL.2 20 _ _ _ rfl).1 ?_
        refine q_iload_n d_Model_isRecord_18 rfl rfl ?_
        refine q_iald d_Model_isRecord_19 (hL.2 20 _ _ _ rfl).2 (by first | assumption | exact vp_in_nI (by omega) (by omega)) ?_
        rw [(hM.2.2 i f b2).2.1]
        refine q_iconst (v := nI 2) d_Model_isRecord_20 (by decide) ?_
        refine q_icmp_ne (tgt := 28) d_Model_isRecord_21 rfl (fun hc => ?_) (fun hc => ?_)
        · refine q_iconst (v := nI 0) d_Model_isRecord_28 (by decide) ?_
          refine q_zret d_Model_isRecord_29 rfl (by first | exact Or.inl rfl | exact Or.inr rfl | assumption) (by omega) (by omega) ?_
          exact ⟨_, rfl, by rw [decide_eq_false (fun z => hc (by rw [z]; rfl))]; rfl, rfl⟩
        · refine q_iconst (v := nI 1) d_Model_isRecord_24 (by decide) ?_
          refine q_goto (tgt := 29) d_Model_isRecord_25 rfl ?_
          refine q_zret d_Model_isRecord_29 rfl (by first | exact Or.inl rfl | exact Or.inr rfl | assumption) (by omega) (by omega) ?_
          exact ⟨_, rfl, by rw [decide_eq_true (show f.2.1 = 2 from hc)]; rfl, rfl⟩
end MWork
