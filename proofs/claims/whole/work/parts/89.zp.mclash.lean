/-! clash, by the reference: the call -/
section MClash
variable {g : q_G} {sz m : Nat} {T : q_T} {I : q_I} {R : q_R} {J : q_J} {S : KA}
theorem m_zf.ps {I' : q_I} (h : m_zf m I I') : m_ps m I I' := by
  have e : ∀ k : Nat, k < 39 → k ≠ 18 → k ≠ 29 → I' m (nI k) = I m (nI k) := fun k hk k1 k2 => h.2 _ (fun z => by have := q_nI_inj z; omega) (fun z => by have := q_nI_inj z; omega)
  exact ⟨⟨fun b hb => h.1 b (by omega) (by omega), fun j j1 j2 => h.1 (m + j) (by omega) (by omega), e 1 (by omega) (by omega) (by omega), e 7 (by omega) (by omega) (by omega), e 8 (by omega) (by omega) (by omega), e 13 (by omega) (by omega) (by omega)⟩, fun j j1 j2 => h.1 (m + j) (by omega) (by omega)⟩
theorem m_ps.ot {I' : q_I} (h : ∀ b, b ≠ m + 24 → I' b = I b) : m_ps m I I' := ⟨⟨fun b hb => h b (by omega), fun j j1 j2 => h _ (by omega), by rw [h m (by omega)], by rw [h m (by omega)], by rw [h m (by omega)], by rw [h m (by omega)]⟩, fun j j1 j2 => h _ (by omega)⟩
theorem k_rs_find {M L2 : List KF} (hp : M.Perm (k_rs 0 L2)) (hwM : k_wfL M) {k : Nat} {f : KF} (hf : L2[k]? = some f) : ∃ a, M[a]? = some (f.1, f.2.1, f.2.2.1, f.2.2.2.1, k) ∧ k_fo M (k_of (nI (k_path f.1))) = some a ∧ a < M.length := by
  obtain ⟨f', hf'⟩ : ∃ f' : KF, f' = (f.1, f.2.1, f.2.2.1, f.2.2.2.1, k) := ⟨_, rfl⟩
  have hfm : f' ∈ M := hp.mem_iff.mpr (List.mem_of_getElem? (i := k) (by rw [k_rs_at, hf, hf', show 0 + k = k by omega]; rfl))
  obtain ⟨a, ha⟩ := List.getElem?_of_mem hfm
  have hal := (List.getElem?_eq_some_iff.mp ha).1
  have hfi := k_fi_at hwM.2.2.1 ha
  have hokf : k_ok 4 f.1 := by
    have := (hwM.2.1 f' hfm).1
    rw [hf'] at this; exact this
  refine ⟨a, by rw [← hf']; exact ha, ?_, hal⟩
  rw [k_of_path hokf]
  rw [hf'] at hfi
  exact hfi
theorem c_Model_clash_no (hM : relM S m T I R) {v : Int32} (hb : k_bel S.ss.length v = false) : q_Ci g M_Model_clash [.ref m, .int v] (sz, T, I, R, J) 0 0 (m_spm m sz T I R J (nI 1, 0, S)) := by
  have hL := hM.1
  have hn : I m (nI 8) = nI S.ss.length := hM.2.2.1.1
  refine q_C.of (ls0 := [some (.ref m), some (.int v), none, none, none, none]) (by decide) rfl (by decide) (Nat.le_of_ble_eq_true rfl) rfl ?_
  have fin : ∀ (mcc msc : Nat), mcc = 0 → msc = 0 → q_V g M_Model_clash 0 0 mcc msc (sz, T, I, R, J) (fun o h' => ∃ r : Int32, o = .inl (some (.int r)) ∧ m_spm m sz T I R J (nI 1, 0, S) r h') 17 [some (.ref m), some (.int v), none, none, none, none] [.ref m] := by
    intro mcc msc m1 m2
    subst m1 m2
    refine q_iconst (v := nI 1) d_Model_clash_17 (by decide) ?_
    refine q_putI (ci := 11) (fk := 0) d_Model_clash_18 rfl (Nat.le_of_ble_eq_true rfl) w_1104 (Or.inl rfl) (fun _ _ => rfl) rfl rfl hL.1 ?_
    refine q_aload_n d_Model_clash_21 rfl rfl ?_
    refine q_getI (ci := 11) (fk := 0) d_Model_clash_22 rfl (Nat.le_of_ble_eq_true rfl) w_1104 (fun _ _ => rfl) hL.1 ?_
    rw [q_upI_self]
    refine q_if_le (tgt := 30) d_Model_clash_25 rfl (fun hc => ?_) (fun hc => ?_)
    · exact absurd hc (by decide)
    refine q_iconst (v := nI 0) d_Model_clash_28 (by decide) ?_
    refine q_iret d_Model_clash_29 rfl (by omega) (by omega) ?_
    exact ⟨_, rfl, m_no hM (by decide) _⟩
  refine q_aload_n d_Model_clash_0 rfl rfl ?_
  refine q_iload_n d_Model_clash_1 rfl rfl ?_
  refine q_if_lt (tgt := 17) d_Model_clash_2 rfl (fun hc => ?_) (fun hc => ?_)
  · exact fin _ _ rfl rfl
  have h1 := Int32.not_lt.mp hc
  refine q_iload_n d_Model_clash_5 rfl rfl ?_
  refine q_aload_n d_Model_clash_6 rfl rfl ?_
  refine q_getI (ci := 11) (fk := 8) d_Model_clash_7 rfl (Nat.le_of_ble_eq_true rfl) w_1112 (fun _ _ => rfl) hL.1 ?_
  rw [hn]
  refine q_icmp_ge (tgt := 17) d_Model_clash_10 rfl (fun hc => ?_) (fun hc => ?_)
  · exact fin _ _ rfl rfl
  · exact absurd hb (by rw [k_bel, decide_eq_true h1, decide_eq_true (Int32.not_le.mp hc)]; decide)
set_option maxHeartbeats 2000000 in
theorem c_Model_clash (hw : wf S) (hM : relM S m T I R) {s : Nat} {st : KS} {L L2 : List KF} (hs : S.ss[s]? = some st) (hLf : S.vs[st.fr]? = some L) (hLt : S.vs[st.to]? = some L2) : q_Ci g M_Model_clash [.ref m, .int (nI s)] (sz, T, I, R, J) 0 0 (m_spm m sz T I R J (a_cl S s st L L2)) := by
  have hL := hM.1
  have hn : I m (nI 8) = nI S.ss.length := hM.2.2.1.1
  have hv8 := hw.1.2.1
  have h16 := hw.2.1.1
  have hsl := (List.getElem?_eq_some_iff.mp hs).1
  obtain ⟨f1, f2, f3, f4, -⟩ := hw.2.1.2 st (List.mem_of_getElem? hs)
  obtain ⟨E, hsk, hE⟩ := hw.stp hs hLf hLt
  have hskk := hsk
  obtain ⟨b1, b2, b3, b4, b5, b6, b7, b8⟩ := hsk
  have wL := (hw.1.2.2 L (List.mem_of_getElem? hLf)).1
  have wL2 := (hw.1.2.2 L2 (List.mem_of_getElem? hLt)).1
  have hL24 := wL.1
  have hL224 := wL2.1
  obtain ⟨r1, r2, r3⟩ := hM.2.2.1.2.1 s st hs
  have vL : m_vl m st.fr L I := hM.2.1.2 st.fr L hLf
  have vL2 : m_vl m st.to L2 I := hM.2.1.2 st.to L2 hLt
  obtain ⟨zA, hzA⟩ : ∃ zA, zA = z_st true st (z_s0 L) := ⟨_, rfl⟩
  obtain ⟨Q, hQ⟩ : ∃ Q : q_O → q_H → Prop, Q = (fun o h' => ∃ r : Int32, o = .inl (some (.int r)) ∧ m_spm m sz T I R J (a_cl S s st L L2) r h') := ⟨_, rfl⟩
  refine q_C.of (ls0 := [some (.ref m), some (.int (nI s)), none, none, none, none]) (by decide) rfl (by decide) (Nat.le_of_ble_eq_true rfl) rfl ?_
  rw [← hQ]
  -- the two tables of terms are held against each other
  have cmp : ∀ (zB : List KT) (I8 : q_I) (M8 : List KF) (tb8 : List KT), m_ps m I I8 → I8 m (nI 0) = 0 → m_z m M8 (k_zv zB) tb8 I8 → M8.Perm (k_rs 0 L2) → tb8.length ≤ 1024 → (∀ a f, L2[a]? = some f → f.2.1 ≠ 2 → zA.getD a [] ∈ tb8 ∧ I8 (m + 24) (nI a) = nI (tb8.idxOf (zA.getD a []))) → a_cl S s st L L2 = (0, p_b (z_dif L2 zA zB), S) → ∀ (j k : Nat) (b : Bool), k + j = L2.length → (b = true ↔ ∀ a f, a < k → L2[a]? = some f → f.2.1 ≠ 2 → zA.getD a [] = zB.getD a []) → q_V g M_Model_clash 0 0 0 0 (sz, T, I8, R, J) Q 156 [some (.ref m), some (.int (nI s)), some (.int (nI st.fr)), some (.int (nI st.to)), some (.int (p_b b)), some (.int (nI k))] [] := by
    intro zB I8 M8 tb8 hps t8 z8 p8 l8 oth ea j
    have vL8 : m_vl m st.to L2 I8 := vL2.cong fun j j1 j2 => hps.1.2.1 j (by omega) (by omega)
    have wM8 : k_wfL M8 := (k_rs_wf wL2).perm p8
    have h26 := z8.1.2.1
    induction j with
    | zero =>
      intro k b hk hb
      refine q_iload d_Model_clash_156 rfl ?_
      refine q_aload_n d_Model_clash_158 rfl rfl ?_
      refine q_getR (ci := 11) (fk := 2) d_Model_clash_159 rfl (Nat.le_of_ble_eq_true rfl) w_1106 (fun _ _ => rfl) hL.1 (hL.2 2 _ _ _ rfl).1 ?_
      refine q_iload_n d_Model_clash_162 rfl rfl ?_
      refine q_iald d_Model_clash_163 (hL.2 2 _ _ _ rfl).2 (by first | assumption | exact vp_in_nI (by omega) (by omega)) ?_
      rw [vL8.1]
      refine q_icmp_ge (tgt := 232) d_Model_clash_164 rfl (fun hc => ?_) (fun hc => ?_)
      rotate_left
      · exact absurd (by rw [nI_leI (by omega) (by omega)]; omega) hc
      cases b with
      | true =>
        have hd : z_dif L2 zA zB = false := Bool.eq_false_iff.mpr fun z => by
          obtain ⟨a, f, hf, h2, h3⟩ := z_dif_iff.mp z
          exact h3 (hb.mp rfl a f (by have := (List.getElem?_eq_some_iff.mp hf).1; omega) hf h2)
        rw [hd] at ea
        refine q_iload d_Model_clash_232 rfl ?_
        refine q_if_eq (tgt := 241) d_Model_clash_234 rfl (fun hc => ?_) (fun hc => ?_)
        · exact absurd hc (by decide)
        refine q_iconst (v := nI 0) d_Model_clash_237 (by decide) ?_
        refine q_goto (tgt := 242) d_Model_clash_238 rfl ?_
        refine q_iret d_Model_clash_242 rfl (by omega) (by omega) ?_
        rw [hQ, ea]
        exact ⟨_, rfl, fun _ => rfl, I8, rfl, t8, hps.1.1, hM.ps hps⟩
      | false =>
        have hd : z_dif L2 zA zB = true := by
          refine Classical.byContradiction fun hn => ?_
          have hn2 : z_dif L2 zA zB = false := by
            cases hz : z_dif L2 zA zB with
            | true => exact absurd hz hn
            | false => rfl
          refine absurd (hb.mpr fun a f ha hf h2 => Classical.byContradiction fun h3 => ?_) (by decide)
          have := z_dif_iff.mpr ⟨a, f, hf, h2, h3⟩
          rw [hn2] at this
          exact absurd this (by decide)
        rw [hd] at ea
        refine q_iload d_Model_clash_232 rfl ?_
        refine q_if_eq (tgt := 241) d_Model_clash_234 rfl (fun hc => ?_) (fun hc => ?_)
        rotate_left
        · exact absurd rfl hc
        refine q_iconst (v := nI 1) d_Model_clash_241 (by decide) ?_
        refine q_iret d_Model_clash_242 rfl (by omega) (by omega) ?_
        rw [hQ, ea]
        exact ⟨_, rfl, fun _ => rfl, I8, rfl, t8, hps.1.1, hM.ps hps⟩
    | succ j ih =>
      intro k b hk hb
      obtain ⟨f, hf⟩ : ∃ f, L2[k]? = some f := ⟨_, List.getElem?_eq_getElem (by omega)⟩
      obtain ⟨y1, y2, -, -⟩ := vL8.2 k f hf
      have next : ∀ (b' : Bool) (mcc msc : Nat), mcc = 0 → msc = 0 → (b' = true ↔ (b = true ∧ (f.2.1 ≠ 2 → zA.getD k [] = zB.getD k []))) → q_V g M_Model_clash 0 0 mcc msc (sz, T, I8, R, J) Q 224 [some (.ref m), some (.int (nI s)), some (.int (nI st.fr)), some (.int (nI st.to)), some (.int (p_b b)), some (.int (nI k))] [.int (p_b b')] := by
        intro b' mcc msc m1 m2 hb'
        subst m1 m2
        refine q_istore d_Model_clash_224 (Nat.le_of_ble_eq_true rfl) (by first | exact q_ok0 | exact q_okI rfl | exact q_okR rfl | exact q_okN rfl) rfl ?_
        first | refine q_iincN d_Model_clash_226 rfl (Nat.le_of_ble_eq_true rfl) (by first | exact q_ok0 | exact q_okI rfl | exact q_okR rfl | exact q_okN rfl) rfl ?_ | refine q_iinc d_Model_clash_226 rfl rfl (Nat.le_of_ble_eq_true rfl) (by first | exact q_ok0 | exact q_okI rfl | exact q_okR rfl | exact q_okN rfl) rfl ?_
        refine q_goto (tgt := 156) d_Model_clash_229 rfl ?_
        refine ih (k + 1) b' (by omega) ⟨fun z a e ha he e2 => ?_, fun z => hb'.mpr ⟨hb.mpr fun a e ha => z a e (by omega), fun e2 => z k f (by omega) hf e2⟩⟩
        obtain ⟨z1, z2⟩ := hb'.mp z
        by_cases hak : a = k
        · subst hak
          have ee : f = e := Option.some.inj (hf.symm.trans he)
          exact z2 (by rw [ee]; exact e2)
        · exact hb.mp z1 a e (by omega) he e2
      refine q_iload d_Model_clash_156 rfl ?_
      refine q_aload_n d_Model_clash_158 rfl rfl ?_
      refine q_getR (ci := 11) (fk := 2) d_Model_clash_159 rfl (Nat.le_of_ble_eq_true rfl) w_1106 (fun _ _ => rfl) hL.1 (hL.2 2 _ _ _ rfl).1 ?_
      refine q_iload_n d_Model_clash_162 rfl rfl ?_
      refine q_iald d_Model_clash_163 (hL.2 2 _ _ _ rfl).2 (by first | assumption | exact vp_in_nI (by omega) (by omega)) ?_
      rw [vL8.1]
      refine q_icmp_ge (tgt := 232) d_Model_clash_164 rfl (fun hc => ?_) (fun hc => ?_)
      · rw [nI_leI (by omega) (by omega)] at hc
        omega
      cases b with
      | false =>
        refine q_iload d_Model_clash_167 rfl ?_
        refine q_if_eq (tgt := 223) d_Model_clash_169 rfl (fun hc => ?_) (fun hc => ?_)
        rotate_left
        · exact absurd rfl hc
        refine q_iconst (v := nI 0) d_Model_clash_223 (by decide) ?_
        exact next false _ _ rfl rfl ⟨fun z => absurd z (by decide), fun z => absurd z.1 (by decide)⟩
      | true =>
        refine q_iload d_Model_clash_167 rfl ?_
        refine q_if_eq (tgt := 223) d_Model_clash_169 rfl (fun hc => ?_) (fun hc => ?_)
        · exact absurd hc (by decide)
        refine q_aload_n d_Model_clash_172 rfl rfl ?_
        refine q_getR (ci := 11) (fk := 4) d_Model_clash_173 rfl (Nat.le_of_ble_eq_true rfl) w_1108 (fun _ _ => rfl) hL.1 (hL.2 4 _ _ _ rfl).1 ?_
        refine q_bipush (v := nI 24) d_Model_clash_176 (by decide) ?_
        refine q_iload_n d_Model_clash_178 rfl rfl ?_
        first | refine q_imulN d_Model_clash_179 ?_ | refine q_imul d_Model_clash_179 ?_
        refine q_iload d_Model_clash_180 rfl ?_
        first | refine q_iaddN d_Model_clash_182 ?_ | refine q_iadd d_Model_clash_182 ?_
        refine q_iald d_Model_clash_183 (hL.2 4 _ _ _ rfl).2 (by first | assumption | exact vp_in_nI (by omega) (by omega)) ?_
        rw [y2]
        refine q_iconst (v := nI 2) d_Model_clash_184 (by decide) ?_
        refine q_icmp_eq (tgt := 219) d_Model_clash_185 rfl (fun hc => ?_) (fun hc => ?_)
        · have h2 : f.2.1 = 2 := hc
          refine q_iconst (v := nI 1) d_Model_clash_219 (by decide) ?_
          refine q_goto (tgt := 224) d_Model_clash_220 rfl ?_
          exact next true _ _ rfl rfl ⟨fun _ => ⟨rfl, fun z => absurd h2 z⟩, fun _ => rfl⟩
        have h2 : f.2.1 ≠ 2 := hc
        obtain ⟨o1, o2⟩ := oth k f hf h2
        obtain ⟨a, ha, hfo, hal⟩ := k_rs_find p8 wM8 hf
        obtain ⟨t1, t2⟩ := z8.2.1 a _ ha h2
        have t1 : zB.getD k [] ∈ tb8 := t1
        have t2 : I8 (m + 19) (nI a) = nI (tb8.idxOf (zB.getD k [])) := t2
        have i1 := z_ix_lt o1
        have i2 := z_ix_lt t1
        refine q_aload_n d_Model_clash_188 rfl rfl ?_
        refine q_getR (ci := 11) (fk := 32) d_Model_clash_189 rfl (Nat.le_of_ble_eq_true rfl) w_1136 (fun _ _ => rfl) hL.1 (hL.2 32 _ _ _ rfl).1 ?_
        refine q_iload d_Model_clash_192 rfl ?_
        refine q_iald d_Model_clash_194 (hL.2 32 _ _ _ rfl).2 (by first | assumption | exact vp_in_nI (by omega) (by omega)) ?_
        rw [o2]
        refine q_aload_n d_Model_clash_195 rfl rfl ?_
        refine q_getR (ci := 11) (fk := 24) d_Model_clash_196 rfl (Nat.le_of_ble_eq_true rfl) w_1128 (fun _ _ => rfl) hL.1 (hL.2 24 _ _ _ rfl).1 ?_
        refine q_aload_n d_Model_clash_199 rfl rfl ?_
        refine q_aload_n d_Model_clash_200 rfl rfl ?_
        refine q_getR (ci := 11) (fk := 3) d_Model_clash_201 rfl (Nat.le_of_ble_eq_true rfl) w_1107 (fun _ _ => rfl) hL.1 (hL.2 3 _ _ _ rfl).1 ?_
        refine q_bipush (v := nI 24) d_Model_clash_204 (by decide) ?_
        refine q_iload_n d_Model_clash_206 rfl rfl ?_
        first | refine q_imulN d_Model_clash_207 ?_ | refine q_imul d_Model_clash_207 ?_
        refine q_iload d_Model_clash_208 rfl ?_
        first | refine q_iaddN d_Model_clash_210 ?_ | refine q_iadd d_Model_clash_210 ?_
        refine q_iald d_Model_clash_211 (hL.2 3 _ _ _ rfl).2 (by first | assumption | exact vp_in_nI (by omega) (by omega)) ?_
        rw [y1]
        refine q_callVi (M2 := M_Model_find) d_Model_clash_212 ⟨(Nat.le_of_ble_eq_true rfl), (Nat.le_of_ble_eq_true rfl), w_1266, w_10, ⟨by decide, by decide⟩, show _ = some 1 by decide +kernel⟩ w_1263 w_1265 (ci := 11) rfl s_53 hL.1 rfl (Nat.le_of_ble_eq_true rfl) (by omega) (by omega) (c_Model_findF hL z8.1 wM8.2.1 _) ?_
        rintro _ _ ⟨rfl, rfl⟩
        rw [hfo, show p_idx (some a) = nI a from rfl]
        refine q_iald d_Model_clash_215 (hL.2 24 _ _ _ rfl).2 (by first | assumption | exact vp_in_nI (by omega) (by omega)) ?_
        rw [t2]
        refine q_icmp_ne (tgt := 223) d_Model_clash_216 rfl (fun hc => ?_) (fun hc => ?_)
        · have hne : ¬ zA.getD k [] = zB.getD k [] := fun z => hc (by rw [z])
          refine q_iconst (v := nI 0) d_Model_clash_223 (by decide) ?_
          exact next false _ _ rfl rfl ⟨fun z => absurd z (by decide), fun z => absurd (z.2 h2) hne⟩
        · have heq : zA.getD k [] = zB.getD k [] := z_ix_inj o1 t1 ((nI_eq (by omega) (by omega)).mp hc)
          refine q_iconst (v := nI 1) d_Model_clash_219 (by decide) ?_
          refine q_goto (tgt := 224) d_Model_clash_220 rfl ?_
          exact next true _ _ rfl rfl ⟨fun _ => ⟨rfl, fun _ => heq⟩, fun _ => rfl⟩
  -- the step's own terms are kept; then the other way
  have other : ∀ (I4 : q_I) (M5 : List KF) (tb4 : List KT), m_ps m I I4 → I4 m (nI 0) = 0 → m_z m M5 (k_zv zA) tb4 I4 → M5.Perm (k_rs 0 L2) → tb4.length ≤ 72 → ∀ (j k : Nat) (I5 : q_I), k + j = L2.length → (∀ b, b ≠ m + 24 → I5 b = I4 b) → (∀ a f, a < k → L2[a]? = some f → f.2.1 ≠ 2 → zA.getD a [] ∈ tb4 ∧ I5 (m + 24) (nI a) = nI (tb4.idxOf (zA.getD a []))) → q_V g M_Model_clash 0 0 0 0 (sz, T, I5, R, J) Q 84 [some (.ref m), some (.int (nI s)), some (.int (nI st.fr)), some (.int (nI st.to)), some (.int (nI k)), none] [] := by
    intro I4 M5 tb4 hps t4 z4 p4 l4 j
    have wM5 : k_wfL M5 := (k_rs_wf wL2).perm p4
    have h26 := z4.1.2.1
    induction j with
    | zero =>
      intro k I5 hk g1 g2
      have hps5 := hps.trans (m_ps.ot g1)
      have hM5 := hM.ps hps5
      have vL5 : m_vl m st.to L2 I5 := vL2.cong fun j j1 j2 => hps5.1.2.1 j (by omega) (by omega)
      refine q_iload d_Model_clash_84 rfl ?_
      refine q_aload_n d_Model_clash_86 rfl rfl ?_
      refine q_getR (ci := 11) (fk := 2) d_Model_clash_87 rfl (Nat.le_of_ble_eq_true rfl) w_1106 (fun _ _ => rfl) hL.1 (hL.2 2 _ _ _ rfl).1 ?_
      refine q_iload_n d_Model_clash_90 rfl rfl ?_
      refine q_iald d_Model_clash_91 (hL.2 2 _ _ _ rfl).2 (by first | assumption | exact vp_in_nI (by omega) (by omega)) ?_
      rw [vL5.1]
      refine q_icmp_ge (tgt := 129) d_Model_clash_92 rfl (fun hc => ?_) (fun hc => ?_)
      rotate_left
      · exact absurd (by rw [nI_leI (by omega) (by omega)]; omega) hc
      refine q_aload_n d_Model_clash_129 rfl rfl ?_
      refine q_iload_n d_Model_clash_130 rfl rfl ?_
      refine q_iload_n d_Model_clash_131 rfl rfl ?_
      refine q_iload_n d_Model_clash_132 rfl rfl ?_
      refine q_callVi (M2 := M_Model_findRoute) d_Model_clash_133 ⟨(Nat.le_of_ble_eq_true rfl), (Nat.le_of_ble_eq_true rfl), w_1477, w_10, ⟨by decide, by decide⟩, show _ = some 3 by decide +kernel⟩ w_1474 w_1476 (ci := 11) rfl s_78 hL.1 rfl (Nat.le_of_ble_eq_true rfl) (by omega) (by omega) (c_Model_findRoute hL (hM5.ssv hw) hM5.2.1.1 hv8 f1 f2 (nI s)) ?_
      rintro _ _ ⟨rfl, I6, rfl, i1, i2⟩
      have hps6 := hps5.trans i1.ps
      have t6 : I6 m (nI 0) = 0 := by rw [i1.2 _ (fun z => absurd (q_nI_inj z) (by decide)), g1 m (by omega)]; exact t4
      cases ho : k_way (k_A S.ss (nI s)) S.vs.length st.fr st.to with
      | none =>
        have ea : a_cl S s st L L2 = (0, -1, S) := by unfold a_cl; rw [ho]
        refine q_if_ne (tgt := 141) d_Model_clash_136 rfl (fun hc => ?_) (fun hc => ?_)
        · exact absurd rfl hc
        refine q_iconst (v := (-1)) d_Model_clash_139 (by decide) ?_
        refine q_iret d_Model_clash_140 rfl (by omega) (by omega) ?_
        rw [hQ, ea]
        exact ⟨_, rfl, fun _ => rfl, I6, rfl, t6, hps6.1.1, hM.ps hps6⟩
      | some l =>
        obtain ⟨l1, l2⟩ := k_way_len hv8 ho
        obtain ⟨w1, w2, w3, w4⟩ := k_way_ok f1 f2 ho
        obtain ⟨j33, jar, jst⟩ := i2 l ho
        obtain ⟨zB, hzB⟩ : ∃ zB, zB = z_ways S.ss (nI s) l (z_s0 L) := ⟨_, rfl⟩
        have ea : a_cl S s st L L2 = (0, p_b (z_dif L2 zA zB), S) := by unfold a_cl; rw [ho, hzA, hzB]
        have tb6 : m_tb m tb4 I6 := z4.2.2.1.cong (by rw [i1.2 _ (fun z => absurd (q_nI_inj z) (by decide)), g1 m (by omega)]) (by rw [i1.1 _ (by omega) (by omega) (by omega) (by omega), g1 _ (by omega)]) (by rw [i1.1 _ (by omega) (by omega) (by omega) (by omega), g1 _ (by omega)])
        have vL6 : m_vl m st.fr L I6 := vL.cong fun j j1 j2 => hps6.1.2.1 j (by omega) (by omega)
        rw [show (some l).isSome = true from rfl]
        refine q_if_ne (tgt := 141) d_Model_clash_136 rfl (fun hc => ?_) (fun hc => ?_)
        rotate_left
        · exact absurd hc (by decide)
        refine q_aload_n d_Model_clash_141 rfl rfl ?_
        refine q_iload_n d_Model_clash_142 rfl rfl ?_
        refine q_callVv (M2 := M_Model_takeTerms) d_Model_clash_143 ⟨(Nat.le_of_ble_eq_true rfl), (Nat.le_of_ble_eq_true rfl), w_1517, w_10, ⟨by decide, by decide⟩, show _ = some 1 by decide +kernel⟩ w_1514 w_1516 (ci := 11) rfl s_86 hL.1 rfl (Nat.le_of_ble_eq_true rfl) (by omega) (by omega) (c_Model_takeTerms hL vL6 (by omega) hL24 (fun f hf => (wL.2.2.2.2 f hf).1) tb6 (by omega)) ?_
        rintro _ ⟨I7, tb7, rfl, g7, z7, x7, l7⟩
        have o7 : ∀ b, b ≠ m → q_upI I6 m (nI 27) (nI 2) b = I6 b := fun b hb => by funext z; rw [q_upI_nea hb]
        have hps7 : m_ps m I I7 := (hps6.trans (m_ps.int (by decide) (by decide) (by decide) (by decide) (by decide))).trans g7.ps
        have t7 : I7 m (nI 0) = 0 := by rw [g7.2 _ (fun z => absurd (q_nI_inj z) (by decide)) (fun z => absurd (q_nI_inj z) (by decide)), q_upI_nk (by omega)]; exact t6
        have m33 : I7 m (nI 33) = nI l.length := by rw [g7.2 _ (fun z => absurd (q_nI_inj z) (by decide)) (fun z => absurd (q_nI_inj z) (by decide)), q_upI_nk (by omega)]; exact j33
        have e25 : I7 (m + 25) = I6 (m + 25) := by rw [g7.1 _ (by omega) (by omega), o7 _ (by omega)]
        have e26 : I7 (m + 26) = I6 (m + 26) := by rw [g7.1 _ (by omega) (by omega), o7 _ (by omega)]
        have e24 : I7 (m + 24) = I5 (m + 24) := by rw [g7.1 _ (by omega) (by omega), o7 _ (by omega), i1.1 _ (by omega) (by omega) (by omega) (by omega)]
        refine q_aload_n d_Model_clash_146 rfl rfl ?_
        refine q_callVv (M2 := M_Model_goRoute) d_Model_clash_147 ⟨(Nat.le_of_ble_eq_true rfl), (Nat.le_of_ble_eq_true rfl), w_1489, w_10, ⟨by decide, by decide⟩, show _ = some 0 by decide +kernel⟩ w_1486 w_1488 (ci := 11) rfl s_81 hL.1 rfl (Nat.le_of_ble_eq_true rfl) (by omega) (by omega) (c_Model_goRoute2 (wo := nI s) hw (hM.ps hps7) m33 (by rw [e25]; exact jar) (by rw [e26]; exact jst) l2 w1 w3 hLf z7 (List.Perm.refl _) (by omega)) ?_
        rintro _ ⟨I8, M8, tb8, rfl, g8, z8, x8, l8, p8⟩
        rw [← hzB] at z8
        have x48 := x7.trans x8
        have hps8 := hps7.trans g8.ps
        have t8 : I8 m (nI 0) = 0 := by rw [g8.2 _ (fun z => absurd (q_nI_inj z) (by decide)) (fun z => absurd (q_nI_inj z) (by decide))]; exact t7
        refine q_iconst (v := nI 1) d_Model_clash_150 (by decide) ?_
        refine q_istore d_Model_clash_151 (Nat.le_of_ble_eq_true rfl) (by first | exact q_ok0 | exact q_okI rfl | exact q_okR rfl | exact q_okN rfl) rfl ?_
        refine q_iconst (v := nI 0) d_Model_clash_153 (by decide) ?_
        refine q_istore d_Model_clash_154 (Nat.le_of_ble_eq_true rfl) (by first | exact q_ok0 | exact q_okI rfl | exact q_okR rfl | exact q_okN rfl) rfl ?_
        refine cmp zB I8 M8 tb8 hps8 t8 z8 (p8 st.to w4 L2 hLt) l8 (fun a f hf h2 => ?_) ea L2.length 0 true (by omega) ⟨fun _ a _ ha => absurd ha (Nat.not_lt_zero _), fun _ => rfl⟩
        obtain ⟨u1, u2⟩ := g2 a f (by have := (List.getElem?_eq_some_iff.mp hf).1; omega) hf h2
        exact ⟨x48.mem u1, by rw [g8.1 _ (by omega) (by omega), e24, u2, x48.ix u1]⟩
    | succ j ih =>
      intro k I5 hk g1 g2
      have hps5 := hps.trans (m_ps.ot g1)
      have vL5 : m_vl m st.to L2 I5 := vL2.cong fun j j1 j2 => hps5.1.2.1 j (by omega) (by omega)
      obtain ⟨f, hf⟩ : ∃ f, L2[k]? = some f := ⟨_, List.getElem?_eq_getElem (by omega)⟩
      obtain ⟨y1, -, -, -⟩ := vL5.2 k f hf
      obtain ⟨a, ha, hfo, hal⟩ := k_rs_find p4 wM5 hf
      have hM5 : k_mw m M5 I5 := z4.1.cong (by rw [g1 m (by omega)]) (fun j j1 j2 => g1 _ (by omega))
      refine q_iload d_Model_clash_84 rfl ?_
      refine q_aload_n d_Model_clash_86 rfl rfl ?_
      refine q_getR (ci := 11) (fk := 2) d_Model_clash_87 rfl (Nat.le_of_ble_eq_true rfl) w_1106 (fun _ _ => rfl) hL.1 (hL.2 2 _ _ _ rfl).1 ?_
      refine q_iload_n d_Model_clash_90 rfl rfl ?_
      refine q_iald d_Model_clash_91 (hL.2 2 _ _ _ rfl).2 (by first | assumption | exact vp_in_nI (by omega) (by omega)) ?_
      rw [vL5.1]
      refine q_icmp_ge (tgt := 129) d_Model_clash_92 rfl (fun hc => ?_) (fun hc => ?_)
      · rw [nI_leI (by omega) (by omega)] at hc
        omega
      refine q_aload_n d_Model_clash_95 rfl rfl ?_
      refine q_getR (ci := 11) (fk := 32) d_Model_clash_96 rfl (Nat.le_of_ble_eq_true rfl) w_1136 (fun _ _ => rfl) hL.1 (hL.2 32 _ _ _ rfl).1 ?_
      refine q_iload d_Model_clash_99 rfl ?_
      refine q_aload_n d_Model_clash_101 rfl rfl ?_
      refine q_getR (ci := 11) (fk := 24) d_Model_clash_102 rfl (Nat.le_of_ble_eq_true rfl) w_1128 (fun _ _ => rfl) hL.1 (hL.2 24 _ _ _ rfl).1 ?_
      refine q_aload_n d_Model_clash_105 rfl rfl ?_
      refine q_aload_n d_Model_clash_106 rfl rfl ?_
      refine q_getR (ci := 11) (fk := 3) d_Model_clash_107 rfl (Nat.le_of_ble_eq_true rfl) w_1107 (fun _ _ => rfl) hL.1 (hL.2 3 _ _ _ rfl).1 ?_
      refine q_bipush (v := nI 24) d_Model_clash_110 (by decide) ?_
      refine q_iload_n d_Model_clash_112 rfl rfl ?_
      first | refine q_imulN d_Model_clash_113 ?_ | refine q_imul d_Model_clash_113 ?_
      refine q_iload d_Model_clash_114 rfl ?_
      first | refine q_iaddN d_Model_clash_116 ?_ | refine q_iadd d_Model_clash_116 ?_
      refine q_iald d_Model_clash_117 (hL.2 3 _ _ _ rfl).2 (by first | assumption | exact vp_in_nI (by omega) (by omega)) ?_
      rw [y1]
      refine q_callVi (M2 := M_Model_find) d_Model_clash_118 ⟨(Nat.le_of_ble_eq_true rfl), (Nat.le_of_ble_eq_true rfl), w_1266, w_10, ⟨by decide, by decide⟩, show _ = some 1 by decide +kernel⟩ w_1263 w_1265 (ci := 11) rfl s_53 hL.1 rfl (Nat.le_of_ble_eq_true rfl) (by omega) (by omega) (c_Model_findF hL hM5 wM5.2.1 _) ?_
      rintro _ _ ⟨rfl, rfl⟩
      rw [hfo, show p_idx (some a) = nI a from rfl]
      refine q_iald d_Model_clash_121 (hL.2 24 _ _ _ rfl).2 (by first | assumption | exact vp_in_nI (by omega) (by omega)) ?_
      refine q_iast d_Model_clash_122 (hL.2 32 _ _ _ rfl).2 (by first | assumption | exact vp_in_nI (by omega) (by omega)) ?_
      first | refine q_iincN d_Model_clash_123 rfl (Nat.le_of_ble_eq_true rfl) (by first | exact q_ok0 | exact q_okI rfl | exact q_okR rfl | exact q_okN rfl) rfl ?_ | refine q_iinc d_Model_clash_123 rfl rfl (Nat.le_of_ble_eq_true rfl) (by first | exact q_ok0 | exact q_okI rfl | exact q_okR rfl | exact q_okN rfl) rfl ?_
      refine q_goto (tgt := 84) d_Model_clash_126 rfl ?_
      refine ih (k + 1) _ (by omega) (fun b hb => by funext z; rw [q_upI_nea hb, g1 b hb]) (fun a2 e ha2 he e2 => ?_)
      by_cases hak : a2 = k
      · subst hak
        have ee : f = e := Option.some.inj (hf.symm.trans he)
        obtain ⟨t1, t2⟩ := z4.2.1 a _ ha (show f.2.1 ≠ 2 by rw [ee]; exact e2)
        have t1 : zA.getD a2 [] ∈ tb4 := t1
        have t2 : I4 (m + 19) (nI a) = nI (tb4.idxOf (zA.getD a2 [])) := t2
        rw [q_upI_self, g1 _ (by omega)]
        exact ⟨t1, t2⟩
      · rw [q_upI_nk (by omega)]
        exact g2 a2 e (by omega) he e2
  refine q_aload_n d_Model_clash_0 rfl rfl ?_
  refine q_iload_n d_Model_clash_1 rfl rfl ?_
  refine q_if_lt (tgt := 17) d_Model_clash_2 rfl (fun hc => ?_) (fun hc => ?_)
  · rw [Int32.lt_iff_toInt_lt, nI_toInt (by omega)] at hc
    have h0 : (0 : Int32).toInt = 0 := by decide
    omega
  refine q_iload_n d_Model_clash_5 rfl rfl ?_
  refine q_aload_n d_Model_clash_6 rfl rfl ?_
  refine q_getI (ci := 11) (fk := 8) d_Model_clash_7 rfl (Nat.le_of_ble_eq_true rfl) w_1112 (fun _ _ => rfl) hL.1 ?_
  rw [hn]
  refine q_icmp_ge (tgt := 17) d_Model_clash_10 rfl (fun hc => ?_) (fun hc => ?_)
  · rw [nI_leI (by omega) (by omega)] at hc
    omega
  refine q_iconst (v := nI 0) d_Model_clash_13 (by decide) ?_
  refine q_goto (tgt := 18) d_Model_clash_14 rfl ?_
  refine q_putI (ci := 11) (fk := 0) d_Model_clash_18 rfl (Nat.le_of_ble_eq_true rfl) w_1104 (Or.inl rfl) (fun _ _ => rfl) rfl rfl hL.1 ?_
  obtain ⟨I1, hI1⟩ : ∃ I1, I1 = q_upI I m (nI 0) (nI 0) := ⟨_, rfl⟩
  rw [← hI1]
  have o1 : ∀ b, b ≠ m → I1 b = I b := fun b hb => by rw [hI1]; funext z; rw [q_upI_nea hb]
  have t1 : I1 m (nI 0) = nI 0 := by rw [hI1, q_upI_self]
  refine q_aload_n d_Model_clash_21 rfl rfl ?_
  refine q_getI (ci := 11) (fk := 0) d_Model_clash_22 rfl (Nat.le_of_ble_eq_true rfl) w_1104 (fun _ _ => rfl) hL.1 ?_
  rw [t1]
  refine q_if_le (tgt := 30) d_Model_clash_25 rfl (fun hc => ?_) (fun hc => ?_)
  rotate_left
  · exact absurd (by decide) hc
  refine q_aload_n d_Model_clash_30 rfl rfl ?_
  refine q_getR (ci := 11) (fk := 9) d_Model_clash_31 rfl (Nat.le_of_ble_eq_true rfl) w_1113 (fun _ _ => rfl) hL.1 (hL.2 9 _ _ _ rfl).1 ?_
  refine q_iload_n d_Model_clash_34 rfl rfl ?_
  refine q_iald d_Model_clash_35 (hL.2 9 _ _ _ rfl).2 (by first | assumption | exact vp_in_nI (by omega) (by omega)) ?_
  rw [o1 _ (by omega), r1]
  refine q_istore_n d_Model_clash_36 rfl (Nat.le_of_ble_eq_true rfl) (by first | exact q_ok0 | exact q_okI rfl | exact q_okR rfl | exact q_okN rfl) rfl ?_
  refine q_aload_n d_Model_clash_37 rfl rfl ?_
  refine q_getR (ci := 11) (fk := 10) d_Model_clash_38 rfl (Nat.le_of_ble_eq_true rfl) w_1114 (fun _ _ => rfl) hL.1 (hL.2 10 _ _ _ rfl).1 ?_
  refine q_iload_n d_Model_clash_41 rfl rfl ?_
  refine q_iald d_Model_clash_42 (hL.2 10 _ _ _ rfl).2 (by first | assumption | exact vp_in_nI (by omega) (by omega)) ?_
  rw [o1 _ (by omega), r2]
  refine q_istore_n d_Model_clash_43 rfl (Nat.le_of_ble_eq_true rfl) (by first | exact q_ok0 | exact q_okI rfl | exact q_okR rfl | exact q_okN rfl) rfl ?_
  refine q_aload_n d_Model_clash_44 rfl rfl ?_
  refine q_iconst (v := nI 0) d_Model_clash_45 (by decide) ?_
  refine q_putI (ci := 11) (fk := 29) d_Model_clash_46 rfl (Nat.le_of_ble_eq_true rfl) w_1133 (Or.inl rfl) (fun _ _ => rfl) rfl rfl hL.1 ?_
  obtain ⟨I2, hI2⟩ : ∃ I2, I2 = q_upI I1 m (nI 29) (nI 0) := ⟨_, rfl⟩
  rw [← hI2]
  have o2 : ∀ b, b ≠ m → I2 b = I b := fun b hb => by rw [hI2]; funext z; rw [q_upI_nea hb, o1 b hb]
  have tb2 : m_tb m [] I2 := ⟨by rw [hI2, q_upI_self]; rfl, ⟨List.nodup_nil, fun t ht => by cases ht⟩, fun i t ht => by cases ht⟩
  have vL2' : m_vl m st.fr L I2 := vL.cong fun j j1 j2 => o2 _ (by omega)
  have hps2 : m_ps m I I2 := by
    rw [hI2, hI1]
    exact (m_ps.int (by decide) (by decide) (by decide) (by decide) (by decide)).trans (m_ps.int (by decide) (by decide) (by decide) (by decide) (by decide))
  refine q_aload_n d_Model_clash_49 rfl rfl ?_
  refine q_iload_n d_Model_clash_50 rfl rfl ?_
  refine q_callVv (M2 := M_Model_takeTerms) d_Model_clash_51 ⟨(Nat.le_of_ble_eq_true rfl), (Nat.le_of_ble_eq_true rfl), w_1517, w_10, ⟨by decide, by decide⟩, show _ = some 1 by decide +kernel⟩ w_1514 w_1516 (ci := 11) rfl s_86 hL.1 rfl (Nat.le_of_ble_eq_true rfl) (by omega) (by omega) (c_Model_takeTerms hL vL2' (by omega) hL24 (fun f hf => (wL.2.2.2.2 f hf).1) tb2 (by rw [List.length_nil]; omega)) ?_
  rintro _ ⟨I3, tb3, rfl, g3, z3, x3, l3⟩
  rw [List.length_nil] at l3
  have hps3 : m_ps m I I3 := (hps2.trans (m_ps.int (by decide) (by decide) (by decide) (by decide) (by decide))).trans g3.ps
  have t3 : I3 m (nI 0) = 0 := by
    rw [g3.2 _ (fun z => absurd (q_nI_inj z) (by decide)) (fun z => absurd (q_nI_inj z) (by decide)), q_upI_nk (by omega), hI2, q_upI_nk (by omega), t1]; rfl
  have loop1 : ∀ (d j : Nat) (I4 : q_I) (M4 : List KF) (Z4 : KZ) (tb4 : List KT), j + d = st.pr.length → m_zf m I3 I4 → m_z m M4 Z4 tb4 I4 → M4.Perm (k_fws (k_rs 0 L) (st.pr.take j)) → z_fws (st.pr.drop j) Z4 = z_fws st.pr (z_ld true st (z_s0 L)) → tb4.length ≤ tb3.length + 3 * j → q_V g M_Model_clash 0 0 0 0 (sz, T, I4, R, J) Q 57 [some (.ref m), some (.int (nI s)), some (.int (nI st.fr)), some (.int (nI st.to)), some (.int (nI j)), none] [] := by
    intro d
    induction d with
    | zero =>
      intro j I4 M4 Z4 tb4 hj a1 a2 a3 a4 a5
      obtain rfl : j = st.pr.length := by omega
      have hps4 := hps3.trans a1.ps
      rw [List.drop_length] at a4
      have a4' : Z4 = z_fws st.pr (z_ld true st (z_s0 L)) := a4
      rw [List.take_length] at a3
      rw [a4'] at a2
      obtain ⟨M5, p5, x5⟩ := m_out2 (fw := false) hskk hE a2 (a3.trans b6.symm)
      have x5 : m_z m M5 (k_zv zA) tb4 I4 := by rw [hzA]; exact x5
      have p5 : M5.Perm (k_rs 0 L2) := p5
      have t4 : I4 m (nI 0) = 0 := by rw [a1.2 _ (fun z => absurd (q_nI_inj z) (by decide)) (fun z => absurd (q_nI_inj z) (by decide))]; exact t3
      refine q_iload d_Model_clash_57 rfl ?_
      refine q_aload_n d_Model_clash_59 rfl rfl ?_
      refine q_getR (ci := 11) (fk := 11) d_Model_clash_60 rfl (Nat.le_of_ble_eq_true rfl) w_1115 (fun _ _ => rfl) hL.1 (hL.2 11 _ _ _ rfl).1 ?_
      refine q_iload_n d_Model_clash_63 rfl rfl ?_
      refine q_iald d_Model_clash_64 (hL.2 11 _ _ _ rfl).2 (by first | assumption | exact vp_in_nI (by omega) (by omega)) ?_
      rw [hps4.1.2.1 8 (by omega) (by omega), r3.1]
      refine q_icmp_ge (tgt := 81) d_Model_clash_65 rfl (fun hc => ?_) (fun hc => ?_)
      rotate_left
      · exact absurd (Int32.le_refl _) hc
      refine q_iconst (v := nI 0) d_Model_clash_81 (by decide) ?_
      refine q_istore d_Model_clash_82 (Nat.le_of_ble_eq_true rfl) (by first | exact q_ok0 | exact q_okI rfl | exact q_okR rfl | exact q_okN rfl) rfl ?_
      exact other I4 M5 tb4 hps4 t4 x5 p5 (by omega) L2.length 0 I4 (by omega) (fun _ _ => rfl) (fun a _ ha => absurd ha (Nat.not_lt_zero _))
    | succ d ih =>
      intro j I4 M4 Z4 tb4 hj a1 a2 a3 a4 a5
      have hps4 := hps3.trans a1.ps
      have hjl : j < st.pr.length := by omega
      obtain ⟨p, hp⟩ : ∃ p, st.pr[j]? = some p := ⟨_, List.getElem?_eq_getElem hjl⟩
      obtain ⟨c1, c2⟩ := k_chn_at b3 hp
      have cw := k_chn_wf b1 (k_chn_take j b3)
      have cn := k_fws_nds b2 (k_chn_take j b3)
      have hmp : k_mp m (8 * (8 * s + j)) p I4 := (hM.mp hs hp).cong (hps4.1.2.1 9 (by omega) (by omega))
      refine q_iload d_Model_clash_57 rfl ?_
      refine q_aload_n d_Model_clash_59 rfl rfl ?_
      refine q_getR (ci := 11) (fk := 11) d_Model_clash_60 rfl (Nat.le_of_ble_eq_true rfl) w_1115 (fun _ _ => rfl) hL.1 (hL.2 11 _ _ _ rfl).1 ?_
      refine q_iload_n d_Model_clash_63 rfl rfl ?_
      refine q_iald d_Model_clash_64 (hL.2 11 _ _ _ rfl).2 (by first | assumption | exact vp_in_nI (by omega) (by omega)) ?_
      rw [hps4.1.2.1 8 (by omega) (by omega), r3.1]
      refine q_icmp_ge (tgt := 81) d_Model_clash_65 rfl (fun hc => ?_) (fun hc => ?_)
      · rw [nI_leI (by omega) (by omega)] at hc
        omega
      refine q_aload_n d_Model_clash_68 rfl rfl ?_
      refine q_iload_n d_Model_clash_69 rfl rfl ?_
      refine q_iload d_Model_clash_70 rfl ?_
      refine q_callVv (M2 := M_Model_forth) d_Model_clash_72 ⟨(Nat.le_of_ble_eq_true rfl), (Nat.le_of_ble_eq_true rfl), w_1293, w_10, ⟨by decide, by decide⟩, show _ = some 2 by decide +kernel⟩ w_1290 w_1292 (ci := 11) rfl s_57 hL.1 rfl (Nat.le_of_ble_eq_true rfl) (by omega) (by omega) (c_Model_forth2 hL a2 (by omega) (cw.perm a3) (cn.perm a3) (c1.perm a3) hmp (by omega) (by omega)) ?_
      rintro _ ⟨M5, z2, I5, tb5, rfl, z4, z5, z6, z7⟩
      first | refine q_iincN d_Model_clash_75 rfl (Nat.le_of_ble_eq_true rfl) (by first | exact q_ok0 | exact q_okI rfl | exact q_okR rfl | exact q_okN rfl) rfl ?_ | refine q_iinc d_Model_clash_75 rfl rfl (Nat.le_of_ble_eq_true rfl) (by first | exact q_ok0 | exact q_okI rfl | exact q_okR rfl | exact q_okN rfl) rfl ?_
      refine q_goto (tgt := 57) d_Model_clash_78 rfl ?_
      refine ih (j + 1) I5 M5 _ tb5 (by omega) (a1.trans z4) z5 (by rw [c2]; exact z2.trans (k_fw.perm a3)) ?_ (by omega)
      rw [List.drop_eq_getElem_cons hjl] at a4
      have e : st.pr[j] = p := by rw [List.getElem?_eq_getElem hjl] at hp; exact Option.some.inj hp
      rw [e] at a4
      exact a4
  refine q_iconst (v := nI 0) d_Model_clash_54 (by decide) ?_
  refine q_istore d_Model_clash_55 (Nat.le_of_ble_eq_true rfl) (by first | exact q_ok0 | exact q_okI rfl | exact q_okR rfl | exact q_okN rfl) rfl ?_
  exact loop1 st.pr.length 0 I3 _ _ tb3 (by omega) m_zf.refl z3 (List.Perm.refl _) rfl (by omega)
end MClash
/-! clash, both sides together -/
section XClash
variable {g : q_G} {b x L n sz : Nat} {f : Int32 → Int32} {T : q_T} {I : q_I} {R : q_R} {J : q_J} {S : KA}
theorem x_clash (hI : q_INV b x L f (n + 1) sz T I R) (p0 : Int32) : q_gi g b x L f n sz T I R J M_Lens_clash M_Model_clash [.int p0] [2] := by
  refine q_glue1 hI fun S hw hC hM => ?_
  cases hb : k_bel S.ss.length p0 with
  | false => exact ⟨_, c_Lens_clash_no hC hb, hw, fun _ _ _ _ _ hm => c_Model_clash_no hm hb⟩
  | true =>
    obtain ⟨s, hs, rfl⟩ := k_bel_of (by have := hw.2.1.1; omega) hb
    obtain ⟨st, hst⟩ : ∃ st, S.ss[s]? = some st := ⟨_, List.getElem?_eq_getElem hs⟩
    obtain ⟨f1, f2, -⟩ := hw.2.1.2 st (List.mem_of_getElem? hst)
    obtain ⟨Lf, hLf⟩ : ∃ L, S.vs[st.fr]? = some L := ⟨_, List.getElem?_eq_getElem f1⟩
    obtain ⟨Lt, hLt⟩ : ∃ L, S.vs[st.to]? = some L := ⟨_, List.getElem?_eq_getElem f2⟩
    refine ⟨_, c_Lens_clash hw hC hst hLf hLt, ?_, fun _ _ _ _ _ hm => c_Model_clash hw hm hst hLf hLt⟩
    unfold a_cl
    split <;> exact hw
end XClash
