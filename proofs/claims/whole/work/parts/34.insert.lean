/-! a field comes into a schema of the class -/
abbrev M_Schema_insert : q_M := (⟨"LensPaths$Schema", "insert", "(IIIII)LLensPaths$Field;"⟩, prog_9_method_8_code, 7, (some (.object "LensPaths$Field")), "LensPaths$Schema", [], false, 1, 23)
theorem d_Schema_insert_0 : decode prog_9_method_8_code 0 = .ok (.aload_n 0, 1) := by decide +kernel
theorem d_Schema_insert_1 : decode prog_9_method_8_code 1 = .ok (.getfield 11, 3) := by decide +kernel
theorem d_Schema_insert_4 : decode prog_9_method_8_code 4 = .ok (.aload_n 0, 1) := by decide +kernel
theorem d_Schema_insert_5 : decode prog_9_method_8_code 5 = .ok (.getfield 18, 3) := by decide +kernel
theorem d_Schema_insert_8 : decode prog_9_method_8_code 8 = .ok (.aaload, 1) := by decide +kernel
theorem d_Schema_insert_9 : decode prog_9_method_8_code 9 = .ok (.astore 6, 2) := by decide +kernel
theorem d_Schema_insert_11 : decode prog_9_method_8_code 11 = .ok (.aload 6, 2) := by decide +kernel
theorem d_Schema_insert_13 : decode prog_9_method_8_code 13 = .ok (.iload_n 1, 1) := by decide +kernel
theorem d_Schema_insert_14 : decode prog_9_method_8_code 14 = .ok (.putfield 29, 3) := by decide +kernel
theorem d_Schema_insert_17 : decode prog_9_method_8_code 17 = .ok (.aload 6, 2) := by decide +kernel
theorem d_Schema_insert_19 : decode prog_9_method_8_code 19 = .ok (.iload_n 2, 1) := by decide +kernel
theorem d_Schema_insert_20 : decode prog_9_method_8_code 20 = .ok (.putfield 32, 3) := by decide +kernel
theorem d_Schema_insert_23 : decode prog_9_method_8_code 23 = .ok (.aload 6, 2) := by decide +kernel
theorem d_Schema_insert_25 : decode prog_9_method_8_code 25 = .ok (.iload_n 2, 1) := by decide +kernel
theorem d_Schema_insert_26 : decode prog_9_method_8_code 26 = .ok (.iconst 2, 1) := by decide +kernel
theorem d_Schema_insert_27 : decode prog_9_method_8_code 27 = .ok (.if_icmp .ne 7, 3) := by decide +kernel
theorem d_Schema_insert_30 : decode prog_9_method_8_code 30 = .ok (.iconst 0, 1) := by decide +kernel
theorem d_Schema_insert_31 : decode prog_9_method_8_code 31 = .ok (.goto 4, 3) := by decide +kernel
theorem d_Schema_insert_34 : decode prog_9_method_8_code 34 = .ok (.iload_n 3, 1) := by decide +kernel
theorem d_Schema_insert_35 : decode prog_9_method_8_code 35 = .ok (.putfield 35, 3) := by decide +kernel
theorem d_Schema_insert_38 : decode prog_9_method_8_code 38 = .ok (.aload 6, 2) := by decide +kernel
theorem d_Schema_insert_40 : decode prog_9_method_8_code 40 = .ok (.iload_n 2, 1) := by decide +kernel
theorem d_Schema_insert_41 : decode prog_9_method_8_code 41 = .ok (.iconst 2, 1) := by decide +kernel
theorem d_Schema_insert_42 : decode prog_9_method_8_code 42 = .ok (.if_icmp .ne 7, 3) := by decide +kernel
theorem d_Schema_insert_45 : decode prog_9_method_8_code 45 = .ok (.iconst 0, 1) := by decide +kernel
theorem d_Schema_insert_46 : decode prog_9_method_8_code 46 = .ok (.goto 5, 3) := by decide +kernel
theorem d_Schema_insert_49 : decode prog_9_method_8_code 49 = .ok (.iload 4, 2) := by decide +kernel
theorem d_Schema_insert_51 : decode prog_9_method_8_code 51 = .ok (.putfield 38, 3) := by decide +kernel
theorem d_Schema_insert_54 : decode prog_9_method_8_code 54 = .ok (.aload 6, 2) := by decide +kernel
theorem d_Schema_insert_56 : decode prog_9_method_8_code 56 = .ok (.iload 5, 2) := by decide +kernel
theorem d_Schema_insert_58 : decode prog_9_method_8_code 58 = .ok (.putfield 26, 3) := by decide +kernel
theorem d_Schema_insert_61 : decode prog_9_method_8_code 61 = .ok (.aload_n 0, 1) := by decide +kernel
theorem d_Schema_insert_62 : decode prog_9_method_8_code 62 = .ok (.dup, 1) := by decide +kernel
theorem d_Schema_insert_63 : decode prog_9_method_8_code 63 = .ok (.getfield 18, 3) := by decide +kernel
theorem d_Schema_insert_66 : decode prog_9_method_8_code 66 = .ok (.iconst 1, 1) := by decide +kernel
theorem d_Schema_insert_67 : decode prog_9_method_8_code 67 = .ok (.iadd, 1) := by decide +kernel
theorem d_Schema_insert_68 : decode prog_9_method_8_code 68 = .ok (.putfield 18, 3) := by decide +kernel
theorem d_Schema_insert_71 : decode prog_9_method_8_code 71 = .ok (.aload_n 0, 1) := by decide +kernel
theorem d_Schema_insert_72 : decode prog_9_method_8_code 72 = .ok (.invokevirtual 58, 3) := by decide +kernel
theorem d_Schema_insert_75 : decode prog_9_method_8_code 75 = .ok (.aload 6, 2) := by decide +kernel
theorem d_Schema_insert_77 : decode prog_9_method_8_code 77 = .ok (.areturn, 1) := by decide +kernel
section SchemaI
variable {g : q_G} {sz : Nat} {T : q_T} {I : q_I} {R : q_R} {J : q_J}
def k_new (m : List Nat) (so lo hi : Int32) (sl : Nat) : KF := (m, so, if so = 2 then 0 else lo, if so = 2 then 0 else hi, sl)
theorem k_sc.snoc {s : Nat} {L : List KF} {w : Nat → Nat} {I2 : q_I} {f : KF} (hS : k_sc s L w T I R) (hlt : L.length < 24) (hI : ∀ b i, b ≠ s → b ≠ s + 2 + w L.length → I2 b i = I b i) (hn : I2 s (nI 1) = nI (L.length + 1)) (hf : k_fd I2 (s + 2 + w L.length) f) : k_sc s (L ++ [f]) w T I2 R := by
  obtain ⟨⟨b1, b2, b3, b4⟩, b5, b6, b7⟩ := hS
  refine ⟨⟨b1, b2, b3, b4⟩, by rw [hn, List.length_append]; rfl, by rw [List.length_append, List.length_singleton]; omega, fun i e he => ?_⟩
  by_cases hi : i < L.length
  · rw [List.getElem?_append_left hi] at he
    have hk := b7 i e he
    have hne : w i ≠ w L.length := fun z => by have := b3 _ _ (by omega) hlt z; omega
    have q : ∀ j, I2 (s + 2 + w i) j = I (s + 2 + w i) j := fun j => hI _ j (by omega) (by omega)
    exact ⟨by rw [q]; exact hk.1, by rw [q]; exact hk.2.1, by rw [q]; exact hk.2.2.1, by rw [q]; exact hk.2.2.2.1, by rw [q]; exact hk.2.2.2.2⟩
  · rw [List.getElem?_append_right (by omega)] at he
    have : i - L.length = 0 := by
      by_cases h : i - L.length = 0
      · exact h
      · exfalso
        have := (List.getElem?_eq_some_iff.mp he).1
        simp at this
        omega
    rw [this] at he
    cases he
    rw [show i = L.length by omega]
    exact hf
set_option maxHeartbeats 1000000 in
theorem c_Schema_insert {s : Nat} {L : List KF} {w : Nat → Nat} (hS : k_sc s L w T I R) (hok : k_okf L) {m : List Nat} (hm : k_ok 4 m) (h0 : m ≠ []) (hlt : L.length < 24) (so lo hi : Int32) (sl : Nat) :
    q_Cr g M_Schema_insert [.ref s, .int (nI (k_key m)), .int so, .int lo, .int hi, .int (nI sl)] (sz, T, I, R, J) 0 0 (fun r h' => ∃ (I' : q_I) (R' : q_R) (w' : Nat → Nat) (L' : List KF) (a : Nat), r = some a ∧ h' = (sz, T, I', R', J) ∧ (∀ b, b < s ∨ s + 26 ≤ b → I' b = I b) ∧ (∀ b, b ≠ s + 1 → R' b = R b) ∧ k_sc s L' w' T I' R' ∧ L'.Perm (k_new m so lo hi sl :: L) ∧ k_srt L' ∧ s + 2 ≤ a ∧ a < s + 26 ∧ T a = some (103, 0) ∧ k_fd I' a (k_new m so lo hi sl)) := by
  have hL := hS.1.1
  have hn := hS.2.1
  have hr := (hS.1.2.1 L.length hlt).1
  have hw := (hS.1.2.1 L.length hlt).2
  have ht : T (s + 2 + w L.length) = some (103, 0) := hS.1.2.2.2 _ hw
  obtain ⟨A, hA⟩ : ∃ A, A = s + 2 + w L.length := ⟨_, rfl⟩
  rw [← hA] at hr ht
  have hAs : s ≠ A := by omega
  refine q_C.of (ls0 := [some (.ref s), some (.int (nI (k_key m))), some (.int so), some (.int lo), some (.int hi), some (.int (nI sl)), none]) (by decide) rfl (by decide) (Nat.le_of_ble_eq_true rfl) rfl ?_
  have fin : ∀ (x y : Int32), x = (k_new m so lo hi sl).2.2.1 → y = (k_new m so lo hi sl).2.2.2.1 → q_V g M_Schema_insert 0 0 0 0 (sz, T, q_upI (q_upI (q_upI (q_upI I A (nI 0) (nI (k_key m))) A (nI 1) so) A (nI 2) x) A (nI 3) y, R, J) (fun o h' => ∃ r : Option Nat, o = .inl (some (va_rf r)) ∧ ∃ (I' : q_I) (R' : q_R) (w' : Nat → Nat) (L' : List KF) (a : Nat), r = some a ∧ h' = (sz, T, I', R', J) ∧ (∀ b, b < s ∨ s + 26 ≤ b → I' b = I b) ∧ (∀ b, b ≠ s + 1 → R' b = R b) ∧ k_sc s L' w' T I' R' ∧ L'.Perm (k_new m so lo hi sl :: L) ∧ k_srt L' ∧ s + 2 ≤ a ∧ a < s + 26 ∧ T a = some (103, 0) ∧ k_fd I' a (k_new m so lo hi sl)) 54 [some (.ref s), some (.int (nI (k_key m))), some (.int so), some (.int lo), some (.int hi), some (.int (nI sl)), some (.ref A)] [] := by
    intro x y hx hy
    refine q_aload d_Schema_insert_54 rfl ?_
    refine q_iload d_Schema_insert_56 rfl ?_
    refine q_putI (ci := 3) (fk := 4) d_Schema_insert_58 rfl (Nat.le_of_ble_eq_true rfl) w_78 (Or.inl rfl) (fun _ _ => rfl) rfl rfl (by first | assumption | rfl | (simp (disch := omega) only [q_upT_self, q_upT_ne, q_upR_self, q_upR_nea, q_upR_nk, q_upT_at, *]; done) | (simp (disch := omega) only [q_upT_self, q_upT_ne, q_upR_self, q_upR_nea, q_upR_nk, q_upT_at, *]; rfl)) ?_
    refine q_aload_n d_Schema_insert_61 rfl rfl ?_
    refine q_dup d_Schema_insert_62 rfl ?_
    refine q_getI (ci := 6) (fk := 1) d_Schema_insert_63 rfl (Nat.le_of_ble_eq_true rfl) w_99 (fun _ _ => rfl) hL.1 ?_
    rw [q_upI_nea hAs, q_upI_nea hAs, q_upI_nea hAs, q_upI_nea hAs, q_upI_nea hAs, hn]
    refine q_iconst (v := nI 1) d_Schema_insert_66 (by decide) ?_
    first | refine q_iaddN d_Schema_insert_67 ?_ | refine q_iadd d_Schema_insert_67 ?_
    refine q_putI (ci := 6) (fk := 1) d_Schema_insert_68 rfl (Nat.le_of_ble_eq_true rfl) w_99 (Or.inl rfl) (fun _ _ => rfl) rfl rfl hL.1 ?_
    refine q_aload_n d_Schema_insert_71 rfl rfl ?_
    have hf : k_fd (q_upI (q_upI (q_upI (q_upI (q_upI (q_upI I A (nI 0) (nI (k_key m))) A (nI 1) so) A (nI 2) x) A (nI 3) y) A (nI 4) (nI sl)) s (nI 1) (nI (L.length + 1))) A (k_new m so lo hi sl) := by
      refine ⟨?_, ?_, ?_, ?_, ?_⟩ <;> rw [q_upI_nea (Ne.symm hAs)]
      · rw [q_upI_nk (by decide), q_upI_nk (by decide), q_upI_nk (by decide), q_upI_nk (by decide), q_upI_self]; rfl
      · rw [q_upI_nk (by decide), q_upI_nk (by decide), q_upI_nk (by decide), q_upI_self]; rfl
      · rw [q_upI_nk (by decide), q_upI_nk (by decide), q_upI_self]; exact hx
      · rw [q_upI_nk (by decide), q_upI_self]; exact hy
      · rw [q_upI_self]; rfl
    have hS2 : k_sc s (L ++ [k_new m so lo hi sl]) w T (q_upI (q_upI (q_upI (q_upI (q_upI (q_upI I A (nI 0) (nI (k_key m))) A (nI 1) so) A (nI 2) x) A (nI 3) y) A (nI 4) (nI sl)) s (nI 1) (nI (L.length + 1))) R := by
      refine hS.snoc hlt (fun b i b1 b2 => ?_) q_upI_self (by rw [← hA]; exact hf)
      rw [← hA] at b2
      rw [q_upI_nea b1, q_upI_nea b2, q_upI_nea b2, q_upI_nea b2, q_upI_nea b2, q_upI_nea b2]
    have hok2 : k_okf (L ++ [k_new m so lo hi sl]) := fun f hf => by
      rcases List.mem_append.mp hf with h | h
      · exact hok f h
      · rcases List.mem_singleton.mp h with rfl
        exact ⟨hm, h0⟩
    refine q_callVv (M2 := M_Schema_arrange) d_Schema_insert_72 ⟨(Nat.le_of_ble_eq_true rfl), (Nat.le_of_ble_eq_true rfl), w_418, w_3, ⟨by decide, by decide⟩, show _ = some 0 by decide +kernel⟩ w_415 w_417 (ci := 6) rfl s_2 hL.1 rfl (Nat.le_of_ble_eq_true rfl) (by omega) (by omega) (c_Schema_arrange hS2 hok2) ?_
    rintro _ ⟨R', w', L', rfl, hfr, hS3, hp, hs⟩
    refine q_aload d_Schema_insert_75 rfl ?_
    refine q_aret (v := some A) d_Schema_insert_77 rfl (by omega) (by omega) ?_
    refine ⟨some A, rfl, _, R', w', L', A, rfl, rfl, fun b hb => ?_, hfr, hS3, hp.trans ?_, hs, by omega, by omega, ht, hf⟩
    · funext i
      rw [q_upI_nea (by omega), q_upI_nea (by omega), q_upI_nea (by omega), q_upI_nea (by omega), q_upI_nea (by omega), q_upI_nea (by omega)]
    · exact List.perm_append_singleton _ _
  refine q_aload_n d_Schema_insert_0 rfl rfl ?_
  refine q_getR (ci := 6) (fk := 0) d_Schema_insert_1 rfl (Nat.le_of_ble_eq_true rfl) w_92 (fun _ _ => rfl) hL.1 (hL.2 0 _ _ _ rfl).1 ?_
  refine q_aload_n d_Schema_insert_4 rfl rfl ?_
  refine q_getI (ci := 6) (fk := 1) d_Schema_insert_5 rfl (Nat.le_of_ble_eq_true rfl) w_99 (fun _ _ => rfl) hL.1 ?_
  rw [hn]
  refine q_aaldR (kd := _) d_Schema_insert_8 rfl (Nat.le_of_ble_eq_true rfl) (Nat.le_of_ble_eq_true rfl) (hL.2 0 _ _ _ rfl).2 (by first | assumption | exact vp_in_nI (by omega) (by omega)) (by first | assumption | rfl | (simp (disch := omega) only [q_upT_self, q_upT_ne, q_upR_self, q_upR_nea, q_upR_nk, q_upT_at, *]; done) | (simp (disch := omega) only [q_upT_self, q_upT_ne, q_upR_self, q_upR_nea, q_upR_nk, q_upT_at, *]; rfl)) ?_
  refine q_astore d_Schema_insert_9 (Nat.le_of_ble_eq_true rfl) (by first | exact q_ok0 | exact q_okI rfl | exact q_okR rfl | exact q_okN rfl) rfl ?_
  refine q_aload d_Schema_insert_11 rfl ?_
  refine q_iload_n d_Schema_insert_13 rfl rfl ?_
  refine q_putI (ci := 3) (fk := 0) d_Schema_insert_14 rfl (Nat.le_of_ble_eq_true rfl) w_55 (Or.inl rfl) (fun _ _ => rfl) rfl rfl (by first | assumption | rfl | (simp (disch := omega) only [q_upT_self, q_upT_ne, q_upR_self, q_upR_nea, q_upR_nk, q_upT_at, *]; done) | (simp (disch := omega) only [q_upT_self, q_upT_ne, q_upR_self, q_upR_nea, q_upR_nk, q_upT_at, *]; rfl)) ?_
  refine q_aload d_Schema_insert_17 rfl ?_
  refine q_iload_n d_Schema_insert_19 rfl rfl ?_
  refine q_putI (ci := 3) (fk := 1) d_Schema_insert_20 rfl (Nat.le_of_ble_eq_true rfl) w_61 (Or.inl rfl) (fun _ _ => rfl) rfl rfl (by first | assumption | rfl | (simp (disch := omega) only [q_upT_self, q_upT_ne, q_upR_self, q_upR_nea, q_upR_nk, q_upT_at, *]; done) | (simp (disch := omega) only [q_upT_self, q_upT_ne, q_upR_self, q_upR_nea, q_upR_nk, q_upT_at, *]; rfl)) ?_
  refine q_aload d_Schema_insert_23 rfl ?_
  refine q_iload_n d_Schema_insert_25 rfl rfl ?_
  refine q_iconst (v := nI 2) d_Schema_insert_26 (by decide) ?_
  refine q_icmp_ne (tgt := 34) d_Schema_insert_27 rfl (fun hc => ?_) (fun hc => ?_)
  · have hso : ¬ so = 2 := hc
    refine q_iload_n d_Schema_insert_34 rfl rfl ?_
    refine q_putI (ci := 3) (fk := 2) d_Schema_insert_35 rfl (Nat.le_of_ble_eq_true rfl) w_67 (Or.inl rfl) (fun _ _ => rfl) rfl rfl (by first | assumption | rfl | (simp (disch := omega) only [q_upT_self, q_upT_ne, q_upR_self, q_upR_nea, q_upR_nk, q_upT_at, *]; done) | (simp (disch := omega) only [q_upT_self, q_upT_ne, q_upR_self, q_upR_nea, q_upR_nk, q_upT_at, *]; rfl)) ?_
    refine q_aload d_Schema_insert_38 rfl ?_
    refine q_iload_n d_Schema_insert_40 rfl rfl ?_
    refine q_iconst (v := nI 2) d_Schema_insert_41 (by decide) ?_
    refine q_icmp_ne (tgt := 49) d_Schema_insert_42 rfl (fun hc => ?_) (fun hc => ?_)
    · refine q_iload d_Schema_insert_49 rfl ?_
      refine q_putI (ci := 3) (fk := 3) d_Schema_insert_51 rfl (Nat.le_of_ble_eq_true rfl) w_73 (Or.inl rfl) (fun _ _ => rfl) rfl rfl (by first | assumption | rfl | (simp (disch := omega) only [q_upT_self, q_upT_ne, q_upR_self, q_upR_nea, q_upR_nk, q_upT_at, *]; done) | (simp (disch := omega) only [q_upT_self, q_upT_ne, q_upR_self, q_upR_nea, q_upR_nk, q_upT_at, *]; rfl)) ?_
      exact fin _ _ (if_neg hso).symm (if_neg hso).symm
    · exact absurd hc hso
  · have hso : so = 2 := hc
    refine q_iconst (v := nI 0) d_Schema_insert_30 (by decide) ?_
    refine q_goto (tgt := 35) d_Schema_insert_31 rfl ?_
    refine q_putI (ci := 3) (fk := 2) d_Schema_insert_35 rfl (Nat.le_of_ble_eq_true rfl) w_67 (Or.inl rfl) (fun _ _ => rfl) rfl rfl (by first | assumption | rfl | (simp (disch := omega) only [q_upT_self, q_upT_ne, q_upR_self, q_upR_nea, q_upR_nk, q_upT_at, *]; done) | (simp (disch := omega) only [q_upT_self, q_upT_ne, q_upR_self, q_upR_nea, q_upR_nk, q_upT_at, *]; rfl)) ?_
    refine q_aload d_Schema_insert_38 rfl ?_
    refine q_iload_n d_Schema_insert_40 rfl rfl ?_
    refine q_iconst (v := nI 2) d_Schema_insert_41 (by decide) ?_
    refine q_icmp_ne (tgt := 49) d_Schema_insert_42 rfl (fun hc => ?_) (fun hc => ?_)
    · exact absurd hso hc
    · refine q_iconst (v := nI 0) d_Schema_insert_45 (by decide) ?_
      refine q_goto (tgt := 51) d_Schema_insert_46 rfl ?_
      refine q_putI (ci := 3) (fk := 3) d_Schema_insert_51 rfl (Nat.le_of_ble_eq_true rfl) w_73 (Or.inl rfl) (fun _ _ => rfl) rfl rfl (by first | assumption | rfl | (simp (disch := omega) only [q_upT_self, q_upT_ne, q_upR_self, q_upR_nea, q_upR_nk, q_upT_at, *]; done) | (simp (disch := omega) only [q_upT_self, q_upT_ne, q_upR_self, q_upR_nea, q_upR_nk, q_upT_at, *]; rfl)) ?_
      exact fin _ _ (nI_0.trans (if_pos hso).symm) (nI_0.trans (if_pos hso).symm)
end SchemaI
