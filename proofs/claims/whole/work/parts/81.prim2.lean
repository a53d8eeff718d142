/-! rename, lift, add -/
abbrev M_Draft_rename : q_M := (⟨"LensPaths$Draft", "rename", "(LLensPaths$Field;I)LLensPaths$Primitive;"⟩, prog_4_method_6_code, 3, (some (.object "LensPaths$Primitive")), "LensPaths$Draft", [], false, 3, 70)
theorem d_Draft_rename_0 : decode prog_4_method_6_code 0 = .ok (.iload_n 2, 1) := by decide +kernel
theorem d_Draft_rename_1 : decode prog_4_method_6_code 1 = .ok (.invokestatic 114, 3) := by decide +kernel
theorem d_Draft_rename_4 : decode prog_4_method_6_code 4 = .ok (.ifCond .eq 22, 3) := by decide +kernel
theorem d_Draft_rename_7 : decode prog_4_method_6_code 7 = .ok (.aload_n 0, 1) := by decide +kernel
theorem d_Draft_rename_8 : decode prog_4_method_6_code 8 = .ok (.getfield 12, 3) := by decide +kernel
theorem d_Draft_rename_11 : decode prog_4_method_6_code 11 = .ok (.aload_n 1, 1) := by decide +kernel
theorem d_Draft_rename_12 : decode prog_4_method_6_code 12 = .ok (.getfield 117, 3) := by decide +kernel
theorem d_Draft_rename_15 : decode prog_4_method_6_code 15 = .ok (.iload_n 2, 1) := by decide +kernel
theorem d_Draft_rename_16 : decode prog_4_method_6_code 16 = .ok (.invokestatic 120, 3) := by decide +kernel
theorem d_Draft_rename_19 : decode prog_4_method_6_code 19 = .ok (.invokevirtual 59, 3) := by decide +kernel
theorem d_Draft_rename_22 : decode prog_4_method_6_code 22 = .ok (.iconst (-1), 1) := by decide +kernel
theorem d_Draft_rename_23 : decode prog_4_method_6_code 23 = .ok (.if_icmp .eq 5, 3) := by decide +kernel
theorem d_Draft_rename_26 : decode prog_4_method_6_code 26 = .ok (.aconst_null, 1) := by decide +kernel
theorem d_Draft_rename_27 : decode prog_4_method_6_code 27 = .ok (.areturn, 1) := by decide +kernel
theorem d_Draft_rename_28 : decode prog_4_method_6_code 28 = .ok (.aload_n 0, 1) := by decide +kernel
theorem d_Draft_rename_29 : decode prog_4_method_6_code 29 = .ok (.getfield 12, 3) := by decide +kernel
theorem d_Draft_rename_32 : decode prog_4_method_6_code 32 = .ok (.aload_n 1, 1) := by decide +kernel
theorem d_Draft_rename_33 : decode prog_4_method_6_code 33 = .ok (.getfield 117, 3) := by decide +kernel
theorem d_Draft_rename_36 : decode prog_4_method_6_code 36 = .ok (.aload_n 1, 1) := by decide +kernel
theorem d_Draft_rename_37 : decode prog_4_method_6_code 37 = .ok (.getfield 117, 3) := by decide +kernel
theorem d_Draft_rename_40 : decode prog_4_method_6_code 40 = .ok (.iload_n 2, 1) := by decide +kernel
theorem d_Draft_rename_41 : decode prog_4_method_6_code 41 = .ok (.invokestatic 120, 3) := by decide +kernel
theorem d_Draft_rename_44 : decode prog_4_method_6_code 44 = .ok (.invokevirtual 124, 3) := by decide +kernel
theorem d_Draft_rename_47 : decode prog_4_method_6_code 47 = .ok (.new 18, 3) := by decide +kernel
theorem d_Draft_rename_50 : decode prog_4_method_6_code 50 = .ok (.dup, 1) := by decide +kernel
theorem d_Draft_rename_51 : decode prog_4_method_6_code 51 = .ok (.iconst 0, 1) := by decide +kernel
theorem d_Draft_rename_52 : decode prog_4_method_6_code 52 = .ok (.aload_n 1, 1) := by decide +kernel
theorem d_Draft_rename_53 : decode prog_4_method_6_code 53 = .ok (.iconst 0, 1) := by decide +kernel
theorem d_Draft_rename_54 : decode prog_4_method_6_code 54 = .ok (.iconst 0, 1) := by decide +kernel
theorem d_Draft_rename_55 : decode prog_4_method_6_code 55 = .ok (.invokespecial 95, 3) := by decide +kernel
theorem d_Draft_rename_58 : decode prog_4_method_6_code 58 = .ok (.areturn, 1) := by decide +kernel
abbrev M_Draft_lift : q_M := (⟨"LensPaths$Draft", "lift", "(LLensPaths$Field;)LLensPaths$Primitive;"⟩, prog_4_method_9_code, 2, (some (.object "LensPaths$Primitive")), "LensPaths$Draft", [], false, 3, 70)
theorem d_Draft_lift_0 : decode prog_4_method_9_code 0 = .ok (.aload_n 1, 1) := by decide +kernel
theorem d_Draft_lift_1 : decode prog_4_method_9_code 1 = .ok (.getfield 117, 3) := by decide +kernel
theorem d_Draft_lift_4 : decode prog_4_method_9_code 4 = .ok (.invokestatic 135, 3) := by decide +kernel
theorem d_Draft_lift_7 : decode prog_4_method_9_code 7 = .ok (.ifCond .eq 21, 3) := by decide +kernel
theorem d_Draft_lift_10 : decode prog_4_method_9_code 10 = .ok (.aload_n 0, 1) := by decide +kernel
theorem d_Draft_lift_11 : decode prog_4_method_9_code 11 = .ok (.getfield 12, 3) := by decide +kernel
theorem d_Draft_lift_14 : decode prog_4_method_9_code 14 = .ok (.aload_n 1, 1) := by decide +kernel
theorem d_Draft_lift_15 : decode prog_4_method_9_code 15 = .ok (.getfield 117, 3) := by decide +kernel
theorem d_Draft_lift_18 : decode prog_4_method_9_code 18 = .ok (.invokestatic 138, 3) := by decide +kernel
theorem d_Draft_lift_21 : decode prog_4_method_9_code 21 = .ok (.invokevirtual 59, 3) := by decide +kernel
theorem d_Draft_lift_24 : decode prog_4_method_9_code 24 = .ok (.iconst (-1), 1) := by decide +kernel
theorem d_Draft_lift_25 : decode prog_4_method_9_code 25 = .ok (.if_icmp .eq 5, 3) := by decide +kernel
theorem d_Draft_lift_28 : decode prog_4_method_9_code 28 = .ok (.aconst_null, 1) := by decide +kernel
theorem d_Draft_lift_29 : decode prog_4_method_9_code 29 = .ok (.areturn, 1) := by decide +kernel
theorem d_Draft_lift_30 : decode prog_4_method_9_code 30 = .ok (.aload_n 0, 1) := by decide +kernel
theorem d_Draft_lift_31 : decode prog_4_method_9_code 31 = .ok (.getfield 12, 3) := by decide +kernel
theorem d_Draft_lift_34 : decode prog_4_method_9_code 34 = .ok (.aload_n 1, 1) := by decide +kernel
theorem d_Draft_lift_35 : decode prog_4_method_9_code 35 = .ok (.getfield 117, 3) := by decide +kernel
theorem d_Draft_lift_38 : decode prog_4_method_9_code 38 = .ok (.aload_n 1, 1) := by decide +kernel
theorem d_Draft_lift_39 : decode prog_4_method_9_code 39 = .ok (.getfield 117, 3) := by decide +kernel
theorem d_Draft_lift_42 : decode prog_4_method_9_code 42 = .ok (.invokestatic 138, 3) := by decide +kernel
theorem d_Draft_lift_45 : decode prog_4_method_9_code 45 = .ok (.invokevirtual 124, 3) := by decide +kernel
theorem d_Draft_lift_48 : decode prog_4_method_9_code 48 = .ok (.new 18, 3) := by decide +kernel
theorem d_Draft_lift_51 : decode prog_4_method_9_code 51 = .ok (.dup, 1) := by decide +kernel
theorem d_Draft_lift_52 : decode prog_4_method_9_code 52 = .ok (.iconst 4, 1) := by decide +kernel
theorem d_Draft_lift_53 : decode prog_4_method_9_code 53 = .ok (.aload_n 1, 1) := by decide +kernel
theorem d_Draft_lift_54 : decode prog_4_method_9_code 54 = .ok (.iconst 0, 1) := by decide +kernel
theorem d_Draft_lift_55 : decode prog_4_method_9_code 55 = .ok (.iconst 0, 1) := by decide +kernel
theorem d_Draft_lift_56 : decode prog_4_method_9_code 56 = .ok (.invokespecial 95, 3) := by decide +kernel
theorem d_Draft_lift_59 : decode prog_4_method_9_code 59 = .ok (.areturn, 1) := by decide +kernel
abbrev M_Draft_add : q_M := (⟨"LensPaths$Draft", "add", "(IIII)LLensPaths$Primitive;"⟩, prog_4_method_5_code, 5, (some (.object "LensPaths$Primitive")), "LensPaths$Draft", [], false, 3, 65)
theorem d_Draft_add_0 : decode prog_4_method_5_code 0 = .ok (.aload_n 0, 1) := by decide +kernel
theorem d_Draft_add_1 : decode prog_4_method_5_code 1 = .ok (.getfield 12, 3) := by decide +kernel
theorem d_Draft_add_4 : decode prog_4_method_5_code 4 = .ok (.getfield 36, 3) := by decide +kernel
theorem d_Draft_add_7 : decode prog_4_method_5_code 7 = .ok (.bipush 24, 2) := by decide +kernel
theorem d_Draft_add_9 : decode prog_4_method_5_code 9 = .ok (.if_icmp .eq 24, 3) := by decide +kernel
theorem d_Draft_add_12 : decode prog_4_method_5_code 12 = .ok (.aload_n 0, 1) := by decide +kernel
theorem d_Draft_add_13 : decode prog_4_method_5_code 13 = .ok (.getfield 12, 3) := by decide +kernel
theorem d_Draft_add_16 : decode prog_4_method_5_code 16 = .ok (.iload_n 1, 1) := by decide +kernel
theorem d_Draft_add_17 : decode prog_4_method_5_code 17 = .ok (.invokevirtual 98, 3) := by decide +kernel
theorem d_Draft_add_20 : decode prog_4_method_5_code 20 = .ok (.ifCond .eq 13, 3) := by decide +kernel
theorem d_Draft_add_23 : decode prog_4_method_5_code 23 = .ok (.iload_n 2, 1) := by decide +kernel
theorem d_Draft_add_24 : decode prog_4_method_5_code 24 = .ok (.iload_n 3, 1) := by decide +kernel
theorem d_Draft_add_25 : decode prog_4_method_5_code 25 = .ok (.iload 4, 2) := by decide +kernel
theorem d_Draft_add_27 : decode prog_4_method_5_code 27 = .ok (.invokestatic 102, 3) := by decide +kernel
theorem d_Draft_add_30 : decode prog_4_method_5_code 30 = .ok (.ifCond .ne 5, 3) := by decide +kernel
theorem d_Draft_add_33 : decode prog_4_method_5_code 33 = .ok (.aconst_null, 1) := by decide +kernel
theorem d_Draft_add_34 : decode prog_4_method_5_code 34 = .ok (.areturn, 1) := by decide +kernel
theorem d_Draft_add_35 : decode prog_4_method_5_code 35 = .ok (.new 18, 3) := by decide +kernel
theorem d_Draft_add_38 : decode prog_4_method_5_code 38 = .ok (.dup, 1) := by decide +kernel
theorem d_Draft_add_39 : decode prog_4_method_5_code 39 = .ok (.iconst 1, 1) := by decide +kernel
theorem d_Draft_add_40 : decode prog_4_method_5_code 40 = .ok (.aload_n 0, 1) := by decide +kernel
theorem d_Draft_add_41 : decode prog_4_method_5_code 41 = .ok (.getfield 12, 3) := by decide +kernel
theorem d_Draft_add_44 : decode prog_4_method_5_code 44 = .ok (.iload_n 1, 1) := by decide +kernel
theorem d_Draft_add_45 : decode prog_4_method_5_code 45 = .ok (.iload_n 2, 1) := by decide +kernel
theorem d_Draft_add_46 : decode prog_4_method_5_code 46 = .ok (.iload_n 3, 1) := by decide +kernel
theorem d_Draft_add_47 : decode prog_4_method_5_code 47 = .ok (.iload 4, 2) := by decide +kernel
theorem d_Draft_add_49 : decode prog_4_method_5_code 49 = .ok (.aload_n 0, 1) := by decide +kernel
theorem d_Draft_add_50 : decode prog_4_method_5_code 50 = .ok (.invokevirtual 106, 3) := by decide +kernel
theorem d_Draft_add_53 : decode prog_4_method_5_code 53 = .ok (.invokevirtual 110, 3) := by decide +kernel
theorem d_Draft_add_56 : decode prog_4_method_5_code 56 = .ok (.iconst 0, 1) := by decide +kernel
theorem d_Draft_add_57 : decode prog_4_method_5_code 57 = .ok (.iconst 0, 1) := by decide +kernel
theorem d_Draft_add_58 : decode prog_4_method_5_code 58 = .ok (.invokespecial 95, 3) := by decide +kernel
theorem d_Draft_add_61 : decode prog_4_method_5_code 61 = .ok (.areturn, 1) := by decide +kernel
section PrimC2
variable {g : q_G} {sz d : Nat} {T : q_T} {I : q_I} {R : q_R} {J : q_J}
theorem k_bsd_ok {l : List Nat} (h : k_ok 4 l) (h0 : l ≠ []) {n : Nat} (hn : n ≤ 99) : k_ok 4 (l.dropLast ++ [n + 1]) := by
  have hl := List.length_pos_iff.mpr h0
  refine ⟨by rw [List.length_append, List.length_dropLast]; show l.length - 1 + 1 ≤ 4; have := h.1; omega, fun q hq => ?_⟩
  rcases List.mem_append.mp hq with hq | hq
  · exact (k_ok_drop h).2 q hq
  · rw [List.mem_singleton.mp hq]; omega
/-- a field's place becomes another, with all that is in it -/
theorem d_move {i dn : Nat} {D D' : List KF} {w w' : Nat → Nat} {f : KF} {p : KP} {fo : Nat} {I1 I2 : q_I} {R1 : q_R} (h : d_in d D w dn sz T I R) (hf : D[i]? = some f) (hfo : fo = d + 1 + 2 + w i) (hk : p.kind = 0 ∨ p.kind = 4) (hp : p.f = f) (m1 : ∀ b, b < d + 1 + 2 ∨ d + 1 + 26 ≤ b → I1 b = I b) (m2 : ∀ b j, j ≠ nI 0 → I1 b j = I b j) (m3 : ∀ b, b ≠ d + 1 + 1 → R1 b = R b) (m4 : k_sc (d + 1) D' w' T I1 R1) (m5 : D'.Perm (D.map (k_mf f.1 (k_tg p)))) (m6 : k_srt D') (i1 : ∀ c, c ≠ sz → I2 c = I1 c) (i2 : I2 sz (nI 0) = nI p.kind) (i3 : I2 sz (nI 1) = nI f.2.2.2.2) (i4 : I2 sz (nI 2) = f.2.1) (i5 : I2 sz (nI 3) = f.2.2.1) (i6 : I2 sz (nI 4) = f.2.2.2.1) : d_post d D sz T I R J true p dn (some sz) (sz + 1, q_upT T sz (104, 0), I2, R1, J) := by
  obtain ⟨hL, hS, hn, hfr, hok, hdi, hsr⟩ := h
  have hds := hfr _ _ hL.1
  have hx := d_ext hfr
  have hS1 : k_sc (d + 1) D' w' (q_upT T sz (104, 0)) I2 R1 := m4.cong3 hx (fun b b1 b2 => i1 b (by
    obtain ⟨q, hq⟩ := hS.1.tys b1 b2
    have := hfr b q hq
    omega)) (fun _ _ _ => rfl)
  have hfw : k_fw p D = D.map (k_mf f.1 (k_tg p)) := by
    have h9 : p.nm = f.1 := congrArg (·.1) hp
    unfold k_fw
    rcases hk with hk | hk
    · rw [hk]
      show D.map (k_mf p.nm (k_tg p)) = _
      rw [h9]
    · rw [hk]
      show D.map (k_mf p.nm (k_tg p)) = _
      rw [h9]
  refine Or.inr ⟨rfl, rfl, I2, R1, w', D', rfl, fun b b1 b2 => by rw [i1 b b2, m1 b (by omega)], fun b hb => m3 b (by omega), hS1, by rw [hfw]; exact m5, m6, ⟨q_upT_self, i2, ?_, ?_, ?_, ?_, ?_, ?_, ?_⟩, ?_, fun j hj => ?_⟩
  · rw [i3]; exact congrArg (fun q : KF => nI q.2.2.2.2) hp.symm
  · rw [i4]; exact congrArg (fun q : KF => q.2.1) hp.symm
  · rw [i5]; exact congrArg (fun q : KF => q.2.2.1) hp.symm
  · rw [i6]; exact congrArg (fun q : KF => q.2.2.2.1) hp.symm
  · intro h5; omega
  · intro h5; omega
  · intro h5; omega
  · rw [i1 d (by omega), m1 d (by omega)]; exact hn
  · rw [i1 d (by omega), m1 d (by omega)]
/-- may the field be named so -/
def b_ren (D : List KF) (l : List Nat) (a : Int32) : Bool := decide (0 ≤ a ∧ a ≤ 99) && (k_fi D (k_bsd l a)).isNone
theorem c_Draft_rename {i dn : Nat} {D : List KF} {w : Nat → Nat} {f : KF} {p : KP} {a : Int32} (h : d_in d D w dn sz T I R) (hf : D[i]? = some f) (hk : p.kind = 0) (hp : p.f = f) (ha : p.a = a) : q_Cr g M_Draft_rename [.ref d, .ref (d + 1 + 2 + w i), .int a] (sz, T, I, R, J) 1 8 (d_post d D sz T I R J (b_ren D f.1 a) p dn) := by
  have hh := h
  obtain ⟨hL, hS, hn, hfr, hok, hdi, hsr⟩ := h
  obtain ⟨g1, g2, g3, g4⟩ := hS.at hf
  have hfk := hok f (List.mem_of_getElem? hf)
  obtain ⟨fo, hfo⟩ : ∃ fo, fo = d + 1 + 2 + w i := ⟨_, rfl⟩
  rw [← hfo] at g3 g4 ⊢
  have hfs := hfr _ _ g3
  have hs1 := hS.1.1.1
  have no : ∀ mcc msc : Nat, mcc ≤ 1 → msc ≤ 8 → b_ren D f.1 a = false → q_V g M_Draft_rename 1 8 mcc msc (sz, T, I, R, J) (fun o h' => ∃ r : Option Nat, o = .inl (some (va_rf r)) ∧ d_post d D sz T I R J (b_ren D f.1 a) p dn r h') 26 [some (.ref d), some (.ref fo), some (.int a)] [] := by
    intro mcc msc m1 m2 hz
    refine q_null d_Draft_rename_26 ?_
    refine q_aret (v := none) d_Draft_rename_27 rfl (by omega) (by omega) ?_
    exact ⟨none, rfl, Or.inl ⟨hz, rfl, rfl⟩⟩
  refine q_C.of (ls0 := [some (.ref d), some (.ref fo), some (.int a)]) (by decide) rfl (by decide) (Nat.le_of_ble_eq_true rfl) rfl ?_
  refine q_iload_n d_Draft_rename_0 rfl rfl ?_
  refine q_callSi (M2 := M_Key_isName) d_Draft_rename_1 ⟨(Nat.le_of_ble_eq_true rfl), (Nat.le_of_ble_eq_true rfl), w_541, w_15, ⟨by decide, by decide⟩, show _ = some 1 by decide +kernel⟩ w_539 w_540 rfl (Nat.le_of_ble_eq_true rfl) (by omega) (by omega) (c_Key_isName a) ?_
  rintro _ _ ⟨rfl, rfl⟩
  by_cases hna : 0 ≤ a ∧ a ≤ 99
  · rw [if_pos hna]
    obtain ⟨n, n1, rfl⟩ := nI_of (Int32.not_lt.mpr hna.1)
    have n99 : n ≤ 99 := by have := hna.2; rw [show (99 : Int32) = nI 99 from rfl, nI_leI n1 (by decide)] at this; exact this
    have hbs : k_bsd f.1 (nI n) = f.1.dropLast ++ [n + 1] := by unfold k_bsd; rw [nI_clamp n1]
    have hbk := k_bsd_ok hfk.1 hfk.2 n99
    refine q_if_eq (tgt := 26) d_Draft_rename_4 rfl (fun hc => ?_) (fun hc => ?_)
    · exact absurd hc (by decide)
    refine q_aload_n d_Draft_rename_7 rfl rfl ?_
    refine q_getR (ci := 2) (fk := 0) d_Draft_rename_8 rfl (Nat.le_of_ble_eq_true rfl) w_143 (fun _ _ => rfl) hL.1 (hL.2 0 _ _ _ rfl).1 ?_
    refine q_aload_n d_Draft_rename_11 rfl rfl ?_
    refine q_getI (ci := 3) (fk := 0) d_Draft_rename_12 rfl (Nat.le_of_ble_eq_true rfl) w_56 (fun _ _ => rfl) (by first | assumption | rfl | (simp (disch := omega) only [q_upT_self, q_upT_ne, q_upR_self, q_upR_nea, q_upR_nk, q_upT_at, *]; done) | (simp (disch := omega) only [q_upT_self, q_upT_ne, q_upR_self, q_upR_nea, q_upR_nk, q_upT_at, *]; rfl)) ?_
    rw [g4.1]
    refine q_iload_n d_Draft_rename_15 rfl rfl ?_
    refine q_callSi (M2 := M_Key_beside) d_Draft_rename_16 ⟨(Nat.le_of_ble_eq_true rfl), (Nat.le_of_ble_eq_true rfl), w_544, w_15, ⟨by decide, by decide⟩, show _ = some 2 by decide +kernel⟩ w_542 w_543 rfl (Nat.le_of_ble_eq_true rfl) (by omega) (by omega) (c_Key_beside hfk.1 hfk.2 n99) ?_
    rintro _ _ ⟨rfl, rfl⟩
    refine q_callVi (M2 := M_Schema_find) d_Draft_rename_19 ⟨(Nat.le_of_ble_eq_true rfl), (Nat.le_of_ble_eq_true rfl), w_392, w_3, ⟨by decide, by decide⟩, show _ = some 1 by decide +kernel⟩ w_534 w_390 (ci := 6) rfl w_391 (by first | assumption | rfl | (simp (disch := omega) only [q_upT_self, q_upT_ne, q_upR_self, q_upR_nea, q_upR_nk, q_upT_at, *]; done) | (simp (disch := omega) only [q_upT_self, q_upT_ne, q_upR_self, q_upR_nea, q_upR_nk, q_upT_at, *]; rfl)) rfl (Nat.le_of_ble_eq_true rfl) (by omega) (by omega) (c_Schema_findN hS hok hbk) ?_
    rintro _ _ ⟨rfl, rfl⟩
    cases hfi : k_fi D (f.1.dropLast ++ [n + 1]) with
    | some j =>
      have hj := (k_fi_some hfi).1
      have := hS.2.2.1
      refine q_iconst (v := (-1)) d_Draft_rename_22 (by decide) ?_
      refine q_icmp_eq (tgt := 28) d_Draft_rename_23 rfl (fun hc => ?_) (fun hc => ?_)
      · exact absurd hc (show ¬ nI j = -1 from nI_m1 (by omega))
      · exact no _ _ (by omega) (by omega) (by unfold b_ren; rw [hbs, hfi]; simp)
    | none =>
      have hb : b_ren D f.1 (nI n) = true := by unfold b_ren; rw [hbs, hfi, decide_eq_true hna]; rfl
      refine q_iconst (v := (-1)) d_Draft_rename_22 (by decide) ?_
      refine q_icmp_eq (tgt := 28) d_Draft_rename_23 rfl (fun hc => ?_) (fun hc => ?_)
      rotate_left
      · exact absurd rfl hc
      refine q_aload_n d_Draft_rename_28 rfl rfl ?_
      refine q_getR (ci := 2) (fk := 0) d_Draft_rename_29 rfl (Nat.le_of_ble_eq_true rfl) w_143 (fun _ _ => rfl) hL.1 (hL.2 0 _ _ _ rfl).1 ?_
      refine q_aload_n d_Draft_rename_32 rfl rfl ?_
      refine q_getI (ci := 3) (fk := 0) d_Draft_rename_33 rfl (Nat.le_of_ble_eq_true rfl) w_56 (fun _ _ => rfl) (by first | assumption | rfl | (simp (disch := omega) only [q_upT_self, q_upT_ne, q_upR_self, q_upR_nea, q_upR_nk, q_upT_at, *]; done) | (simp (disch := omega) only [q_upT_self, q_upT_ne, q_upR_self, q_upR_nea, q_upR_nk, q_upT_at, *]; rfl)) ?_
      rw [g4.1]
      refine q_aload_n d_Draft_rename_36 rfl rfl ?_
      refine q_getI (ci := 3) (fk := 0) d_Draft_rename_37 rfl (Nat.le_of_ble_eq_true rfl) w_56 (fun _ _ => rfl) (by first | assumption | rfl | (simp (disch := omega) only [q_upT_self, q_upT_ne, q_upR_self, q_upR_nea, q_upR_nk, q_upT_at, *]; done) | (simp (disch := omega) only [q_upT_self, q_upT_ne, q_upR_self, q_upR_nea, q_upR_nk, q_upT_at, *]; rfl)) ?_
      rw [g4.1]
      refine q_iload_n d_Draft_rename_40 rfl rfl ?_
      refine q_callSi (M2 := M_Key_beside) d_Draft_rename_41 ⟨(Nat.le_of_ble_eq_true rfl), (Nat.le_of_ble_eq_true rfl), w_544, w_15, ⟨by decide, by decide⟩, show _ = some 2 by decide +kernel⟩ w_542 w_543 rfl (Nat.le_of_ble_eq_true rfl) (by omega) (by omega) (c_Key_beside hfk.1 hfk.2 n99) ?_
      rintro _ _ ⟨rfl, rfl⟩
      have hle : (f.1.dropLast ++ [n + 1]).length ≤ f.1.length := by
        rw [List.length_append, List.length_dropLast]
        have := List.length_pos_iff.mpr hfk.2
        show f.1.length - 1 + 1 ≤ f.1.length
        omega
      refine q_callVv (M2 := M_Schema_move) d_Draft_rename_44 ⟨(Nat.le_of_ble_eq_true rfl), (Nat.le_of_ble_eq_true rfl), w_549, w_3, ⟨by decide, by decide⟩, show _ = some 2 by decide +kernel⟩ w_546 w_547 (ci := 6) rfl w_548 (by first | assumption | rfl | (simp (disch := omega) only [q_upT_self, q_upT_ne, q_upR_self, q_upR_nea, q_upR_nk, q_upT_at, *]; done) | (simp (disch := omega) only [q_upT_self, q_upT_ne, q_upR_self, q_upR_nea, q_upR_nk, q_upT_at, *]; rfl)) rfl (Nat.le_of_ble_eq_true rfl) (by omega) (by omega) (c_Schema_move hS hok hfk.1 hbk (by simp) hle) ?_
      rintro _ ⟨I1, R1, w1, D1, rfl, m1, m2, m3, m4, m5, m6⟩
      have hx := d_ext hfr
      have tfo := hx _ _ g3
      have ne : ∀ k : Nat, 0 < k → k < 8 → nI k ≠ nI 0 := fun k h1 h2 z => by have := q_nI_inj z; omega
      refine q_newN (ci := 4) (N := 8) d_Draft_rename_47 rfl rfl w_141 w_480 w_18 (by omega) (by omega) ?_
      refine q_dup d_Draft_rename_50 rfl ?_
      refine q_iconst (v := nI 0) d_Draft_rename_51 (by decide) ?_
      refine q_aload_n d_Draft_rename_52 rfl rfl ?_
      refine q_iconst (v := nI 0) d_Draft_rename_53 (by decide) ?_
      refine q_iconst (v := nI 0) d_Draft_rename_54 (by decide) ?_
      refine q_callIv (M2 := M_Primitive_init) d_Draft_rename_55 ⟨(Nat.le_of_ble_eq_true rfl), (Nat.le_of_ble_eq_true rfl), w_488, w_18, ⟨by decide, by decide⟩, show _ = some 4 by decide +kernel⟩ rfl rfl rfl w_486 w_487 rfl (Nat.le_of_ble_eq_true rfl) (by omega) (by omega) (c_Primitive_init (f := f) (q_upT_self) tfo (by rw [m2 _ _ (ne 1 (by omega) (by omega)), m2 _ _ (ne 2 (by omega) (by omega)), m2 _ _ (ne 3 (by omega) (by omega)), m2 _ _ (ne 4 (by omega) (by omega))]; exact g4.2)) ?_
      rintro _ ⟨I2, rfl, i1, i2, i3, i4, i5, i6, -, -⟩
      first | refine q_aret (v := some _) d_Draft_rename_58 rfl (by omega) (by omega) ?_ | refine q_aret (v := none) d_Draft_rename_58 rfl (by omega) (by omega) ?_ | refine q_aret d_Draft_rename_58 rfl (by omega) (by omega) ?_
      rw [hb]
      refine ⟨some sz, rfl, d_move hh hf hfo (Or.inl hk) hp m1 m2 m3 m4 ?_ m6 i1 (by rw [i2, hk]) i3 i4 i5 i6⟩
      have : k_tg p = f.1.dropLast ++ [n + 1] := by
        unfold k_tg
        rw [if_pos hk, ← hbs, ha]
        exact congrArg (fun q : KF => k_bsd q.1 (nI n)) hp
      rw [this]
      exact m5
  · rw [if_neg hna]
    refine q_if_eq (tgt := 26) d_Draft_rename_4 rfl (fun hc => ?_) (fun hc => ?_)
    rotate_left
    · exact absurd rfl hc
    exact no _ _ (by omega) (by omega) (by unfold b_ren; rw [decide_eq_false hna]; rfl)
/-- may the field be lifted -/
def b_lif (D : List KF) (l : List Nat) : Bool := decide (2 ≤ l.length) && (k_fi D (k_lif l)).isNone
theorem k_lif_ok {l : List Nat} (h : k_ok 4 l) (h0 : l ≠ []) : k_ok 4 (l.dropLast.dropLast ++ [l.getLast h0]) := by
  refine ⟨by rw [List.length_append, List.length_dropLast, List.length_dropLast]; show l.length - 1 - 1 + 1 ≤ 4; have := h.1; omega, fun q hq => ?_⟩
  rcases List.mem_append.mp hq with hq | hq
  · exact (k_ok_drop (k_ok_drop h)).2 q hq
  · rw [List.mem_singleton.mp hq]; exact h.2 _ (List.getLast_mem h0)
theorem k_lif_eq {l : List Nat} (h0 : l ≠ []) : k_lif l = l.dropLast.dropLast ++ [l.getLast h0] := by
  unfold k_lif
  rw [List.getLastD_eq_getLast?, List.getLast?_eq_some_getLast h0]
  rfl
theorem c_Draft_lift {i dn : Nat} {D : List KF} {w : Nat → Nat} {f : KF} {p : KP} (h : d_in d D w dn sz T I R) (hf : D[i]? = some f) (hk : p.kind = 4) (hp : p.f = f) : q_Cr g M_Draft_lift [.ref d, .ref (d + 1 + 2 + w i)] (sz, T, I, R, J) 1 8 (d_post d D sz T I R J (b_lif D f.1) p dn) := by
  have hh := h
  obtain ⟨hL, hS, hn, hfr, hok, hdi, hsr⟩ := h
  obtain ⟨g1, g2, g3, g4⟩ := hS.at hf
  have hfk := hok f (List.mem_of_getElem? hf)
  obtain ⟨fo, hfo⟩ : ∃ fo, fo = d + 1 + 2 + w i := ⟨_, rfl⟩
  rw [← hfo] at g3 g4 ⊢
  have hfs := hfr _ _ g3
  have hs1 := hS.1.1.1
  have hpl := List.length_pos_iff.mpr hfk.2
  have no : ∀ mcc msc : Nat, mcc ≤ 1 → msc ≤ 8 → b_lif D f.1 = false → q_V g M_Draft_lift 1 8 mcc msc (sz, T, I, R, J) (fun o h' => ∃ r : Option Nat, o = .inl (some (va_rf r)) ∧ d_post d D sz T I R J (b_lif D f.1) p dn r h') 28 [some (.ref d), some (.ref fo)] [] := by
    intro mcc msc m1 m2 hz
    refine q_null d_Draft_lift_28 ?_
    refine q_aret (v := none) d_Draft_lift_29 rfl (by omega) (by omega) ?_
    exact ⟨none, rfl, Or.inl ⟨hz, rfl, rfl⟩⟩
  refine q_C.of (ls0 := [some (.ref d), some (.ref fo)]) (by decide) rfl (by decide) (Nat.le_of_ble_eq_true rfl) rfl ?_
  refine q_aload_n d_Draft_lift_0 rfl rfl ?_
  refine q_getI (ci := 3) (fk := 0) d_Draft_lift_1 rfl (Nat.le_of_ble_eq_true rfl) w_56 (fun _ _ => rfl) (by first | assumption | rfl | (simp (disch := omega) only [q_upT_self, q_upT_ne, q_upR_self, q_upR_nea, q_upR_nk, q_upT_at, *]; done) | (simp (disch := omega) only [q_upT_self, q_upT_ne, q_upR_self, q_upR_nea, q_upR_nk, q_upT_at, *]; rfl)) ?_
  rw [g4.1]
  refine q_callSi (M2 := M_Key_parent) d_Draft_lift_4 ⟨(Nat.le_of_ble_eq_true rfl), (Nat.le_of_ble_eq_true rfl), w_381, w_15, ⟨by decide, by decide⟩, show _ = some 1 by decide +kernel⟩ w_574 w_380 rfl (Nat.le_of_ble_eq_true rfl) (by omega) (by omega) (c_Key_parent hfk.1) ?_
  rintro _ _ ⟨rfl, rfl⟩
  have hd0 := k_ok_drop hfk.1
  have hk0 := k_key_lt hd0
  by_cases h2 : 2 ≤ f.1.length
  · have hdl : f.1.dropLast ≠ [] := fun z => by
      have := congrArg List.length z
      rw [List.length_dropLast] at this
      have h3 : ([] : List Nat).length = 0 := rfl
      omega
    refine q_if_eq (tgt := 28) d_Draft_lift_7 rfl (fun hc => ?_) (fun hc => ?_)
    · have h9 : k_key f.1.dropLast = 0 := nI_zero (by omega) hc
      exact absurd (k_key_inj hd0 (m := []) ⟨by simp, fun n hn => nomatch hn⟩ (h9.trans k_key0.symm)) hdl
    have hlk := k_lif_ok hfk.1 hfk.2
    refine q_aload_n d_Draft_lift_10 rfl rfl ?_
    refine q_getR (ci := 2) (fk := 0) d_Draft_lift_11 rfl (Nat.le_of_ble_eq_true rfl) w_143 (fun _ _ => rfl) hL.1 (hL.2 0 _ _ _ rfl).1 ?_
    refine q_aload_n d_Draft_lift_14 rfl rfl ?_
    refine q_getI (ci := 3) (fk := 0) d_Draft_lift_15 rfl (Nat.le_of_ble_eq_true rfl) w_56 (fun _ _ => rfl) (by first | assumption | rfl | (simp (disch := omega) only [q_upT_self, q_upT_ne, q_upR_self, q_upR_nea, q_upR_nk, q_upT_at, *]; done) | (simp (disch := omega) only [q_upT_self, q_upT_ne, q_upR_self, q_upR_nea, q_upR_nk, q_upT_at, *]; rfl)) ?_
    rw [g4.1]
    refine q_callSi (M2 := M_Key_lifted) d_Draft_lift_18 ⟨(Nat.le_of_ble_eq_true rfl), (Nat.le_of_ble_eq_true rfl), w_577, w_15, ⟨by decide, by decide⟩, show _ = some 1 by decide +kernel⟩ w_575 w_576 rfl (Nat.le_of_ble_eq_true rfl) (by omega) (by omega) (c_Key_lifted hfk.1 hfk.2 hdl) ?_
    rintro _ _ ⟨rfl, rfl⟩
    refine q_callVi (M2 := M_Schema_find) d_Draft_lift_21 ⟨(Nat.le_of_ble_eq_true rfl), (Nat.le_of_ble_eq_true rfl), w_392, w_3, ⟨by decide, by decide⟩, show _ = some 1 by decide +kernel⟩ w_534 w_390 (ci := 6) rfl w_391 (by first | assumption | rfl | (simp (disch := omega) only [q_upT_self, q_upT_ne, q_upR_self, q_upR_nea, q_upR_nk, q_upT_at, *]; done) | (simp (disch := omega) only [q_upT_self, q_upT_ne, q_upR_self, q_upR_nea, q_upR_nk, q_upT_at, *]; rfl)) rfl (Nat.le_of_ble_eq_true rfl) (by omega) (by omega) (c_Schema_findN hS hok hlk) ?_
    rintro _ _ ⟨rfl, rfl⟩
    cases hfi : k_fi D (f.1.dropLast.dropLast ++ [f.1.getLast hfk.2]) with
    | some j =>
      have hj := (k_fi_some hfi).1
      have := hS.2.2.1
      refine q_iconst (v := (-1)) d_Draft_lift_24 (by decide) ?_
      refine q_icmp_eq (tgt := 30) d_Draft_lift_25 rfl (fun hc => ?_) (fun hc => ?_)
      · exact absurd hc (show ¬ nI j = -1 from nI_m1 (by omega))
      · exact no _ _ (by omega) (by omega) (by unfold b_lif; rw [k_lif_eq hfk.2, hfi]; simp)
    | none =>
      have hb : b_lif D f.1 = true := by unfold b_lif; rw [k_lif_eq hfk.2, hfi, decide_eq_true h2]; rfl
      refine q_iconst (v := (-1)) d_Draft_lift_24 (by decide) ?_
      refine q_icmp_eq (tgt := 30) d_Draft_lift_25 rfl (fun hc => ?_) (fun hc => ?_)
      rotate_left
      · exact absurd rfl hc
      refine q_aload_n d_Draft_lift_30 rfl rfl ?_
      refine q_getR (ci := 2) (fk := 0) d_Draft_lift_31 rfl (Nat.le_of_ble_eq_true rfl) w_143 (fun _ _ => rfl) hL.1 (hL.2 0 _ _ _ rfl).1 ?_
      refine q_aload_n d_Draft_lift_34 rfl rfl ?_
      refine q_getI (ci := 3) (fk := 0) d_Draft_lift_35 rfl (Nat.le_of_ble_eq_true rfl) w_56 (fun _ _ => rfl) (by first | assumption | rfl | (simp (disch := omega) only [q_upT_self, q_upT_ne, q_upR_self, q_upR_nea, q_upR_nk, q_upT_at, *]; done) | (simp (disch := omega) only [q_upT_self, q_upT_ne, q_upR_self, q_upR_nea, q_upR_nk, q_upT_at, *]; rfl)) ?_
      rw [g4.1]
      refine q_aload_n d_Draft_lift_38 rfl rfl ?_
      refine q_getI (ci := 3) (fk := 0) d_Draft_lift_39 rfl (Nat.le_of_ble_eq_true rfl) w_56 (fun _ _ => rfl) (by first | assumption | rfl | (simp (disch := omega) only [q_upT_self, q_upT_ne, q_upR_self, q_upR_nea, q_upR_nk, q_upT_at, *]; done) | (simp (disch := omega) only [q_upT_self, q_upT_ne, q_upR_self, q_upR_nea, q_upR_nk, q_upT_at, *]; rfl)) ?_
      rw [g4.1]
      refine q_callSi (M2 := M_Key_lifted) d_Draft_lift_42 ⟨(Nat.le_of_ble_eq_true rfl), (Nat.le_of_ble_eq_true rfl), w_577, w_15, ⟨by decide, by decide⟩, show _ = some 1 by decide +kernel⟩ w_575 w_576 rfl (Nat.le_of_ble_eq_true rfl) (by omega) (by omega) (c_Key_lifted hfk.1 hfk.2 hdl) ?_
      rintro _ _ ⟨rfl, rfl⟩
      have hle : (f.1.dropLast.dropLast ++ [f.1.getLast hfk.2]).length ≤ f.1.length := by
        rw [List.length_append, List.length_dropLast, List.length_dropLast]
        show f.1.length - 1 - 1 + 1 ≤ f.1.length
        omega
      refine q_callVv (M2 := M_Schema_move) d_Draft_lift_45 ⟨(Nat.le_of_ble_eq_true rfl), (Nat.le_of_ble_eq_true rfl), w_549, w_3, ⟨by decide, by decide⟩, show _ = some 2 by decide +kernel⟩ w_546 w_547 (ci := 6) rfl w_548 (by first | assumption | rfl | (simp (disch := omega) only [q_upT_self, q_upT_ne, q_upR_self, q_upR_nea, q_upR_nk, q_upT_at, *]; done) | (simp (disch := omega) only [q_upT_self, q_upT_ne, q_upR_self, q_upR_nea, q_upR_nk, q_upT_at, *]; rfl)) rfl (Nat.le_of_ble_eq_true rfl) (by omega) (by omega) (c_Schema_move hS hok hfk.1 hlk (by simp) hle) ?_
      rintro _ ⟨I1, R1, w1, D1, rfl, m1, m2, m3, m4, m5, m6⟩
      have hx := d_ext hfr
      have tfo := hx _ _ g3
      have ne : ∀ k : Nat, 0 < k → k < 8 → nI k ≠ nI 0 := fun k h1 h2 z => by have := q_nI_inj z; omega
      refine q_newN (ci := 4) (N := 8) d_Draft_lift_48 rfl rfl w_141 w_480 w_18 (by omega) (by omega) ?_
      refine q_dup d_Draft_lift_51 rfl ?_
      refine q_iconst (v := nI 4) d_Draft_lift_52 (by decide) ?_
      refine q_aload_n d_Draft_lift_53 rfl rfl ?_
      refine q_iconst (v := nI 0) d_Draft_lift_54 (by decide) ?_
      refine q_iconst (v := nI 0) d_Draft_lift_55 (by decide) ?_
      refine q_callIv (M2 := M_Primitive_init) d_Draft_lift_56 ⟨(Nat.le_of_ble_eq_true rfl), (Nat.le_of_ble_eq_true rfl), w_488, w_18, ⟨by decide, by decide⟩, show _ = some 4 by decide +kernel⟩ rfl rfl rfl w_486 w_487 rfl (Nat.le_of_ble_eq_true rfl) (by omega) (by omega) (c_Primitive_init (f := f) (q_upT_self) tfo (by rw [m2 _ _ (ne 1 (by omega) (by omega)), m2 _ _ (ne 2 (by omega) (by omega)), m2 _ _ (ne 3 (by omega) (by omega)), m2 _ _ (ne 4 (by omega) (by omega))]; exact g4.2)) ?_
      rintro _ ⟨I2, rfl, i1, i2, i3, i4, i5, i6, -, -⟩
      first | refine q_aret (v := some _) d_Draft_lift_59 rfl (by omega) (by omega) ?_ | refine q_aret (v := none) d_Draft_lift_59 rfl (by omega) (by omega) ?_ | refine q_aret d_Draft_lift_59 rfl (by omega) (by omega) ?_
      rw [hb]
      refine ⟨some sz, rfl, d_move hh hf hfo (Or.inr hk) hp m1 m2 m3 m4 ?_ m6 i1 (by rw [i2, hk]) i3 i4 i5 i6⟩
      have : k_tg p = f.1.dropLast.dropLast ++ [f.1.getLast hfk.2] := by
        unfold k_tg
        rw [if_neg (by rw [hk]; decide), ← k_lif_eq hfk.2]
        exact congrArg (fun q : KF => k_lif q.1) hp
      rw [this]
      exact m5
  · have hdl : f.1.dropLast = [] := List.eq_nil_of_length_eq_zero (by rw [List.length_dropLast]; omega)
    rw [hdl]
    refine q_if_eq (tgt := 28) d_Draft_lift_7 rfl (fun hc => ?_) (fun hc => ?_)
    rotate_left
    · exact absurd rfl hc
    exact no _ _ (by omega) (by omega) (by unfold b_lif; rw [decide_eq_false h2]; rfl)
/-- a field is added -/
def b_add (D : List KF) (o : Option (List Nat)) (so lo hi : Int32) : Bool := (k_room D o && k_shape so lo hi) && decide (D.length < 24)
theorem c_Draft_add {dn : Nat} {D : List KF} {w : Nat → Nat} {o : Option (List Nat)} {p : KP} {so lo hi : Int32} (h : d_in d D w dn sz T I R) (ho : ∀ l, o = some l → k_ok 4 l) (hk : p.kind = 1) (hp : ∀ l, o = some l → p.f = k_new l so lo hi dn) : q_Cr g M_Draft_add [.ref d, .int (p_key o), .int so, .int lo, .int hi] (sz, T, I, R, J) 1 8 (d_post d D sz T I R J (b_add D o so lo hi) p (dn + 1)) := by
  obtain ⟨hL, hS, hn, hfr, hok, hdi, hsr⟩ := h
  have hds := hfr _ _ hL.1
  have hs1 := hS.1.1.1
  have h24 := hS.2.2.1
  have no : ∀ mcc msc : Nat, mcc ≤ 1 → msc ≤ 8 → b_add D o so lo hi = false → q_V g M_Draft_add 1 8 mcc msc (sz, T, I, R, J) (fun o' h' => ∃ r : Option Nat, o' = .inl (some (va_rf r)) ∧ d_post d D sz T I R J (b_add D o so lo hi) p (dn + 1) r h') 33 [some (.ref d), some (.int (p_key o)), some (.int so), some (.int lo), some (.int hi)] [] := by
    intro mcc msc m1 m2 hz
    refine q_null d_Draft_add_33 ?_
    refine q_aret (v := none) d_Draft_add_34 rfl (by omega) (by omega) ?_
    exact ⟨none, rfl, Or.inl ⟨hz, rfl, rfl⟩⟩
  refine q_C.of (ls0 := [some (.ref d), some (.int (p_key o)), some (.int so), some (.int lo), some (.int hi)]) (by decide) rfl (by decide) (Nat.le_of_ble_eq_true rfl) rfl ?_
  refine q_aload_n d_Draft_add_0 rfl rfl ?_
  refine q_getR (ci := 2) (fk := 0) d_Draft_add_1 rfl (Nat.le_of_ble_eq_true rfl) w_143 (fun _ _ => rfl) hL.1 (hL.2 0 _ _ _ rfl).1 ?_
  refine q_getI (ci := 6) (fk := 1) d_Draft_add_4 rfl (Nat.le_of_ble_eq_true rfl) w_102 (fun _ _ => rfl) (by first | assumption | rfl | (simp (disch := omega) only [q_upT_self, q_upT_ne, q_upR_self, q_upR_nea, q_upR_nk, q_upT_at, *]; done) | (simp (disch := omega) only [q_upT_self, q_upT_ne, q_upR_self, q_upR_nea, q_upR_nk, q_upT_at, *]; rfl)) ?_
  rw [hS.2.1]
  refine q_bipush (v := nI 24) d_Draft_add_7 (by decide) ?_
  refine q_icmp_eq (tgt := 33) d_Draft_add_9 rfl (fun hc => ?_) (fun hc => ?_)
  · have := (nI_eq (by omega) (by omega)).mp hc
    exact no _ _ (by omega) (by omega) (by unfold b_add; rw [decide_eq_false (by omega), Bool.and_false])
  have hlt : D.length < 24 := by
    have : D.length ≠ 24 := fun z => hc (by rw [z])
    omega
  refine q_aload_n d_Draft_add_12 rfl rfl ?_
  refine q_getR (ci := 2) (fk := 0) d_Draft_add_13 rfl (Nat.le_of_ble_eq_true rfl) w_143 (fun _ _ => rfl) hL.1 (hL.2 0 _ _ _ rfl).1 ?_
  refine q_iload_n d_Draft_add_16 rfl rfl ?_
  refine q_callVi (M2 := M_Schema_hasRoomAt) d_Draft_add_17 ⟨(Nat.le_of_ble_eq_true rfl), (Nat.le_of_ble_eq_true rfl), w_378, w_3, ⟨by decide, by decide⟩, show _ = some 1 by decide +kernel⟩ w_478 w_376 (ci := 6) rfl w_377 (by first | assumption | rfl | (simp (disch := omega) only [q_upT_self, q_upT_ne, q_upR_self, q_upR_nea, q_upR_nk, q_upT_at, *]; done) | (simp (disch := omega) only [q_upT_self, q_upT_ne, q_upR_self, q_upR_nea, q_upR_nk, q_upT_at, *]; rfl)) rfl (Nat.le_of_ble_eq_true rfl) (by omega) (by omega) (c_Schema_hasRoomAt hS hok hdi ho) ?_
  rintro _ _ ⟨rfl, rfl⟩
  cases hr : k_room D o with
  | false =>
    refine q_if_eq (tgt := 33) d_Draft_add_20 rfl (fun hc => ?_) (fun hc => ?_)
    · exact no _ _ (by omega) (by omega) (by unfold b_add; rw [hr]; rfl)
    · exact absurd rfl hc
  | true =>
    refine q_if_eq (tgt := 33) d_Draft_add_20 rfl (fun hc => ?_) (fun hc => ?_)
    · exact absurd hc (by decide)
    refine q_iload_n d_Draft_add_23 rfl rfl ?_
    refine q_iload_n d_Draft_add_24 rfl rfl ?_
    refine q_iload d_Draft_add_25 rfl ?_
    refine q_callSNi (M2 := M_Lens_isShape) d_Draft_add_27 ⟨(Nat.le_of_ble_eq_true rfl), (Nat.le_of_ble_eq_true rfl), w_395, w_1, ⟨by decide, by decide⟩, show _ = some 3 by decide +kernel⟩ w_479 w_394 rfl (Nat.le_of_ble_eq_true rfl) (by omega) (by omega) (c_Lens_isShape so lo hi) ?_
    rintro _ _ ⟨rfl, rfl⟩
    cases hs : k_shape so lo hi with
    | false =>
      refine q_if_ne (tgt := 35) d_Draft_add_30 rfl (fun hc => ?_) (fun hc => ?_)
      · exact absurd rfl hc
      · exact no _ _ (by omega) (by omega) (by unfold b_add; rw [hr, hs]; rfl)
    | true =>
      have hb : b_add D o so lo hi = true := by unfold b_add; rw [hr, hs, decide_eq_true hlt]; rfl
      rw [hb]
      cases ho2 : o with
      | none => rw [ho2] at hr; cases hr
      | some l =>
        have hl0 : l ≠ [] := fun z => by rw [ho2, z] at hr; cases hr
        have hlok := ho l ho2
        have hpl := hp l ho2
        have hx := d_ext hfr
        rw [show p_key (some l) = nI (k_key l) from rfl]
        refine q_if_ne (tgt := 35) d_Draft_add_30 rfl (fun hc => ?_) (fun hc => ?_)
        rotate_left
        · exact absurd hc (by decide)
        have hL' : q_L 2 t_Draft d (q_upT T sz (104, 0)) R := hL.keep hx (fun _ _ _ _ _ => rfl)
        have hS0 : k_sc (d + 1) D w (q_upT T sz (104, 0)) (q_upI I d (nI 6) (nI (dn + 1))) R := hS.cong3 hx (fun b b1 b2 => by funext j; rw [q_upI_nea (by omega)]) (fun _ _ _ => rfl)
        have hs1' := hS0.1.1.1
        refine q_newN (ci := 4) (N := 8) d_Draft_add_35 rfl rfl w_141 w_480 w_18 (by omega) (by omega) ?_
        refine q_dup d_Draft_add_38 rfl ?_
        refine q_iconst (v := nI 1) d_Draft_add_39 (by decide) ?_
        have hL := hL'
        refine q_aload_n d_Draft_add_40 rfl rfl ?_
        refine q_getR (ci := 2) (fk := 0) d_Draft_add_41 rfl (Nat.le_of_ble_eq_true rfl) w_143 (fun _ _ => rfl) hL.1 (hL.2 0 _ _ _ rfl).1 ?_
        refine q_iload_n d_Draft_add_44 rfl rfl ?_
        refine q_iload_n d_Draft_add_45 rfl rfl ?_
        refine q_iload_n d_Draft_add_46 rfl rfl ?_
        refine q_iload d_Draft_add_47 rfl ?_
        refine q_aload_n d_Draft_add_49 rfl rfl ?_
        refine q_callVi (M2 := M_Draft_takeSlot) d_Draft_add_50 ⟨(Nat.le_of_ble_eq_true rfl), (Nat.le_of_ble_eq_true rfl), w_484, w_5, ⟨by decide, by decide⟩, show _ = some 0 by decide +kernel⟩ w_481 w_483 (ci := 2) rfl s_5 hL.1 rfl (Nat.le_of_ble_eq_true rfl) (by omega) (by omega) (c_Draft_takeSlot hL' hn) ?_
        rintro _ _ ⟨rfl, rfl⟩
        refine q_callVr (M2 := M_Schema_insert) d_Draft_add_53 ⟨(Nat.le_of_ble_eq_true rfl), (Nat.le_of_ble_eq_true rfl), w_414, w_3, ⟨by decide, by decide⟩, show _ = some 5 by decide +kernel⟩ w_485 w_412 (ci := 6) rfl w_413 (by first | assumption | rfl | (simp (disch := omega) only [q_upT_self, q_upT_ne, q_upR_self, q_upR_nea, q_upR_nk, q_upT_at, *]; done) | (simp (disch := omega) only [q_upT_self, q_upT_ne, q_upR_self, q_upR_nea, q_upR_nk, q_upT_at, *]; rfl)) rfl (Nat.le_of_ble_eq_true rfl) (by omega) (by omega) (c_Schema_insert hS0 hok hlok hl0 hlt so lo hi dn) ?_
        rintro _ _ ⟨I1, R1, w1, D1, a, rfl, rfl, m1, m2, m3, m4, m5, m6, m7, m8, m9⟩
        refine q_iconst (v := nI 0) d_Draft_add_56 (by decide) ?_
        refine q_iconst (v := nI 0) d_Draft_add_57 (by decide) ?_
        have a1 : a ≠ sz := fun z => by rw [z, q_upT_self] at m8; cases m8
        have hsb : ∀ b, d + 1 ≤ b → b < d + 1 + 26 → b ≠ sz := fun b b1 b2 => by
          obtain ⟨q, hq⟩ := hS.1.tys b1 b2
          have := hfr b q hq
          omega
        refine q_callIv (M2 := M_Primitive_init) d_Draft_add_58 ⟨(Nat.le_of_ble_eq_true rfl), (Nat.le_of_ble_eq_true rfl), w_488, w_18, ⟨by decide, by decide⟩, show _ = some 4 by decide +kernel⟩ rfl rfl rfl w_486 w_487 rfl (Nat.le_of_ble_eq_true rfl) (by omega) (by omega) (c_Primitive_init (f := k_new l so lo hi dn) (q_upT_self) m8 m9.2) ?_
        rintro _ ⟨I2, rfl, i1, i2, i3, i4, i5, i6, -, -⟩
        first | refine q_aret (v := some _) d_Draft_add_61 rfl (by omega) (by omega) ?_ | refine q_aret (v := none) d_Draft_add_61 rfl (by omega) (by omega) ?_ | refine q_aret d_Draft_add_61 rfl (by omega) (by omega) ?_
        have hS2 : k_sc (d + 1) D1 w1 (q_upT T sz (104, 0)) I2 R1 := m3.cong (fun b b1 b2 => i1 b (hsb b b1 b2))
        refine ⟨some sz, rfl, Or.inr ⟨rfl, rfl, I2, R1, w1, D1, rfl, fun b b1 b2 => ?_, fun b hb => m2 b (by omega), hS2, ?_, m5, ⟨q_upT_self, by rw [i2, hk], ?_, ?_, ?_, ?_, ?_, ?_, ?_⟩, ?_, fun j hj => ?_⟩⟩
        · rw [i1 b b2, m1 b (by omega)]
          funext j
          rw [q_upI_nea (by omega)]
        · have : k_fw p D = D ++ [p.f] := by unfold k_fw; rw [hk]; rfl
          rw [this, hpl]
          exact m4.trans (List.perm_append_singleton _ _).symm
        · rw [i3]; exact congrArg (fun q : KF => nI q.2.2.2.2) hpl.symm
        · rw [i4]; exact congrArg (fun q : KF => q.2.1) hpl.symm
        · rw [i5]; exact congrArg (fun q : KF => q.2.2.1) hpl.symm
        · rw [i6]; exact congrArg (fun q : KF => q.2.2.2.1) hpl.symm
        · intro h5; rw [hk] at h5; omega
        · intro h5; rw [hk] at h5; omega
        · intro h5; rw [hk] at h5; omega
        · rw [i1 d (by omega), m1 d (by omega), q_upI_self]
        · rw [i1 d (by omega), m1 d (by omega), q_upI_nei hj]
end PrimC2
