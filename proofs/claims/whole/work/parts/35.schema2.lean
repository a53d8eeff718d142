/-! a schema of the class: what is within, whether it is like another, the copy of another -/
abbrev M_Schema_isLike : q_M := (⟨"LensPaths$Schema", "isLike", "(LLensPaths$Schema;)Z"⟩, prog_9_method_3_code, 5, (some .boolean), "LensPaths$Schema", [], false, 0, 0)
theorem d_Schema_isLike_0 : decode prog_9_method_3_code 0 = .ok (.aload_n 0, 1) := by decide +kernel
theorem d_Schema_isLike_1 : decode prog_9_method_3_code 1 = .ok (.getfield 18, 3) := by decide +kernel
theorem d_Schema_isLike_4 : decode prog_9_method_3_code 4 = .ok (.aload_n 1, 1) := by decide +kernel
theorem d_Schema_isLike_5 : decode prog_9_method_3_code 5 = .ok (.getfield 18, 3) := by decide +kernel
theorem d_Schema_isLike_8 : decode prog_9_method_3_code 8 = .ok (.if_icmp .eq 5, 3) := by decide +kernel
theorem d_Schema_isLike_11 : decode prog_9_method_3_code 11 = .ok (.iconst 0, 1) := by decide +kernel
theorem d_Schema_isLike_12 : decode prog_9_method_3_code 12 = .ok (.ireturn, 1) := by decide +kernel
theorem d_Schema_isLike_13 : decode prog_9_method_3_code 13 = .ok (.iconst 0, 1) := by decide +kernel
theorem d_Schema_isLike_14 : decode prog_9_method_3_code 14 = .ok (.istore_n 2, 1) := by decide +kernel
theorem d_Schema_isLike_15 : decode prog_9_method_3_code 15 = .ok (.iload_n 2, 1) := by decide +kernel
theorem d_Schema_isLike_16 : decode prog_9_method_3_code 16 = .ok (.aload_n 0, 1) := by decide +kernel
theorem d_Schema_isLike_17 : decode prog_9_method_3_code 17 = .ok (.getfield 18, 3) := by decide +kernel
theorem d_Schema_isLike_20 : decode prog_9_method_3_code 20 = .ok (.if_icmp .ge 74, 3) := by decide +kernel
theorem d_Schema_isLike_23 : decode prog_9_method_3_code 23 = .ok (.aload_n 0, 1) := by decide +kernel
theorem d_Schema_isLike_24 : decode prog_9_method_3_code 24 = .ok (.getfield 11, 3) := by decide +kernel
theorem d_Schema_isLike_27 : decode prog_9_method_3_code 27 = .ok (.iload_n 2, 1) := by decide +kernel
theorem d_Schema_isLike_28 : decode prog_9_method_3_code 28 = .ok (.aaload, 1) := by decide +kernel
theorem d_Schema_isLike_29 : decode prog_9_method_3_code 29 = .ok (.astore_n 3, 1) := by decide +kernel
theorem d_Schema_isLike_30 : decode prog_9_method_3_code 30 = .ok (.aload_n 1, 1) := by decide +kernel
theorem d_Schema_isLike_31 : decode prog_9_method_3_code 31 = .ok (.getfield 11, 3) := by decide +kernel
theorem d_Schema_isLike_34 : decode prog_9_method_3_code 34 = .ok (.iload_n 2, 1) := by decide +kernel
theorem d_Schema_isLike_35 : decode prog_9_method_3_code 35 = .ok (.aaload, 1) := by decide +kernel
theorem d_Schema_isLike_36 : decode prog_9_method_3_code 36 = .ok (.astore 4, 2) := by decide +kernel
theorem d_Schema_isLike_38 : decode prog_9_method_3_code 38 = .ok (.aload_n 3, 1) := by decide +kernel
theorem d_Schema_isLike_39 : decode prog_9_method_3_code 39 = .ok (.getfield 29, 3) := by decide +kernel
theorem d_Schema_isLike_42 : decode prog_9_method_3_code 42 = .ok (.aload 4, 2) := by decide +kernel
theorem d_Schema_isLike_44 : decode prog_9_method_3_code 44 = .ok (.getfield 29, 3) := by decide +kernel
theorem d_Schema_isLike_47 : decode prog_9_method_3_code 47 = .ok (.if_icmp .ne 39, 3) := by decide +kernel
theorem d_Schema_isLike_50 : decode prog_9_method_3_code 50 = .ok (.aload_n 3, 1) := by decide +kernel
theorem d_Schema_isLike_51 : decode prog_9_method_3_code 51 = .ok (.getfield 32, 3) := by decide +kernel
theorem d_Schema_isLike_54 : decode prog_9_method_3_code 54 = .ok (.aload 4, 2) := by decide +kernel
theorem d_Schema_isLike_56 : decode prog_9_method_3_code 56 = .ok (.getfield 32, 3) := by decide +kernel
theorem d_Schema_isLike_59 : decode prog_9_method_3_code 59 = .ok (.if_icmp .ne 27, 3) := by decide +kernel
theorem d_Schema_isLike_62 : decode prog_9_method_3_code 62 = .ok (.aload_n 3, 1) := by decide +kernel
theorem d_Schema_isLike_63 : decode prog_9_method_3_code 63 = .ok (.getfield 35, 3) := by decide +kernel
theorem d_Schema_isLike_66 : decode prog_9_method_3_code 66 = .ok (.aload 4, 2) := by decide +kernel
theorem d_Schema_isLike_68 : decode prog_9_method_3_code 68 = .ok (.getfield 35, 3) := by decide +kernel
theorem d_Schema_isLike_71 : decode prog_9_method_3_code 71 = .ok (.if_icmp .ne 15, 3) := by decide +kernel
theorem d_Schema_isLike_74 : decode prog_9_method_3_code 74 = .ok (.aload_n 3, 1) := by decide +kernel
theorem d_Schema_isLike_75 : decode prog_9_method_3_code 75 = .ok (.getfield 38, 3) := by decide +kernel
theorem d_Schema_isLike_78 : decode prog_9_method_3_code 78 = .ok (.aload 4, 2) := by decide +kernel
theorem d_Schema_isLike_80 : decode prog_9_method_3_code 80 = .ok (.getfield 38, 3) := by decide +kernel
theorem d_Schema_isLike_83 : decode prog_9_method_3_code 83 = .ok (.if_icmp .eq 5, 3) := by decide +kernel
theorem d_Schema_isLike_86 : decode prog_9_method_3_code 86 = .ok (.iconst 0, 1) := by decide +kernel
theorem d_Schema_isLike_87 : decode prog_9_method_3_code 87 = .ok (.ireturn, 1) := by decide +kernel
theorem d_Schema_isLike_88 : decode prog_9_method_3_code 88 = .ok (.iinc 2 1, 3) := by decide +kernel
theorem d_Schema_isLike_91 : decode prog_9_method_3_code 91 = .ok (.goto (-76), 3) := by decide +kernel
theorem d_Schema_isLike_94 : decode prog_9_method_3_code 94 = .ok (.iconst 1, 1) := by decide +kernel
theorem d_Schema_isLike_95 : decode prog_9_method_3_code 95 = .ok (.ireturn, 1) := by decide +kernel
abbrev M_Field_admits : q_M := (⟨"LensPaths$Field", "admits", "(I)Z"⟩, prog_5_method_2_code, 2, (some .boolean), "LensPaths$Field", [], false, 0, 0)
theorem d_Field_admits_0 : decode prog_5_method_2_code 0 = .ok (.aload_n 0, 1) := by decide +kernel
theorem d_Field_admits_1 : decode prog_5_method_2_code 1 = .ok (.getfield 7, 3) := by decide +kernel
theorem d_Field_admits_4 : decode prog_5_method_2_code 4 = .ok (.iload_n 1, 1) := by decide +kernel
theorem d_Field_admits_5 : decode prog_5_method_2_code 5 = .ok (.if_icmp .gt 15, 3) := by decide +kernel
theorem d_Field_admits_8 : decode prog_5_method_2_code 8 = .ok (.iload_n 1, 1) := by decide +kernel
theorem d_Field_admits_9 : decode prog_5_method_2_code 9 = .ok (.aload_n 0, 1) := by decide +kernel
theorem d_Field_admits_10 : decode prog_5_method_2_code 10 = .ok (.getfield 13, 3) := by decide +kernel
theorem d_Field_admits_13 : decode prog_5_method_2_code 13 = .ok (.if_icmp .gt 7, 3) := by decide +kernel
theorem d_Field_admits_16 : decode prog_5_method_2_code 16 = .ok (.iconst 1, 1) := by decide +kernel
theorem d_Field_admits_17 : decode prog_5_method_2_code 17 = .ok (.goto 4, 3) := by decide +kernel
theorem d_Field_admits_20 : decode prog_5_method_2_code 20 = .ok (.iconst 0, 1) := by decide +kernel
theorem d_Field_admits_21 : decode prog_5_method_2_code 21 = .ok (.ireturn, 1) := by decide +kernel
abbrev M_Field_makeLike : q_M := (⟨"LensPaths$Field", "makeLike", "(LLensPaths$Field;)V"⟩, prog_5_method_3_code, 2, none, "LensPaths$Field", [], false, 0, 0)
theorem d_Field_makeLike_0 : decode prog_5_method_3_code 0 = .ok (.aload_n 0, 1) := by decide +kernel
theorem d_Field_makeLike_1 : decode prog_5_method_3_code 1 = .ok (.aload_n 1, 1) := by decide +kernel
theorem d_Field_makeLike_2 : decode prog_5_method_3_code 2 = .ok (.getfield 16, 3) := by decide +kernel
theorem d_Field_makeLike_5 : decode prog_5_method_3_code 5 = .ok (.putfield 16, 3) := by decide +kernel
theorem d_Field_makeLike_8 : decode prog_5_method_3_code 8 = .ok (.aload_n 0, 1) := by decide +kernel
theorem d_Field_makeLike_9 : decode prog_5_method_3_code 9 = .ok (.aload_n 1, 1) := by decide +kernel
theorem d_Field_makeLike_10 : decode prog_5_method_3_code 10 = .ok (.getfield 19, 3) := by decide +kernel
theorem d_Field_makeLike_13 : decode prog_5_method_3_code 13 = .ok (.putfield 19, 3) := by decide +kernel
theorem d_Field_makeLike_16 : decode prog_5_method_3_code 16 = .ok (.aload_n 0, 1) := by decide +kernel
theorem d_Field_makeLike_17 : decode prog_5_method_3_code 17 = .ok (.aload_n 1, 1) := by decide +kernel
theorem d_Field_makeLike_18 : decode prog_5_method_3_code 18 = .ok (.getfield 7, 3) := by decide +kernel
theorem d_Field_makeLike_21 : decode prog_5_method_3_code 21 = .ok (.putfield 7, 3) := by decide +kernel
theorem d_Field_makeLike_24 : decode prog_5_method_3_code 24 = .ok (.aload_n 0, 1) := by decide +kernel
theorem d_Field_makeLike_25 : decode prog_5_method_3_code 25 = .ok (.aload_n 1, 1) := by decide +kernel
theorem d_Field_makeLike_26 : decode prog_5_method_3_code 26 = .ok (.getfield 13, 3) := by decide +kernel
theorem d_Field_makeLike_29 : decode prog_5_method_3_code 29 = .ok (.putfield 13, 3) := by decide +kernel
theorem d_Field_makeLike_32 : decode prog_5_method_3_code 32 = .ok (.aload_n 0, 1) := by decide +kernel
theorem d_Field_makeLike_33 : decode prog_5_method_3_code 33 = .ok (.aload_n 1, 1) := by decide +kernel
theorem d_Field_makeLike_34 : decode prog_5_method_3_code 34 = .ok (.getfield 22, 3) := by decide +kernel
theorem d_Field_makeLike_37 : decode prog_5_method_3_code 37 = .ok (.putfield 22, 3) := by decide +kernel
theorem d_Field_makeLike_40 : decode prog_5_method_3_code 40 = .ok (.return_, 1) := by decide +kernel
abbrev M_Schema_makeLike : q_M := (⟨"LensPaths$Schema", "makeLike", "(LLensPaths$Schema;)V"⟩, prog_9_method_2_code, 3, none, "LensPaths$Schema", [], false, 1, 21)
theorem d_Schema_makeLike_0 : decode prog_9_method_2_code 0 = .ok (.aload_n 0, 1) := by decide +kernel
theorem d_Schema_makeLike_1 : decode prog_9_method_2_code 1 = .ok (.aload_n 1, 1) := by decide +kernel
theorem d_Schema_makeLike_2 : decode prog_9_method_2_code 2 = .ok (.getfield 18, 3) := by decide +kernel
theorem d_Schema_makeLike_5 : decode prog_9_method_2_code 5 = .ok (.putfield 18, 3) := by decide +kernel
theorem d_Schema_makeLike_8 : decode prog_9_method_2_code 8 = .ok (.iconst 0, 1) := by decide +kernel
theorem d_Schema_makeLike_9 : decode prog_9_method_2_code 9 = .ok (.istore_n 2, 1) := by decide +kernel
theorem d_Schema_makeLike_10 : decode prog_9_method_2_code 10 = .ok (.iload_n 2, 1) := by decide +kernel
theorem d_Schema_makeLike_11 : decode prog_9_method_2_code 11 = .ok (.aload_n 0, 1) := by decide +kernel
theorem d_Schema_makeLike_12 : decode prog_9_method_2_code 12 = .ok (.getfield 18, 3) := by decide +kernel
theorem d_Schema_makeLike_15 : decode prog_9_method_2_code 15 = .ok (.if_icmp .ge 34, 3) := by decide +kernel
theorem d_Schema_makeLike_18 : decode prog_9_method_2_code 18 = .ok (.aload_n 0, 1) := by decide +kernel
theorem d_Schema_makeLike_19 : decode prog_9_method_2_code 19 = .ok (.getfield 11, 3) := by decide +kernel
theorem d_Schema_makeLike_22 : decode prog_9_method_2_code 22 = .ok (.iload_n 2, 1) := by decide +kernel
theorem d_Schema_makeLike_23 : decode prog_9_method_2_code 23 = .ok (.aaload, 1) := by decide +kernel
theorem d_Schema_makeLike_24 : decode prog_9_method_2_code 24 = .ok (.aload_n 1, 1) := by decide +kernel
theorem d_Schema_makeLike_25 : decode prog_9_method_2_code 25 = .ok (.getfield 11, 3) := by decide +kernel
theorem d_Schema_makeLike_28 : decode prog_9_method_2_code 28 = .ok (.iload_n 2, 1) := by decide +kernel
theorem d_Schema_makeLike_29 : decode prog_9_method_2_code 29 = .ok (.aaload, 1) := by decide +kernel
theorem d_Schema_makeLike_30 : decode prog_9_method_2_code 30 = .ok (.invokevirtual 22, 3) := by decide +kernel
theorem d_Schema_makeLike_33 : decode prog_9_method_2_code 33 = .ok (.aload_n 0, 1) := by decide +kernel
theorem d_Schema_makeLike_34 : decode prog_9_method_2_code 34 = .ok (.getfield 11, 3) := by decide +kernel
theorem d_Schema_makeLike_37 : decode prog_9_method_2_code 37 = .ok (.iload_n 2, 1) := by decide +kernel
theorem d_Schema_makeLike_38 : decode prog_9_method_2_code 38 = .ok (.aaload, 1) := by decide +kernel
theorem d_Schema_makeLike_39 : decode prog_9_method_2_code 39 = .ok (.iload_n 2, 1) := by decide +kernel
theorem d_Schema_makeLike_40 : decode prog_9_method_2_code 40 = .ok (.putfield 26, 3) := by decide +kernel
theorem d_Schema_makeLike_43 : decode prog_9_method_2_code 43 = .ok (.iinc 2 1, 3) := by decide +kernel
theorem d_Schema_makeLike_46 : decode prog_9_method_2_code 46 = .ok (.goto (-36), 3) := by decide +kernel
theorem d_Schema_makeLike_49 : decode prog_9_method_2_code 49 = .ok (.return_, 1) := by decide +kernel
section SchemaM
variable {g : q_G} {sz : Nat} {T : q_T} {I : q_I} {R : q_R} {J : q_J}
def k_cio (L : List KF) : Option (List Nat) → Nat
  | none => 0
  | some m => k_cin L m
theorem k_cin_cons (f : KF) (t : List KF) (m : List Nat) : k_cin (f :: t) m = (if f.1 ≠ m ∧ m <+: f.1 then 1 else 0) + k_cin t m := by
  unfold k_cin
  rw [List.filter_cons]
  by_cases h1 : f.1 = m
  · rw [if_neg (by simp [h1]), if_neg (fun z => z.1 h1), Nat.zero_add]
  · by_cases h2 : m <+: f.1
    · rw [if_pos (by simp [h1, h2]), if_pos ⟨h1, h2⟩, List.length_cons, Nat.add_comm]
    · rw [if_neg (by simp [h2]), if_neg (fun z => h2 z.2), Nat.zero_add]
theorem c_Schema_countInside {s : Nat} {L : List KF} {w : Nat → Nat} (hS : k_sc s L w T I R) (hok : k_okf L) {o : Option (List Nat)} (ho : ∀ m, o = some m → k_ok 4 m) : q_Ci g M_Schema_countInside [.ref s, .int (p_key o)] (sz, T, I, R, J) 0 0 (fun r h' => r = nI (k_cio L o) ∧ h' = (sz, T, I, R, J)) := by
  have hL := hS.1.1
  have hn := hS.2.1
  have h24 := hS.2.2.1
  refine q_C.of (ls0 := [some (.ref s), some (.int (p_key o)), none, none]) (by decide) rfl (by decide) (Nat.le_of_ble_eq_true rfl) rfl ?_
  cases o with
  | none =>
    refine q_iload_n d_Schema_countInside_0 rfl rfl ?_
    refine q_iconst (v := (-1)) d_Schema_countInside_1 (by decide) ?_
    refine q_icmp_ne (tgt := 7) d_Schema_countInside_2 rfl (fun hc => ?_) (fun hc => ?_)
    · exact absurd rfl hc
    · refine q_iconst (v := nI 0) d_Schema_countInside_5 (by decide) ?_
      refine q_iret d_Schema_countInside_6 rfl (by omega) (by omega) ?_
      exact ⟨_, rfl, rfl, rfl⟩
  | some m =>
    have hm := ho m rfl
    have hk := k_key_lt hm
    rw [show p_key (some m) = nI (k_key m) from rfl]
    have loop : ∀ (t : List KF) (i c : Nat), L.drop i = t → i ≤ L.length → q_V g M_Schema_countInside 0 0 0 0 (sz, T, I, R, J) (fun o h' => ∃ r : Int32, o = .inl (some (.int r)) ∧ (r = nI (c + k_cin t m) ∧ h' = (sz, T, I, R, J))) 11 [some (.ref s), some (.int (nI (k_key m))), some (.int (nI c)), some (.int (nI i))] [] := by
      intro t
      induction t with
      | nil =>
        intro i c ht hi
        have h1 := k_drop0 ht
        refine q_iload_n d_Schema_countInside_11 rfl rfl ?_
        refine q_aload_n d_Schema_countInside_12 rfl rfl ?_
        refine q_getI (ci := 6) (fk := 1) d_Schema_countInside_13 rfl (Nat.le_of_ble_eq_true rfl) w_99 (fun _ _ => rfl) hL.1 ?_
        rw [hn]
        refine q_icmp_ge (tgt := 57) d_Schema_countInside_16 rfl (fun hc => ?_) (fun hc => ?_)
        · refine q_iload_n d_Schema_countInside_57 rfl rfl ?_
          refine q_iret d_Schema_countInside_58 rfl (by omega) (by omega) ?_
          exact ⟨_, rfl, rfl, rfl⟩
        · rw [nI_leI (by omega) (by omega)] at hc
          omega
      | cons f t ih =>
        intro i c ht hi
        obtain ⟨h1, h2, h3⟩ := k_drop1 ht
        obtain ⟨a1, a2, a3, a4⟩ := hS.at h2
        have hf := (hok f (List.mem_of_getElem? h2)).1
        rw [k_cin_cons]
        refine q_iload_n d_Schema_countInside_11 rfl rfl ?_
        refine q_aload_n d_Schema_countInside_12 rfl rfl ?_
        refine q_getI (ci := 6) (fk := 1) d_Schema_countInside_13 rfl (Nat.le_of_ble_eq_true rfl) w_99 (fun _ _ => rfl) hL.1 ?_
        rw [hn]
        refine q_icmp_ge (tgt := 57) d_Schema_countInside_16 rfl (fun hc => ?_) (fun hc => ?_)
        · rw [nI_leI (by omega) (by omega)] at hc
          omega
        · refine q_aload_n d_Schema_countInside_19 rfl rfl ?_
          refine q_getR (ci := 6) (fk := 0) d_Schema_countInside_20 rfl (Nat.le_of_ble_eq_true rfl) w_92 (fun _ _ => rfl) hL.1 (hL.2 0 _ _ _ rfl).1 ?_
          refine q_iload_n d_Schema_countInside_23 rfl rfl ?_
          refine q_aaldR (kd := _) d_Schema_countInside_24 rfl (Nat.le_of_ble_eq_true rfl) (Nat.le_of_ble_eq_true rfl) (hL.2 0 _ _ _ rfl).2 (by first | assumption | exact vp_in_nI (by omega) (by omega)) (by first | assumption | rfl | (simp (disch := omega) only [q_upT_self, q_upT_ne, q_upR_self, q_upR_nea, q_upR_nk, q_upT_at, *]; done) | (simp (disch := omega) only [q_upT_self, q_upT_ne, q_upR_self, q_upR_nea, q_upR_nk, q_upT_at, *]; rfl)) ?_
          refine q_getI (ci := 3) (fk := 0) d_Schema_countInside_25 rfl (Nat.le_of_ble_eq_true rfl) w_55 (fun _ _ => rfl) (by first | assumption | rfl | (simp (disch := omega) only [q_upT_self, q_upT_ne, q_upR_self, q_upR_nea, q_upR_nk, q_upT_at, *]; done) | (simp (disch := omega) only [q_upT_self, q_upT_ne, q_upR_self, q_upR_nea, q_upR_nk, q_upT_at, *]; rfl)) ?_
          rw [a4.1]
          refine q_iload_n d_Schema_countInside_28 rfl rfl ?_
          refine q_icmp_eq (tgt := 51) d_Schema_countInside_29 rfl (fun hc => ?_) (fun hc => ?_)
          · rw [k_keyI hf hm] at hc
            rw [if_neg (fun z => z.1 hc), Nat.zero_add]
            first | refine q_iincN d_Schema_countInside_51 rfl (Nat.le_of_ble_eq_true rfl) (by first | exact q_ok0 | exact q_okI rfl | exact q_okR rfl | exact q_okN rfl) rfl ?_ | refine q_iinc d_Schema_countInside_51 rfl rfl (Nat.le_of_ble_eq_true rfl) (by first | exact q_ok0 | exact q_okI rfl | exact q_okR rfl | exact q_okN rfl) rfl ?_
            refine q_goto (tgt := 11) d_Schema_countInside_54 rfl ?_
            exact ih (i + 1) c h3 (by omega)
          · rw [k_keyI hf hm] at hc
            have hne := hc
            refine q_aload_n d_Schema_countInside_32 rfl rfl ?_
            refine q_getR (ci := 6) (fk := 0) d_Schema_countInside_33 rfl (Nat.le_of_ble_eq_true rfl) w_92 (fun _ _ => rfl) hL.1 (hL.2 0 _ _ _ rfl).1 ?_
            refine q_iload_n d_Schema_countInside_36 rfl rfl ?_
            refine q_aaldR (kd := _) d_Schema_countInside_37 rfl (Nat.le_of_ble_eq_true rfl) (Nat.le_of_ble_eq_true rfl) (hL.2 0 _ _ _ rfl).2 (by first | assumption | exact vp_in_nI (by omega) (by omega)) (by first | assumption | rfl | (simp (disch := omega) only [q_upT_self, q_upT_ne, q_upR_self, q_upR_nea, q_upR_nk, q_upT_at, *]; done) | (simp (disch := omega) only [q_upT_self, q_upT_ne, q_upR_self, q_upR_nea, q_upR_nk, q_upT_at, *]; rfl)) ?_
            refine q_getI (ci := 3) (fk := 0) d_Schema_countInside_38 rfl (Nat.le_of_ble_eq_true rfl) w_55 (fun _ _ => rfl) (by first | assumption | rfl | (simp (disch := omega) only [q_upT_self, q_upT_ne, q_upR_self, q_upR_nea, q_upR_nk, q_upT_at, *]; done) | (simp (disch := omega) only [q_upT_self, q_upT_ne, q_upR_self, q_upR_nea, q_upR_nk, q_upT_at, *]; rfl)) ?_
            rw [a4.1]
            refine q_iload_n d_Schema_countInside_41 rfl rfl ?_
            refine q_callSi (M2 := M_Key_isWithin) d_Schema_countInside_42 ⟨(Nat.le_of_ble_eq_true rfl), (Nat.le_of_ble_eq_true rfl), w_553, w_15, ⟨by decide, by decide⟩, show _ = some 2 by decide +kernel⟩ w_551 w_552 rfl (Nat.le_of_ble_eq_true rfl) (by omega) (by omega) (c_Key_isWithin hf hm) ?_
            rintro _ _ ⟨rfl, rfl⟩
            by_cases hp : m <+: f.1
            · rw [if_pos ⟨hne, hp⟩, if_pos hp]
              refine q_if_eq (tgt := 51) d_Schema_countInside_45 rfl (fun hc => ?_) (fun hc => ?_)
              · exact absurd hc (by decide)
              · first | refine q_iincN d_Schema_countInside_48 rfl (Nat.le_of_ble_eq_true rfl) (by first | exact q_ok0 | exact q_okI rfl | exact q_okR rfl | exact q_okN rfl) rfl ?_ | refine q_iinc d_Schema_countInside_48 rfl rfl (Nat.le_of_ble_eq_true rfl) (by first | exact q_ok0 | exact q_okI rfl | exact q_okR rfl | exact q_okN rfl) rfl ?_
                first | refine q_iincN d_Schema_countInside_51 rfl (Nat.le_of_ble_eq_true rfl) (by first | exact q_ok0 | exact q_okI rfl | exact q_okR rfl | exact q_okN rfl) rfl ?_ | refine q_iinc d_Schema_countInside_51 rfl rfl (Nat.le_of_ble_eq_true rfl) (by first | exact q_ok0 | exact q_okI rfl | exact q_okR rfl | exact q_okN rfl) rfl ?_
                refine q_goto (tgt := 11) d_Schema_countInside_54 rfl ?_
                rw [show c + (1 + k_cin t m) = c + 1 + k_cin t m by omega]
                exact ih (i + 1) (c + 1) h3 (by omega)
            · rw [if_neg (fun z => hp z.2), if_neg hp, Nat.zero_add (k_cin t m)]
              refine q_if_eq (tgt := 51) d_Schema_countInside_45 rfl (fun hc => ?_) (fun hc => ?_)
              · first | refine q_iincN d_Schema_countInside_51 rfl (Nat.le_of_ble_eq_true rfl) (by first | exact q_ok0 | exact q_okI rfl | exact q_okR rfl | exact q_okN rfl) rfl ?_ | refine q_iinc d_Schema_countInside_51 rfl rfl (Nat.le_of_ble_eq_true rfl) (by first | exact q_ok0 | exact q_okI rfl | exact q_okR rfl | exact q_okN rfl) rfl ?_
                refine q_goto (tgt := 11) d_Schema_countInside_54 rfl ?_
                exact ih (i + 1) c h3 (by omega)
              · exact absurd rfl hc
    refine q_iload_n d_Schema_countInside_0 rfl rfl ?_
    refine q_iconst (v := (-1)) d_Schema_countInside_1 (by decide) ?_
    refine q_icmp_ne (tgt := 7) d_Schema_countInside_2 rfl (fun hc => ?_) (fun hc => ?_)
    · refine q_iconst (v := nI 0) d_Schema_countInside_7 (by decide) ?_
      refine q_istore_n d_Schema_countInside_8 rfl (Nat.le_of_ble_eq_true rfl) (by first | exact q_ok0 | exact q_okI rfl | exact q_okR rfl | exact q_okN rfl) rfl ?_
      refine q_iconst (v := nI 0) d_Schema_countInside_9 (by decide) ?_
      refine q_istore_n d_Schema_countInside_10 rfl (Nat.le_of_ble_eq_true rfl) (by first | exact q_ok0 | exact q_okI rfl | exact q_okR rfl | exact q_okN rfl) rfl ?_
      have := loop L 0 0 rfl (by omega)
      rw [Nat.zero_add] at this
      exact this
    · exact absurd hc (nI_m1 (by omega))
theorem c_Field_admits {a : Nat} {f : KF} (ha : T a = some (103, 0)) (hf : k_fd I a f) (v : Int32) : q_Ci g M_Field_admits [.ref a, .int v] (sz, T, I, R, J) 0 0 (fun r h' => r = p_b (decide (f.2.2.1 ≤ v) && decide (v ≤ f.2.2.2.1)) ∧ h' = (sz, T, I, R, J)) := by
  have hL : q_L 3 [] a T R := ⟨ha, fun fk off kd n z => nomatch z⟩
  refine q_C.of (ls0 := [some (.ref a), some (.int v)]) (by decide) rfl (by decide) (Nat.le_of_ble_eq_true rfl) rfl ?_
  refine q_aload_n d_Field_admits_0 rfl rfl ?_
  refine q_getI (ci := 3) (fk := 2) d_Field_admits_1 rfl (Nat.le_of_ble_eq_true rfl) w_65 (fun _ _ => rfl) hL.1 ?_
  rw [hf.2.2.1]
  refine q_iload_n d_Field_admits_4 rfl rfl ?_
  refine q_icmp_gt (tgt := 20) d_Field_admits_5 rfl (fun hc => ?_) (fun hc => ?_)
  · refine q_iconst (v := nI 0) d_Field_admits_20 (by decide) ?_
    refine q_zret d_Field_admits_21 rfl (by first | exact Or.inl rfl | exact Or.inr rfl | assumption) (by omega) (by omega) ?_
    exact ⟨_, rfl, by rw [decide_eq_false (Int32.not_le.mpr hc), Bool.false_and]; rfl, rfl⟩
  · have h1 := Int32.not_lt.mp hc
    refine q_iload_n d_Field_admits_8 rfl rfl ?_
    refine q_aload_n d_Field_admits_9 rfl rfl ?_
    refine q_getI (ci := 3) (fk := 3) d_Field_admits_10 rfl (Nat.le_of_ble_eq_true rfl) w_71 (fun _ _ => rfl) hL.1 ?_
    rw [hf.2.2.2.1]
    refine q_icmp_gt (tgt := 20) d_Field_admits_13 rfl (fun hc => ?_) (fun hc => ?_)
    · refine q_iconst (v := nI 0) d_Field_admits_20 (by decide) ?_
      refine q_zret d_Field_admits_21 rfl (by first | exact Or.inl rfl | exact Or.inr rfl | assumption) (by omega) (by omega) ?_
      exact ⟨_, rfl, by rw [decide_eq_false (Int32.not_le.mpr hc), Bool.and_false]; rfl, rfl⟩
    · refine q_iconst (v := nI 1) d_Field_admits_16 (by decide) ?_
      refine q_goto (tgt := 21) d_Field_admits_17 rfl ?_
      refine q_zret d_Field_admits_21 rfl (by first | exact Or.inl rfl | exact Or.inr rfl | assumption) (by omega) (by omega) ?_
      exact ⟨_, rfl, by rw [decide_eq_true h1, decide_eq_true (Int32.not_lt.mp hc)]; rfl, rfl⟩
/-- without slots -/
abbrev k_st (f : KF) : List Nat × Int32 × Int32 × Int32 := (f.1, f.2.1, f.2.2.1, f.2.2.2.1)
theorem c_Schema_isLike {s s2 : Nat} {L L2 : List KF} {w w2 : Nat → Nat} (hS : k_sc s L w T I R) (hS2 : k_sc s2 L2 w2 T I R) (hok : k_okf L) (hok2 : k_okf L2) : q_Ci g M_Schema_isLike [.ref s, .ref s2] (sz, T, I, R, J) 0 0 (fun r h' => r = p_b (decide (L.map k_st = L2.map k_st)) ∧ h' = (sz, T, I, R, J)) := by
  have hL := hS.1.1
  have hn := hS.2.1
  have h24 := hS.2.2.1
  have hn2 := hS2.2.1
  have h242 := hS2.2.2.1
  have t2 := hS2.1.1.1
  have r2 : R s2 (nI 0) = some (s2 + 1) := (hS2.1.1.2 0 _ _ _ rfl).1
  have q2 : T (s2 + 1) = some (2, 24) := (hS2.1.1.2 0 _ _ _ rfl).2
  refine q_C.of (ls0 := [some (.ref s), some (.ref s2), none, none, none]) (by decide) rfl (by decide) (Nat.le_of_ble_eq_true rfl) rfl ?_
  refine q_aload_n d_Schema_isLike_0 rfl rfl ?_
  refine q_getI (ci := 6) (fk := 1) d_Schema_isLike_1 rfl (Nat.le_of_ble_eq_true rfl) w_99 (fun _ _ => rfl) hL.1 ?_
  rw [hn]
  refine q_aload_n d_Schema_isLike_4 rfl rfl ?_
  refine q_getI (ci := 6) (fk := 1) d_Schema_isLike_5 rfl (Nat.le_of_ble_eq_true rfl) w_99 (fun _ _ => rfl) (by first | assumption | rfl | (simp (disch := omega) only [q_upT_self, q_upT_ne, q_upR_self, q_upR_nea, q_upR_nk, q_upT_at, *]; done) | (simp (disch := omega) only [q_upT_self, q_upT_ne, q_upR_self, q_upR_nea, q_upR_nk, q_upT_at, *]; rfl)) ?_
  rw [hn2]
  refine q_icmp_eq (tgt := 13) d_Schema_isLike_8 rfl (fun hc => ?_) (fun hc => ?_)
  · have hlen := (nI_eq (by omega) (by omega)).mp hc
    have loop : ∀ (t u : List KF) (i : Nat) (x3 x4 : Option Value), L.drop i = t → L2.drop i = u → i ≤ L.length → q_V g M_Schema_isLike 0 0 0 0 (sz, T, I, R, J) (fun o h' => ∃ r : Int32, o = .inl (some (.int r)) ∧ (r = p_b (decide (t.map k_st = u.map k_st)) ∧ h' = (sz, T, I, R, J))) 15 [some (.ref s), some (.ref s2), some (.int (nI i)), x3, x4] [] := by
      intro t
      induction t with
      | nil =>
        intro u i x3 x4 ht hu hi
        have h1 := k_drop0 ht
        have e : u = [] := by rw [← hu]; exact List.drop_of_length_le (by omega)
        refine q_iload_n d_Schema_isLike_15 rfl rfl ?_
        refine q_aload_n d_Schema_isLike_16 rfl rfl ?_
        refine q_getI (ci := 6) (fk := 1) d_Schema_isLike_17 rfl (Nat.le_of_ble_eq_true rfl) w_99 (fun _ _ => rfl) hL.1 ?_
        rw [hn]
        refine q_icmp_ge (tgt := 94) d_Schema_isLike_20 rfl (fun hc => ?_) (fun hc => ?_)
        · refine q_iconst (v := nI 1) d_Schema_isLike_94 (by decide) ?_
          refine q_zret d_Schema_isLike_95 rfl (by first | exact Or.inl rfl | exact Or.inr rfl | assumption) (by omega) (by omega) ?_
          exact ⟨_, rfl, by rw [e]; rfl, rfl⟩
        · rw [nI_leI (by omega) (by omega)] at hc
          omega
      | cons f t ih =>
        intro u i x3 x4 ht hu hi
        obtain ⟨h1, h2, h3⟩ := k_drop1 ht
        obtain ⟨e, u2, rfl⟩ : ∃ e u2, u = e :: u2 := ⟨_, _, by rw [← hu]; exact List.drop_eq_getElem_cons (by omega)⟩
        obtain ⟨h4, h5, h6⟩ := k_drop1 hu
        obtain ⟨a1, a2, a3, a4⟩ := hS.at h2
        obtain ⟨b1, b2, b3, b4⟩ := hS2.at h5
        have hf := (hok f (List.mem_of_getElem? h2)).1
        have he := (hok2 e (List.mem_of_getElem? h5)).1
        have no : k_st f ≠ k_st e → p_b (decide ((f :: t).map k_st = (e :: u2).map k_st)) = nI 0 := fun z => by
          have z2 : ¬ ((f :: t).map k_st = (e :: u2).map k_st) := fun q => z (List.cons.inj q).1
          rw [decide_eq_false z2]; rfl
        refine q_iload_n d_Schema_isLike_15 rfl rfl ?_
        refine q_aload_n d_Schema_isLike_16 rfl rfl ?_
        refine q_getI (ci := 6) (fk := 1) d_Schema_isLike_17 rfl (Nat.le_of_ble_eq_true rfl) w_99 (fun _ _ => rfl) hL.1 ?_
        rw [hn]
        refine q_icmp_ge (tgt := 94) d_Schema_isLike_20 rfl (fun hc => ?_) (fun hc => ?_)
        · rw [nI_leI (by omega) (by omega)] at hc
          omega
        · refine q_aload_n d_Schema_isLike_23 rfl rfl ?_
          refine q_getR (ci := 6) (fk := 0) d_Schema_isLike_24 rfl (Nat.le_of_ble_eq_true rfl) w_92 (fun _ _ => rfl) hL.1 (hL.2 0 _ _ _ rfl).1 ?_
          refine q_iload_n d_Schema_isLike_27 rfl rfl ?_
          refine q_aaldR (kd := _) d_Schema_isLike_28 rfl (Nat.le_of_ble_eq_true rfl) (Nat.le_of_ble_eq_true rfl) (hL.2 0 _ _ _ rfl).2 (by first | assumption | exact vp_in_nI (by omega) (by omega)) (by first | assumption | rfl | (simp (disch := omega) only [q_upT_self, q_upT_ne, q_upR_self, q_upR_nea, q_upR_nk, q_upT_at, *]; done) | (simp (disch := omega) only [q_upT_self, q_upT_ne, q_upR_self, q_upR_nea, q_upR_nk, q_upT_at, *]; rfl)) ?_
          refine q_astore_n d_Schema_isLike_29 rfl (Nat.le_of_ble_eq_true rfl) (by first | exact q_ok0 | exact q_okI rfl | exact q_okR rfl | exact q_okN rfl) rfl ?_
          refine q_aload_n d_Schema_isLike_30 rfl rfl ?_
          refine q_getR (ci := 6) (fk := 0) d_Schema_isLike_31 rfl (Nat.le_of_ble_eq_true rfl) w_92 (fun _ _ => rfl) (by first | assumption | rfl | (simp (disch := omega) only [q_upT_self, q_upT_ne, q_upR_self, q_upR_nea, q_upR_nk, q_upT_at, *]; done) | (simp (disch := omega) only [q_upT_self, q_upT_ne, q_upR_self, q_upR_nea, q_upR_nk, q_upT_at, *]; rfl)) (by first | assumption | rfl | (simp (disch := omega) only [q_upT_self, q_upT_ne, q_upR_self, q_upR_nea, q_upR_nk, q_upT_at, *]; done) | (simp (disch := omega) only [q_upT_self, q_upT_ne, q_upR_self, q_upR_nea, q_upR_nk, q_upT_at, *]; rfl)) ?_
          refine q_iload_n d_Schema_isLike_34 rfl rfl ?_
          refine q_aaldR (kd := _) d_Schema_isLike_35 rfl (Nat.le_of_ble_eq_true rfl) (Nat.le_of_ble_eq_true rfl) (by first | assumption | rfl | (simp (disch := omega) only [q_upT_self, q_upT_ne, q_upR_self, q_upR_nea, q_upR_nk, q_upT_at, *]; done) | (simp (disch := omega) only [q_upT_self, q_upT_ne, q_upR_self, q_upR_nea, q_upR_nk, q_upT_at, *]; rfl)) (by first | assumption | exact vp_in_nI (by omega) (by omega)) (by first | assumption | rfl | (simp (disch := omega) only [q_upT_self, q_upT_ne, q_upR_self, q_upR_nea, q_upR_nk, q_upT_at, *]; done) | (simp (disch := omega) only [q_upT_self, q_upT_ne, q_upR_self, q_upR_nea, q_upR_nk, q_upT_at, *]; rfl)) ?_
          refine q_astore d_Schema_isLike_36 (Nat.le_of_ble_eq_true rfl) (by first | exact q_ok0 | exact q_okI rfl | exact q_okR rfl | exact q_okN rfl) rfl ?_
          refine q_aload_n d_Schema_isLike_38 rfl rfl ?_
          refine q_getI (ci := 3) (fk := 0) d_Schema_isLike_39 rfl (Nat.le_of_ble_eq_true rfl) w_55 (fun _ _ => rfl) (by first | assumption | rfl | (simp (disch := omega) only [q_upT_self, q_upT_ne, q_upR_self, q_upR_nea, q_upR_nk, q_upT_at, *]; done) | (simp (disch := omega) only [q_upT_self, q_upT_ne, q_upR_self, q_upR_nea, q_upR_nk, q_upT_at, *]; rfl)) ?_
          rw [a4.1]
          refine q_aload d_Schema_isLike_42 rfl ?_
          refine q_getI (ci := 3) (fk := 0) d_Schema_isLike_44 rfl (Nat.le_of_ble_eq_true rfl) w_55 (fun _ _ => rfl) (by first | assumption | rfl | (simp (disch := omega) only [q_upT_self, q_upT_ne, q_upR_self, q_upR_nea, q_upR_nk, q_upT_at, *]; done) | (simp (disch := omega) only [q_upT_self, q_upT_ne, q_upR_self, q_upR_nea, q_upR_nk, q_upT_at, *]; rfl)) ?_
          rw [b4.1]
          refine q_icmp_ne (tgt := 86) d_Schema_isLike_47 rfl (fun hc => ?_) (fun hc => ?_)
          · rw [k_keyI hf he] at hc
            refine q_iconst (v := nI 0) d_Schema_isLike_86 (by decide) ?_
            refine q_zret d_Schema_isLike_87 rfl (by first | exact Or.inl rfl | exact Or.inr rfl | assumption) (by omega) (by omega) ?_
            exact ⟨_, rfl, (no (fun z => hc (congrArg (·.1) z))).symm, rfl⟩
          · rw [k_keyI hf he] at hc
            have c1 := hc
            refine q_aload_n d_Schema_isLike_50 rfl rfl ?_
            refine q_getI (ci := 3) (fk := 1) d_Schema_isLike_51 rfl (Nat.le_of_ble_eq_true rfl) w_61 (fun _ _ => rfl) (by first | assumption | rfl | (simp (disch := omega) only [q_upT_self, q_upT_ne, q_upR_self, q_upR_nea, q_upR_nk, q_upT_at, *]; done) | (simp (disch := omega) only [q_upT_self, q_upT_ne, q_upR_self, q_upR_nea, q_upR_nk, q_upT_at, *]; rfl)) ?_
            rw [a4.2.1]
            refine q_aload d_Schema_isLike_54 rfl ?_
            refine q_getI (ci := 3) (fk := 1) d_Schema_isLike_56 rfl (Nat.le_of_ble_eq_true rfl) w_61 (fun _ _ => rfl) (by first | assumption | rfl | (simp (disch := omega) only [q_upT_self, q_upT_ne, q_upR_self, q_upR_nea, q_upR_nk, q_upT_at, *]; done) | (simp (disch := omega) only [q_upT_self, q_upT_ne, q_upR_self, q_upR_nea, q_upR_nk, q_upT_at, *]; rfl)) ?_
            rw [b4.2.1]
            refine q_icmp_ne (tgt := 86) d_Schema_isLike_59 rfl (fun hc => ?_) (fun hc => ?_)
            · refine q_iconst (v := nI 0) d_Schema_isLike_86 (by decide) ?_
              refine q_zret d_Schema_isLike_87 rfl (by first | exact Or.inl rfl | exact Or.inr rfl | assumption) (by omega) (by omega) ?_
              exact ⟨_, rfl, (no (fun z => hc (congrArg (·.2.1) z))).symm, rfl⟩
            · have c2 := hc
              refine q_aload_n d_Schema_isLike_62 rfl rfl ?_
              refine q_getI (ci := 3) (fk := 2) d_Schema_isLike_63 rfl (Nat.le_of_ble_eq_true rfl) w_67 (fun _ _ => rfl) (by first | assumption | rfl | (simp (disch := omega) only [q_upT_self, q_upT_ne, q_upR_self, q_upR_nea, q_upR_nk, q_upT_at, *]; done) | (simp (disch := omega) only [q_upT_self, q_upT_ne, q_upR_self, q_upR_nea, q_upR_nk, q_upT_at, *]; rfl)) ?_
              rw [a4.2.2.1]
              refine q_aload d_Schema_isLike_66 rfl ?_
              refine q_getI (ci := 3) (fk := 2) d_Schema_isLike_68 rfl (Nat.le_of_ble_eq_true rfl) w_67 (fun _ _ => rfl) (by first | assumption | rfl | (simp (disch := omega) only [q_upT_self, q_upT_ne, q_upR_self, q_upR_nea, q_upR_nk, q_upT_at, *]; done) | (simp (disch := omega) only [q_upT_self, q_upT_ne, q_upR_self, q_upR_nea, q_upR_nk, q_upT_at, *]; rfl)) ?_
              rw [b4.2.2.1]
              refine q_icmp_ne (tgt := 86) d_Schema_isLike_71 rfl (fun hc => ?_) (fun hc => ?_)
              · refine q_iconst (v := nI 0) d_Schema_isLike_86 (by decide) ?_
                refine q_zret d_Schema_isLike_87 rfl (by first | exact Or.inl rfl | exact Or.inr rfl | assumption) (by omega) (by omega) ?_
                exact ⟨_, rfl, (no (fun z => hc (congrArg (·.2.2.1) z))).symm, rfl⟩
              · have c3 := hc
                refine q_aload_n d_Schema_isLike_74 rfl rfl ?_
                refine q_getI (ci := 3) (fk := 3) d_Schema_isLike_75 rfl (Nat.le_of_ble_eq_true rfl) w_73 (fun _ _ => rfl) (by first | assumption | rfl | (simp (disch := omega) only [q_upT_self, q_upT_ne, q_upR_self, q_upR_nea, q_upR_nk, q_upT_at, *]; done) | (simp (disch := omega) only [q_upT_self, q_upT_ne, q_upR_self, q_upR_nea, q_upR_nk, q_upT_at, *]; rfl)) ?_
                rw [a4.2.2.2.1]
                refine q_aload d_Schema_isLike_78 rfl ?_
                refine q_getI (ci := 3) (fk := 3) d_Schema_isLike_80 rfl (Nat.le_of_ble_eq_true rfl) w_73 (fun _ _ => rfl) (by first | assumption | rfl | (simp (disch := omega) only [q_upT_self, q_upT_ne, q_upR_self, q_upR_nea, q_upR_nk, q_upT_at, *]; done) | (simp (disch := omega) only [q_upT_self, q_upT_ne, q_upR_self, q_upR_nea, q_upR_nk, q_upT_at, *]; rfl)) ?_
                rw [b4.2.2.2.1]
                refine q_icmp_eq (tgt := 88) d_Schema_isLike_83 rfl (fun hc => ?_) (fun hc => ?_)
                · first | refine q_iincN d_Schema_isLike_88 rfl (Nat.le_of_ble_eq_true rfl) (by first | exact q_ok0 | exact q_okI rfl | exact q_okR rfl | exact q_okN rfl) rfl ?_ | refine q_iinc d_Schema_isLike_88 rfl rfl (Nat.le_of_ble_eq_true rfl) (by first | exact q_ok0 | exact q_okI rfl | exact q_okR rfl | exact q_okN rfl) rfl ?_
                  refine q_goto (tgt := 15) d_Schema_isLike_91 rfl ?_
                  have es : k_st f = k_st e := by
                    show (f.1, f.2.1, f.2.2.1, f.2.2.2.1) = (e.1, e.2.1, e.2.2.1, e.2.2.2.1)
                    rw [c1, c2, c3, hc]
                  have ed : decide ((f :: t).map k_st = (e :: u2).map k_st) = decide (t.map k_st = u2.map k_st) := by
                    rw [List.map_cons, List.map_cons, es]
                    simp
                  rw [ed]
                  exact ih u2 (i + 1) _ _ h3 h6 (by omega)
                · refine q_iconst (v := nI 0) d_Schema_isLike_86 (by decide) ?_
                  refine q_zret d_Schema_isLike_87 rfl (by first | exact Or.inl rfl | exact Or.inr rfl | assumption) (by omega) (by omega) ?_
                  exact ⟨_, rfl, (no (fun z => hc (congrArg (·.2.2.2) z))).symm, rfl⟩
    refine q_iconst (v := nI 0) d_Schema_isLike_13 (by decide) ?_
    refine q_istore_n d_Schema_isLike_14 rfl (Nat.le_of_ble_eq_true rfl) (by first | exact q_ok0 | exact q_okI rfl | exact q_okR rfl | exact q_okN rfl) rfl ?_
    exact loop L L2 0 _ _ rfl rfl (by omega)
  · refine q_iconst (v := nI 0) d_Schema_isLike_11 (by decide) ?_
    refine q_zret d_Schema_isLike_12 rfl (by first | exact Or.inl rfl | exact Or.inr rfl | assumption) (by omega) (by omega) ?_
    refine ⟨_, rfl, ?_, rfl⟩
    rw [decide_eq_false]
    · rfl
    · intro z
      have := congrArg List.length z
      rw [List.length_map, List.length_map] at this
      exact hc (by rw [this])
end SchemaM
