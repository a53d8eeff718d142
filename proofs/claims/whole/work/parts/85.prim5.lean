/-! work, append, primitive: the object's side -/
abbrev M_Draft_work : q_M := (⟨"LensPaths$Draft", "work", "(IIII)LLensPaths$Primitive;"⟩, prog_4_method_4_code, 7, (some (.object "LensPaths$Primitive")), "LensPaths$Draft", [], false, 4, 92)
theorem d_Draft_work_0 : decode prog_4_method_4_code 0 = .ok (.aload_n 0, 1) := by decide +kernel
theorem d_Draft_work_1 : decode prog_4_method_4_code 1 = .ok (.getfield 12, 3) := by decide +kernel
theorem d_Draft_work_4 : decode prog_4_method_4_code 4 = .ok (.iload_n 2, 1) := by decide +kernel
theorem d_Draft_work_5 : decode prog_4_method_4_code 5 = .ok (.invokevirtual 59, 3) := by decide +kernel
theorem d_Draft_work_8 : decode prog_4_method_4_code 8 = .ok (.istore 5, 2) := by decide +kernel
theorem d_Draft_work_10 : decode prog_4_method_4_code 10 = .ok (.iload 5, 2) := by decide +kernel
theorem d_Draft_work_12 : decode prog_4_method_4_code 12 = .ok (.iconst (-1), 1) := by decide +kernel
theorem d_Draft_work_13 : decode prog_4_method_4_code 13 = .ok (.if_icmp .ne 5, 3) := by decide +kernel
theorem d_Draft_work_16 : decode prog_4_method_4_code 16 = .ok (.aconst_null, 1) := by decide +kernel
theorem d_Draft_work_17 : decode prog_4_method_4_code 17 = .ok (.areturn, 1) := by decide +kernel
theorem d_Draft_work_18 : decode prog_4_method_4_code 18 = .ok (.aload_n 0, 1) := by decide +kernel
theorem d_Draft_work_19 : decode prog_4_method_4_code 19 = .ok (.getfield 12, 3) := by decide +kernel
theorem d_Draft_work_22 : decode prog_4_method_4_code 22 = .ok (.getfield 62, 3) := by decide +kernel
theorem d_Draft_work_25 : decode prog_4_method_4_code 25 = .ok (.iload 5, 2) := by decide +kernel
theorem d_Draft_work_27 : decode prog_4_method_4_code 27 = .ok (.aaload, 1) := by decide +kernel
theorem d_Draft_work_28 : decode prog_4_method_4_code 28 = .ok (.astore 6, 2) := by decide +kernel
theorem d_Draft_work_30 : decode prog_4_method_4_code 30 = .ok (.iload_n 1, 1) := by decide +kernel
theorem d_Draft_work_31 : decode prog_4_method_4_code 31 = .ok (.tableswitch 135 0 8 #[49, 135, 57, 64, 71, 78, 88, 98, 108], 49) := by decide +kernel
theorem d_Draft_work_80 : decode prog_4_method_4_code 80 = .ok (.aload_n 0, 1) := by decide +kernel
theorem d_Draft_work_81 : decode prog_4_method_4_code 81 = .ok (.aload 6, 2) := by decide +kernel
theorem d_Draft_work_83 : decode prog_4_method_4_code 83 = .ok (.iload_n 3, 1) := by decide +kernel
theorem d_Draft_work_84 : decode prog_4_method_4_code 84 = .ok (.invokevirtual 66, 3) := by decide +kernel
theorem d_Draft_work_87 : decode prog_4_method_4_code 87 = .ok (.areturn, 1) := by decide +kernel
theorem d_Draft_work_88 : decode prog_4_method_4_code 88 = .ok (.aload_n 0, 1) := by decide +kernel
theorem d_Draft_work_89 : decode prog_4_method_4_code 89 = .ok (.aload 6, 2) := by decide +kernel
theorem d_Draft_work_91 : decode prog_4_method_4_code 91 = .ok (.invokevirtual 70, 3) := by decide +kernel
theorem d_Draft_work_94 : decode prog_4_method_4_code 94 = .ok (.areturn, 1) := by decide +kernel
theorem d_Draft_work_95 : decode prog_4_method_4_code 95 = .ok (.aload_n 0, 1) := by decide +kernel
theorem d_Draft_work_96 : decode prog_4_method_4_code 96 = .ok (.aload 6, 2) := by decide +kernel
theorem d_Draft_work_98 : decode prog_4_method_4_code 98 = .ok (.invokevirtual 74, 3) := by decide +kernel
theorem d_Draft_work_101 : decode prog_4_method_4_code 101 = .ok (.areturn, 1) := by decide +kernel
theorem d_Draft_work_102 : decode prog_4_method_4_code 102 = .ok (.aload_n 0, 1) := by decide +kernel
theorem d_Draft_work_103 : decode prog_4_method_4_code 103 = .ok (.aload 6, 2) := by decide +kernel
theorem d_Draft_work_105 : decode prog_4_method_4_code 105 = .ok (.invokevirtual 77, 3) := by decide +kernel
theorem d_Draft_work_108 : decode prog_4_method_4_code 108 = .ok (.areturn, 1) := by decide +kernel
theorem d_Draft_work_109 : decode prog_4_method_4_code 109 = .ok (.aload_n 0, 1) := by decide +kernel
theorem d_Draft_work_110 : decode prog_4_method_4_code 110 = .ok (.aload 6, 2) := by decide +kernel
theorem d_Draft_work_112 : decode prog_4_method_4_code 112 = .ok (.iload_n 3, 1) := by decide +kernel
theorem d_Draft_work_113 : decode prog_4_method_4_code 113 = .ok (.iload 4, 2) := by decide +kernel
theorem d_Draft_work_115 : decode prog_4_method_4_code 115 = .ok (.invokevirtual 80, 3) := by decide +kernel
theorem d_Draft_work_118 : decode prog_4_method_4_code 118 = .ok (.areturn, 1) := by decide +kernel
theorem d_Draft_work_119 : decode prog_4_method_4_code 119 = .ok (.aload_n 0, 1) := by decide +kernel
theorem d_Draft_work_120 : decode prog_4_method_4_code 120 = .ok (.aload 6, 2) := by decide +kernel
theorem d_Draft_work_122 : decode prog_4_method_4_code 122 = .ok (.iload_n 3, 1) := by decide +kernel
theorem d_Draft_work_123 : decode prog_4_method_4_code 123 = .ok (.iload 4, 2) := by decide +kernel
theorem d_Draft_work_125 : decode prog_4_method_4_code 125 = .ok (.invokevirtual 84, 3) := by decide +kernel
theorem d_Draft_work_128 : decode prog_4_method_4_code 128 = .ok (.areturn, 1) := by decide +kernel
theorem d_Draft_work_129 : decode prog_4_method_4_code 129 = .ok (.aload_n 0, 1) := by decide +kernel
theorem d_Draft_work_130 : decode prog_4_method_4_code 130 = .ok (.aload 6, 2) := by decide +kernel
theorem d_Draft_work_132 : decode prog_4_method_4_code 132 = .ok (.iload_n 3, 1) := by decide +kernel
theorem d_Draft_work_133 : decode prog_4_method_4_code 133 = .ok (.iload 4, 2) := by decide +kernel
theorem d_Draft_work_135 : decode prog_4_method_4_code 135 = .ok (.invokevirtual 87, 3) := by decide +kernel
theorem d_Draft_work_138 : decode prog_4_method_4_code 138 = .ok (.areturn, 1) := by decide +kernel
theorem d_Draft_work_139 : decode prog_4_method_4_code 139 = .ok (.aload 6, 2) := by decide +kernel
theorem d_Draft_work_141 : decode prog_4_method_4_code 141 = .ok (.getfield 90, 3) := by decide +kernel
theorem d_Draft_work_144 : decode prog_4_method_4_code 144 = .ok (.iconst 1, 1) := by decide +kernel
theorem d_Draft_work_145 : decode prog_4_method_4_code 145 = .ok (.if_icmp .ne 19, 3) := by decide +kernel
theorem d_Draft_work_148 : decode prog_4_method_4_code 148 = .ok (.new 18, 3) := by decide +kernel
theorem d_Draft_work_151 : decode prog_4_method_4_code 151 = .ok (.dup, 1) := by decide +kernel
theorem d_Draft_work_152 : decode prog_4_method_4_code 152 = .ok (.bipush 8, 2) := by decide +kernel
theorem d_Draft_work_154 : decode prog_4_method_4_code 154 = .ok (.aload 6, 2) := by decide +kernel
theorem d_Draft_work_156 : decode prog_4_method_4_code 156 = .ok (.iconst 0, 1) := by decide +kernel
theorem d_Draft_work_157 : decode prog_4_method_4_code 157 = .ok (.iconst 0, 1) := by decide +kernel
theorem d_Draft_work_158 : decode prog_4_method_4_code 158 = .ok (.invokespecial 95, 3) := by decide +kernel
theorem d_Draft_work_161 : decode prog_4_method_4_code 161 = .ok (.goto 4, 3) := by decide +kernel
theorem d_Draft_work_164 : decode prog_4_method_4_code 164 = .ok (.aconst_null, 1) := by decide +kernel
theorem d_Draft_work_165 : decode prog_4_method_4_code 165 = .ok (.areturn, 1) := by decide +kernel
theorem d_Draft_work_166 : decode prog_4_method_4_code 166 = .ok (.aconst_null, 1) := by decide +kernel
theorem d_Draft_work_167 : decode prog_4_method_4_code 167 = .ok (.areturn, 1) := by decide +kernel
abbrev M_Draft_append : q_M := (⟨"LensPaths$Draft", "append", "(IIIII)Z"⟩, prog_4_method_3_code, 8, (some .boolean), "LensPaths$Draft", [], false, 5, 118)
theorem d_Draft_append_0 : decode prog_4_method_3_code 0 = .ok (.iload_n 2, 1) := by decide +kernel
theorem d_Draft_append_1 : decode prog_4_method_3_code 1 = .ok (.invokestatic 46, 3) := by decide +kernel
theorem d_Draft_append_4 : decode prog_4_method_3_code 4 = .ok (.istore 6, 2) := by decide +kernel
theorem d_Draft_append_6 : decode prog_4_method_3_code 6 = .ok (.iload_n 1, 1) := by decide +kernel
theorem d_Draft_append_7 : decode prog_4_method_3_code 7 = .ok (.iconst 1, 1) := by decide +kernel
theorem d_Draft_append_8 : decode prog_4_method_3_code 8 = .ok (.if_icmp .ne 17, 3) := by decide +kernel
theorem d_Draft_append_11 : decode prog_4_method_3_code 11 = .ok (.aload_n 0, 1) := by decide +kernel
theorem d_Draft_append_12 : decode prog_4_method_3_code 12 = .ok (.iload 6, 2) := by decide +kernel
theorem d_Draft_append_14 : decode prog_4_method_3_code 14 = .ok (.iload_n 3, 1) := by decide +kernel
theorem d_Draft_append_15 : decode prog_4_method_3_code 15 = .ok (.iload 4, 2) := by decide +kernel
theorem d_Draft_append_17 : decode prog_4_method_3_code 17 = .ok (.iload 5, 2) := by decide +kernel
theorem d_Draft_append_19 : decode prog_4_method_3_code 19 = .ok (.invokevirtual 52, 3) := by decide +kernel
theorem d_Draft_append_22 : decode prog_4_method_3_code 22 = .ok (.goto 13, 3) := by decide +kernel
theorem d_Draft_append_25 : decode prog_4_method_3_code 25 = .ok (.aload_n 0, 1) := by decide +kernel
theorem d_Draft_append_26 : decode prog_4_method_3_code 26 = .ok (.iload_n 1, 1) := by decide +kernel
theorem d_Draft_append_27 : decode prog_4_method_3_code 27 = .ok (.iload 6, 2) := by decide +kernel
theorem d_Draft_append_29 : decode prog_4_method_3_code 29 = .ok (.iload_n 3, 1) := by decide +kernel
theorem d_Draft_append_30 : decode prog_4_method_3_code 30 = .ok (.iload 4, 2) := by decide +kernel
theorem d_Draft_append_32 : decode prog_4_method_3_code 32 = .ok (.invokevirtual 56, 3) := by decide +kernel
theorem d_Draft_append_35 : decode prog_4_method_3_code 35 = .ok (.astore 7, 2) := by decide +kernel
theorem d_Draft_append_37 : decode prog_4_method_3_code 37 = .ok (.aload 7, 2) := by decide +kernel
theorem d_Draft_append_39 : decode prog_4_method_3_code 39 = .ok (.ifnonnull 5, 3) := by decide +kernel
theorem d_Draft_append_42 : decode prog_4_method_3_code 42 = .ok (.iconst 0, 1) := by decide +kernel
theorem d_Draft_append_43 : decode prog_4_method_3_code 43 = .ok (.ireturn, 1) := by decide +kernel
theorem d_Draft_append_44 : decode prog_4_method_3_code 44 = .ok (.aload_n 0, 1) := by decide +kernel
theorem d_Draft_append_45 : decode prog_4_method_3_code 45 = .ok (.getfield 20, 3) := by decide +kernel
theorem d_Draft_append_48 : decode prog_4_method_3_code 48 = .ok (.aload_n 0, 1) := by decide +kernel
theorem d_Draft_append_49 : decode prog_4_method_3_code 49 = .ok (.getfield 45, 3) := by decide +kernel
theorem d_Draft_append_52 : decode prog_4_method_3_code 52 = .ok (.aload 7, 2) := by decide +kernel
theorem d_Draft_append_54 : decode prog_4_method_3_code 54 = .ok (.aastore, 1) := by decide +kernel
theorem d_Draft_append_55 : decode prog_4_method_3_code 55 = .ok (.aload_n 0, 1) := by decide +kernel
theorem d_Draft_append_56 : decode prog_4_method_3_code 56 = .ok (.dup, 1) := by decide +kernel
theorem d_Draft_append_57 : decode prog_4_method_3_code 57 = .ok (.getfield 45, 3) := by decide +kernel
theorem d_Draft_append_60 : decode prog_4_method_3_code 60 = .ok (.iconst 1, 1) := by decide +kernel
theorem d_Draft_append_61 : decode prog_4_method_3_code 61 = .ok (.iadd, 1) := by decide +kernel
theorem d_Draft_append_62 : decode prog_4_method_3_code 62 = .ok (.putfield 45, 3) := by decide +kernel
theorem d_Draft_append_65 : decode prog_4_method_3_code 65 = .ok (.iconst 1, 1) := by decide +kernel
theorem d_Draft_append_66 : decode prog_4_method_3_code 66 = .ok (.ireturn, 1) := by decide +kernel
abbrev M_Lens_primitive : q_M := (⟨"LensPaths", "primitive", "(IIIII)I"⟩, prog_1_method_4_code, 6, (some .int), "LensPaths", [], false, 6, 145)
theorem d_Lens_primitive_0 : decode prog_1_method_4_code 0 = .ok (.aload_n 0, 1) := by decide +kernel
theorem d_Lens_primitive_1 : decode prog_1_method_4_code 1 = .ok (.getfield 19, 3) := by decide +kernel
theorem d_Lens_primitive_4 : decode prog_1_method_4_code 4 = .ok (.getfield 90, 3) := by decide +kernel
theorem d_Lens_primitive_7 : decode prog_1_method_4_code 7 = .ok (.ifCond .eq 15, 3) := by decide +kernel
theorem d_Lens_primitive_10 : decode prog_1_method_4_code 10 = .ok (.aload_n 0, 1) := by decide +kernel
theorem d_Lens_primitive_11 : decode prog_1_method_4_code 11 = .ok (.getfield 19, 3) := by decide +kernel
theorem d_Lens_primitive_14 : decode prog_1_method_4_code 14 = .ok (.getfield 97, 3) := by decide +kernel
theorem d_Lens_primitive_17 : decode prog_1_method_4_code 17 = .ok (.bipush 8, 2) := by decide +kernel
theorem d_Lens_primitive_19 : decode prog_1_method_4_code 19 = .ok (.if_icmp .ne 11, 3) := by decide +kernel
theorem d_Lens_primitive_22 : decode prog_1_method_4_code 22 = .ok (.new 62, 3) := by decide +kernel
theorem d_Lens_primitive_25 : decode prog_1_method_4_code 25 = .ok (.dup, 1) := by decide +kernel
theorem d_Lens_primitive_26 : decode prog_1_method_4_code 26 = .ok (.invokespecial 64, 3) := by decide +kernel
theorem d_Lens_primitive_29 : decode prog_1_method_4_code 29 = .ok (.athrow, 1) := by decide +kernel
theorem d_Lens_primitive_30 : decode prog_1_method_4_code 30 = .ok (.aload_n 0, 1) := by decide +kernel
theorem d_Lens_primitive_31 : decode prog_1_method_4_code 31 = .ok (.getfield 19, 3) := by decide +kernel
theorem d_Lens_primitive_34 : decode prog_1_method_4_code 34 = .ok (.iload_n 1, 1) := by decide +kernel
theorem d_Lens_primitive_35 : decode prog_1_method_4_code 35 = .ok (.iload_n 2, 1) := by decide +kernel
theorem d_Lens_primitive_36 : decode prog_1_method_4_code 36 = .ok (.iload_n 3, 1) := by decide +kernel
theorem d_Lens_primitive_37 : decode prog_1_method_4_code 37 = .ok (.iload 4, 2) := by decide +kernel
theorem d_Lens_primitive_39 : decode prog_1_method_4_code 39 = .ok (.iload 5, 2) := by decide +kernel
theorem d_Lens_primitive_41 : decode prog_1_method_4_code 41 = .ok (.invokevirtual 98, 3) := by decide +kernel
theorem d_Lens_primitive_44 : decode prog_1_method_4_code 44 = .ok (.ifCond .ne 11, 3) := by decide +kernel
theorem d_Lens_primitive_47 : decode prog_1_method_4_code 47 = .ok (.new 79, 3) := by decide +kernel
theorem d_Lens_primitive_50 : decode prog_1_method_4_code 50 = .ok (.dup, 1) := by decide +kernel
theorem d_Lens_primitive_51 : decode prog_1_method_4_code 51 = .ok (.invokespecial 81, 3) := by decide +kernel
theorem d_Lens_primitive_54 : decode prog_1_method_4_code 54 = .ok (.athrow, 1) := by decide +kernel
theorem d_Lens_primitive_55 : decode prog_1_method_4_code 55 = .ok (.aload_n 0, 1) := by decide +kernel
theorem d_Lens_primitive_56 : decode prog_1_method_4_code 56 = .ok (.getfield 19, 3) := by decide +kernel
theorem d_Lens_primitive_59 : decode prog_1_method_4_code 59 = .ok (.getfield 97, 3) := by decide +kernel
theorem d_Lens_primitive_62 : decode prog_1_method_4_code 62 = .ok (.ireturn, 1) := by decide +kernel
section PrimC5
variable {g : q_G} {sz d x : Nat} {T : q_T} {I : q_I} {R : q_R} {J : q_J} {S : KA}
/-- may the primitive of this kind be done on this field -/
def b_knd (D : List KF) (f : KF) (k : Nat) (a b : Int32) : Bool := match k with
  | 0 => b_ren D f.1 a
  | 2 => decide (k_cin D f.1 = 0)
  | 3 => decide (f.2.1 = 0)
  | 4 => b_lif D f.1
  | 5 => b_spl D f a b
  | 6 => b_scl f a b
  | 7 => b_map f a b
  | 8 => decide (f.2.1 = 1)
  | _ => false
/-- the field of a path -/
def a_fld (D : List KF) (o : Option (List Nat)) : Option KF := match k_fo D o with
  | none => none
  | some i => D[i]?
/-- the primitive that comes of it, if it may be done -/
def a_prm (D : List KF) (dn : Nat) (kd : Int32) (o : Option (List Nat)) (a b c : Int32) : Option KP := if kd = 1 then (if b_add D o a b c = true then o.map (fun l => (1, l, a, b, (k_new l a b c dn).2.1, (k_new l a b c dn).2.2.1, (k_new l a b c dn).2.2.2.1, dn, 0)) else none) else match a_fld D o with
  | none => none
  | some f => if kd < 0 then none else if b_knd D f kd.toNatClampNeg a b = true then some (kd.toNatClampNeg, f.1, a, b, f.2.1, f.2.2.1, f.2.2.2.1, f.2.2.2.2, if kd = 5 then dn else 0) else none
/-- the next slot behind it -/
def a_dn (dn : Nat) (kd : Int32) : Nat := if kd = 1 ∨ kd = 5 then dn + 1 else dn
/-- what making it does -/
def d_res (d : Nat) (D : List KF) (sz : Nat) (T : q_T) (I : q_I) (R : q_R) (J : q_J) (q : Option KP) (dn' : Nat) (r : Option Nat) (h' : q_H) : Prop := (q = none ∧ r = none ∧ h' = (sz, T, I, R, J)) ∨ ∃ p, q = some p ∧ d_post d D sz T I R J true p dn' r h'
theorem d_post.res {D : List KF} {ok : Bool} {p : KP} {dn' : Nat} {r : Option Nat} {h' : q_H} {q : Option KP} (h : d_post d D sz T I R J ok p dn' r h') (hq : q = if ok = true then some p else none) : d_res d D sz T I R J q dn' r h' := by
  cases ok with
  | false =>
    rcases h with ⟨-, h2, h3⟩ | ⟨h1, -⟩
    · exact Or.inl ⟨by rw [hq]; rfl, h2, h3⟩
    · cases h1
  | true => exact Or.inr ⟨p, by rw [hq]; rfl, h⟩
set_option maxHeartbeats 1000000 in
theorem c_Draft_work {dn : Nat} {D : List KF} {w : Nat → Nat} {kd a b c : Int32} {pth : Int32} (h : d_in d D w dn sz T I R) (hkd : kd ≠ 1) : q_Cr g M_Draft_work [.ref d, .int kd, .int (p_key (k_of pth)), .int a, .int b] (sz, T, I, R, J) 1 8 (d_res d D sz T I R J (a_prm D dn kd (k_of pth) a b c) (a_dn dn kd)) := by
  have hh := h
  obtain ⟨hL, hS, hn, hfr, hok, hdi, hsr⟩ := h
  have hs1 := hS.1.1.1
  have hs2 := (hS.1.1.2 0 _ _ _ rfl).1
  have hs3 := (hS.1.1.2 0 _ _ _ rfl).2
  have h24 := hS.2.2.1
  refine q_C.of (ls0 := [some (.ref d), some (.int kd), some (.int (p_key (k_of pth))), some (.int a), some (.int b), none, none]) (by decide) rfl (by decide) (Nat.le_of_ble_eq_true rfl) rfl ?_
  refine q_aload_n d_Draft_work_0 rfl rfl ?_
  refine q_getR (ci := 2) (fk := 0) d_Draft_work_1 rfl (Nat.le_of_ble_eq_true rfl) w_143 (fun _ _ => rfl) hL.1 (hL.2 0 _ _ _ rfl).1 ?_
  refine q_iload_n d_Draft_work_4 rfl rfl ?_
  refine q_callVi (M2 := M_Schema_find) d_Draft_work_5 ⟨(Nat.le_of_ble_eq_true rfl), (Nat.le_of_ble_eq_true rfl), w_392, w_3, ⟨by decide, by decide⟩, show _ = some 1 by decide +kernel⟩ w_534 w_390 (ci := 6) rfl w_391 (by first | assumption | rfl | (simp (disch := omega) only [q_upT_self, q_upT_ne, q_upR_self, q_upR_nea, q_upR_nk, q_upT_at, *]; done) | (simp (disch := omega) only [q_upT_self, q_upT_ne, q_upR_self, q_upR_nea, q_upR_nk, q_upT_at, *]; rfl)) rfl (Nat.le_of_ble_eq_true rfl) (by omega) (by omega) (c_Schema_find hS _) ?_
  rintro _ _ ⟨rfl, rfl⟩
  rw [k_fx_fo hok pth]
  have hpr : a_prm D dn kd (k_of pth) a b c = match a_fld D (k_of pth) with
      | none => none
      | some f => if kd < 0 then none else if b_knd D f kd.toNatClampNeg a b = true then some (kd.toNatClampNeg, f.1, a, b, f.2.1, f.2.2.1, f.2.2.2.1, f.2.2.2.2, if kd = 5 then dn else 0) else none := by
    unfold a_prm
    rw [if_neg hkd]
  cases hfo : k_fo D (k_of pth) with
  | none =>
    have hz : a_prm D dn kd (k_of pth) a b c = none := by rw [hpr]; unfold a_fld; rw [hfo]
    refine q_istore d_Draft_work_8 (Nat.le_of_ble_eq_true rfl) (by first | exact q_ok0 | exact q_okI rfl | exact q_okR rfl | exact q_okN rfl) rfl ?_
    refine q_iload d_Draft_work_10 rfl ?_
    refine q_iconst (v := (-1)) d_Draft_work_12 (by decide) ?_
    refine q_icmp_ne (tgt := 18) d_Draft_work_13 rfl (fun hc => ?_) (fun hc => ?_)
    · exact absurd rfl hc
    refine q_null d_Draft_work_16 ?_
    refine q_aret (v := none) d_Draft_work_17 rfl (by omega) (by omega) ?_
    exact ⟨none, rfl, Or.inl ⟨hz, rfl, rfl⟩⟩
  | some i =>
    have hil : i < D.length := by
      cases ho : k_of pth with
      | none => rw [ho] at hfo; cases hfo
      | some l => rw [ho] at hfo; exact (k_fi_some hfo).1
    obtain ⟨f, hf⟩ : ∃ f, D[i]? = some f := ⟨_, List.getElem?_eq_getElem hil⟩
    obtain ⟨g1, g2, g3, g4⟩ := hS.at hf
    have hz : a_prm D dn kd (k_of pth) a b c = if kd < 0 then none else if b_knd D f kd.toNatClampNeg a b = true then some (kd.toNatClampNeg, f.1, a, b, f.2.1, f.2.2.1, f.2.2.2.1, f.2.2.2.2, if kd = 5 then dn else 0) else none := by
      rw [hpr]; unfold a_fld; simp only [hfo, hf]
    rw [show p_idx (some i) = nI i from rfl]
    refine q_istore d_Draft_work_8 (Nat.le_of_ble_eq_true rfl) (by first | exact q_ok0 | exact q_okI rfl | exact q_okR rfl | exact q_okN rfl) rfl ?_
    refine q_iload d_Draft_work_10 rfl ?_
    refine q_iconst (v := (-1)) d_Draft_work_12 (by decide) ?_
    refine q_icmp_ne (tgt := 18) d_Draft_work_13 rfl (fun hc => ?_) (fun hc => ?_)
    rotate_left
    · exact absurd hc (nI_m1 (by omega))
    refine q_aload_n d_Draft_work_18 rfl rfl ?_
    refine q_getR (ci := 2) (fk := 0) d_Draft_work_19 rfl (Nat.le_of_ble_eq_true rfl) w_143 (fun _ _ => rfl) hL.1 (hL.2 0 _ _ _ rfl).1 ?_
    refine q_getR (ci := 6) (fk := 0) d_Draft_work_22 rfl (Nat.le_of_ble_eq_true rfl) w_96 (fun _ _ => rfl) (by first | assumption | rfl | (simp (disch := omega) only [q_upT_self, q_upT_ne, q_upR_self, q_upR_nea, q_upR_nk, q_upT_at, *]; done) | (simp (disch := omega) only [q_upT_self, q_upT_ne, q_upR_self, q_upR_nea, q_upR_nk, q_upT_at, *]; rfl)) (by first | assumption | rfl | (simp (disch := omega) only [q_upT_self, q_upT_ne, q_upR_self, q_upR_nea, q_upR_nk, q_upT_at, *]; done) | (simp (disch := omega) only [q_upT_self, q_upT_ne, q_upR_self, q_upR_nea, q_upR_nk, q_upT_at, *]; rfl)) ?_
    refine q_iload d_Draft_work_25 rfl ?_
    refine q_aaldR (kd := _) d_Draft_work_27 rfl (Nat.le_of_ble_eq_true rfl) (Nat.le_of_ble_eq_true rfl) (by first | assumption | rfl | (simp (disch := omega) only [q_upT_self, q_upT_ne, q_upR_self, q_upR_nea, q_upR_nk, q_upT_at, *]; done) | (simp (disch := omega) only [q_upT_self, q_upT_ne, q_upR_self, q_upR_nea, q_upR_nk, q_upT_at, *]; rfl)) (by first | assumption | exact vp_in_nI (by omega) (by omega)) (by first | assumption | rfl | (simp (disch := omega) only [q_upT_self, q_upT_ne, q_upR_self, q_upR_nea, q_upR_nk, q_upT_at, *]; done) | (simp (disch := omega) only [q_upT_self, q_upT_ne, q_upR_self, q_upR_nea, q_upR_nk, q_upT_at, *]; rfl)) ?_
    refine q_astore d_Draft_work_28 (Nat.le_of_ble_eq_true rfl) (by first | exact q_ok0 | exact q_okI rfl | exact q_okR rfl | exact q_okN rfl) rfl ?_
    refine q_iload_n d_Draft_work_30 rfl rfl ?_
    have dflt : a_prm D dn kd (k_of pth) a b c = none → ∀ mcc msc : Nat, mcc ≤ 0 → msc ≤ 0 → q_V g M_Draft_work 1 8 mcc msc (sz, T, I, R, J) (fun o h' => ∃ r : Option Nat, o = .inl (some (va_rf r)) ∧ d_res d D sz T I R J (a_prm D dn kd (k_of pth) a b c) (a_dn dn kd) r h') 166 [some (.ref d), some (.int kd), some (.int (p_key (k_of pth))), some (.int a), some (.int b), some (.int (nI i)), some (.ref (d + 1 + 2 + w i))] [] := by
      intro hz2 mcc msc m1 m2
      refine q_null d_Draft_work_166 ?_
      refine q_aret (v := none) d_Draft_work_167 rfl (by omega) (by omega) ?_
      exact ⟨none, rfl, Or.inl ⟨hz2, rfl, rfl⟩⟩
    by_cases hneg : kd < 0
    · refine q_tableOut (tgt := 166) d_Draft_work_31 (Or.inl ?_) (by omega) (dflt (by rw [hz, if_pos hneg]) _ _ (by omega) (by omega))
      rw [Int32.lt_iff_toInt_lt] at hneg
      have h0 : (0 : Int32).toInt = 0 := by decide
      omega
    obtain ⟨k, k1, rfl⟩ := nI_of hneg
    rw [if_neg hneg, nI_clamp k1] at hz
    have kt : (nI k).toInt = k := nI_toInt k1
    by_cases h9 : 9 ≤ k
    · refine q_tableOut (tgt := 166) d_Draft_work_31 (Or.inr (by omega)) (by omega) (dflt ?_ _ _ (by omega) (by omega))
      rw [hz]
      have : b_knd D f k a b = false := by
        unfold b_knd
        match k, h9 with
        | k + 9, _ => rfl
      rw [this]; rfl
    have hk1 : k ≠ 1 := fun z => hkd (by rw [z]; rfl)
    rcases (by omega : k = 0 ∨ k = 2 ∨ k = 3 ∨ k = 4 ∨ k = 5 ∨ k = 6 ∨ k = 7 ∨ k = 8) with rfl | rfl | rfl | rfl | rfl | rfl | rfl | rfl
    · refine q_tableIn (tgt := 80) (off := 49) d_Draft_work_31 (by omega) (by omega) (by rw [kt]; rfl) (by omega) ?_
      refine q_aload_n d_Draft_work_80 rfl rfl ?_
      refine q_aload d_Draft_work_81 rfl ?_
      refine q_iload_n d_Draft_work_83 rfl rfl ?_
      refine q_callVr (M2 := M_Draft_rename) d_Draft_work_84 ⟨(Nat.le_of_ble_eq_true rfl), (Nat.le_of_ble_eq_true rfl), w_538, w_5, ⟨by decide, by decide⟩, show _ = some 2 by decide +kernel⟩ w_535 w_537 (ci := 2) rfl s_7 hL.1 rfl (Nat.le_of_ble_eq_true rfl) (by omega) (by omega) (c_Draft_rename (p := (0, f.1, a, b, f.2.1, f.2.2.1, f.2.2.2.1, f.2.2.2.2, 0)) hh hf rfl rfl rfl) ?_
      rintro r h' hr
      refine q_aret (v := r) d_Draft_work_87 rfl (by omega) (by omega) ⟨r, rfl, hr.res hz⟩
    · refine q_tableIn (tgt := 88) (off := 57) d_Draft_work_31 (by omega) (by omega) (by rw [kt]; rfl) (by omega) ?_
      refine q_aload_n d_Draft_work_88 rfl rfl ?_
      refine q_aload d_Draft_work_89 rfl ?_
      refine q_callVr (M2 := M_Draft_remove) d_Draft_work_91 ⟨(Nat.le_of_ble_eq_true rfl), (Nat.le_of_ble_eq_true rfl), w_557, w_5, ⟨by decide, by decide⟩, show _ = some 1 by decide +kernel⟩ w_554 w_556 (ci := 2) rfl s_8 hL.1 rfl (Nat.le_of_ble_eq_true rfl) (by omega) (by omega) (c_Draft_remove (p := (2, f.1, a, b, f.2.1, f.2.2.1, f.2.2.2.1, f.2.2.2.2, 0)) hh hf rfl rfl) ?_
      rintro r h' hr
      refine q_aret (v := r) d_Draft_work_94 rfl (by omega) (by omega) ⟨r, rfl, hr.res hz⟩
    · refine q_tableIn (tgt := 95) (off := 64) d_Draft_work_31 (by omega) (by omega) (by rw [kt]; rfl) (by omega) ?_
      refine q_aload_n d_Draft_work_95 rfl rfl ?_
      refine q_aload d_Draft_work_96 rfl ?_
      refine q_callVr (M2 := M_Draft_wrap) d_Draft_work_98 ⟨(Nat.le_of_ble_eq_true rfl), (Nat.le_of_ble_eq_true rfl), w_569, w_5, ⟨by decide, by decide⟩, show _ = some 1 by decide +kernel⟩ w_566 w_568 (ci := 2) rfl s_9 hL.1 rfl (Nat.le_of_ble_eq_true rfl) (by omega) (by omega) (c_Draft_wrap (p := (3, f.1, a, b, f.2.1, f.2.2.1, f.2.2.2.1, f.2.2.2.2, 0)) hh hf rfl rfl) ?_
      rintro r h' hr
      refine q_aret (v := r) d_Draft_work_101 rfl (by omega) (by omega) ⟨r, rfl, hr.res hz⟩
    · refine q_tableIn (tgt := 102) (off := 71) d_Draft_work_31 (by omega) (by omega) (by rw [kt]; rfl) (by omega) ?_
      refine q_aload_n d_Draft_work_102 rfl rfl ?_
      refine q_aload d_Draft_work_103 rfl ?_
      refine q_callVr (M2 := M_Draft_lift) d_Draft_work_105 ⟨(Nat.le_of_ble_eq_true rfl), (Nat.le_of_ble_eq_true rfl), w_573, w_5, ⟨by decide, by decide⟩, show _ = some 1 by decide +kernel⟩ w_570 w_572 (ci := 2) rfl s_10 hL.1 rfl (Nat.le_of_ble_eq_true rfl) (by omega) (by omega) (c_Draft_lift (p := (4, f.1, a, b, f.2.1, f.2.2.1, f.2.2.2.1, f.2.2.2.2, 0)) hh hf rfl rfl) ?_
      rintro r h' hr
      refine q_aret (v := r) d_Draft_work_108 rfl (by omega) (by omega) ⟨r, rfl, hr.res hz⟩
    · refine q_tableIn (tgt := 109) (off := 78) d_Draft_work_31 (by omega) (by omega) (by rw [kt]; rfl) (by omega) ?_
      refine q_aload_n d_Draft_work_109 rfl rfl ?_
      refine q_aload d_Draft_work_110 rfl ?_
      refine q_iload_n d_Draft_work_112 rfl rfl ?_
      refine q_iload d_Draft_work_113 rfl ?_
      refine q_callVr (M2 := M_Draft_split) d_Draft_work_115 ⟨(Nat.le_of_ble_eq_true rfl), (Nat.le_of_ble_eq_true rfl), w_581, w_5, ⟨by decide, by decide⟩, show _ = some 3 by decide +kernel⟩ w_578 w_580 (ci := 2) rfl s_11 hL.1 rfl (Nat.le_of_ble_eq_true rfl) (by omega) (by omega) (c_Draft_split (p := (5, f.1, a, b, f.2.1, f.2.2.1, f.2.2.2.1, f.2.2.2.2, dn)) hh hf rfl rfl rfl rfl rfl) ?_
      rintro r h' hr
      refine q_aret (v := r) d_Draft_work_118 rfl (by omega) (by omega) ⟨r, rfl, hr.res hz⟩
    · refine q_tableIn (tgt := 119) (off := 88) d_Draft_work_31 (by omega) (by omega) (by rw [kt]; rfl) (by omega) ?_
      refine q_aload_n d_Draft_work_119 rfl rfl ?_
      refine q_aload d_Draft_work_120 rfl ?_
      refine q_iload_n d_Draft_work_122 rfl rfl ?_
      refine q_iload d_Draft_work_123 rfl ?_
      refine q_callVr (M2 := M_Draft_scale) d_Draft_work_125 ⟨(Nat.le_of_ble_eq_true rfl), (Nat.le_of_ble_eq_true rfl), w_588, w_5, ⟨by decide, by decide⟩, show _ = some 3 by decide +kernel⟩ w_585 w_587 (ci := 2) rfl s_12 hL.1 rfl (Nat.le_of_ble_eq_true rfl) (by omega) (by omega) (c_Draft_scale (p := (6, f.1, a, b, f.2.1, f.2.2.1, f.2.2.2.1, f.2.2.2.2, 0)) hh hf rfl rfl rfl rfl) ?_
      rintro r h' hr
      refine q_aret (v := r) d_Draft_work_128 rfl (by omega) (by omega) ⟨r, rfl, hr.res hz⟩
    · refine q_tableIn (tgt := 129) (off := 98) d_Draft_work_31 (by omega) (by omega) (by rw [kt]; rfl) (by omega) ?_
      refine q_aload_n d_Draft_work_129 rfl rfl ?_
      refine q_aload d_Draft_work_130 rfl ?_
      refine q_iload_n d_Draft_work_132 rfl rfl ?_
      refine q_iload d_Draft_work_133 rfl ?_
      refine q_callVr (M2 := M_Draft_map) d_Draft_work_135 ⟨(Nat.le_of_ble_eq_true rfl), (Nat.le_of_ble_eq_true rfl), w_595, w_5, ⟨by decide, by decide⟩, show _ = some 3 by decide +kernel⟩ w_592 w_594 (ci := 2) rfl s_13 hL.1 rfl (Nat.le_of_ble_eq_true rfl) (by omega) (by omega) (c_Draft_map (p := (7, f.1, a, b, f.2.1, f.2.2.1, f.2.2.2.1, f.2.2.2.2, 0)) hh hf rfl rfl rfl rfl) ?_
      rintro r h' hr
      refine q_aret (v := r) d_Draft_work_138 rfl (by omega) (by omega) ⟨r, rfl, hr.res hz⟩
    · refine q_tableIn (tgt := 139) (off := 108) d_Draft_work_31 (by omega) (by omega) (by rw [kt]; rfl) (by omega) ?_
      have hx := d_ext hfr
      have tfo := hx _ _ g3
      refine q_aload d_Draft_work_139 rfl ?_
      refine q_getI (ci := 3) (fk := 1) d_Draft_work_141 rfl (Nat.le_of_ble_eq_true rfl) w_62 (fun _ _ => rfl) (by first | assumption | rfl | (simp (disch := omega) only [q_upT_self, q_upT_ne, q_upR_self, q_upR_nea, q_upR_nk, q_upT_at, *]; done) | (simp (disch := omega) only [q_upT_self, q_upT_ne, q_upR_self, q_upR_nea, q_upR_nk, q_upT_at, *]; rfl)) ?_
      rw [g4.2.1]
      refine q_iconst (v := nI 1) d_Draft_work_144 (by decide) ?_
      refine q_icmp_ne (tgt := 164) d_Draft_work_145 rfl (fun hc => ?_) (fun hc => ?_)
      · have h1 : ¬ f.2.1 = 1 := hc
        refine q_null d_Draft_work_164 ?_
        refine q_aret (v := none) d_Draft_work_165 rfl (by omega) (by omega) ⟨none, rfl, Or.inl ⟨?_, rfl, rfl⟩⟩
        rw [hz]
        show (if decide (f.2.1 = 1) = true then _ else none) = none
        rw [decide_eq_false h1]; rfl
      have h1 : f.2.1 = 1 := by have := hc; exact this
      refine q_newN (ci := 4) (N := 8) d_Draft_work_148 rfl rfl w_141 w_480 w_18 (by omega) (by omega) ?_
      refine q_dup d_Draft_work_151 rfl ?_
      refine q_bipush (v := nI 8) d_Draft_work_152 (by decide) ?_
      refine q_aload d_Draft_work_154 rfl ?_
      refine q_iconst (v := nI 0) d_Draft_work_156 (by decide) ?_
      refine q_iconst (v := nI 0) d_Draft_work_157 (by decide) ?_
      refine q_callIv (M2 := M_Primitive_init) d_Draft_work_158 ⟨(Nat.le_of_ble_eq_true rfl), (Nat.le_of_ble_eq_true rfl), w_488, w_18, ⟨by decide, by decide⟩, show _ = some 4 by decide +kernel⟩ rfl rfl rfl w_486 w_487 rfl (Nat.le_of_ble_eq_true rfl) (by omega) (by omega) (c_Primitive_init (f := f) (q_upT_self) tfo g4.2) ?_
      rintro _ ⟨I1, rfl, i1, i2, i3, i4, i5, i6, -, -⟩
      refine q_goto (tgt := 165) d_Draft_work_161 rfl ?_
      refine q_aret (v := some sz) d_Draft_work_165 rfl (by omega) (by omega) ⟨some sz, rfl, Or.inr ⟨(8, f.1, a, b, f.2.1, f.2.2.1, f.2.2.2.1, f.2.2.2.2, 0), ?_, d_same (i := i) (a := a) (b := b) hh (Or.inr rfl) rfl i1 i2 i3 i4 i5 i6 (fun z => by cases z) (fun z => by cases z)⟩⟩
      rw [hz]
      show (if decide (f.2.1 = 1) = true then _ else none) = _
      rw [decide_eq_true h1]; rfl
end PrimC5
