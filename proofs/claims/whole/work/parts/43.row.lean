/-! records of the class -/
abbrev M_Row_countKept : q_M := (⟨"LensPaths$Row", "countKept", "()I"⟩, prog_8_method_4_code, 3, (some .int), "LensPaths$Row", [], false, 0, 0)
theorem d_Row_countKept_0 : decode prog_8_method_4_code 0 = .ok (.iconst 0, 1) := by decide +kernel
theorem d_Row_countKept_1 : decode prog_8_method_4_code 1 = .ok (.istore_n 1, 1) := by decide +kernel
theorem d_Row_countKept_2 : decode prog_8_method_4_code 2 = .ok (.iconst 0, 1) := by decide +kernel
theorem d_Row_countKept_3 : decode prog_8_method_4_code 3 = .ok (.istore_n 2, 1) := by decide +kernel
theorem d_Row_countKept_4 : decode prog_8_method_4_code 4 = .ok (.iload_n 2, 1) := by decide +kernel
theorem d_Row_countKept_5 : decode prog_8_method_4_code 5 = .ok (.sipush 128, 3) := by decide +kernel
theorem d_Row_countKept_8 : decode prog_8_method_4_code 8 = .ok (.if_icmp .ge 21, 3) := by decide +kernel
theorem d_Row_countKept_11 : decode prog_8_method_4_code 11 = .ok (.aload_n 0, 1) := by decide +kernel
theorem d_Row_countKept_12 : decode prog_8_method_4_code 12 = .ok (.getfield 20, 3) := by decide +kernel
theorem d_Row_countKept_15 : decode prog_8_method_4_code 15 = .ok (.iload_n 2, 1) := by decide +kernel
theorem d_Row_countKept_16 : decode prog_8_method_4_code 16 = .ok (.iaload, 1) := by decide +kernel
theorem d_Row_countKept_17 : decode prog_8_method_4_code 17 = .ok (.ifCond .eq 6, 3) := by decide +kernel
theorem d_Row_countKept_20 : decode prog_8_method_4_code 20 = .ok (.iinc 1 1, 3) := by decide +kernel
theorem d_Row_countKept_23 : decode prog_8_method_4_code 23 = .ok (.iinc 2 1, 3) := by decide +kernel
theorem d_Row_countKept_26 : decode prog_8_method_4_code 26 = .ok (.goto (-22), 3) := by decide +kernel
theorem d_Row_countKept_29 : decode prog_8_method_4_code 29 = .ok (.iload_n 1, 1) := by decide +kernel
theorem d_Row_countKept_30 : decode prog_8_method_4_code 30 = .ok (.ireturn, 1) := by decide +kernel
abbrev M_Row_makeDefault : q_M := (⟨"LensPaths$Row", "makeDefault", "(ILLensPaths$Schema;)V"⟩, prog_8_method_2_code, 5, none, "LensPaths$Row", [], false, 2, 46)
theorem d_Row_makeDefault_0 : decode prog_8_method_2_code 0 = .ok (.aload_n 0, 1) := by decide +kernel
theorem d_Row_makeDefault_1 : decode prog_8_method_2_code 1 = .ok (.iconst 1, 1) := by decide +kernel
theorem d_Row_makeDefault_2 : decode prog_8_method_2_code 2 = .ok (.putfield 30, 3) := by decide +kernel
theorem d_Row_makeDefault_5 : decode prog_8_method_2_code 5 = .ok (.aload_n 0, 1) := by decide +kernel
theorem d_Row_makeDefault_6 : decode prog_8_method_2_code 6 = .ok (.iload_n 1, 1) := by decide +kernel
theorem d_Row_makeDefault_7 : decode prog_8_method_2_code 7 = .ok (.putfield 34, 3) := by decide +kernel
theorem d_Row_makeDefault_10 : decode prog_8_method_2_code 10 = .ok (.iconst 0, 1) := by decide +kernel
theorem d_Row_makeDefault_11 : decode prog_8_method_2_code 11 = .ok (.istore_n 3, 1) := by decide +kernel
theorem d_Row_makeDefault_12 : decode prog_8_method_2_code 12 = .ok (.iload_n 3, 1) := by decide +kernel
theorem d_Row_makeDefault_13 : decode prog_8_method_2_code 13 = .ok (.aload_n 2, 1) := by decide +kernel
theorem d_Row_makeDefault_14 : decode prog_8_method_2_code 14 = .ok (.getfield 38, 3) := by decide +kernel
theorem d_Row_makeDefault_17 : decode prog_8_method_2_code 17 = .ok (.if_icmp .ge 40, 3) := by decide +kernel
theorem d_Row_makeDefault_20 : decode prog_8_method_2_code 20 = .ok (.aload_n 2, 1) := by decide +kernel
theorem d_Row_makeDefault_21 : decode prog_8_method_2_code 21 = .ok (.getfield 43, 3) := by decide +kernel
theorem d_Row_makeDefault_24 : decode prog_8_method_2_code 24 = .ok (.iload_n 3, 1) := by decide +kernel
theorem d_Row_makeDefault_25 : decode prog_8_method_2_code 25 = .ok (.aaload, 1) := by decide +kernel
theorem d_Row_makeDefault_26 : decode prog_8_method_2_code 26 = .ok (.astore 4, 2) := by decide +kernel
theorem d_Row_makeDefault_28 : decode prog_8_method_2_code 28 = .ok (.aload_n 0, 1) := by decide +kernel
theorem d_Row_makeDefault_29 : decode prog_8_method_2_code 29 = .ok (.getfield 14, 3) := by decide +kernel
theorem d_Row_makeDefault_32 : decode prog_8_method_2_code 32 = .ok (.iload_n 3, 1) := by decide +kernel
theorem d_Row_makeDefault_33 : decode prog_8_method_2_code 33 = .ok (.aload 4, 2) := by decide +kernel
theorem d_Row_makeDefault_35 : decode prog_8_method_2_code 35 = .ok (.getfield 46, 3) := by decide +kernel
theorem d_Row_makeDefault_38 : decode prog_8_method_2_code 38 = .ok (.aload 4, 2) := by decide +kernel
theorem d_Row_makeDefault_40 : decode prog_8_method_2_code 40 = .ok (.getfield 51, 3) := by decide +kernel
theorem d_Row_makeDefault_43 : decode prog_8_method_2_code 43 = .ok (.aload 4, 2) := by decide +kernel
theorem d_Row_makeDefault_45 : decode prog_8_method_2_code 45 = .ok (.getfield 54, 3) := by decide +kernel
theorem d_Row_makeDefault_48 : decode prog_8_method_2_code 48 = .ok (.invokevirtual 57, 3) := by decide +kernel
theorem d_Row_makeDefault_51 : decode prog_8_method_2_code 51 = .ok (.iinc 3 1, 3) := by decide +kernel
theorem d_Row_makeDefault_54 : decode prog_8_method_2_code 54 = .ok (.goto (-42), 3) := by decide +kernel
theorem d_Row_makeDefault_57 : decode prog_8_method_2_code 57 = .ok (.iconst 0, 1) := by decide +kernel
theorem d_Row_makeDefault_58 : decode prog_8_method_2_code 58 = .ok (.istore_n 3, 1) := by decide +kernel
theorem d_Row_makeDefault_59 : decode prog_8_method_2_code 59 = .ok (.iload_n 3, 1) := by decide +kernel
theorem d_Row_makeDefault_60 : decode prog_8_method_2_code 60 = .ok (.sipush 128, 3) := by decide +kernel
theorem d_Row_makeDefault_63 : decode prog_8_method_2_code 63 = .ok (.if_icmp .ge 16, 3) := by decide +kernel
theorem d_Row_makeDefault_66 : decode prog_8_method_2_code 66 = .ok (.aload_n 0, 1) := by decide +kernel
theorem d_Row_makeDefault_67 : decode prog_8_method_2_code 67 = .ok (.getfield 20, 3) := by decide +kernel
theorem d_Row_makeDefault_70 : decode prog_8_method_2_code 70 = .ok (.iload_n 3, 1) := by decide +kernel
theorem d_Row_makeDefault_71 : decode prog_8_method_2_code 71 = .ok (.iconst 0, 1) := by decide +kernel
theorem d_Row_makeDefault_72 : decode prog_8_method_2_code 72 = .ok (.iastore, 1) := by decide +kernel
theorem d_Row_makeDefault_73 : decode prog_8_method_2_code 73 = .ok (.iinc 3 1, 3) := by decide +kernel
theorem d_Row_makeDefault_76 : decode prog_8_method_2_code 76 = .ok (.goto (-17), 3) := by decide +kernel
theorem d_Row_makeDefault_79 : decode prog_8_method_2_code 79 = .ok (.return_, 1) := by decide +kernel
abbrev M_Row_makeLike : q_M := (⟨"LensPaths$Row", "makeLike", "(LLensPaths$Row;)V"⟩, prog_8_method_3_code, 2, none, "LensPaths$Row", [], false, 3, 61)
theorem d_Row_makeLike_0 : decode prog_8_method_3_code 0 = .ok (.aload_n 0, 1) := by decide +kernel
theorem d_Row_makeLike_1 : decode prog_8_method_3_code 1 = .ok (.aload_n 1, 1) := by decide +kernel
theorem d_Row_makeLike_2 : decode prog_8_method_3_code 2 = .ok (.getfield 30, 3) := by decide +kernel
theorem d_Row_makeLike_5 : decode prog_8_method_3_code 5 = .ok (.putfield 30, 3) := by decide +kernel
theorem d_Row_makeLike_8 : decode prog_8_method_3_code 8 = .ok (.aload_n 0, 1) := by decide +kernel
theorem d_Row_makeLike_9 : decode prog_8_method_3_code 9 = .ok (.aload_n 1, 1) := by decide +kernel
theorem d_Row_makeLike_10 : decode prog_8_method_3_code 10 = .ok (.getfield 34, 3) := by decide +kernel
theorem d_Row_makeLike_13 : decode prog_8_method_3_code 13 = .ok (.putfield 34, 3) := by decide +kernel
theorem d_Row_makeLike_16 : decode prog_8_method_3_code 16 = .ok (.aload_n 0, 1) := by decide +kernel
theorem d_Row_makeLike_17 : decode prog_8_method_3_code 17 = .ok (.getfield 14, 3) := by decide +kernel
theorem d_Row_makeLike_20 : decode prog_8_method_3_code 20 = .ok (.aload_n 1, 1) := by decide +kernel
theorem d_Row_makeLike_21 : decode prog_8_method_3_code 21 = .ok (.getfield 14, 3) := by decide +kernel
theorem d_Row_makeLike_24 : decode prog_8_method_3_code 24 = .ok (.invokevirtual 61, 3) := by decide +kernel
theorem d_Row_makeLike_27 : decode prog_8_method_3_code 27 = .ok (.aload_n 1, 1) := by decide +kernel
theorem d_Row_makeLike_28 : decode prog_8_method_3_code 28 = .ok (.getfield 20, 3) := by decide +kernel
theorem d_Row_makeLike_31 : decode prog_8_method_3_code 31 = .ok (.iconst 0, 1) := by decide +kernel
theorem d_Row_makeLike_32 : decode prog_8_method_3_code 32 = .ok (.aload_n 0, 1) := by decide +kernel
theorem d_Row_makeLike_33 : decode prog_8_method_3_code 33 = .ok (.getfield 20, 3) := by decide +kernel
theorem d_Row_makeLike_36 : decode prog_8_method_3_code 36 = .ok (.iconst 0, 1) := by decide +kernel
theorem d_Row_makeLike_37 : decode prog_8_method_3_code 37 = .ok (.sipush 128, 3) := by decide +kernel
theorem d_Row_makeLike_40 : decode prog_8_method_3_code 40 = .ok (.invokestatic 65, 3) := by decide +kernel
theorem d_Row_makeLike_43 : decode prog_8_method_3_code 43 = .ok (.aload_n 0, 1) := by decide +kernel
theorem d_Row_makeLike_44 : decode prog_8_method_3_code 44 = .ok (.getfield 24, 3) := by decide +kernel
theorem d_Row_makeLike_47 : decode prog_8_method_3_code 47 = .ok (.aload_n 1, 1) := by decide +kernel
theorem d_Row_makeLike_48 : decode prog_8_method_3_code 48 = .ok (.getfield 24, 3) := by decide +kernel
theorem d_Row_makeLike_51 : decode prog_8_method_3_code 51 = .ok (.invokevirtual 61, 3) := by decide +kernel
theorem d_Row_makeLike_54 : decode prog_8_method_3_code 54 = .ok (.aload_n 0, 1) := by decide +kernel
theorem d_Row_makeLike_55 : decode prog_8_method_3_code 55 = .ok (.getfield 27, 3) := by decide +kernel
theorem d_Row_makeLike_58 : decode prog_8_method_3_code 58 = .ok (.aload_n 1, 1) := by decide +kernel
theorem d_Row_makeLike_59 : decode prog_8_method_3_code 59 = .ok (.getfield 27, 3) := by decide +kernel
theorem d_Row_makeLike_62 : decode prog_8_method_3_code 62 = .ok (.invokevirtual 61, 3) := by decide +kernel
theorem d_Row_makeLike_65 : decode prog_8_method_3_code 65 = .ok (.return_, 1) := by decide +kernel
section RowC
variable {g : q_G} {sz : Nat} {T : q_T} {I : q_I} {R : q_R} {J : q_J}
/-- how many of the next j are not 0 -/
def k_ckn (f : Int32 → Int32) : Nat → Nat → Nat
  | _, 0 => 0
  | i, j + 1 => (if f (nI i) = 0 then 0 else 1) + k_ckn f (i + 1) j
theorem c_Row_countKept {r : Nat} (hr : r_new r T R) : q_Ci g M_Row_countKept [.ref r] (sz, T, I, R, J) 0 0 (fun v h' => v = nI (k_ckn (I (r + 3)) 0 128) ∧ h' = (sz, T, I, R, J)) := by
  have hL := hr.1
  refine q_C.of (ls0 := [some (.ref r), none, none]) (by decide) rfl (by decide) (Nat.le_of_ble_eq_true rfl) rfl ?_
  have loop : ∀ (j i c : Nat), i + j = 128 → q_V g M_Row_countKept 0 0 0 0 (sz, T, I, R, J) (fun o h' => ∃ v : Int32, o = .inl (some (.int v)) ∧ (v = nI (c + k_ckn (I (r + 3)) i j) ∧ h' = (sz, T, I, R, J))) 4 [some (.ref r), some (.int (nI c)), some (.int (nI i))] [] := by
    intro j
    induction j with
    | zero =>
      intro i c hij
      refine q_iload_n d_Row_countKept_4 rfl rfl ?_
      refine q_sipush (v := nI 128) d_Row_countKept_5 (by decide) ?_
      refine q_icmp_ge (tgt := 29) d_Row_countKept_8 rfl (fun hc => ?_) (fun hc => ?_)
      · refine q_iload_n d_Row_countKept_29 rfl rfl ?_
        refine q_iret d_Row_countKept_30 rfl (by omega) (by omega) ?_
        exact ⟨_, rfl, rfl, rfl⟩
      · rw [nI_leI (by omega) (by omega)] at hc
        omega
    | succ j ih =>
      intro i c hij
      rw [k_ckn]
      refine q_iload_n d_Row_countKept_4 rfl rfl ?_
      refine q_sipush (v := nI 128) d_Row_countKept_5 (by decide) ?_
      refine q_icmp_ge (tgt := 29) d_Row_countKept_8 rfl (fun hc => ?_) (fun hc => ?_)
      · rw [nI_leI (by omega) (by omega)] at hc
        omega
      · refine q_aload_n d_Row_countKept_11 rfl rfl ?_
        refine q_getR (ci := 5) (fk := 3) d_Row_countKept_12 rfl (Nat.le_of_ble_eq_true rfl) w_199 (fun _ _ => rfl) hL.1 (hL.2 3 _ _ _ rfl).1 ?_
        refine q_iload_n d_Row_countKept_15 rfl rfl ?_
        refine q_iald d_Row_countKept_16 (hL.2 3 _ _ _ rfl).2 (by first | assumption | exact vp_in_nI (by omega) (by omega)) ?_
        refine q_if_eq (tgt := 23) d_Row_countKept_17 rfl (fun hc => ?_) (fun hc => ?_)
        · rw [if_pos hc, Nat.zero_add (k_ckn _ _ _)]
          first | refine q_iincN d_Row_countKept_23 rfl (Nat.le_of_ble_eq_true rfl) (by first | exact q_ok0 | exact q_okI rfl | exact q_okR rfl | exact q_okN rfl) rfl ?_ | refine q_iinc d_Row_countKept_23 rfl rfl (Nat.le_of_ble_eq_true rfl) (by first | exact q_ok0 | exact q_okI rfl | exact q_okR rfl | exact q_okN rfl) rfl ?_
          refine q_goto (tgt := 4) d_Row_countKept_26 rfl ?_
          exact ih (i + 1) c (by omega)
        · rw [if_neg hc]
          first | refine q_iincN d_Row_countKept_20 rfl (Nat.le_of_ble_eq_true rfl) (by first | exact q_ok0 | exact q_okI rfl | exact q_okR rfl | exact q_okN rfl) rfl ?_ | refine q_iinc d_Row_countKept_20 rfl rfl (Nat.le_of_ble_eq_true rfl) (by first | exact q_ok0 | exact q_okI rfl | exact q_okR rfl | exact q_okN rfl) rfl ?_
          first | refine q_iincN d_Row_countKept_23 rfl (Nat.le_of_ble_eq_true rfl) (by first | exact q_ok0 | exact q_okI rfl | exact q_okR rfl | exact q_okN rfl) rfl ?_ | refine q_iinc d_Row_countKept_23 rfl rfl (Nat.le_of_ble_eq_true rfl) (by first | exact q_ok0 | exact q_okI rfl | exact q_okR rfl | exact q_okN rfl) rfl ?_
          refine q_goto (tgt := 4) d_Row_countKept_26 rfl ?_
          rw [← Nat.add_assoc]
          exact ih (i + 1) (c + 1) (by omega)
  refine q_iconst (v := nI 0) d_Row_countKept_0 (by decide) ?_
  refine q_istore_n d_Row_countKept_1 rfl (Nat.le_of_ble_eq_true rfl) (by first | exact q_ok0 | exact q_okI rfl | exact q_okR rfl | exact q_okN rfl) rfl ?_
  refine q_iconst (v := nI 0) d_Row_countKept_2 (by decide) ?_
  refine q_istore_n d_Row_countKept_3 rfl (Nat.le_of_ble_eq_true rfl) (by first | exact q_ok0 | exact q_okI rfl | exact q_okR rfl | exact q_okN rfl) rfl ?_
  have := loop 128 0 0 (by omega)
  rw [Nat.zero_add] at this
  exact this
/-- a schema's cells are of these kinds alone -/
theorem k_sl.ne {s a b : Nat} {w : Nat → Nat} {q : Nat × Nat} (h : k_sl s w T R) (h1 : s ≤ b) (h2 : b < s + 26) (hT : T a = some q) (h3 : q.1 ≠ 106) (h4 : q.1 ≠ 2) (h5 : q.1 ≠ 103) : b ≠ a := by
  rintro rfl
  by_cases e1 : b = s
  · subst e1
    have : T b = some (106, 0) := h.1.1
    rw [hT] at this
    cases this
    exact h3 rfl
  · by_cases e2 : b = s + 1
    · subst e2
      have : T (s + 1) = some (2, 24) := (h.1.2 0 _ _ _ rfl).2
      rw [hT] at this
      cases this
      exact h4 rfl
    · have := h.2.2.2 (b - s - 2) (by omega)
      rw [show s + 2 + (b - s - 2) = b by omega, hT] at this
      cases this
      exact h5 rfl
theorem r_T0 {r : Nat} (h : r_new r T R) : T r = some (105, 0) ∧ T (r + 1) = some (101, 0) ∧ T (r + 2) = some (0, 168) ∧ T (r + 3) = some (0, 128) ∧ T (r + 4) = some (101, 0) ∧ T (r + 5) = some (0, 896) ∧ T (r + 6) = some (101, 0) ∧ T (r + 7) = some (0, 896) :=
  ⟨h.1.1, h.2.1.1, (h.2.1.2 0 _ _ _ rfl).2, (h.1.2 3 _ _ _ rfl).2, h.2.2.1.1, (h.2.2.1.2 0 _ _ _ rfl).2, h.2.2.2.1, (h.2.2.2.2 0 _ _ _ rfl).2⟩
theorem r_dis {r r2 : Nat} (h : r_new r T R) (h2 : r_new r2 T R) (hne : r ≠ r2) : r + 8 ≤ r2 ∨ r2 + 8 ≤ r := by
  have key : ∀ {r r2 : Nat}, r_new r T R → r_new r2 T R → r < r2 → r + 8 ≤ r2 := by
    intro r r2 h h2 hlt
    obtain ⟨a0, a1, a2, a3, a4, a5, a6, a7⟩ := r_T0 h
    have b0 := (r_T0 h2).1
    by_cases h8 : r + 8 ≤ r2
    · exact h8
    · exfalso
      rcases (by omega : r2 = r + 1 ∨ r2 = r + 2 ∨ r2 = r + 3 ∨ r2 = r + 4 ∨ r2 = r + 5 ∨ r2 = r + 6 ∨ r2 = r + 7) with e | e | e | e | e | e | e <;> rw [e] at b0 <;> simp_all
  rcases Nat.lt_or_gt_of_ne hne with e | e
  · exact Or.inl (key h h2 e)
  · exact Or.inr (key h2 h e)
set_option maxHeartbeats 1000000 in
theorem c_Row_makeDefault {r s : Nat} {L : List KF} {w : Nat → Nat} (hr : r_new r T R) (hS : k_sc s L w T I R) (v : Int32) : q_Cv g M_Row_makeDefault [.ref r, .int v, .ref s] (sz, T, I, R, J) 0 0 (fun h' => ∃ I' : q_I, h' = (sz, T, I', R, J) ∧ (∀ b, b ≠ r → b ≠ r + 2 → b ≠ r + 3 → I' b = I b) ∧ I' r (nI 0) = 1 ∧ I' r (nI 1) = v ∧ (∀ i f, L[i]? = some f → k_rw (I' (r + 2)) (i * 7) (k_dfl f.2.1 f.2.2.1 f.2.2.2.1)) ∧ ∀ i, i < 128 → I' (r + 3) (nI i) = 0) := by
  have hL := hr.1
  have h24 := hS.2.2.1
  obtain ⟨a0, a1, a2, a3, -⟩ := r_T0 hr
  have ts := hS.1.1.1
  have rs : R s (nI 0) = some (s + 1) := (hS.1.1.2 0 _ _ _ rfl).1
  have qs : T (s + 1) = some (2, 24) := (hS.1.1.2 0 _ _ _ rfl).2
  have keep : ∀ I2 : q_I, (∀ b, b ≠ r → b ≠ r + 2 → b ≠ r + 3 → I2 b = I b) → k_sc s L w T I2 R := fun I2 h => hS.cong (fun b b1 b2 => h b (hS.1.ne b1 b2 a0 (by decide) (by decide) (by decide)) (hS.1.ne b1 b2 a2 (by decide) (by decide) (by decide)) (hS.1.ne b1 b2 a3 (by decide) (by decide) (by decide)))
  refine q_C.of (ls0 := [some (.ref r), some (.int v), some (.ref s), none, none]) (by decide) rfl (by decide) (Nat.le_of_ble_eq_true rfl) rfl ?_
  have loop2 : ∀ (j i mcc msc : Nat) (Ii : q_I) (x4 : Option Value), mcc = 0 → msc = 0 → i + j = 128 → (∀ b, b ≠ r → b ≠ r + 2 → b ≠ r + 3 → Ii b = I b) → Ii r (nI 0) = 1 → Ii r (nI 1) = v → (∀ i f, L[i]? = some f → k_rw (Ii (r + 2)) (i * 7) (k_dfl f.2.1 f.2.2.1 f.2.2.2.1)) → (∀ q, q < i → Ii (r + 3) (nI q) = 0) → q_V g M_Row_makeDefault 0 0 mcc msc (sz, T, Ii, R, J) (fun o h' => o = .inl none ∧ ∃ I' : q_I, h' = (sz, T, I', R, J) ∧ (∀ b, b ≠ r → b ≠ r + 2 → b ≠ r + 3 → I' b = I b) ∧ I' r (nI 0) = 1 ∧ I' r (nI 1) = v ∧ (∀ i f, L[i]? = some f → k_rw (I' (r + 2)) (i * 7) (k_dfl f.2.1 f.2.2.1 f.2.2.2.1)) ∧ ∀ i, i < 128 → I' (r + 3) (nI i) = 0) 59 [some (.ref r), some (.int v), some (.ref s), some (.int (nI i)), x4] [] := by
    intro j
    induction j with
    | zero =>
      intro i mcc msc Ii x4 e1 e2 hij p1 p2 p3 p4 p5
      subst e1; subst e2
      refine q_iload_n d_Row_makeDefault_59 rfl rfl ?_
      refine q_sipush (v := nI 128) d_Row_makeDefault_60 (by decide) ?_
      refine q_icmp_ge (tgt := 79) d_Row_makeDefault_63 rfl (fun hc => ?_) (fun hc => ?_)
      · refine q_vret d_Row_makeDefault_79 rfl (by omega) (by omega) ?_
        exact ⟨rfl, Ii, rfl, p1, p2, p3, p4, fun q hq => p5 q (by omega)⟩
      · rw [nI_leI (by omega) (by omega)] at hc
        omega
    | succ j ih =>
      intro i mcc msc Ii x4 e1 e2 hij p1 p2 p3 p4 p5
      subst e1; subst e2
      refine q_iload_n d_Row_makeDefault_59 rfl rfl ?_
      refine q_sipush (v := nI 128) d_Row_makeDefault_60 (by decide) ?_
      refine q_icmp_ge (tgt := 79) d_Row_makeDefault_63 rfl (fun hc => ?_) (fun hc => ?_)
      · rw [nI_leI (by omega) (by omega)] at hc
        omega
      · refine q_aload_n d_Row_makeDefault_66 rfl rfl ?_
        refine q_getR (ci := 5) (fk := 3) d_Row_makeDefault_67 rfl (Nat.le_of_ble_eq_true rfl) w_199 (fun _ _ => rfl) hL.1 (hL.2 3 _ _ _ rfl).1 ?_
        refine q_iload_n d_Row_makeDefault_70 rfl rfl ?_
        refine q_iconst (v := nI 0) d_Row_makeDefault_71 (by decide) ?_
        refine q_iast d_Row_makeDefault_72 (hL.2 3 _ _ _ rfl).2 (by first | assumption | exact vp_in_nI (by omega) (by omega)) ?_
        first | refine q_iincN d_Row_makeDefault_73 rfl (Nat.le_of_ble_eq_true rfl) (by first | exact q_ok0 | exact q_okI rfl | exact q_okR rfl | exact q_okN rfl) rfl ?_ | refine q_iinc d_Row_makeDefault_73 rfl rfl (Nat.le_of_ble_eq_true rfl) (by first | exact q_ok0 | exact q_okI rfl | exact q_okR rfl | exact q_okN rfl) rfl ?_
        refine q_goto (tgt := 59) d_Row_makeDefault_76 rfl ?_
        refine ih (i + 1) _ _ _ _ rfl rfl (by omega) (fun b b1 b2 b3 => ?_) ?_ ?_ (fun q f hq => ?_) (fun q hq => ?_)
        · funext z
          rw [q_upI_nea b3, p1 b b1 b2 b3]
        · rw [q_upI_nea (by omega)]; exact p2
        · rw [q_upI_nea (by omega)]; exact p3
        · have := p4 q f hq
          rw [show q_upI Ii (r + 3) (nI i) (nI 0) (r + 2) = Ii (r + 2) by funext z; rw [q_upI_nea (by omega)]]
          exact this
        · by_cases hqi : q = i
          · rw [hqi, q_upI_self]; rfl
          · rw [q_upI_nei (fun z => by have := (nI_eq (by omega) (by omega)).mp z; omega)]
            exact p5 q (by omega)
  have loop1 : ∀ (j i mcc msc : Nat) (Ii : q_I) (x4 : Option Value), mcc = 0 → msc = 0 → i + j = L.length → (∀ b, b ≠ r → b ≠ r + 2 → b ≠ r + 3 → Ii b = I b) → Ii r (nI 0) = 1 → Ii r (nI 1) = v → (∀ q f, q < i → L[q]? = some f → k_rw (Ii (r + 2)) (q * 7) (k_dfl f.2.1 f.2.2.1 f.2.2.2.1)) → q_V g M_Row_makeDefault 0 0 mcc msc (sz, T, Ii, R, J) (fun o h' => o = .inl none ∧ ∃ I' : q_I, h' = (sz, T, I', R, J) ∧ (∀ b, b ≠ r → b ≠ r + 2 → b ≠ r + 3 → I' b = I b) ∧ I' r (nI 0) = 1 ∧ I' r (nI 1) = v ∧ (∀ i f, L[i]? = some f → k_rw (I' (r + 2)) (i * 7) (k_dfl f.2.1 f.2.2.1 f.2.2.2.1)) ∧ ∀ i, i < 128 → I' (r + 3) (nI i) = 0) 12 [some (.ref r), some (.int v), some (.ref s), some (.int (nI i)), x4] [] := by
    intro j
    induction j with
    | zero =>
      intro i mcc msc Ii x4 e1 e2 hij p1 p2 p3 p4
      subst e1; subst e2
      have hS2 := keep Ii p1
      refine q_iload_n d_Row_makeDefault_12 rfl rfl ?_
      refine q_aload_n d_Row_makeDefault_13 rfl rfl ?_
      refine q_getI (ci := 6) (fk := 1) d_Row_makeDefault_14 rfl (Nat.le_of_ble_eq_true rfl) w_100 (fun _ _ => rfl) (by first | assumption | rfl | (simp (disch := omega) only [q_upT_self, q_upT_ne, q_upR_self, q_upR_nea, q_upR_nk, q_upT_at, *]; done) | (simp (disch := omega) only [q_upT_self, q_upT_ne, q_upR_self, q_upR_nea, q_upR_nk, q_upT_at, *]; rfl)) ?_
      rw [hS2.2.1]
      refine q_icmp_ge (tgt := 57) d_Row_makeDefault_17 rfl (fun hc => ?_) (fun hc => ?_)
      · refine q_iconst (v := nI 0) d_Row_makeDefault_57 (by decide) ?_
        refine q_istore_n d_Row_makeDefault_58 rfl (Nat.le_of_ble_eq_true rfl) (by first | exact q_ok0 | exact q_okI rfl | exact q_okR rfl | exact q_okN rfl) rfl ?_
        exact loop2 128 0 _ _ Ii _ rfl rfl (by omega) p1 p2 p3 (fun q f hq => p4 q f (by have := (List.getElem?_eq_some_iff.mp hq).1; omega) hq) (fun q hq => absurd hq (Nat.not_lt_zero _))
      · rw [nI_leI (by omega) (by omega)] at hc
        omega
    | succ j ih =>
      intro i mcc msc Ii x4 e1 e2 hij p1 p2 p3 p4
      subst e1; subst e2
      have hS2 := keep Ii p1
      obtain ⟨f, hf⟩ : ∃ f, L[i]? = some f := ⟨_, List.getElem?_eq_getElem (by omega)⟩
      obtain ⟨c1, c2, c3, c4⟩ := hS2.at hf
      refine q_iload_n d_Row_makeDefault_12 rfl rfl ?_
      refine q_aload_n d_Row_makeDefault_13 rfl rfl ?_
      refine q_getI (ci := 6) (fk := 1) d_Row_makeDefault_14 rfl (Nat.le_of_ble_eq_true rfl) w_100 (fun _ _ => rfl) (by first | assumption | rfl | (simp (disch := omega) only [q_upT_self, q_upT_ne, q_upR_self, q_upR_nea, q_upR_nk, q_upT_at, *]; done) | (simp (disch := omega) only [q_upT_self, q_upT_ne, q_upR_self, q_upR_nea, q_upR_nk, q_upT_at, *]; rfl)) ?_
      rw [hS2.2.1]
      refine q_icmp_ge (tgt := 57) d_Row_makeDefault_17 rfl (fun hc => ?_) (fun hc => ?_)
      · rw [nI_leI (by omega) (by omega)] at hc
        omega
      · refine q_aload_n d_Row_makeDefault_20 rfl rfl ?_
        refine q_getR (ci := 6) (fk := 0) d_Row_makeDefault_21 rfl (Nat.le_of_ble_eq_true rfl) w_94 (fun _ _ => rfl) (by first | assumption | rfl | (simp (disch := omega) only [q_upT_self, q_upT_ne, q_upR_self, q_upR_nea, q_upR_nk, q_upT_at, *]; done) | (simp (disch := omega) only [q_upT_self, q_upT_ne, q_upR_self, q_upR_nea, q_upR_nk, q_upT_at, *]; rfl)) (by first | assumption | rfl | (simp (disch := omega) only [q_upT_self, q_upT_ne, q_upR_self, q_upR_nea, q_upR_nk, q_upT_at, *]; done) | (simp (disch := omega) only [q_upT_self, q_upT_ne, q_upR_self, q_upR_nea, q_upR_nk, q_upT_at, *]; rfl)) ?_
        refine q_iload_n d_Row_makeDefault_24 rfl rfl ?_
        refine q_aaldR (kd := _) d_Row_makeDefault_25 rfl (Nat.le_of_ble_eq_true rfl) (Nat.le_of_ble_eq_true rfl) (by first | assumption | rfl | (simp (disch := omega) only [q_upT_self, q_upT_ne, q_upR_self, q_upR_nea, q_upR_nk, q_upT_at, *]; done) | (simp (disch := omega) only [q_upT_self, q_upT_ne, q_upR_self, q_upR_nea, q_upR_nk, q_upT_at, *]; rfl)) (by first | assumption | exact vp_in_nI (by omega) (by omega)) (by first | assumption | rfl | (simp (disch := omega) only [q_upT_self, q_upT_ne, q_upR_self, q_upR_nea, q_upR_nk, q_upT_at, *]; done) | (simp (disch := omega) only [q_upT_self, q_upT_ne, q_upR_self, q_upR_nea, q_upR_nk, q_upT_at, *]; rfl)) ?_
        refine q_astore d_Row_makeDefault_26 (Nat.le_of_ble_eq_true rfl) (by first | exact q_ok0 | exact q_okI rfl | exact q_okR rfl | exact q_okN rfl) rfl ?_
        refine q_aload_n d_Row_makeDefault_28 rfl rfl ?_
        refine q_getR (ci := 5) (fk := 2) d_Row_makeDefault_29 rfl (Nat.le_of_ble_eq_true rfl) w_196 (fun _ _ => rfl) hL.1 (hL.2 2 _ _ _ rfl).1 ?_
        refine q_iload_n d_Row_makeDefault_32 rfl rfl ?_
        refine q_aload d_Row_makeDefault_33 rfl ?_
        refine q_getI (ci := 3) (fk := 1) d_Row_makeDefault_35 rfl (Nat.le_of_ble_eq_true rfl) w_58 (fun _ _ => rfl) (by first | assumption | rfl | (simp (disch := omega) only [q_upT_self, q_upT_ne, q_upR_self, q_upR_nea, q_upR_nk, q_upT_at, *]; done) | (simp (disch := omega) only [q_upT_self, q_upT_ne, q_upR_self, q_upR_nea, q_upR_nk, q_upT_at, *]; rfl)) ?_
        rw [c4.2.1]
        refine q_aload d_Row_makeDefault_38 rfl ?_
        refine q_getI (ci := 3) (fk := 2) d_Row_makeDefault_40 rfl (Nat.le_of_ble_eq_true rfl) w_66 (fun _ _ => rfl) (by first | assumption | rfl | (simp (disch := omega) only [q_upT_self, q_upT_ne, q_upR_self, q_upR_nea, q_upR_nk, q_upT_at, *]; done) | (simp (disch := omega) only [q_upT_self, q_upT_ne, q_upR_self, q_upR_nea, q_upR_nk, q_upT_at, *]; rfl)) ?_
        rw [c4.2.2.1]
        refine q_aload d_Row_makeDefault_43 rfl ?_
        refine q_getI (ci := 3) (fk := 3) d_Row_makeDefault_45 rfl (Nat.le_of_ble_eq_true rfl) w_72 (fun _ _ => rfl) (by first | assumption | rfl | (simp (disch := omega) only [q_upT_self, q_upT_ne, q_upR_self, q_upR_nea, q_upR_nk, q_upT_at, *]; done) | (simp (disch := omega) only [q_upT_self, q_upT_ne, q_upR_self, q_upR_nea, q_upR_nk, q_upT_at, *]; rfl)) ?_
        rw [c4.2.2.2.1]
        refine q_callVv (M2 := M_Cells_writeDefault) d_Row_makeDefault_48 ⟨(Nat.le_of_ble_eq_true rfl), (Nat.le_of_ble_eq_true rfl), w_725, w_7, ⟨by decide, by decide⟩, show _ = some 4 by decide +kernel⟩ w_722 w_723 (ci := 1) rfl w_724 (by first | assumption | rfl | (simp (disch := omega) only [q_upT_self, q_upT_ne, q_upR_self, q_upR_nea, q_upR_nk, q_upT_at, *]; done) | (simp (disch := omega) only [q_upT_self, q_upT_ne, q_upR_self, q_upR_nea, q_upR_nk, q_upT_at, *]; rfl)) rfl (Nat.le_of_ble_eq_true rfl) (by omega) (by omega) (c_Cells_writeDefault hr.2.1 (by omega) (by omega) _ _ _) ?_
        rintro _ ⟨I', rfl, q1, q2, q3⟩
        first | refine q_iincN d_Row_makeDefault_51 rfl (Nat.le_of_ble_eq_true rfl) (by first | exact q_ok0 | exact q_okI rfl | exact q_okR rfl | exact q_okN rfl) rfl ?_ | refine q_iinc d_Row_makeDefault_51 rfl rfl (Nat.le_of_ble_eq_true rfl) (by first | exact q_ok0 | exact q_okI rfl | exact q_okR rfl | exact q_okN rfl) rfl ?_
        refine q_goto (tgt := 12) d_Row_makeDefault_54 rfl ?_
        refine ih (i + 1) _ _ I' _ rfl rfl (by omega) (fun b b1 b2 b3 => ?_) ?_ ?_ (fun q e hq he => ?_)
        · rw [q1 b (by omega), p1 b b1 b2 b3]
        · rw [q1 r (by omega)]; exact p2
        · rw [q1 r (by omega)]; exact p3
        · by_cases hqi : q = i
          · subst hqi
            rw [hf] at he
            cases he
            exact q3
          · obtain ⟨y1, y2, y3⟩ := p4 q e (by omega) he
            refine ⟨y1, ?_, fun z x hx => ?_⟩
            · rw [show I' (r + 2) (nI (q * 7)) = Ii (r + 2) (nI (q * 7)) from q2 (q * 7) (by omega) (by omega)]; exact y2
            · have hz := (List.getElem?_eq_some_iff.mp hx).1
              rw [show I' (r + 2) (nI (q * 7 + 1 + z)) = Ii (r + 2) (nI (q * 7 + 1 + z)) from q2 (q * 7 + 1 + z) (by omega) (by omega)]; exact y3 z x hx
  refine q_aload_n d_Row_makeDefault_0 rfl rfl ?_
  refine q_iconst (v := nI 1) d_Row_makeDefault_1 (by decide) ?_
  refine q_putI (ci := 5) (fk := 0) d_Row_makeDefault_2 rfl (Nat.le_of_ble_eq_true rfl) w_191 (Or.inl rfl) (fun _ _ => rfl) (by first | rfl | decide | assumption) (by first | rfl | decide | assumption) hL.1 ?_
  refine q_aload_n d_Row_makeDefault_5 rfl rfl ?_
  refine q_iload_n d_Row_makeDefault_6 rfl rfl ?_
  refine q_putI (ci := 5) (fk := 1) d_Row_makeDefault_7 rfl (Nat.le_of_ble_eq_true rfl) w_193 (Or.inl rfl) (fun _ _ => rfl) rfl rfl hL.1 ?_
  refine q_iconst (v := nI 0) d_Row_makeDefault_10 (by decide) ?_
  refine q_istore_n d_Row_makeDefault_11 rfl (Nat.le_of_ble_eq_true rfl) (by first | exact q_ok0 | exact q_okI rfl | exact q_okR rfl | exact q_okN rfl) rfl ?_
  refine loop1 L.length 0 _ _ _ _ rfl rfl (by omega) (fun b b1 b2 b3 => ?_) ?_ ?_ (fun q f hq => absurd hq (Nat.not_lt_zero _))
  · funext z
    rw [q_upI_nea b1, q_upI_nea b1]
  · rw [q_upI_nk (by decide), q_upI_self]; rfl
  · rw [q_upI_self]
end RowC
