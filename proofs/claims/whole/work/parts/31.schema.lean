/-! a schema of the class: what it reads -/
abbrev M_Schema_find : q_M := (⟨"LensPaths$Schema", "find", "(I)I"⟩, prog_9_method_4_code, 3, (some .int), "LensPaths$Schema", [], false, 0, 0)
theorem d_Schema_find_0 : decode prog_9_method_4_code 0 = .ok (.iconst 0, 1) := by decide +kernel
theorem d_Schema_find_1 : decode prog_9_method_4_code 1 = .ok (.istore_n 2, 1) := by decide +kernel
theorem d_Schema_find_2 : decode prog_9_method_4_code 2 = .ok (.iload_n 2, 1) := by decide +kernel
theorem d_Schema_find_3 : decode prog_9_method_4_code 3 = .ok (.aload_n 0, 1) := by decide +kernel
theorem d_Schema_find_4 : decode prog_9_method_4_code 4 = .ok (.getfield 18, 3) := by decide +kernel
theorem d_Schema_find_7 : decode prog_9_method_4_code 7 = .ok (.if_icmp .ge 24, 3) := by decide +kernel
theorem d_Schema_find_10 : decode prog_9_method_4_code 10 = .ok (.aload_n 0, 1) := by decide +kernel
theorem d_Schema_find_11 : decode prog_9_method_4_code 11 = .ok (.getfield 11, 3) := by decide +kernel
theorem d_Schema_find_14 : decode prog_9_method_4_code 14 = .ok (.iload_n 2, 1) := by decide +kernel
theorem d_Schema_find_15 : decode prog_9_method_4_code 15 = .ok (.aaload, 1) := by decide +kernel
theorem d_Schema_find_16 : decode prog_9_method_4_code 16 = .ok (.getfield 29, 3) := by decide +kernel
theorem d_Schema_find_19 : decode prog_9_method_4_code 19 = .ok (.iload_n 1, 1) := by decide +kernel
theorem d_Schema_find_20 : decode prog_9_method_4_code 20 = .ok (.if_icmp .ne 5, 3) := by decide +kernel
theorem d_Schema_find_23 : decode prog_9_method_4_code 23 = .ok (.iload_n 2, 1) := by decide +kernel
theorem d_Schema_find_24 : decode prog_9_method_4_code 24 = .ok (.ireturn, 1) := by decide +kernel
theorem d_Schema_find_25 : decode prog_9_method_4_code 25 = .ok (.iinc 2 1, 3) := by decide +kernel
theorem d_Schema_find_28 : decode prog_9_method_4_code 28 = .ok (.goto (-26), 3) := by decide +kernel
theorem d_Schema_find_31 : decode prog_9_method_4_code 31 = .ok (.iconst (-1), 1) := by decide +kernel
theorem d_Schema_find_32 : decode prog_9_method_4_code 32 = .ok (.ireturn, 1) := by decide +kernel
abbrev M_Schema_isGroup : q_M := (⟨"LensPaths$Schema", "isGroup", "(I)Z"⟩, prog_9_method_6_code, 3, (some .boolean), "LensPaths$Schema", [], false, 1, 22)
theorem d_Schema_isGroup_0 : decode prog_9_method_6_code 0 = .ok (.aload_n 0, 1) := by decide +kernel
theorem d_Schema_isGroup_1 : decode prog_9_method_6_code 1 = .ok (.iload_n 1, 1) := by decide +kernel
theorem d_Schema_isGroup_2 : decode prog_9_method_6_code 2 = .ok (.invokevirtual 51, 3) := by decide +kernel
theorem d_Schema_isGroup_5 : decode prog_9_method_6_code 5 = .ok (.istore_n 2, 1) := by decide +kernel
theorem d_Schema_isGroup_6 : decode prog_9_method_6_code 6 = .ok (.iload_n 1, 1) := by decide +kernel
theorem d_Schema_isGroup_7 : decode prog_9_method_6_code 7 = .ok (.ifCond .eq 21, 3) := by decide +kernel
theorem d_Schema_isGroup_10 : decode prog_9_method_6_code 10 = .ok (.iload_n 2, 1) := by decide +kernel
theorem d_Schema_isGroup_11 : decode prog_9_method_6_code 11 = .ok (.iconst (-1), 1) := by decide +kernel
theorem d_Schema_isGroup_12 : decode prog_9_method_6_code 12 = .ok (.if_icmp .eq 20, 3) := by decide +kernel
theorem d_Schema_isGroup_15 : decode prog_9_method_6_code 15 = .ok (.aload_n 0, 1) := by decide +kernel
theorem d_Schema_isGroup_16 : decode prog_9_method_6_code 16 = .ok (.getfield 11, 3) := by decide +kernel
theorem d_Schema_isGroup_19 : decode prog_9_method_6_code 19 = .ok (.iload_n 2, 1) := by decide +kernel
theorem d_Schema_isGroup_20 : decode prog_9_method_6_code 20 = .ok (.aaload, 1) := by decide +kernel
theorem d_Schema_isGroup_21 : decode prog_9_method_6_code 21 = .ok (.getfield 32, 3) := by decide +kernel
theorem d_Schema_isGroup_24 : decode prog_9_method_6_code 24 = .ok (.iconst 2, 1) := by decide +kernel
theorem d_Schema_isGroup_25 : decode prog_9_method_6_code 25 = .ok (.if_icmp .ne 7, 3) := by decide +kernel
theorem d_Schema_isGroup_28 : decode prog_9_method_6_code 28 = .ok (.iconst 1, 1) := by decide +kernel
theorem d_Schema_isGroup_29 : decode prog_9_method_6_code 29 = .ok (.goto 4, 3) := by decide +kernel
theorem d_Schema_isGroup_32 : decode prog_9_method_6_code 32 = .ok (.iconst 0, 1) := by decide +kernel
theorem d_Schema_isGroup_33 : decode prog_9_method_6_code 33 = .ok (.ireturn, 1) := by decide +kernel
abbrev M_Schema_hasRoomAt : q_M := (⟨"LensPaths$Schema", "hasRoomAt", "(I)Z"⟩, prog_9_method_5_code, 2, (some .boolean), "LensPaths$Schema", [], false, 2, 44)
theorem d_Schema_hasRoomAt_0 : decode prog_9_method_5_code 0 = .ok (.iload_n 1, 1) := by decide +kernel
theorem d_Schema_hasRoomAt_1 : decode prog_9_method_5_code 1 = .ok (.ifCond .le 27, 3) := by decide +kernel
theorem d_Schema_hasRoomAt_4 : decode prog_9_method_5_code 4 = .ok (.aload_n 0, 1) := by decide +kernel
theorem d_Schema_hasRoomAt_5 : decode prog_9_method_5_code 5 = .ok (.iload_n 1, 1) := by decide +kernel
theorem d_Schema_hasRoomAt_6 : decode prog_9_method_5_code 6 = .ok (.invokestatic 41, 3) := by decide +kernel
theorem d_Schema_hasRoomAt_9 : decode prog_9_method_5_code 9 = .ok (.invokevirtual 47, 3) := by decide +kernel
theorem d_Schema_hasRoomAt_12 : decode prog_9_method_5_code 12 = .ok (.ifCond .eq 16, 3) := by decide +kernel
theorem d_Schema_hasRoomAt_15 : decode prog_9_method_5_code 15 = .ok (.aload_n 0, 1) := by decide +kernel
theorem d_Schema_hasRoomAt_16 : decode prog_9_method_5_code 16 = .ok (.iload_n 1, 1) := by decide +kernel
theorem d_Schema_hasRoomAt_17 : decode prog_9_method_5_code 17 = .ok (.invokevirtual 51, 3) := by decide +kernel
theorem d_Schema_hasRoomAt_20 : decode prog_9_method_5_code 20 = .ok (.iconst (-1), 1) := by decide +kernel
theorem d_Schema_hasRoomAt_21 : decode prog_9_method_5_code 21 = .ok (.if_icmp .ne 7, 3) := by decide +kernel
theorem d_Schema_hasRoomAt_24 : decode prog_9_method_5_code 24 = .ok (.iconst 1, 1) := by decide +kernel
theorem d_Schema_hasRoomAt_25 : decode prog_9_method_5_code 25 = .ok (.goto 4, 3) := by decide +kernel
theorem d_Schema_hasRoomAt_28 : decode prog_9_method_5_code 28 = .ok (.iconst 0, 1) := by decide +kernel
theorem d_Schema_hasRoomAt_29 : decode prog_9_method_5_code 29 = .ok (.ireturn, 1) := by decide +kernel
abbrev M_Schema_countInside : q_M := (⟨"LensPaths$Schema", "countInside", "(I)I"⟩, prog_9_method_7_code, 4, (some .int), "LensPaths$Schema", [], false, 2, 43)
theorem d_Schema_countInside_0 : decode prog_9_method_7_code 0 = .ok (.iload_n 1, 1) := by decide +kernel
theorem d_Schema_countInside_1 : decode prog_9_method_7_code 1 = .ok (.iconst (-1), 1) := by decide +kernel
theorem d_Schema_countInside_2 : decode prog_9_method_7_code 2 = .ok (.if_icmp .ne 5, 3) := by decide +kernel
theorem d_Schema_countInside_5 : decode prog_9_method_7_code 5 = .ok (.iconst 0, 1) := by decide +kernel
theorem d_Schema_countInside_6 : decode prog_9_method_7_code 6 = .ok (.ireturn, 1) := by decide +kernel
theorem d_Schema_countInside_7 : decode prog_9_method_7_code 7 = .ok (.iconst 0, 1) := by decide +kernel
theorem d_Schema_countInside_8 : decode prog_9_method_7_code 8 = .ok (.istore_n 2, 1) := by decide +kernel
theorem d_Schema_countInside_9 : decode prog_9_method_7_code 9 = .ok (.iconst 0, 1) := by decide +kernel
theorem d_Schema_countInside_10 : decode prog_9_method_7_code 10 = .ok (.istore_n 3, 1) := by decide +kernel
theorem d_Schema_countInside_11 : decode prog_9_method_7_code 11 = .ok (.iload_n 3, 1) := by decide +kernel
theorem d_Schema_countInside_12 : decode prog_9_method_7_code 12 = .ok (.aload_n 0, 1) := by decide +kernel
theorem d_Schema_countInside_13 : decode prog_9_method_7_code 13 = .ok (.getfield 18, 3) := by decide +kernel
theorem d_Schema_countInside_16 : decode prog_9_method_7_code 16 = .ok (.if_icmp .ge 41, 3) := by decide +kernel
theorem d_Schema_countInside_19 : decode prog_9_method_7_code 19 = .ok (.aload_n 0, 1) := by decide +kernel
theorem d_Schema_countInside_20 : decode prog_9_method_7_code 20 = .ok (.getfield 11, 3) := by decide +kernel
theorem d_Schema_countInside_23 : decode prog_9_method_7_code 23 = .ok (.iload_n 3, 1) := by decide +kernel
theorem d_Schema_countInside_24 : decode prog_9_method_7_code 24 = .ok (.aaload, 1) := by decide +kernel
theorem d_Schema_countInside_25 : decode prog_9_method_7_code 25 = .ok (.getfield 29, 3) := by decide +kernel
theorem d_Schema_countInside_28 : decode prog_9_method_7_code 28 = .ok (.iload_n 1, 1) := by decide +kernel
theorem d_Schema_countInside_29 : decode prog_9_method_7_code 29 = .ok (.if_icmp .eq 22, 3) := by decide +kernel
theorem d_Schema_countInside_32 : decode prog_9_method_7_code 32 = .ok (.aload_n 0, 1) := by decide +kernel
theorem d_Schema_countInside_33 : decode prog_9_method_7_code 33 = .ok (.getfield 11, 3) := by decide +kernel
theorem d_Schema_countInside_36 : decode prog_9_method_7_code 36 = .ok (.iload_n 3, 1) := by decide +kernel
theorem d_Schema_countInside_37 : decode prog_9_method_7_code 37 = .ok (.aaload, 1) := by decide +kernel
theorem d_Schema_countInside_38 : decode prog_9_method_7_code 38 = .ok (.getfield 29, 3) := by decide +kernel
theorem d_Schema_countInside_41 : decode prog_9_method_7_code 41 = .ok (.iload_n 1, 1) := by decide +kernel
theorem d_Schema_countInside_42 : decode prog_9_method_7_code 42 = .ok (.invokestatic 54, 3) := by decide +kernel
theorem d_Schema_countInside_45 : decode prog_9_method_7_code 45 = .ok (.ifCond .eq 6, 3) := by decide +kernel
theorem d_Schema_countInside_48 : decode prog_9_method_7_code 48 = .ok (.iinc 2 1, 3) := by decide +kernel
theorem d_Schema_countInside_51 : decode prog_9_method_7_code 51 = .ok (.iinc 3 1, 3) := by decide +kernel
theorem d_Schema_countInside_54 : decode prog_9_method_7_code 54 = .ok (.goto (-43), 3) := by decide +kernel
theorem d_Schema_countInside_57 : decode prog_9_method_7_code 57 = .ok (.iload_n 2, 1) := by decide +kernel
theorem d_Schema_countInside_58 : decode prog_9_method_7_code 58 = .ok (.ireturn, 1) := by decide +kernel
section SchemaR
variable {g : q_G} {sz : Nat} {T : q_T} {I : q_I} {R : q_R} {J : q_J}
/-- a field's object -/
def k_fd (I : q_I) (a : Nat) (f : KF) : Prop := I a (nI 0) = nI (k_key f.1) ∧ I a (nI 1) = f.2.1 ∧ I a (nI 2) = f.2.2.1 ∧ I a (nI 3) = f.2.2.2.1 ∧ I a (nI 4) = nI f.2.2.2.2
/-- where a schema's fields lie: the array's places hold its 24 fields in some order -/
def k_sl (s : Nat) (w : Nat → Nat) (T : q_T) (R : q_R) : Prop := q_L 6 t_Schema s T R ∧ (∀ i, i < 24 → R (s + 1) (nI i) = some (s + 2 + w i) ∧ w i < 24) ∧ (∀ i j, i < 24 → j < 24 → w i = w j → i = j) ∧ ∀ j, j < 24 → T (s + 2 + j) = some (103, 0)
/-- a schema's object holds these fields -/
def k_sc (s : Nat) (L : List KF) (w : Nat → Nat) (T : q_T) (I : q_I) (R : q_R) : Prop := k_sl s w T R ∧ I s (nI 1) = nI L.length ∧ L.length ≤ 24 ∧ ∀ (i : Nat) (f : KF), L[i]? = some f → k_fd I (s + 2 + w i) f
/-- what is read at a place -/
theorem k_sc.at {s : Nat} {L : List KF} {w : Nat → Nat} (h : k_sc s L w T I R) {i : Nat} {f : KF} (hf : L[i]? = some f) : i < 24 ∧ R (s + 1) (nI i) = some (s + 2 + w i) ∧ T (s + 2 + w i) = some (103, 0) ∧ k_fd I (s + 2 + w i) f := by
  obtain ⟨⟨h1, h2, h3, h4⟩, h5, h6, h7⟩ := h
  have hi : i < L.length := (List.getElem?_eq_some_iff.mp hf).1
  have h8 := h2 i (by omega)
  exact ⟨by omega, h8.1, h4 _ h8.2, h7 i f hf⟩
theorem k_drop0 {α : Type} {L : List α} {i : Nat} (h : L.drop i = []) : L.length ≤ i := by
  have := congrArg List.length h
  simp at this
  omega
theorem k_drop1 {α : Type} {L : List α} {i : Nat} {f : α} {t : List α} (h : L.drop i = f :: t) : i < L.length ∧ L[i]? = some f ∧ L.drop (i + 1) = t := by
  have h1 : L[i]? = some f := by
    have := congrArg (·[0]?) h
    simpa using this
  refine ⟨(List.getElem?_eq_some_iff.mp h1).1, h1, ?_⟩
  have := congrArg (List.drop 1) h
  rw [List.drop_drop] at this
  simpa [Nat.add_comm] using this
theorem c_Schema_find {s : Nat} {L : List KF} {w : Nat → Nat} (hS : k_sc s L w T I R) (k : Int32) : q_Ci g M_Schema_find [.ref s, .int k] (sz, T, I, R, J) 0 0 (fun r h' => r = k_fx k 0 L ∧ h' = (sz, T, I, R, J)) := by
  have hL := hS.1.1
  have hn := hS.2.1
  have h24 := hS.2.2.1
  refine q_C.of (ls0 := [some (.ref s), some (.int k), none]) (by decide) rfl (by decide) (Nat.le_of_ble_eq_true rfl) rfl ?_
  have loop : ∀ (t : List KF) (i : Nat), L.drop i = t → i ≤ L.length → q_V g M_Schema_find 0 0 0 0 (sz, T, I, R, J) (fun o h' => ∃ r : Int32, o = .inl (some (.int r)) ∧ (r = k_fx k i t ∧ h' = (sz, T, I, R, J))) 2 [some (.ref s), some (.int k), some (.int (nI i))] [] := by
    intro t
    induction t with
    | nil =>
      intro i ht hi
      have h1 := k_drop0 ht
      refine q_iload_n d_Schema_find_2 rfl rfl ?_
      refine q_aload_n d_Schema_find_3 rfl rfl ?_
      refine q_getI (ci := 6) (fk := 1) d_Schema_find_4 rfl (Nat.le_of_ble_eq_true rfl) w_99 (fun _ _ => rfl) hL.1 ?_
      rw [hn]
      refine q_icmp_ge (tgt := 31) d_Schema_find_7 rfl (fun hc => ?_) (fun hc => ?_)
      · refine q_iconst (v := (-1)) d_Schema_find_31 (by decide) ?_
        refine q_iret d_Schema_find_32 rfl (by omega) (by omega) ?_
        exact ⟨_, rfl, rfl, rfl⟩
      · rw [nI_leI (by omega) (by omega)] at hc
        omega
    | cons f t ih =>
      intro i ht hi
      obtain ⟨h1, h2, h3⟩ := k_drop1 ht
      obtain ⟨a1, a2, a3, a4⟩ := hS.at h2
      refine q_iload_n d_Schema_find_2 rfl rfl ?_
      refine q_aload_n d_Schema_find_3 rfl rfl ?_
      refine q_getI (ci := 6) (fk := 1) d_Schema_find_4 rfl (Nat.le_of_ble_eq_true rfl) w_99 (fun _ _ => rfl) hL.1 ?_
      rw [hn]
      refine q_icmp_ge (tgt := 31) d_Schema_find_7 rfl (fun hc => ?_) (fun hc => ?_)
      · rw [nI_leI (by omega) (by omega)] at hc
        omega
      · refine q_aload_n d_Schema_find_10 rfl rfl ?_
        refine q_getR (ci := 6) (fk := 0) d_Schema_find_11 rfl (Nat.le_of_ble_eq_true rfl) w_92 (fun _ _ => rfl) hL.1 (hL.2 0 _ _ _ rfl).1 ?_
        refine q_iload_n d_Schema_find_14 rfl rfl ?_
        refine q_aaldR (kd := _) d_Schema_find_15 rfl (Nat.le_of_ble_eq_true rfl) (Nat.le_of_ble_eq_true rfl) (hL.2 0 _ _ _ rfl).2 (by first | assumption | exact vp_in_nI (by omega) (by omega)) (by first | assumption | rfl | (simp (disch := omega) only [q_upT_self, q_upT_ne, q_upR_self, q_upR_nea, q_upR_nk, q_upT_at, *]; done) | (simp (disch := omega) only [q_upT_self, q_upT_ne, q_upR_self, q_upR_nea, q_upR_nk, q_upT_at, *]; rfl)) ?_
        refine q_getI (ci := 3) (fk := 0) d_Schema_find_16 rfl (Nat.le_of_ble_eq_true rfl) w_55 (fun _ _ => rfl) (by first | assumption | rfl | (simp (disch := omega) only [q_upT_self, q_upT_ne, q_upR_self, q_upR_nea, q_upR_nk, q_upT_at, *]; done) | (simp (disch := omega) only [q_upT_self, q_upT_ne, q_upR_self, q_upR_nea, q_upR_nk, q_upT_at, *]; rfl)) ?_
        rw [a4.1]
        refine q_iload_n d_Schema_find_19 rfl rfl ?_
        refine q_icmp_ne (tgt := 25) d_Schema_find_20 rfl (fun hc => ?_) (fun hc => ?_)
        · first | refine q_iincN d_Schema_find_25 rfl (Nat.le_of_ble_eq_true rfl) (by first | exact q_ok0 | exact q_okI rfl | exact q_okR rfl | exact q_okN rfl) rfl ?_ | refine q_iinc d_Schema_find_25 rfl rfl (Nat.le_of_ble_eq_true rfl) (by first | exact q_ok0 | exact q_okI rfl | exact q_okR rfl | exact q_okN rfl) rfl ?_
          refine q_goto (tgt := 2) d_Schema_find_28 rfl ?_
          rw [show k_fx k i (f :: t) = k_fx k (i + 1) t from if_neg hc]
          exact ih (i + 1) h3 (by omega)
        · refine q_iload_n d_Schema_find_23 rfl rfl ?_
          refine q_iret d_Schema_find_24 rfl (by omega) (by omega) ?_
          exact ⟨_, rfl, (if_pos hc).symm, rfl⟩
  refine q_iconst (v := nI 0) d_Schema_find_0 (by decide) ?_
  refine q_istore_n d_Schema_find_1 rfl (Nat.le_of_ble_eq_true rfl) (by first | exact q_ok0 | exact q_okI rfl | exact q_okR rfl | exact q_okN rfl) rfl ?_
  exact loop L 0 rfl (by omega)
theorem c_Schema_findN {s : Nat} {L : List KF} {w : Nat → Nat} (hS : k_sc s L w T I R) (hok : k_okf L) {m : List Nat} (hm : k_ok 4 m) : q_Ci g M_Schema_find [.ref s, .int (nI (k_key m))] (sz, T, I, R, J) 0 0 (fun r h' => r = p_idx (k_fi L m) ∧ h' = (sz, T, I, R, J)) := by
  have h := c_Schema_find (g := g) (sz := sz) (J := J) hS (nI (k_key m))
  rw [k_fx_idx hok hm] at h
  have e : (k_fi L m).map (· + 0) = k_fi L m := by cases k_fi L m <;> rfl
  rw [e] at h
  exact h
theorem nI_m1 {i : Nat} (hi : i < 2 ^ 31) : ¬ nI i = -1 := fun z => by
  have h3 := congrArg (fun x : Int32 => x.toBitVec.toNat) z
  have h4 : (nI i).toBitVec.toNat = 4294967295 := h3
  rw [pk_tn (by omega)] at h4
  omega
def p_b (b : Bool) : Int32 := if b = true then nI 1 else nI 0
theorem c_Schema_isGroup {s : Nat} {L : List KF} {w : Nat → Nat} (hS : k_sc s L w T I R) (hok : k_okf L) (hd : k_dis L) {m : List Nat} (hm : k_ok 4 m) : q_Ci g M_Schema_isGroup [.ref s, .int (nI (k_key m))] (sz, T, I, R, J) 0 0 (fun r h' => r = p_b (k_grp L m) ∧ h' = (sz, T, I, R, J)) := by
  have hL := hS.1.1
  have hk := k_key_lt hm
  have h24 := hS.2.2.1
  refine q_C.of (ls0 := [some (.ref s), some (.int (nI (k_key m))), none]) (by decide) rfl (by decide) (Nat.le_of_ble_eq_true rfl) rfl ?_
  refine q_aload_n d_Schema_isGroup_0 rfl rfl ?_
  refine q_iload_n d_Schema_isGroup_1 rfl rfl ?_
  refine q_callVi (M2 := M_Schema_find) d_Schema_isGroup_2 ⟨(Nat.le_of_ble_eq_true rfl), (Nat.le_of_ble_eq_true rfl), w_392, w_3, ⟨by decide, by decide⟩, show _ = some 1 by decide +kernel⟩ w_389 w_390 (ci := 6) rfl w_391 hL.1 rfl (Nat.le_of_ble_eq_true rfl) (by omega) (by omega) (c_Schema_findN hS hok hm) ?_
  rintro _ _ ⟨rfl, rfl⟩
  refine q_istore_n d_Schema_isGroup_5 rfl (Nat.le_of_ble_eq_true rfl) (by first | exact q_ok0 | exact q_okI rfl | exact q_okR rfl | exact q_okN rfl) rfl ?_
  refine q_iload_n d_Schema_isGroup_6 rfl rfl ?_
  refine q_if_eq (tgt := 28) d_Schema_isGroup_7 rfl (fun hc => ?_) (fun hc => ?_)
  · have e := nI_zero (by omega) hc
    have e2 : m = [] := k_key_inj hm ⟨by simp, fun n hn => nomatch hn⟩ e
    refine q_iconst (v := nI 1) d_Schema_isGroup_28 (by decide) ?_
    refine q_goto (tgt := 33) d_Schema_isGroup_29 rfl ?_
    refine q_zret d_Schema_isGroup_33 rfl (by first | exact Or.inl rfl | exact Or.inr rfl | assumption) (by omega) (by omega) ?_
    exact ⟨_, rfl, by rw [k_grp, e2]; rfl, rfl⟩
  · have e2 : m ≠ [] := fun z => hc (by rw [z]; rfl)
    have e3 : k_grp L m = L.any (fun f => decide (f.1 = m) && decide (f.2.1 = 2)) := by rw [k_grp, decide_eq_false e2, Bool.false_or]
    rw [e3]
    cases hf : k_fi L m with
    | none =>
      rw [k_grp_no hf]
      refine q_iload_n d_Schema_isGroup_10 rfl rfl ?_
      refine q_iconst (v := (-1)) d_Schema_isGroup_11 (by decide) ?_
      refine q_icmp_eq (tgt := 32) d_Schema_isGroup_12 rfl (fun hc => ?_) (fun hc => ?_)
      · refine q_iconst (v := nI 0) d_Schema_isGroup_32 (by decide) ?_
        refine q_zret d_Schema_isGroup_33 rfl (by first | exact Or.inl rfl | exact Or.inr rfl | assumption) (by omega) (by omega) ?_
        exact ⟨_, rfl, rfl, rfl⟩
      · exact absurd rfl hc
    | some i =>
      obtain ⟨b1, f, b2, b3⟩ := k_fi_some hf
      obtain ⟨a1, a2, a3, a4⟩ := hS.at b2
      rw [k_grp_fi hd hf b2]
      refine q_iload_n d_Schema_isGroup_10 rfl rfl ?_
      refine q_iconst (v := (-1)) d_Schema_isGroup_11 (by decide) ?_
      refine q_icmp_eq (tgt := 32) d_Schema_isGroup_12 rfl (fun hc => ?_) (fun hc => ?_)
      · exact absurd hc (nI_m1 (by omega))
      · rw [show p_idx (some i) = nI i from rfl]
        refine q_aload_n d_Schema_isGroup_15 rfl rfl ?_
        refine q_getR (ci := 6) (fk := 0) d_Schema_isGroup_16 rfl (Nat.le_of_ble_eq_true rfl) w_92 (fun _ _ => rfl) hL.1 (hL.2 0 _ _ _ rfl).1 ?_
        refine q_iload_n d_Schema_isGroup_19 rfl rfl ?_
        refine q_aaldR (kd := _) d_Schema_isGroup_20 rfl (Nat.le_of_ble_eq_true rfl) (Nat.le_of_ble_eq_true rfl) (hL.2 0 _ _ _ rfl).2 (by first | assumption | exact vp_in_nI (by omega) (by omega)) (by first | assumption | rfl | (simp (disch := omega) only [q_upT_self, q_upT_ne, q_upR_self, q_upR_nea, q_upR_nk, q_upT_at, *]; done) | (simp (disch := omega) only [q_upT_self, q_upT_ne, q_upR_self, q_upR_nea, q_upR_nk, q_upT_at, *]; rfl)) ?_
        refine q_getI (ci := 3) (fk := 1) d_Schema_isGroup_21 rfl (Nat.le_of_ble_eq_true rfl) w_61 (fun _ _ => rfl) (by first | assumption | rfl | (simp (disch := omega) only [q_upT_self, q_upT_ne, q_upR_self, q_upR_nea, q_upR_nk, q_upT_at, *]; done) | (simp (disch := omega) only [q_upT_self, q_upT_ne, q_upR_self, q_upR_nea, q_upR_nk, q_upT_at, *]; rfl)) ?_
        rw [a4.2.1]
        refine q_iconst (v := nI 2) d_Schema_isGroup_24 (by decide) ?_
        refine q_icmp_ne (tgt := 32) d_Schema_isGroup_25 rfl (fun hc => ?_) (fun hc => ?_)
        · refine q_iconst (v := nI 0) d_Schema_isGroup_32 (by decide) ?_
          refine q_zret d_Schema_isGroup_33 rfl (by first | exact Or.inl rfl | exact Or.inr rfl | assumption) (by omega) (by omega) ?_
          exact ⟨_, rfl, by rw [decide_eq_false (fun z => hc (by rw [z]; rfl))]; rfl, rfl⟩
        · refine q_iconst (v := nI 1) d_Schema_isGroup_28 (by decide) ?_
          refine q_goto (tgt := 33) d_Schema_isGroup_29 rfl ?_
          refine q_zret d_Schema_isGroup_33 rfl (by first | exact Or.inl rfl | exact Or.inr rfl | assumption) (by omega) (by omega) ?_
          exact ⟨_, rfl, by rw [decide_eq_true (show f.2.1 = 2 from hc)]; rfl, rfl⟩
theorem c_Schema_hasRoomAt {s : Nat} {L : List KF} {w : Nat → Nat} (hS : k_sc s L w T I R) (hok : k_okf L) (hd : k_dis L) {o : Option (List Nat)} (ho : ∀ m, o = some m → k_ok 4 m) : q_Ci g M_Schema_hasRoomAt [.ref s, .int (p_key o)] (sz, T, I, R, J) 0 0 (fun r h' => r = p_b (k_room L o) ∧ h' = (sz, T, I, R, J)) := by
  have hL := hS.1.1
  refine q_C.of (ls0 := [some (.ref s), some (.int (p_key o))]) (by decide) rfl (by decide) (Nat.le_of_ble_eq_true rfl) rfl ?_
  cases o with
  | none =>
    rw [show p_key none = -1 from rfl]
    refine q_iload_n d_Schema_hasRoomAt_0 rfl rfl ?_
    refine q_if_le (tgt := 28) d_Schema_hasRoomAt_1 rfl (fun hc => ?_) (fun hc => ?_)
    · refine q_iconst (v := nI 0) d_Schema_hasRoomAt_28 (by decide) ?_
      refine q_zret d_Schema_hasRoomAt_29 rfl (by first | exact Or.inl rfl | exact Or.inr rfl | assumption) (by omega) (by omega) ?_
      exact ⟨_, rfl, rfl, rfl⟩
    · exact absurd (by decide) hc
  | some m =>
    have hm := ho m rfl
    have hk := k_key_lt hm
    rw [show p_key (some m) = nI (k_key m) from rfl]
    refine q_iload_n d_Schema_hasRoomAt_0 rfl rfl ?_
    refine q_if_le (tgt := 28) d_Schema_hasRoomAt_1 rfl (fun hc => ?_) (fun hc => ?_)
    · refine q_iconst (v := nI 0) d_Schema_hasRoomAt_28 (by decide) ?_
      refine q_zret d_Schema_hasRoomAt_29 rfl (by first | exact Or.inl rfl | exact Or.inr rfl | assumption) (by omega) (by omega) ?_
      have e : m = [] := by
        have h1 : k_key m = 0 := by
          by_cases h : k_key m = 0
          · exact h
          · exact absurd hc (nI_nle (by omega) (by omega))
        exact k_key_inj hm ⟨by simp, fun n hn => nomatch hn⟩ h1
      exact ⟨_, rfl, by rw [k_room, decide_eq_false (fun z => z e)]; rfl, rfl⟩
    · have e2 : m ≠ [] := fun z => hc (by rw [z]; decide)
      refine q_aload_n d_Schema_hasRoomAt_4 rfl rfl ?_
      refine q_iload_n d_Schema_hasRoomAt_5 rfl rfl ?_
      refine q_callSi (M2 := M_Key_parent) d_Schema_hasRoomAt_6 ⟨(Nat.le_of_ble_eq_true rfl), (Nat.le_of_ble_eq_true rfl), w_381, w_15, ⟨by decide, by decide⟩, show _ = some 1 by decide +kernel⟩ w_379 w_380 rfl (Nat.le_of_ble_eq_true rfl) (by omega) (by omega) (c_Key_parent hm) ?_
      rintro _ _ ⟨rfl, rfl⟩
      refine q_callVi (M2 := M_Schema_isGroup) d_Schema_hasRoomAt_9 ⟨(Nat.le_of_ble_eq_true rfl), (Nat.le_of_ble_eq_true rfl), w_388, w_3, ⟨by decide, by decide⟩, show _ = some 1 by decide +kernel⟩ w_385 w_387 (ci := 6) rfl s_1 hL.1 rfl (Nat.le_of_ble_eq_true rfl) (by omega) (by omega) (c_Schema_isGroup hS hok hd (k_ok_drop hm)) ?_
      rintro _ _ ⟨rfl, rfl⟩
      have er : k_room L (some m) = (k_grp L m.dropLast && (k_fi L m).isNone) := by rw [k_room, decide_eq_true e2, Bool.true_and]
      rw [er]
      cases hg : k_grp L m.dropLast with
      | false =>
        refine q_if_eq (tgt := 28) d_Schema_hasRoomAt_12 rfl (fun hc => ?_) (fun hc => ?_)
        · refine q_iconst (v := nI 0) d_Schema_hasRoomAt_28 (by decide) ?_
          refine q_zret d_Schema_hasRoomAt_29 rfl (by first | exact Or.inl rfl | exact Or.inr rfl | assumption) (by omega) (by omega) ?_
          exact ⟨_, rfl, rfl, rfl⟩
        · exact absurd rfl hc
      | true =>
        rw [Bool.true_and]
        refine q_if_eq (tgt := 28) d_Schema_hasRoomAt_12 rfl (fun hc => ?_) (fun hc => ?_)
        · exact absurd hc (by decide)
        · refine q_aload_n d_Schema_hasRoomAt_15 rfl rfl ?_
          refine q_iload_n d_Schema_hasRoomAt_16 rfl rfl ?_
          refine q_callVi (M2 := M_Schema_find) d_Schema_hasRoomAt_17 ⟨(Nat.le_of_ble_eq_true rfl), (Nat.le_of_ble_eq_true rfl), w_392, w_3, ⟨by decide, by decide⟩, show _ = some 1 by decide +kernel⟩ w_389 w_390 (ci := 6) rfl w_391 hL.1 rfl (Nat.le_of_ble_eq_true rfl) (by omega) (by omega) (c_Schema_findN hS hok hm) ?_
          rintro _ _ ⟨rfl, rfl⟩
          cases hf : k_fi L m with
          | none =>
            refine q_iconst (v := (-1)) d_Schema_hasRoomAt_20 (by decide) ?_
            refine q_icmp_ne (tgt := 28) d_Schema_hasRoomAt_21 rfl (fun hc => ?_) (fun hc => ?_)
            · exact absurd rfl hc
            · refine q_iconst (v := nI 1) d_Schema_hasRoomAt_24 (by decide) ?_
              refine q_goto (tgt := 29) d_Schema_hasRoomAt_25 rfl ?_
              refine q_zret d_Schema_hasRoomAt_29 rfl (by first | exact Or.inl rfl | exact Or.inr rfl | assumption) (by omega) (by omega) ?_
              exact ⟨_, rfl, rfl, rfl⟩
          | some i =>
            obtain ⟨b1, f, b2, b3⟩ := k_fi_some hf
            have h24 := hS.2.2.1
            refine q_iconst (v := (-1)) d_Schema_hasRoomAt_20 (by decide) ?_
            refine q_icmp_ne (tgt := 28) d_Schema_hasRoomAt_21 rfl (fun hc => ?_) (fun hc => ?_)
            · refine q_iconst (v := nI 0) d_Schema_hasRoomAt_28 (by decide) ?_
              refine q_zret d_Schema_hasRoomAt_29 rfl (by first | exact Or.inl rfl | exact Or.inr rfl | assumption) (by omega) (by omega) ?_
              exact ⟨_, rfl, rfl, rfl⟩
            · exact absurd hc (nI_m1 (by omega))
end SchemaR
