/-! a schema of the class: a field goes out, a field moves -/
abbrev M_Schema_takeOut : q_M := (⟨"LensPaths$Schema", "takeOut", "(LLensPaths$Field;)V"⟩, prog_9_method_9_code, 4, none, "LensPaths$Schema", [], false, 1, 22)
theorem d_Schema_takeOut_0 : decode prog_9_method_9_code 0 = .ok (.aload_n 0, 1) := by decide +kernel
theorem d_Schema_takeOut_1 : decode prog_9_method_9_code 1 = .ok (.aload_n 1, 1) := by decide +kernel
theorem d_Schema_takeOut_2 : decode prog_9_method_9_code 2 = .ok (.getfield 29, 3) := by decide +kernel
theorem d_Schema_takeOut_5 : decode prog_9_method_9_code 5 = .ok (.invokevirtual 51, 3) := by decide +kernel
theorem d_Schema_takeOut_8 : decode prog_9_method_9_code 8 = .ok (.istore_n 2, 1) := by decide +kernel
theorem d_Schema_takeOut_9 : decode prog_9_method_9_code 9 = .ok (.iload_n 2, 1) := by decide +kernel
theorem d_Schema_takeOut_10 : decode prog_9_method_9_code 10 = .ok (.iconst (-1), 1) := by decide +kernel
theorem d_Schema_takeOut_11 : decode prog_9_method_9_code 11 = .ok (.if_icmp .ne 4, 3) := by decide +kernel
theorem d_Schema_takeOut_14 : decode prog_9_method_9_code 14 = .ok (.return_, 1) := by decide +kernel
theorem d_Schema_takeOut_15 : decode prog_9_method_9_code 15 = .ok (.aload_n 0, 1) := by decide +kernel
theorem d_Schema_takeOut_16 : decode prog_9_method_9_code 16 = .ok (.dup, 1) := by decide +kernel
theorem d_Schema_takeOut_17 : decode prog_9_method_9_code 17 = .ok (.getfield 18, 3) := by decide +kernel
theorem d_Schema_takeOut_20 : decode prog_9_method_9_code 20 = .ok (.iconst 1, 1) := by decide +kernel
theorem d_Schema_takeOut_21 : decode prog_9_method_9_code 21 = .ok (.isub, 1) := by decide +kernel
theorem d_Schema_takeOut_22 : decode prog_9_method_9_code 22 = .ok (.putfield 18, 3) := by decide +kernel
theorem d_Schema_takeOut_25 : decode prog_9_method_9_code 25 = .ok (.iload_n 2, 1) := by decide +kernel
theorem d_Schema_takeOut_26 : decode prog_9_method_9_code 26 = .ok (.istore_n 3, 1) := by decide +kernel
theorem d_Schema_takeOut_27 : decode prog_9_method_9_code 27 = .ok (.iload_n 3, 1) := by decide +kernel
theorem d_Schema_takeOut_28 : decode prog_9_method_9_code 28 = .ok (.aload_n 0, 1) := by decide +kernel
theorem d_Schema_takeOut_29 : decode prog_9_method_9_code 29 = .ok (.getfield 18, 3) := by decide +kernel
theorem d_Schema_takeOut_32 : decode prog_9_method_9_code 32 = .ok (.if_icmp .ge 23, 3) := by decide +kernel
theorem d_Schema_takeOut_35 : decode prog_9_method_9_code 35 = .ok (.aload_n 0, 1) := by decide +kernel
theorem d_Schema_takeOut_36 : decode prog_9_method_9_code 36 = .ok (.getfield 11, 3) := by decide +kernel
theorem d_Schema_takeOut_39 : decode prog_9_method_9_code 39 = .ok (.iload_n 3, 1) := by decide +kernel
theorem d_Schema_takeOut_40 : decode prog_9_method_9_code 40 = .ok (.aload_n 0, 1) := by decide +kernel
theorem d_Schema_takeOut_41 : decode prog_9_method_9_code 41 = .ok (.getfield 11, 3) := by decide +kernel
theorem d_Schema_takeOut_44 : decode prog_9_method_9_code 44 = .ok (.iload_n 3, 1) := by decide +kernel
theorem d_Schema_takeOut_45 : decode prog_9_method_9_code 45 = .ok (.iconst 1, 1) := by decide +kernel
theorem d_Schema_takeOut_46 : decode prog_9_method_9_code 46 = .ok (.iadd, 1) := by decide +kernel
theorem d_Schema_takeOut_47 : decode prog_9_method_9_code 47 = .ok (.aaload, 1) := by decide +kernel
theorem d_Schema_takeOut_48 : decode prog_9_method_9_code 48 = .ok (.aastore, 1) := by decide +kernel
theorem d_Schema_takeOut_49 : decode prog_9_method_9_code 49 = .ok (.iinc 3 1, 3) := by decide +kernel
theorem d_Schema_takeOut_52 : decode prog_9_method_9_code 52 = .ok (.goto (-25), 3) := by decide +kernel
theorem d_Schema_takeOut_55 : decode prog_9_method_9_code 55 = .ok (.aload_n 0, 1) := by decide +kernel
theorem d_Schema_takeOut_56 : decode prog_9_method_9_code 56 = .ok (.getfield 11, 3) := by decide +kernel
theorem d_Schema_takeOut_59 : decode prog_9_method_9_code 59 = .ok (.aload_n 0, 1) := by decide +kernel
theorem d_Schema_takeOut_60 : decode prog_9_method_9_code 60 = .ok (.getfield 18, 3) := by decide +kernel
theorem d_Schema_takeOut_63 : decode prog_9_method_9_code 63 = .ok (.aload_n 1, 1) := by decide +kernel
theorem d_Schema_takeOut_64 : decode prog_9_method_9_code 64 = .ok (.aastore, 1) := by decide +kernel
theorem d_Schema_takeOut_65 : decode prog_9_method_9_code 65 = .ok (.return_, 1) := by decide +kernel
abbrev M_Schema_move : q_M := (⟨"LensPaths$Schema", "move", "(II)V"⟩, prog_9_method_10_code, 8, none, "LensPaths$Schema", [], false, 2, 43)
theorem d_Schema_move_0 : decode prog_9_method_10_code 0 = .ok (.iload_n 1, 1) := by decide +kernel
theorem d_Schema_move_1 : decode prog_9_method_10_code 1 = .ok (.invokestatic 61, 3) := by decide +kernel
theorem d_Schema_move_4 : decode prog_9_method_10_code 4 = .ok (.istore_n 3, 1) := by decide +kernel
theorem d_Schema_move_5 : decode prog_9_method_10_code 5 = .ok (.iload_n 2, 1) := by decide +kernel
theorem d_Schema_move_6 : decode prog_9_method_10_code 6 = .ok (.invokestatic 61, 3) := by decide +kernel
theorem d_Schema_move_9 : decode prog_9_method_10_code 9 = .ok (.iload_n 3, 1) := by decide +kernel
theorem d_Schema_move_10 : decode prog_9_method_10_code 10 = .ok (.isub, 1) := by decide +kernel
theorem d_Schema_move_11 : decode prog_9_method_10_code 11 = .ok (.istore 4, 2) := by decide +kernel
theorem d_Schema_move_13 : decode prog_9_method_10_code 13 = .ok (.iconst 0, 1) := by decide +kernel
theorem d_Schema_move_14 : decode prog_9_method_10_code 14 = .ok (.istore 5, 2) := by decide +kernel
theorem d_Schema_move_16 : decode prog_9_method_10_code 16 = .ok (.iload 5, 2) := by decide +kernel
theorem d_Schema_move_18 : decode prog_9_method_10_code 18 = .ok (.aload_n 0, 1) := by decide +kernel
theorem d_Schema_move_19 : decode prog_9_method_10_code 19 = .ok (.getfield 18, 3) := by decide +kernel
theorem d_Schema_move_22 : decode prog_9_method_10_code 22 = .ok (.if_icmp .ge 57, 3) := by decide +kernel
theorem d_Schema_move_25 : decode prog_9_method_10_code 25 = .ok (.aload_n 0, 1) := by decide +kernel
theorem d_Schema_move_26 : decode prog_9_method_10_code 26 = .ok (.getfield 11, 3) := by decide +kernel
theorem d_Schema_move_29 : decode prog_9_method_10_code 29 = .ok (.iload 5, 2) := by decide +kernel
theorem d_Schema_move_31 : decode prog_9_method_10_code 31 = .ok (.aaload, 1) := by decide +kernel
theorem d_Schema_move_32 : decode prog_9_method_10_code 32 = .ok (.getfield 29, 3) := by decide +kernel
theorem d_Schema_move_35 : decode prog_9_method_10_code 35 = .ok (.istore 6, 2) := by decide +kernel
theorem d_Schema_move_37 : decode prog_9_method_10_code 37 = .ok (.iload 6, 2) := by decide +kernel
theorem d_Schema_move_39 : decode prog_9_method_10_code 39 = .ok (.iload_n 1, 1) := by decide +kernel
theorem d_Schema_move_40 : decode prog_9_method_10_code 40 = .ok (.invokestatic 54, 3) := by decide +kernel
theorem d_Schema_move_43 : decode prog_9_method_10_code 43 = .ok (.ifCond .eq 30, 3) := by decide +kernel
theorem d_Schema_move_46 : decode prog_9_method_10_code 46 = .ok (.iload 6, 2) := by decide +kernel
theorem d_Schema_move_48 : decode prog_9_method_10_code 48 = .ok (.iconst 1, 1) := by decide +kernel
theorem d_Schema_move_49 : decode prog_9_method_10_code 49 = .ok (.iload_n 3, 1) := by decide +kernel
theorem d_Schema_move_50 : decode prog_9_method_10_code 50 = .ok (.ishl, 1) := by decide +kernel
theorem d_Schema_move_51 : decode prog_9_method_10_code 51 = .ok (.iconst 1, 1) := by decide +kernel
theorem d_Schema_move_52 : decode prog_9_method_10_code 52 = .ok (.isub, 1) := by decide +kernel
theorem d_Schema_move_53 : decode prog_9_method_10_code 53 = .ok (.iand, 1) := by decide +kernel
theorem d_Schema_move_54 : decode prog_9_method_10_code 54 = .ok (.istore 7, 2) := by decide +kernel
theorem d_Schema_move_56 : decode prog_9_method_10_code 56 = .ok (.aload_n 0, 1) := by decide +kernel
theorem d_Schema_move_57 : decode prog_9_method_10_code 57 = .ok (.getfield 11, 3) := by decide +kernel
theorem d_Schema_move_60 : decode prog_9_method_10_code 60 = .ok (.iload 5, 2) := by decide +kernel
theorem d_Schema_move_62 : decode prog_9_method_10_code 62 = .ok (.aaload, 1) := by decide +kernel
theorem d_Schema_move_63 : decode prog_9_method_10_code 63 = .ok (.iload_n 2, 1) := by decide +kernel
theorem d_Schema_move_64 : decode prog_9_method_10_code 64 = .ok (.iload 7, 2) := by decide +kernel
theorem d_Schema_move_66 : decode prog_9_method_10_code 66 = .ok (.iload 4, 2) := by decide +kernel
theorem d_Schema_move_68 : decode prog_9_method_10_code 68 = .ok (.ishl, 1) := by decide +kernel
theorem d_Schema_move_69 : decode prog_9_method_10_code 69 = .ok (.ior, 1) := by decide +kernel
theorem d_Schema_move_70 : decode prog_9_method_10_code 70 = .ok (.putfield 29, 3) := by decide +kernel
theorem d_Schema_move_73 : decode prog_9_method_10_code 73 = .ok (.iinc 5 1, 3) := by decide +kernel
theorem d_Schema_move_76 : decode prog_9_method_10_code 76 = .ok (.goto (-60), 3) := by decide +kernel
theorem d_Schema_move_79 : decode prog_9_method_10_code 79 = .ok (.aload_n 0, 1) := by decide +kernel
theorem d_Schema_move_80 : decode prog_9_method_10_code 80 = .ok (.invokevirtual 58, 3) := by decide +kernel
theorem d_Schema_move_83 : decode prog_9_method_10_code 83 = .ok (.return_, 1) := by decide +kernel
section SchemaO
variable {g : q_G} {sz : Nat} {T : q_T} {I : q_I} {R : q_R} {J : q_J}
set_option maxHeartbeats 1000000 in
theorem c_Schema_takeOut {s : Nat} {L : List KF} {w : Nat → Nat} (hS : k_sc s L w T I R) (hok : k_okf L) (hd : k_dis L) {i : Nat} {f : KF} (hf : L[i]? = some f) : q_Cv g M_Schema_takeOut [.ref s, .ref (s + 2 + w i)] (sz, T, I, R, J) 0 0 (fun h' => ∃ (R' : q_R) (w' : Nat → Nat), h' = (sz, T, q_upI I s (nI 1) (nI (L.length - 1)), R', J) ∧ (∀ b, b ≠ s + 1 → R' b = R b) ∧ k_sc s (L.eraseIdx i) w' T (q_upI I s (nI 1) (nI (L.length - 1))) R') := by
  have hn := hS.2.1
  have h24 := hS.2.2.1
  have hi : i < L.length := (List.getElem?_eq_some_iff.mp hf).1
  obtain ⟨a1, a2, a3, a4⟩ := hS.at hf
  have hfok := hok f (List.mem_of_getElem? hf)
  have hfi := k_fi_at hd hf
  have hL := hS.1.1
  refine q_C.of (ls0 := [some (.ref s), some (.ref (s + 2 + w i)), none, none]) (by decide) rfl (by decide) (Nat.le_of_ble_eq_true rfl) rfl ?_
  refine q_aload_n d_Schema_takeOut_0 rfl rfl ?_
  refine q_aload_n d_Schema_takeOut_1 rfl rfl ?_
  refine q_getI (ci := 3) (fk := 0) d_Schema_takeOut_2 rfl (Nat.le_of_ble_eq_true rfl) w_55 (fun _ _ => rfl) (by first | assumption | rfl | (simp (disch := omega) only [q_upT_self, q_upT_ne, q_upR_self, q_upR_nea, q_upR_nk, q_upT_at, *]; done) | (simp (disch := omega) only [q_upT_self, q_upT_ne, q_upR_self, q_upR_nea, q_upR_nk, q_upT_at, *]; rfl)) ?_
  rw [a4.1]
  refine q_callVi (M2 := M_Schema_find) d_Schema_takeOut_5 ⟨(Nat.le_of_ble_eq_true rfl), (Nat.le_of_ble_eq_true rfl), w_392, w_3, ⟨by decide, by decide⟩, show _ = some 1 by decide +kernel⟩ w_389 w_390 (ci := 6) rfl w_391 hL.1 rfl (Nat.le_of_ble_eq_true rfl) (by omega) (by omega) (c_Schema_findN hS hok hfok.1) ?_
  rintro _ _ ⟨rfl, rfl⟩
  rw [hfi, show p_idx (some i) = nI i from rfl]
  refine q_istore_n d_Schema_takeOut_8 rfl (Nat.le_of_ble_eq_true rfl) (by first | exact q_ok0 | exact q_okI rfl | exact q_okR rfl | exact q_okN rfl) rfl ?_
  refine q_iload_n d_Schema_takeOut_9 rfl rfl ?_
  refine q_iconst (v := (-1)) d_Schema_takeOut_10 (by decide) ?_
  refine q_icmp_ne (tgt := 15) d_Schema_takeOut_11 rfl (fun hc => ?_) (fun hc => ?_)
  · refine q_aload_n d_Schema_takeOut_15 rfl rfl ?_
    refine q_dup d_Schema_takeOut_16 rfl ?_
    refine q_getI (ci := 6) (fk := 1) d_Schema_takeOut_17 rfl (Nat.le_of_ble_eq_true rfl) w_99 (fun _ _ => rfl) hL.1 ?_
    rw [hn]
    refine q_iconst (v := nI 1) d_Schema_takeOut_20 (by decide) ?_
    refine q_isub d_Schema_takeOut_21 ?_
    rw [pk_sub (by omega)]
    refine q_putI (ci := 6) (fk := 1) d_Schema_takeOut_22 rfl (Nat.le_of_ble_eq_true rfl) w_99 (Or.inl rfl) (fun _ _ => rfl) rfl rfl hL.1 ?_
    have loop : ∀ (j k : Nat) (Rk : q_R), k + j = L.length - 1 → i ≤ k → (∀ b, b ≠ s + 1 → Rk b = R b) → (∀ jj, jj < 24 → Rk (s + 1) (nI jj) = some (s + 2 + k_ov w i k jj)) → q_V g M_Schema_takeOut 0 0 (0 + 0) (0 + 0) (sz, T, q_upI I s (nI 1) (nI (L.length - 1)), Rk, J) (fun o h' => o = .inl none ∧ ∃ (R' : q_R) (w' : Nat → Nat), h' = (sz, T, q_upI I s (nI 1) (nI (L.length - 1)), R', J) ∧ (∀ b, b ≠ s + 1 → R' b = R b) ∧ k_sc s (L.eraseIdx i) w' T (q_upI I s (nI 1) (nI (L.length - 1))) R') 27 [some (.ref s), some (.ref (s + 2 + w i)), some (.int (nI i)), some (.int (nI k))] [] := by
      intro j
      induction j with
      | zero =>
        intro k Rk hk hik hfr hv
        have hL : q_L 6 t_Schema s T Rk := hS.1.rsame hfr
        refine q_iload_n d_Schema_takeOut_27 rfl rfl ?_
        refine q_aload_n d_Schema_takeOut_28 rfl rfl ?_
        refine q_getI (ci := 6) (fk := 1) d_Schema_takeOut_29 rfl (Nat.le_of_ble_eq_true rfl) w_99 (fun _ _ => rfl) hL.1 ?_
        rw [q_upI_self]
        refine q_icmp_ge (tgt := 55) d_Schema_takeOut_32 rfl (fun hc => ?_) (fun hc => ?_)
        · refine q_aload_n d_Schema_takeOut_55 rfl rfl ?_
          refine q_getR (ci := 6) (fk := 0) d_Schema_takeOut_56 rfl (Nat.le_of_ble_eq_true rfl) w_92 (fun _ _ => rfl) hL.1 (hL.2 0 _ _ _ rfl).1 ?_
          refine q_aload_n d_Schema_takeOut_59 rfl rfl ?_
          refine q_getI (ci := 6) (fk := 1) d_Schema_takeOut_60 rfl (Nat.le_of_ble_eq_true rfl) w_99 (fun _ _ => rfl) hL.1 ?_
          rw [q_upI_self]
          refine q_aload_n d_Schema_takeOut_63 rfl rfl ?_
          refine q_aast (kd := 2) (ci := 3) d_Schema_takeOut_64 rfl rfl (Nat.le_of_ble_eq_true rfl) (Nat.le_of_ble_eq_true rfl) (hL.2 0 _ _ _ rfl).2 (by first | assumption | rfl | (simp (disch := omega) only [q_upT_self, q_upT_ne, q_upR_self, q_upR_nea, q_upR_nk, q_upT_at, *]; done) | (simp (disch := omega) only [q_upT_self, q_upT_ne, q_upR_self, q_upR_nea, q_upR_nk, q_upT_at, *]; rfl)) (by first | assumption | exact vp_in_nI (by omega) (by omega)) ?_
          refine q_vret d_Schema_takeOut_65 rfl (by omega) (by omega) ?_
          refine ⟨rfl, _, k_ow w i (L.length - 1), rfl, fun b hb => ?_, ?_⟩
          · funext q
            rw [q_upR_nea hb, hfr b hb]
          · obtain ⟨⟨b1, b2, b3, b4⟩, b5, b6, b7⟩ := hS
            have hle : (L.eraseIdx i).length = L.length - 1 := List.length_eraseIdx_of_lt hi
            refine ⟨⟨b1.keep (fun _ _ z => z) (fun fk off kd n z => by rw [q_upR_nea (by omega), hfr s (by omega)]), fun jj hjj => ⟨?_, ?_⟩, k_ow_inj (by omega) (by omega) b3, b4⟩, by rw [hle, q_upI_self], by omega, fun jj e he => ?_⟩
            · by_cases hja : jj = L.length - 1
              · rw [hja, q_upR_self]
                unfold k_ow
                rw [if_neg (by omega), if_neg (by omega), if_pos rfl]
              · rw [q_upR_nei (fun z => hja ((nI_eq (by omega) (by omega)).mp z)), hv jj hjj]
                unfold k_ov k_ow
                rw [show k = L.length - 1 by omega]
                by_cases h5 : jj < i
                · rw [if_pos h5, if_pos h5]
                · rw [if_neg h5, if_neg h5]
                  by_cases h6 : jj < L.length - 1
                  · rw [if_pos h6, if_pos h6]
                  · rw [if_neg h6, if_neg h6, if_neg hja]
            · unfold k_ow
              have q1 := (b2 jj hjj).2
              have q2 := (b2 i a1).2
              split
              · exact q1
              · split
                · exact (b2 (jj + 1) (by omega)).2
                · split
                  · exact q2
                  · exact q1
            · have hjl : jj < L.length - 1 := by
                have := (List.getElem?_eq_some_iff.mp he).1
                omega
              have cg : ∀ p, p < 24 → ∀ e', L[p]? = some e' → k_fd (q_upI I s (nI 1) (nI (L.length - 1))) (s + 2 + w p) e' := fun p hp e' he' => (b7 p e' he').cong (by funext q; rw [q_upI_nea (by omega)])
              rw [List.getElem?_eraseIdx] at he
              unfold k_ow
              by_cases h5 : jj < i
              · rw [if_pos h5] at he ⊢
                exact cg _ (by omega) _ he
              · rw [if_neg h5] at he ⊢
                rw [if_pos hjl]
                exact cg _ (by omega) _ he
        · rw [nI_leI (by omega) (by omega)] at hc
          omega
      | succ j ih =>
        intro k Rk hk hik hfr hv
        have hL : q_L 6 t_Schema s T Rk := hS.1.rsame hfr
        have hrk : Rk (s + 1) (nI (k + 1)) = some (s + 2 + w (k + 1)) := by
          rw [hv (k + 1) (by omega)]
          unfold k_ov
          rw [if_neg (by omega), if_neg (by omega)]
        have htk : T (s + 2 + w (k + 1)) = some (103, 0) := hS.1.2.2.2 _ (hS.1.2.1 (k + 1) (by omega)).2
        refine q_iload_n d_Schema_takeOut_27 rfl rfl ?_
        refine q_aload_n d_Schema_takeOut_28 rfl rfl ?_
        refine q_getI (ci := 6) (fk := 1) d_Schema_takeOut_29 rfl (Nat.le_of_ble_eq_true rfl) w_99 (fun _ _ => rfl) hL.1 ?_
        rw [q_upI_self]
        refine q_icmp_ge (tgt := 55) d_Schema_takeOut_32 rfl (fun hc => ?_) (fun hc => ?_)
        · rw [nI_leI (by omega) (by omega)] at hc
          omega
        · refine q_aload_n d_Schema_takeOut_35 rfl rfl ?_
          refine q_getR (ci := 6) (fk := 0) d_Schema_takeOut_36 rfl (Nat.le_of_ble_eq_true rfl) w_92 (fun _ _ => rfl) hL.1 (hL.2 0 _ _ _ rfl).1 ?_
          refine q_iload_n d_Schema_takeOut_39 rfl rfl ?_
          refine q_aload_n d_Schema_takeOut_40 rfl rfl ?_
          refine q_getR (ci := 6) (fk := 0) d_Schema_takeOut_41 rfl (Nat.le_of_ble_eq_true rfl) w_92 (fun _ _ => rfl) hL.1 (hL.2 0 _ _ _ rfl).1 ?_
          refine q_iload_n d_Schema_takeOut_44 rfl rfl ?_
          refine q_iconst (v := nI 1) d_Schema_takeOut_45 (by decide) ?_
          first | refine q_iaddN d_Schema_takeOut_46 ?_ | refine q_iadd d_Schema_takeOut_46 ?_
          refine q_aaldR (kd := _) d_Schema_takeOut_47 rfl (Nat.le_of_ble_eq_true rfl) (Nat.le_of_ble_eq_true rfl) (hL.2 0 _ _ _ rfl).2 (by first | assumption | exact vp_in_nI (by omega) (by omega)) (by first | assumption | rfl | (simp (disch := omega) only [q_upT_self, q_upT_ne, q_upR_self, q_upR_nea, q_upR_nk, q_upT_at, *]; done) | (simp (disch := omega) only [q_upT_self, q_upT_ne, q_upR_self, q_upR_nea, q_upR_nk, q_upT_at, *]; rfl)) ?_
          refine q_aast (kd := 2) (ci := 3) d_Schema_takeOut_48 rfl rfl (Nat.le_of_ble_eq_true rfl) (Nat.le_of_ble_eq_true rfl) (hL.2 0 _ _ _ rfl).2 (by first | assumption | rfl | (simp (disch := omega) only [q_upT_self, q_upT_ne, q_upR_self, q_upR_nea, q_upR_nk, q_upT_at, *]; done) | (simp (disch := omega) only [q_upT_self, q_upT_ne, q_upR_self, q_upR_nea, q_upR_nk, q_upT_at, *]; rfl)) (by first | assumption | exact vp_in_nI (by omega) (by omega)) ?_
          first | refine q_iincN d_Schema_takeOut_49 rfl (Nat.le_of_ble_eq_true rfl) (by first | exact q_ok0 | exact q_okI rfl | exact q_okR rfl | exact q_okN rfl) rfl ?_ | refine q_iinc d_Schema_takeOut_49 rfl rfl (Nat.le_of_ble_eq_true rfl) (by first | exact q_ok0 | exact q_okI rfl | exact q_okR rfl | exact q_okN rfl) rfl ?_
          refine q_goto (tgt := 27) d_Schema_takeOut_52 rfl ?_
          refine ih (k + 1) _ (by omega) (by omega) (fun b hb => ?_) (fun jj hjj => ?_)
          · funext q
            rw [q_upR_nea hb, hfr b hb]
          · by_cases hja : jj = k
            · rw [hja, q_upR_self]
              unfold k_ov
              rw [if_neg (by omega), if_pos (by omega)]
            · rw [q_upR_nei (fun z => hja ((nI_eq (by omega) (by omega)).mp z)), hv jj hjj]
              unfold k_ov
              by_cases h5 : jj < i
              · rw [if_pos h5, if_pos h5]
              · rw [if_neg h5, if_neg h5]
                by_cases h6 : jj < k
                · rw [if_pos h6, if_pos (by omega)]
                · rw [if_neg h6, if_neg (by omega)]
    refine q_iload_n d_Schema_takeOut_25 rfl rfl ?_
    refine q_istore_n d_Schema_takeOut_26 rfl (Nat.le_of_ble_eq_true rfl) (by first | exact q_ok0 | exact q_okI rfl | exact q_okR rfl | exact q_okN rfl) rfl ?_
    refine loop (L.length - 1 - i) i R (by omega) (by omega) (fun b hb => rfl) (fun jj hjj => ?_)
    rw [(hS.1.2.1 jj hjj).1]
    unfold k_ov
    by_cases h5 : jj < i
    · rw [if_pos h5]
    · rw [if_neg h5, if_neg h5]
  · exact absurd hc (nI_m1 (by omega))
set_option maxHeartbeats 1000000 in
theorem c_Schema_move {s : Nat} {L : List KF} {w : Nat → Nat} (hS : k_sc s L w T I R) (hok : k_okf L) {m m' : List Nat} (hm : k_ok 4 m) (hm' : k_ok 4 m') (h0' : m' ≠ []) (hle : m'.length ≤ m.length) :
    q_Cv g M_Schema_move [.ref s, .int (nI (k_key m)), .int (nI (k_key m'))] (sz, T, I, R, J) 0 0 (fun h' => ∃ (I' : q_I) (R' : q_R) (w' : Nat → Nat) (L' : List KF), h' = (sz, T, I', R', J) ∧ (∀ b, b < s + 2 ∨ s + 26 ≤ b → I' b = I b) ∧ (∀ b i, i ≠ nI 0 → I' b i = I b i) ∧ (∀ b, b ≠ s + 1 → R' b = R b) ∧ k_sc s L' w' T I' R' ∧ L'.Perm (L.map (k_mf m m')) ∧ k_srt L') := by
  have hL := hS.1.1
  have hn := hS.2.1
  have h24 := hS.2.2.1
  have s1 : k_sh m ≤ 28 := by rw [k_sh]; omega
  have s2 : k_sh m' ≤ 28 := by rw [k_sh]; omega
  have s3 : k_sh m ≤ k_sh m' := by rw [k_sh, k_sh]; have := hm.1; omega
  refine q_C.of (ls0 := [some (.ref s), some (.int (nI (k_key m))), some (.int (nI (k_key m'))), none, none, none, none, none]) (by decide) rfl (by decide) (Nat.le_of_ble_eq_true rfl) rfl ?_
  refine q_iload_n d_Schema_move_0 rfl rfl ?_
  refine q_callSi (M2 := M_Key_shift) d_Schema_move_1 ⟨(Nat.le_of_ble_eq_true rfl), (Nat.le_of_ble_eq_true rfl), w_384, w_15, ⟨by decide, by decide⟩, show _ = some 1 by decide +kernel⟩ w_550 w_383 rfl (Nat.le_of_ble_eq_true rfl) (by omega) (by omega) (c_Key_shift hm) ?_
  rintro _ _ ⟨rfl, rfl⟩
  refine q_istore_n d_Schema_move_4 rfl (Nat.le_of_ble_eq_true rfl) (by first | exact q_ok0 | exact q_okI rfl | exact q_okR rfl | exact q_okN rfl) rfl ?_
  refine q_iload_n d_Schema_move_5 rfl rfl ?_
  refine q_callSi (M2 := M_Key_shift) d_Schema_move_6 ⟨(Nat.le_of_ble_eq_true rfl), (Nat.le_of_ble_eq_true rfl), w_384, w_15, ⟨by decide, by decide⟩, show _ = some 1 by decide +kernel⟩ w_550 w_383 rfl (Nat.le_of_ble_eq_true rfl) (by omega) (by omega) (c_Key_shift hm') ?_
  rintro _ _ ⟨rfl, rfl⟩
  refine q_iload_n d_Schema_move_9 rfl rfl ?_
  refine q_isub d_Schema_move_10 ?_
  rw [pk_sub s3]
  have loop : ∀ (j i : Nat) (Ii : q_I) (x6 x7 : Option Value), q_ok [some (.ref s), some (.int (nI (k_key m))), some (.int (nI (k_key m'))), some (.int (nI (k_sh m))), some (.int (nI (k_sh m' - k_sh m))), some (.int (nI i)), x6, x7] 7 ∨ True → i + j = L.length → (∀ b, b < s + 2 ∨ s + 26 ≤ b → Ii b = I b) → (∀ b q, q ≠ nI 0 → Ii b q = I b q) → (∀ k f, L[k]? = some f → k_fd Ii (s + 2 + w k) (if k < i then k_mf m m' f else f)) → q_V g M_Schema_move 0 0 (0 + 0 + 0) (0 + 0 + 0) (sz, T, Ii, R, J) (fun o h' => o = .inl none ∧ ∃ (I' : q_I) (R' : q_R) (w' : Nat → Nat) (L' : List KF), h' = (sz, T, I', R', J) ∧ (∀ b, b < s + 2 ∨ s + 26 ≤ b → I' b = I b) ∧ (∀ b i, i ≠ nI 0 → I' b i = I b i) ∧ (∀ b, b ≠ s + 1 → R' b = R b) ∧ k_sc s L' w' T I' R' ∧ L'.Perm (L.map (k_mf m m')) ∧ k_srt L') 16 [some (.ref s), some (.int (nI (k_key m))), some (.int (nI (k_key m'))), some (.int (nI (k_sh m))), some (.int (nI (k_sh m' - k_sh m))), some (.int (nI i)), x6, x7] [] := by
    intro j
    induction j with
    | zero =>
      intro i Ii x6 x7 _ hij hfr hkq hd
      have hn2 : Ii s (nI 1) = nI L.length := by rw [hfr s (by omega)]; exact hn
      have hS2 : k_sc s (L.map (k_mf m m')) w T Ii R := by
        refine ⟨hS.1, by rw [List.length_map]; exact hn2, by rw [List.length_map]; exact h24, fun k e he => ?_⟩
        rw [List.getElem?_map] at he
        cases hk : L[k]? with
        | none => rw [hk] at he; cases he
        | some f =>
          rw [hk] at he
          cases he
          have := hd k f hk
          rw [if_pos (by have := (List.getElem?_eq_some_iff.mp hk).1; omega)] at this
          exact this
      have hok2 : k_okf (L.map (k_mf m m')) := fun e he => by
        obtain ⟨f, hf, rfl⟩ := List.mem_map.mp he
        exact ⟨k_mn_ok hm' (hok f hf).1 hle, k_mn_ne h0' (hok f hf).2⟩
      refine q_iload d_Schema_move_16 rfl ?_
      refine q_aload_n d_Schema_move_18 rfl rfl ?_
      refine q_getI (ci := 6) (fk := 1) d_Schema_move_19 rfl (Nat.le_of_ble_eq_true rfl) w_99 (fun _ _ => rfl) hL.1 ?_
      rw [hn2]
      refine q_icmp_ge (tgt := 79) d_Schema_move_22 rfl (fun hc => ?_) (fun hc => ?_)
      · refine q_aload_n d_Schema_move_79 rfl rfl ?_
        refine q_callVv (M2 := M_Schema_arrange) d_Schema_move_80 ⟨(Nat.le_of_ble_eq_true rfl), (Nat.le_of_ble_eq_true rfl), w_418, w_3, ⟨by decide, by decide⟩, show _ = some 0 by decide +kernel⟩ w_415 w_417 (ci := 6) rfl s_2 hL.1 rfl (Nat.le_of_ble_eq_true rfl) (by omega) (by omega) (c_Schema_arrange hS2 hok2) ?_
        rintro _ ⟨R', w', L', rfl, hfr2, hS3, hp, hs⟩
        refine q_vret d_Schema_move_83 rfl (by omega) (by omega) ?_
        exact ⟨rfl, Ii, R', w', L', rfl, hfr, hkq, hfr2, hS3, hp, hs⟩
      · rw [nI_leI (by omega) (by omega)] at hc
        omega
    | succ j ih =>
      intro i Ii x6 x7 _ hij hfr hkq hd
      have hn2 : Ii s (nI 1) = nI L.length := by rw [hfr s (by omega)]; exact hn
      obtain ⟨f, hf⟩ : ∃ f, L[i]? = some f := ⟨_, List.getElem?_eq_getElem (by omega)⟩
      obtain ⟨a1, a2, a3, a4⟩ := hS.at hf
      have hfok := (hok f (List.mem_of_getElem? hf)).1
      have hfk := k_key_lt hfok
      have hdi := hd i f hf
      rw [if_neg (Nat.lt_irrefl _)] at hdi
      have hwi := (hS.1.2.1 i a1).2
      refine q_iload d_Schema_move_16 rfl ?_
      refine q_aload_n d_Schema_move_18 rfl rfl ?_
      refine q_getI (ci := 6) (fk := 1) d_Schema_move_19 rfl (Nat.le_of_ble_eq_true rfl) w_99 (fun _ _ => rfl) hL.1 ?_
      rw [hn2]
      refine q_icmp_ge (tgt := 79) d_Schema_move_22 rfl (fun hc => ?_) (fun hc => ?_)
      · rw [nI_leI (by omega) (by omega)] at hc
        omega
      · refine q_aload_n d_Schema_move_25 rfl rfl ?_
        refine q_getR (ci := 6) (fk := 0) d_Schema_move_26 rfl (Nat.le_of_ble_eq_true rfl) w_92 (fun _ _ => rfl) hL.1 (hL.2 0 _ _ _ rfl).1 ?_
        refine q_iload d_Schema_move_29 rfl ?_
        refine q_aaldR (kd := _) d_Schema_move_31 rfl (Nat.le_of_ble_eq_true rfl) (Nat.le_of_ble_eq_true rfl) (hL.2 0 _ _ _ rfl).2 (by first | assumption | exact vp_in_nI (by omega) (by omega)) (by first | assumption | rfl | (simp (disch := omega) only [q_upT_self, q_upT_ne, q_upR_self, q_upR_nea, q_upR_nk, q_upT_at, *]; done) | (simp (disch := omega) only [q_upT_self, q_upT_ne, q_upR_self, q_upR_nea, q_upR_nk, q_upT_at, *]; rfl)) ?_
        refine q_getI (ci := 3) (fk := 0) d_Schema_move_32 rfl (Nat.le_of_ble_eq_true rfl) w_55 (fun _ _ => rfl) (by first | assumption | rfl | (simp (disch := omega) only [q_upT_self, q_upT_ne, q_upR_self, q_upR_nea, q_upR_nk, q_upT_at, *]; done) | (simp (disch := omega) only [q_upT_self, q_upT_ne, q_upR_self, q_upR_nea, q_upR_nk, q_upT_at, *]; rfl)) ?_
        rw [hdi.1]
        refine q_istore d_Schema_move_35 (Nat.le_of_ble_eq_true rfl) (by first | exact q_ok0 | exact q_okI rfl | exact q_okR rfl | exact q_okN rfl) rfl ?_
        refine q_iload d_Schema_move_37 rfl ?_
        refine q_iload_n d_Schema_move_39 rfl rfl ?_
        refine q_callSi (M2 := M_Key_isWithin) d_Schema_move_40 ⟨(Nat.le_of_ble_eq_true rfl), (Nat.le_of_ble_eq_true rfl), w_553, w_15, ⟨by decide, by decide⟩, show _ = some 2 by decide +kernel⟩ w_551 w_552 rfl (Nat.le_of_ble_eq_true rfl) (by omega) (by omega) (c_Key_isWithin hfok hm) ?_
        rintro _ _ ⟨rfl, rfl⟩
        by_cases hp : m <+: f.1
        · rw [if_pos hp]
          obtain ⟨q, k1, k2, k3⟩ := k_mn_key hm hm' hfok hle hp
          refine q_if_eq (tgt := 73) d_Schema_move_43 rfl (fun hc => ?_) (fun hc => ?_)
          · exact absurd hc (by decide)
          · refine q_iload d_Schema_move_46 rfl ?_
            refine q_iconst (v := nI 1) d_Schema_move_48 (by decide) ?_
            refine q_iload_n d_Schema_move_49 rfl rfl ?_
            refine q_ishl d_Schema_move_50 ?_
            rw [k_shl _ (by omega), Nat.one_mul]
            refine q_iconst (v := nI 1) d_Schema_move_51 (by decide) ?_
            refine q_isub d_Schema_move_52 ?_
            have hpos : 0 < 2 ^ k_sh m := Nat.two_pow_pos _
            have hp28 : 2 ^ k_sh m ≤ 2 ^ 28 := Nat.pow_le_pow_right (by decide) s1
            rw [pk_sub (by omega)]
            refine q_iand d_Schema_move_53 ?_
            rw [pk_andN (by omega) (k_sh m) (pk_tn (by omega))]
            refine q_istore d_Schema_move_54 (Nat.le_of_ble_eq_true rfl) (by first | exact q_ok0 | exact q_okI rfl | exact q_okR rfl | exact q_okN rfl) rfl ?_
            refine q_aload_n d_Schema_move_56 rfl rfl ?_
            refine q_getR (ci := 6) (fk := 0) d_Schema_move_57 rfl (Nat.le_of_ble_eq_true rfl) w_92 (fun _ _ => rfl) hL.1 (hL.2 0 _ _ _ rfl).1 ?_
            refine q_iload d_Schema_move_60 rfl ?_
            refine q_aaldR (kd := _) d_Schema_move_62 rfl (Nat.le_of_ble_eq_true rfl) (Nat.le_of_ble_eq_true rfl) (hL.2 0 _ _ _ rfl).2 (by first | assumption | exact vp_in_nI (by omega) (by omega)) (by first | assumption | rfl | (simp (disch := omega) only [q_upT_self, q_upT_ne, q_upR_self, q_upR_nea, q_upR_nk, q_upT_at, *]; done) | (simp (disch := omega) only [q_upT_self, q_upT_ne, q_upR_self, q_upR_nea, q_upR_nk, q_upT_at, *]; rfl)) ?_
            refine q_iload_n d_Schema_move_63 rfl rfl ?_
            refine q_iload d_Schema_move_64 rfl ?_
            refine q_iload d_Schema_move_66 rfl ?_
            refine q_ishl d_Schema_move_68 ?_
            rw [k_shl _ (by omega), k1]
            refine q_ior d_Schema_move_69 ?_
            rw [k_orA k2, ← k1, ← k3]
            refine q_putI (ci := 3) (fk := 0) d_Schema_move_70 rfl (Nat.le_of_ble_eq_true rfl) w_55 (Or.inl rfl) (fun _ _ => rfl) rfl rfl (by first | assumption | rfl | (simp (disch := omega) only [q_upT_self, q_upT_ne, q_upR_self, q_upR_nea, q_upR_nk, q_upT_at, *]; done) | (simp (disch := omega) only [q_upT_self, q_upT_ne, q_upR_self, q_upR_nea, q_upR_nk, q_upT_at, *]; rfl)) ?_
            first | refine q_iincN d_Schema_move_73 rfl (Nat.le_of_ble_eq_true rfl) (by first | exact q_ok0 | exact q_okI rfl | exact q_okR rfl | exact q_okN rfl) rfl ?_ | refine q_iinc d_Schema_move_73 rfl rfl (Nat.le_of_ble_eq_true rfl) (by first | exact q_ok0 | exact q_okI rfl | exact q_okR rfl | exact q_okN rfl) rfl ?_
            refine q_goto (tgt := 16) d_Schema_move_76 rfl ?_
            refine ih (i + 1) _ _ _ (Or.inr trivial) (by omega) (fun b hb => ?_) (fun b q hq => ?_) (fun k e he => ?_)
            · funext q
              rw [q_upI_nea (by omega), hfr b hb]
            · rw [q_upI_nei hq, hkq b q hq]
            · by_cases hki : k = i
              · subst hki
                rw [hf] at he
                cases he
                rw [if_pos (by omega)]
                obtain ⟨d1, d2, d3, d4, d5⟩ := hdi
                refine ⟨q_upI_self, ?_, ?_, ?_, ?_⟩
                · rw [q_upI_nk (by decide)]; exact d2
                · rw [q_upI_nk (by decide)]; exact d3
                · rw [q_upI_nk (by decide)]; exact d4
                · rw [q_upI_nk (by decide)]; exact d5
              · have hkl := (List.getElem?_eq_some_iff.mp he).1
                have hwk : w k ≠ w i := fun z => hki (hS.1.2.2.1 _ _ (by omega) (by omega) z)
                have := hd k e he
                rw [show (if k < i + 1 then k_mf m m' e else e) = (if k < i then k_mf m m' e else e) by by_cases h : k < i; rw [if_pos h, if_pos (by omega)]; rw [if_neg h, if_neg (by omega)]]
                exact this.cong (by funext q; rw [q_upI_nea (by omega)])
        · rw [if_neg hp]
          refine q_if_eq (tgt := 73) d_Schema_move_43 rfl (fun hc => ?_) (fun hc => ?_)
          · first | refine q_iincN d_Schema_move_73 rfl (Nat.le_of_ble_eq_true rfl) (by first | exact q_ok0 | exact q_okI rfl | exact q_okR rfl | exact q_okN rfl) rfl ?_ | refine q_iinc d_Schema_move_73 rfl rfl (Nat.le_of_ble_eq_true rfl) (by first | exact q_ok0 | exact q_okI rfl | exact q_okR rfl | exact q_okN rfl) rfl ?_
            refine q_goto (tgt := 16) d_Schema_move_76 rfl ?_
            refine ih (i + 1) _ _ _ (Or.inr trivial) (by omega) hfr hkq (fun k e he => ?_)
            by_cases hki : k = i
            · subst hki
              rw [hf] at he
              cases he
              rw [if_pos (by omega)]
              have : k_mf m m' f = f := by
                unfold k_mf k_mn
                rw [if_neg hp]
              rw [this]
              exact hdi
            · have := hd k e he
              rw [show (if k < i + 1 then k_mf m m' e else e) = (if k < i then k_mf m m' e else e) by by_cases h : k < i; rw [if_pos h, if_pos (by omega)]; rw [if_neg h, if_neg (by omega)]]
              exact this
          · exact absurd rfl hc
  refine q_istore d_Schema_move_11 (Nat.le_of_ble_eq_true rfl) (by first | exact q_ok0 | exact q_okI rfl | exact q_okR rfl | exact q_okN rfl) rfl ?_
  refine q_iconst (v := nI 0) d_Schema_move_13 (by decide) ?_
  refine q_istore d_Schema_move_14 (Nat.le_of_ble_eq_true rfl) (by first | exact q_ok0 | exact q_okI rfl | exact q_okR rfl | exact q_okN rfl) rfl ?_
  refine loop L.length 0 I _ _ (Or.inr trivial) (by omega) (fun b hb => rfl) (fun b q hq => rfl) (fun k f hk => ?_)
  rw [if_neg (by omega)]
  exact hS.2.2.2 k f hk
end SchemaO
