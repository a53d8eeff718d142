/-! a schema of the class is put in order -/
abbrev M_Schema_arrange : q_M := (⟨"LensPaths$Schema", "arrange", "()V"⟩, prog_9_method_11_code, 4, none, "LensPaths$Schema", [], false, 0, 0)
theorem d_Schema_arrange_0 : decode prog_9_method_11_code 0 = .ok (.iconst 1, 1) := by decide +kernel
theorem d_Schema_arrange_1 : decode prog_9_method_11_code 1 = .ok (.istore_n 1, 1) := by decide +kernel
theorem d_Schema_arrange_2 : decode prog_9_method_11_code 2 = .ok (.iload_n 1, 1) := by decide +kernel
theorem d_Schema_arrange_3 : decode prog_9_method_11_code 3 = .ok (.aload_n 0, 1) := by decide +kernel
theorem d_Schema_arrange_4 : decode prog_9_method_11_code 4 = .ok (.getfield 18, 3) := by decide +kernel
theorem d_Schema_arrange_7 : decode prog_9_method_11_code 7 = .ok (.if_icmp .ge 67, 3) := by decide +kernel
theorem d_Schema_arrange_10 : decode prog_9_method_11_code 10 = .ok (.aload_n 0, 1) := by decide +kernel
theorem d_Schema_arrange_11 : decode prog_9_method_11_code 11 = .ok (.getfield 11, 3) := by decide +kernel
theorem d_Schema_arrange_14 : decode prog_9_method_11_code 14 = .ok (.iload_n 1, 1) := by decide +kernel
theorem d_Schema_arrange_15 : decode prog_9_method_11_code 15 = .ok (.aaload, 1) := by decide +kernel
theorem d_Schema_arrange_16 : decode prog_9_method_11_code 16 = .ok (.astore_n 2, 1) := by decide +kernel
theorem d_Schema_arrange_17 : decode prog_9_method_11_code 17 = .ok (.iload_n 1, 1) := by decide +kernel
theorem d_Schema_arrange_18 : decode prog_9_method_11_code 18 = .ok (.istore_n 3, 1) := by decide +kernel
theorem d_Schema_arrange_19 : decode prog_9_method_11_code 19 = .ok (.iload_n 3, 1) := by decide +kernel
theorem d_Schema_arrange_20 : decode prog_9_method_11_code 20 = .ok (.ifCond .le 41, 3) := by decide +kernel
theorem d_Schema_arrange_23 : decode prog_9_method_11_code 23 = .ok (.aload_n 0, 1) := by decide +kernel
theorem d_Schema_arrange_24 : decode prog_9_method_11_code 24 = .ok (.getfield 11, 3) := by decide +kernel
theorem d_Schema_arrange_27 : decode prog_9_method_11_code 27 = .ok (.iload_n 3, 1) := by decide +kernel
theorem d_Schema_arrange_28 : decode prog_9_method_11_code 28 = .ok (.iconst 1, 1) := by decide +kernel
theorem d_Schema_arrange_29 : decode prog_9_method_11_code 29 = .ok (.isub, 1) := by decide +kernel
theorem d_Schema_arrange_30 : decode prog_9_method_11_code 30 = .ok (.aaload, 1) := by decide +kernel
theorem d_Schema_arrange_31 : decode prog_9_method_11_code 31 = .ok (.getfield 29, 3) := by decide +kernel
theorem d_Schema_arrange_34 : decode prog_9_method_11_code 34 = .ok (.aload_n 2, 1) := by decide +kernel
theorem d_Schema_arrange_35 : decode prog_9_method_11_code 35 = .ok (.getfield 29, 3) := by decide +kernel
theorem d_Schema_arrange_38 : decode prog_9_method_11_code 38 = .ok (.if_icmp .le 23, 3) := by decide +kernel
theorem d_Schema_arrange_41 : decode prog_9_method_11_code 41 = .ok (.aload_n 0, 1) := by decide +kernel
theorem d_Schema_arrange_42 : decode prog_9_method_11_code 42 = .ok (.getfield 11, 3) := by decide +kernel
theorem d_Schema_arrange_45 : decode prog_9_method_11_code 45 = .ok (.iload_n 3, 1) := by decide +kernel
theorem d_Schema_arrange_46 : decode prog_9_method_11_code 46 = .ok (.aload_n 0, 1) := by decide +kernel
theorem d_Schema_arrange_47 : decode prog_9_method_11_code 47 = .ok (.getfield 11, 3) := by decide +kernel
theorem d_Schema_arrange_50 : decode prog_9_method_11_code 50 = .ok (.iload_n 3, 1) := by decide +kernel
theorem d_Schema_arrange_51 : decode prog_9_method_11_code 51 = .ok (.iconst 1, 1) := by decide +kernel
theorem d_Schema_arrange_52 : decode prog_9_method_11_code 52 = .ok (.isub, 1) := by decide +kernel
theorem d_Schema_arrange_53 : decode prog_9_method_11_code 53 = .ok (.aaload, 1) := by decide +kernel
theorem d_Schema_arrange_54 : decode prog_9_method_11_code 54 = .ok (.aastore, 1) := by decide +kernel
theorem d_Schema_arrange_55 : decode prog_9_method_11_code 55 = .ok (.iinc 3 (-1), 3) := by decide +kernel
theorem d_Schema_arrange_58 : decode prog_9_method_11_code 58 = .ok (.goto (-39), 3) := by decide +kernel
theorem d_Schema_arrange_61 : decode prog_9_method_11_code 61 = .ok (.aload_n 0, 1) := by decide +kernel
theorem d_Schema_arrange_62 : decode prog_9_method_11_code 62 = .ok (.getfield 11, 3) := by decide +kernel
theorem d_Schema_arrange_65 : decode prog_9_method_11_code 65 = .ok (.iload_n 3, 1) := by decide +kernel
theorem d_Schema_arrange_66 : decode prog_9_method_11_code 66 = .ok (.aload_n 2, 1) := by decide +kernel
theorem d_Schema_arrange_67 : decode prog_9_method_11_code 67 = .ok (.aastore, 1) := by decide +kernel
theorem d_Schema_arrange_68 : decode prog_9_method_11_code 68 = .ok (.iinc 1 1, 3) := by decide +kernel
theorem d_Schema_arrange_71 : decode prog_9_method_11_code 71 = .ok (.goto (-69), 3) := by decide +kernel
theorem d_Schema_arrange_74 : decode prog_9_method_11_code 74 = .ok (.return_, 1) := by decide +kernel
section SchemaA
variable {g : q_G} {sz : Nat} {T : q_T} {I : q_I} {R : q_R} {J : q_J}
theorem k_sl.rsame {s : Nat} {w : Nat → Nat} {R2 : q_R} (h : k_sl s w T R) (hR : ∀ b, b ≠ s + 1 → R2 b = R b) : q_L 6 t_Schema s T R2 := h.1.keep (fun _ _ z => z) (fun fk off kd n z => by rw [hR s (by omega)])
theorem nI_keyle {f e : KF} (hf : k_ok 4 f.1) (he : k_ok 4 e.1) : nI (k_key f.1) ≤ nI (k_key e.1) ↔ k_le f e := by
  have h1 := k_key_lt hf
  have h2 := k_key_lt he
  exact nI_leI (by omega) (by omega)
def q_arr (s : Nat) (L : List KF) (sz : Nat) (T : q_T) (I : q_I) (R : q_R) (J : q_J) (h' : q_H) : Prop := ∃ (R' : q_R) (w' : Nat → Nat) (L' : List KF), h' = (sz, T, I, R', J) ∧ (∀ b, b ≠ s + 1 → R' b = R b) ∧ k_sc s L' w' T I R' ∧ L'.Perm L ∧ k_srt L'
set_option maxHeartbeats 1000000 in
theorem c_Schema_arrange {s : Nat} {L : List KF} {w : Nat → Nat} (hS : k_sc s L w T I R) (hok : k_okf L) : q_Cv g M_Schema_arrange [.ref s] (sz, T, I, R, J) 0 0 (q_arr s L sz T I R J) := by
  refine q_C.of (ls0 := [some (.ref s), none, none, none]) (by decide) rfl (by decide) (Nat.le_of_ble_eq_true rfl) rfl ?_
  have h24 := hS.2.2.1
  have loop : ∀ (j i : Nat) (Ri : q_R) (wi : Nat → Nat) (Li : List KF) (x2 x3 : Option Value), i + j = L.length + 1 → 1 ≤ i → (∀ b, b ≠ s + 1 → Ri b = R b) → k_sc s Li wi T I Ri → Li.Perm L → k_srt (Li.take i) → q_V g M_Schema_arrange 0 0 0 0 (sz, T, I, Ri, J) (fun o h' => o = .inl none ∧ q_arr s L sz T I R J h') 2 [some (.ref s), some (.int (nI i)), x2, x3] [] := by
    intro j
    induction j with
    | zero =>
      intro i Ri wi Li x2 x3 hij h1 hfr hSi hp hs
      have hL := hSi.1.1
      have hlen := hp.length_eq
      refine q_iload_n d_Schema_arrange_2 rfl rfl ?_
      refine q_aload_n d_Schema_arrange_3 rfl rfl ?_
      refine q_getI (ci := 6) (fk := 1) d_Schema_arrange_4 rfl (Nat.le_of_ble_eq_true rfl) w_99 (fun _ _ => rfl) hL.1 ?_
      rw [hSi.2.1]
      refine q_icmp_ge (tgt := 74) d_Schema_arrange_7 rfl (fun hc => ?_) (fun hc => ?_)
      · refine q_vret d_Schema_arrange_74 rfl (by omega) (by omega) ?_
        refine ⟨rfl, Ri, wi, Li, rfl, hfr, hSi, hp, ?_⟩
        rw [List.take_of_length_le (by omega)] at hs
        exact hs
      · rw [nI_leI (by omega) (by omega)] at hc
        omega
    | succ j ih =>
      intro i Ri wi Li x2 x3 hij h1 hfr hSi hp hs
      have hL := hSi.1.1
      have hlen := hp.length_eq
      refine q_iload_n d_Schema_arrange_2 rfl rfl ?_
      refine q_aload_n d_Schema_arrange_3 rfl rfl ?_
      refine q_getI (ci := 6) (fk := 1) d_Schema_arrange_4 rfl (Nat.le_of_ble_eq_true rfl) w_99 (fun _ _ => rfl) hL.1 ?_
      rw [hSi.2.1]
      refine q_icmp_ge (tgt := 74) d_Schema_arrange_7 rfl (fun hc => ?_) (fun hc => ?_)
      · rw [nI_leI (by omega) (by omega)] at hc
        refine q_vret d_Schema_arrange_74 rfl (by omega) (by omega) ?_
        refine ⟨rfl, Ri, wi, Li, rfl, hfr, hSi, hp, ?_⟩
        rw [List.take_of_length_le (by omega)] at hs
        exact hs
      · rw [nI_leI (by omega) (by omega)] at hc
        have hi : i < Li.length := by omega
        obtain ⟨f, hf⟩ : ∃ f, Li[i]? = some f := ⟨_, List.getElem?_eq_getElem hi⟩
        obtain ⟨a1, a2, a3, a4⟩ := hSi.at hf
        have hokf : k_ok 4 f.1 := (hok f (hp.mem_iff.mp (List.mem_of_getElem? hf))).1
        have inner : ∀ (a : Nat) (Rc : q_R), a ≤ i → (∀ b, b ≠ s + 1 → Rc b = Ri b) → (∀ jj, jj < 24 → Rc (s + 1) (nI jj) = some (s + 2 + k_v wi i a jj)) → (∀ e ∈ (Li.take i).drop a, k_le f e) → q_V g M_Schema_arrange 0 0 0 0 (sz, T, I, Rc, J) (fun o h' => o = .inl none ∧ q_arr s L sz T I R J h') 19 [some (.ref s), some (.int (nI i)), some (.ref (s + 2 + wi i)), some (.int (nI a))] [] := by
          have fin : ∀ (a : Nat) (Rc : q_R), a ≤ i → (∀ b, b ≠ s + 1 → Rc b = Ri b) → (∀ jj, jj < 24 → Rc (s + 1) (nI jj) = some (s + 2 + k_v wi i a jj)) → (∀ e ∈ (Li.take i).drop a, k_le f e) → (∀ e ∈ Li.take a, k_le e f) → q_V g M_Schema_arrange 0 0 0 0 (sz, T, I, Rc, J) (fun o h' => o = .inl none ∧ q_arr s L sz T I R J h') 61 [some (.ref s), some (.int (nI i)), some (.ref (s + 2 + wi i)), some (.int (nI a))] [] := by
            intro a Rc ha hfc hv hhi hlo
            have hL : q_L 6 t_Schema s T Rc := hSi.1.rsame hfc
            refine q_aload_n d_Schema_arrange_61 rfl rfl ?_
            refine q_getR (ci := 6) (fk := 0) d_Schema_arrange_62 rfl (Nat.le_of_ble_eq_true rfl) w_92 (fun _ _ => rfl) hL.1 (hL.2 0 _ _ _ rfl).1 ?_
            refine q_iload_n d_Schema_arrange_65 rfl rfl ?_
            refine q_aload_n d_Schema_arrange_66 rfl rfl ?_
            refine q_aast (kd := 2) (ci := 3) d_Schema_arrange_67 rfl rfl (Nat.le_of_ble_eq_true rfl) (Nat.le_of_ble_eq_true rfl) (hL.2 0 _ _ _ rfl).2 (by first | assumption | rfl | (simp (disch := omega) only [q_upT_self, q_upT_ne, q_upR_self, q_upR_nea, q_upR_nk, q_upT_at, *]; done) | (simp (disch := omega) only [q_upT_self, q_upT_ne, q_upR_self, q_upR_nea, q_upR_nk, q_upT_at, *]; rfl)) (by first | assumption | exact vp_in_nI (by omega) (by omega)) ?_
            first | refine q_iincN d_Schema_arrange_68 rfl (Nat.le_of_ble_eq_true rfl) (by first | exact q_ok0 | exact q_okI rfl | exact q_okR rfl | exact q_okN rfl) rfl ?_ | refine q_iinc d_Schema_arrange_68 rfl rfl (Nat.le_of_ble_eq_true rfl) (by first | exact q_ok0 | exact q_okI rfl | exact q_okR rfl | exact q_okN rfl) rfl ?_
            refine q_goto (tgt := 2) d_Schema_arrange_71 rfl ?_
            refine ih (i + 1) _ (k_w wi i a) (k_mvl Li i a f) _ _ (by omega) (by omega) (fun b hb => ?_) ?_ ((k_mvl_perm hf ha).trans hp) (k_mvl_srt hf ha hs hlo hhi)
            · funext q
              rw [q_upR_nea hb, hfc b hb, hfr b hb]
            · obtain ⟨⟨b1, b2, b3, b4⟩, b5, b6, b7⟩ := hSi
              have hl2 : (k_mvl Li i a f).length = Li.length := (k_mvl_perm hf ha).length_eq
              refine ⟨⟨b1.keep (fun _ _ z => z) (fun fk off kd n z => by rw [q_upR_nea (by omega), hfc s (by omega)]), fun jj hjj => ?_, k_w_inj ha a1 b3, b4⟩, by rw [hl2]; exact b5, by omega, fun jj e he => ?_⟩
              · constructor
                · by_cases hja : jj = a
                  · rw [hja, q_upR_self]
                    unfold k_w
                    rw [if_neg (by omega), if_pos rfl]
                  · rw [q_upR_nei (fun z => hja ((nI_eq (by omega) (by omega)).mp z)), hv jj hjj]
                    unfold k_v k_w
                    by_cases h5 : jj < a
                    · rw [if_pos (by omega), if_pos h5]
                    · rw [if_neg (by omega), if_neg h5, if_neg hja]
                · unfold k_w
                  have q1 := (b2 jj hjj).2
                  have q2 := (b2 i a1).2
                  have q3 := (b2 (jj - 1) (by omega)).2
                  split
                  · exact q1
                  · split
                    · exact q2
                    · split
                      · exact q3
                      · exact q1
              · rw [k_mvl_at hf ha] at he
                unfold k_w
                split at he
                · rename_i h5
                  rw [if_pos h5]; exact b7 _ _ he
                · rename_i h5
                  rw [if_neg h5]
                  split at he
                  · rename_i h6
                    rw [if_pos h6]; cases he; exact b7 _ _ hf
                  · rename_i h6
                    rw [if_neg h6]
                    split at he
                    · rename_i h7
                      rw [if_pos h7]; exact b7 _ _ he
                    · rename_i h7
                      rw [if_neg h7]; exact b7 _ _ he
          intro a
          induction a with
          | zero =>
            intro Rc ha hfc hv hhi
            refine q_iload_n d_Schema_arrange_19 rfl rfl ?_
            refine q_if_le (tgt := 61) d_Schema_arrange_20 rfl (fun hc => ?_) (fun hc => ?_)
            · exact fin 0 Rc ha hfc hv hhi (fun e he => nomatch he)
            · exact absurd (by decide) hc
          | succ a iha =>
            intro Rc ha hfc hv hhi
            have hL : q_L 6 t_Schema s T Rc := hSi.1.rsame hfc
            obtain ⟨e, he⟩ : ∃ e, Li[a]? = some e := ⟨_, List.getElem?_eq_getElem (by omega)⟩
            obtain ⟨c1, c2, c3, c4⟩ := hSi.at he
            have hoke : k_ok 4 e.1 := (hok e (hp.mem_iff.mp (List.mem_of_getElem? he))).1
            have hra : Rc (s + 1) (nI a) = some (s + 2 + wi a) := by
              rw [hv a c1]; unfold k_v; rw [if_pos (by omega)]
            refine q_iload_n d_Schema_arrange_19 rfl rfl ?_
            refine q_if_le (tgt := 61) d_Schema_arrange_20 rfl (fun hc => ?_) (fun hc => ?_)
            · exact absurd hc (nI_nle (by omega) (by omega))
            · refine q_aload_n d_Schema_arrange_23 rfl rfl ?_
              refine q_getR (ci := 6) (fk := 0) d_Schema_arrange_24 rfl (Nat.le_of_ble_eq_true rfl) w_92 (fun _ _ => rfl) hL.1 (hL.2 0 _ _ _ rfl).1 ?_
              refine q_iload_n d_Schema_arrange_27 rfl rfl ?_
              refine q_iconst (v := nI 1) d_Schema_arrange_28 (by decide) ?_
              refine q_isub d_Schema_arrange_29 ?_
              rw [pk_sub (by omega), Nat.add_sub_cancel]
              refine q_aaldR (kd := _) d_Schema_arrange_30 rfl (Nat.le_of_ble_eq_true rfl) (Nat.le_of_ble_eq_true rfl) (hL.2 0 _ _ _ rfl).2 (by first | assumption | exact vp_in_nI (by omega) (by omega)) (by first | assumption | rfl | (simp (disch := omega) only [q_upT_self, q_upT_ne, q_upR_self, q_upR_nea, q_upR_nk, q_upT_at, *]; done) | (simp (disch := omega) only [q_upT_self, q_upT_ne, q_upR_self, q_upR_nea, q_upR_nk, q_upT_at, *]; rfl)) ?_
              refine q_getI (ci := 3) (fk := 0) d_Schema_arrange_31 rfl (Nat.le_of_ble_eq_true rfl) w_55 (fun _ _ => rfl) (by first | assumption | rfl | (simp (disch := omega) only [q_upT_self, q_upT_ne, q_upR_self, q_upR_nea, q_upR_nk, q_upT_at, *]; done) | (simp (disch := omega) only [q_upT_self, q_upT_ne, q_upR_self, q_upR_nea, q_upR_nk, q_upT_at, *]; rfl)) ?_
              rw [c4.1]
              refine q_aload_n d_Schema_arrange_34 rfl rfl ?_
              refine q_getI (ci := 3) (fk := 0) d_Schema_arrange_35 rfl (Nat.le_of_ble_eq_true rfl) w_55 (fun _ _ => rfl) (by first | assumption | rfl | (simp (disch := omega) only [q_upT_self, q_upT_ne, q_upR_self, q_upR_nea, q_upR_nk, q_upT_at, *]; done) | (simp (disch := omega) only [q_upT_self, q_upT_ne, q_upR_self, q_upR_nea, q_upR_nk, q_upT_at, *]; rfl)) ?_
              rw [a4.1]
              refine q_icmp_le (tgt := 61) d_Schema_arrange_38 rfl (fun hc => ?_) (fun hc => ?_)
              · rw [nI_keyle hoke hokf] at hc
                refine fin (a + 1) Rc ha hfc hv hhi (fun x hx => Nat.le_trans (k_srt_lo hs (by omega) he x hx) hc)
              · rw [nI_keyle hoke hokf] at hc
                refine q_aload_n d_Schema_arrange_41 rfl rfl ?_
                refine q_getR (ci := 6) (fk := 0) d_Schema_arrange_42 rfl (Nat.le_of_ble_eq_true rfl) w_92 (fun _ _ => rfl) hL.1 (hL.2 0 _ _ _ rfl).1 ?_
                refine q_iload_n d_Schema_arrange_45 rfl rfl ?_
                refine q_aload_n d_Schema_arrange_46 rfl rfl ?_
                refine q_getR (ci := 6) (fk := 0) d_Schema_arrange_47 rfl (Nat.le_of_ble_eq_true rfl) w_92 (fun _ _ => rfl) hL.1 (hL.2 0 _ _ _ rfl).1 ?_
                refine q_iload_n d_Schema_arrange_50 rfl rfl ?_
                refine q_iconst (v := nI 1) d_Schema_arrange_51 (by decide) ?_
                refine q_isub d_Schema_arrange_52 ?_
                rw [pk_sub (by omega), Nat.add_sub_cancel]
                refine q_aaldR (kd := _) d_Schema_arrange_53 rfl (Nat.le_of_ble_eq_true rfl) (Nat.le_of_ble_eq_true rfl) (hL.2 0 _ _ _ rfl).2 (by first | assumption | exact vp_in_nI (by omega) (by omega)) (by first | assumption | rfl | (simp (disch := omega) only [q_upT_self, q_upT_ne, q_upR_self, q_upR_nea, q_upR_nk, q_upT_at, *]; done) | (simp (disch := omega) only [q_upT_self, q_upT_ne, q_upR_self, q_upR_nea, q_upR_nk, q_upT_at, *]; rfl)) ?_
                refine q_aast (kd := 2) (ci := 3) d_Schema_arrange_54 rfl rfl (Nat.le_of_ble_eq_true rfl) (Nat.le_of_ble_eq_true rfl) (hL.2 0 _ _ _ rfl).2 (by first | assumption | rfl | (simp (disch := omega) only [q_upT_self, q_upT_ne, q_upR_self, q_upR_nea, q_upR_nk, q_upT_at, *]; done) | (simp (disch := omega) only [q_upT_self, q_upT_ne, q_upR_self, q_upR_nea, q_upR_nk, q_upT_at, *]; rfl)) (by first | assumption | exact vp_in_nI (by omega) (by omega)) ?_
                refine q_iinc (v := nI a) d_Schema_arrange_55 rfl (by rw [show Int32.ofInt (-1) = -1 by decide]; exact pk_m1 a) (Nat.le_of_ble_eq_true rfl) (by first | exact q_okR rfl) rfl ?_
                refine q_goto (tgt := 19) d_Schema_arrange_58 rfl ?_
                refine iha _ (by omega) (fun b hb => ?_) (fun jj hjj => ?_) (fun x hx => ?_)
                · funext q
                  rw [q_upR_nea hb, hfc b hb]
                · by_cases hja : jj = a + 1
                  · rw [hja, q_upR_self]
                    unfold k_v
                    rw [if_neg (by omega), if_pos (by omega), Nat.add_sub_cancel]
                  · rw [q_upR_nei (fun z => hja ((nI_eq (by omega) (by omega)).mp z)), hv jj hjj]
                    unfold k_v
                    by_cases h5 : jj ≤ a
                    · rw [if_pos (by omega), if_pos h5]
                    · rw [if_neg (by omega), if_neg h5]
                · have hda : (Li.take i).drop a = e :: (Li.take i).drop (a + 1) := by
                    rw [List.drop_eq_getElem_cons (by rw [List.length_take]; omega), List.getElem_take]
                    congr 1
                    exact (List.getElem?_eq_some_iff.mp he).2
                  rw [hda] at hx
                  rcases List.mem_cons.mp hx with rfl | hx
                  · exact Nat.le_of_lt (Nat.lt_of_not_le hc)
                  · exact hhi x hx
        refine q_aload_n d_Schema_arrange_10 rfl rfl ?_
        refine q_getR (ci := 6) (fk := 0) d_Schema_arrange_11 rfl (Nat.le_of_ble_eq_true rfl) w_92 (fun _ _ => rfl) hL.1 (hL.2 0 _ _ _ rfl).1 ?_
        refine q_iload_n d_Schema_arrange_14 rfl rfl ?_
        refine q_aaldR (kd := _) d_Schema_arrange_15 rfl (Nat.le_of_ble_eq_true rfl) (Nat.le_of_ble_eq_true rfl) (hL.2 0 _ _ _ rfl).2 (by first | assumption | exact vp_in_nI (by omega) (by omega)) (by first | assumption | rfl | (simp (disch := omega) only [q_upT_self, q_upT_ne, q_upR_self, q_upR_nea, q_upR_nk, q_upT_at, *]; done) | (simp (disch := omega) only [q_upT_self, q_upT_ne, q_upR_self, q_upR_nea, q_upR_nk, q_upT_at, *]; rfl)) ?_
        refine q_astore_n d_Schema_arrange_16 rfl (Nat.le_of_ble_eq_true rfl) (by first | exact q_ok0 | exact q_okI rfl | exact q_okR rfl | exact q_okN rfl) rfl ?_
        refine q_iload_n d_Schema_arrange_17 rfl rfl ?_
        refine q_istore_n d_Schema_arrange_18 rfl (Nat.le_of_ble_eq_true rfl) (by first | exact q_ok0 | exact q_okI rfl | exact q_okR rfl | exact q_okN rfl) rfl ?_
        refine inner i Ri (Nat.le_refl _) (fun b hb => rfl) (fun jj hjj => ?_) (fun e he => ?_)
        · rw [(hSi.1.2.1 jj hjj).1]
          unfold k_v
          by_cases h5 : jj ≤ i
          · rw [if_pos h5]
          · rw [if_neg h5, if_neg h5]
        · rw [List.drop_of_length_le (by rw [List.length_take]; omega)] at he
          cases he
  refine q_iconst (v := nI 1) d_Schema_arrange_0 (by decide) ?_
  refine q_istore_n d_Schema_arrange_1 rfl (Nat.le_of_ble_eq_true rfl) (by first | exact q_ok0 | exact q_okI rfl | exact q_okR rfl | exact q_okN rfl) rfl ?_
  refine loop L.length 1 R w L _ _ (by omega) (by omega) (fun b hb => rfl) hS (List.Perm.refl _) ?_
  unfold k_srt
  cases L with
  | nil => exact List.Pairwise.nil
  | cons f t => simp
end SchemaA
