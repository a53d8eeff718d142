/-! the law's loop, and its start -/
section LLoop
variable {g : q_G}
def q_Ops (g : q_G) (b x L : Nat) (f : Int32 → Int32) (Inv : q_Inv) : Prop := q_op_field g b x L f Inv ∧ q_op_begin g b x L f Inv ∧ q_op_primitive g b x L f Inv ∧ q_op_end g b x L f Inv ∧ q_op_leave g b x L f Inv ∧ q_op_about g b x L f Inv ∧ q_op_count g b x L f Inv ∧ q_op_record g b x L f Inv ∧ q_op_copy g b x L f Inv ∧ q_op_drop g b x L f Inv ∧ q_op_set g b x L f Inv ∧ q_op_put g b x L f Inv ∧ q_op_cut g b x L f Inv ∧ q_op_get g b x L f Inv ∧ q_op_size g b x L f Inv ∧ q_op_item g b x L f Inv ∧ q_op_version g b x L f Inv ∧ q_op_kept g b x L f Inv ∧ q_op_same g b x L f Inv ∧ q_op_translate g b x L f Inv ∧ q_op_route g b x L f Inv ∧ q_op_clash g b x L f Inv
theorem q_cmp6 {L d : Nat} (hL : L ≤ 3072) (hd : d ≤ 600) : (nI L - nI 6 < nI (6 * d)) ↔ L < 6 * d + 6 := by
  rw [Int32.lt_iff_toInt_lt, Int32.toInt_sub, nI_toInt (by omega), nI_toInt (by omega), nI_toInt (by omega), Int.bmod_eq_of_le (by omega) (by omega)]
  omega
theorem q_sw22 (x : Int) : (x < 0 ∨ 21 < x) ∨ x = 0 ∨ x = 1 ∨ x = 2 ∨ x = 3 ∨ x = 4 ∨ x = 5 ∨ x = 6 ∨ x = 7 ∨ x = 8 ∨ x = 9 ∨ x = 10 ∨ x = 11 ∨ x = 12 ∨ x = 13 ∨ x = 14 ∨ x = 15 ∨ x = 16 ∨ x = 17 ∨ x = 18 ∨ x = 19 ∨ x = 20 ∨ x = 21 := by omega
set_option maxHeartbeats 4000000 in
theorem q_loop {b x L : Nat} {f : Int32 → Int32} {Inv : q_Inv} (hNC : q_NC g) (hI : ∀ n sz T I R, Inv n sz T I R → q_Lw b x L f T I) (hmono : ∀ n sz T I R, Inv (n + 1) sz T I R → Inv n sz T I R) (hL : L ≤ 3072) (hops : q_Ops g b x L f Inv) :
    ∀ (left d c k sz : Nat) (T : q_T) (I : q_I) (R : q_R) (J : q_J) (l5 l6 : Option Value), 6 * (d + left) ≤ L → L < 6 * (d + left) + 6 → c + 1000 * left ≤ 601024 → k + 14000 * left ≤ 7293034 → Inv left sz T I R → q_V g M_Law_law 601024 7293034 c k (sz, T, I, R, J) q_LQ 23 [some (.ref b), some (.ref x), some (.ref (x + 83)), some (.ref (x + 113)), some (.int (nI (6 * d))), l5, l6] [] := by
  obtain ⟨h_field, h_begin, h_primitive, h_end, h_leave, h_about, h_count, h_record, h_copy, h_drop, h_set, h_put, h_cut, h_get, h_size, h_item, h_version, h_kept, h_same, h_translate, h_route, h_clash⟩ := hops
  intro left
  induction left with
  | zero =>
    intro d c k sz T I R J l5 l6 h1 h2 h3 h4 hi
    obtain ⟨hb, hf, hx, hm, ho⟩ := hI _ _ _ _ _ hi
    refine q_iload d_Law_law_23 rfl ?_
    refine q_aload_n d_Law_law_25 rfl rfl ?_
    refine q_alenX d_Law_law_26 (by assumption) ?_
    refine q_bipush (v := nI 6) d_Law_law_27 (by decide) ?_
    refine q_isub d_Law_law_29 ?_
    refine q_icmp_gt (tgt := 1554) d_Law_law_30 rfl (fun hc => ?_) (fun hc => ?_)
    · refine q_iconst (v := nI 1) d_Law_law_1554 (by decide) ?_
      refine q_zret d_Law_law_1555 rfl (by first | exact Or.inl rfl | exact Or.inr rfl | assumption) (by omega) (by omega) ?_
      rfl
    · exact absurd ((q_cmp6 hL (by omega)).mpr (by omega)) hc
  | succ n ih =>
    intro d c k sz T I R J l5 l6 h1 h2 h3 h4 hi
    obtain ⟨hb, hf, hx, hm, ho⟩ := hI _ _ _ _ _ hi
    have hcc : c + 1000 ≤ 601024 := Nat.le_trans (Nat.add_le_add_left (Nat.le_mul_of_pos_right 1000 (Nat.succ_pos n)) c) h3
    have hkk : k + 14000 ≤ 7293034 := Nat.le_trans (Nat.add_le_add_left (Nat.le_mul_of_pos_right 14000 (Nat.succ_pos n)) k) h4
    have hdd : 6 * d + 6 ≤ L := by omega
    have kk : ∀ sz T I R J v5 v6, Inv n sz T I R → q_V g M_Law_law 601024 7293034 (c + 1000) (k + 14000) (sz, T, I, R, J) q_LQ 1548 [some (.ref b), some (.ref x), some (.ref (x + 83)), some (.ref (x + 113)), some (.int (nI (6 * d))), v5, v6] [] := by
      intro sz T I R J v5 v6 hi2
      refine q_iinc (v := nI (6 * (d + 1))) d_Law_law_1548 rfl (by rw [show Int32.ofInt 6 = nI 6 by decide, nI_add]; congr 1) (Nat.le_of_ble_eq_true rfl) (by first | exact q_okR rfl) rfl ?_
      refine q_goto (tgt := 23) d_Law_law_1551 (by omega) ?_
      exact ih (d + 1) (c + 1000) (k + 14000) sz T I R J v5 v6 (by omega) (by omega) (by omega) (by omega) hi2
    have kd : q_V g M_Law_law 601024 7293034 c k (sz, T, I, R, J) q_LQ 1548 [some (.ref b), some (.ref x), some (.ref (x + 83)), some (.ref (x + 113)), some (.int (nI (6 * d))), l5, l6] [] := by
      have hi2 : Inv n sz T I R := hmono n sz T I R hi
      refine q_iinc (v := nI (6 * (d + 1))) d_Law_law_1548 rfl (by rw [show Int32.ofInt 6 = nI 6 by decide, nI_add]; congr 1) (Nat.le_of_ble_eq_true rfl) (by first | exact q_okR rfl) rfl ?_
      refine q_goto (tgt := 23) d_Law_law_1551 (by omega) ?_
      exact ih (d + 1) c k sz T I R J l5 l6 (by omega) (by omega) (by omega) (by omega) hi2
    refine q_iload d_Law_law_23 rfl ?_
    refine q_aload_n d_Law_law_25 rfl rfl ?_
    refine q_alenX d_Law_law_26 (by assumption) ?_
    refine q_bipush (v := nI 6) d_Law_law_27 (by decide) ?_
    refine q_isub d_Law_law_29 ?_
    refine q_icmp_gt (tgt := 1554) d_Law_law_30 rfl (fun hc => ?_) (fun hc => ?_)
    · exact absurd ((q_cmp6 hL (by omega)).mp hc) (by omega)
    · refine q_aload_n d_Law_law_33 rfl rfl ?_
      refine q_iload d_Law_law_34 rfl ?_
      refine q_ialdX d_Law_law_36 (by assumption) (by first | assumption | exact vp_in_nI (by omega) (by omega)) ?_
      refine q_bipush (v := nI 31) d_Law_law_37 (by decide) ?_
      refine q_iand d_Law_law_39 ?_
      rcases q_sw22 (I b (nI (6 * d)) &&& nI 31).toInt with hs | hs | hs | hs | hs | hs | hs | hs | hs | hs | hs | hs | hs | hs | hs | hs | hs | hs | hs | hs | hs | hs | hs
      · exact q_tableOut d_Law_law_40 hs (tgt := 1548) rfl kd
      · exact q_tableIn d_Law_law_40 (by rw [hs]; decide) (by rw [hs]; decide) (by rw [hs]; rfl) (tgt := 144) rfl (l_field h_field hNC hI hdd hL hi hcc hkk kk)
      · exact q_tableIn d_Law_law_40 (by rw [hs]; decide) (by rw [hs]; decide) (by rw [hs]; rfl) (tgt := 236) rfl (l_begin h_begin hNC hI hdd hL hi hcc hkk kk)
      · exact q_tableIn d_Law_law_40 (by rw [hs]; decide) (by rw [hs]; decide) (by rw [hs]; rfl) (tgt := 272) rfl (l_primitive h_primitive hNC hI hdd hL hi hcc hkk kk)
      · exact q_tableIn d_Law_law_40 (by rw [hs]; decide) (by rw [hs]; decide) (by rw [hs]; rfl) (tgt := 376) rfl (l_end h_end hNC hI hdd hL hi hcc hkk kk)
      · exact q_tableIn d_Law_law_40 (by rw [hs]; decide) (by rw [hs]; decide) (by rw [hs]; rfl) (tgt := 432) rfl (l_leave h_leave hNC hI hdd hL hi hcc hkk kk)
      · exact q_tableIn d_Law_law_40 (by rw [hs]; decide) (by rw [hs]; decide) (by rw [hs]; rfl) (tgt := 445) rfl (l_about h_about hNC hI hdd hL hi hcc hkk kk)
      · exact q_tableIn d_Law_law_40 (by rw [hs]; decide) (by rw [hs]; decide) (by rw [hs]; rfl) (tgt := 525) rfl (l_count h_count hNC hI hdd hL hi hcc hkk kk)
      · exact q_tableIn d_Law_law_40 (by rw [hs]; decide) (by rw [hs]; decide) (by rw [hs]; rfl) (tgt := 581) rfl (l_record h_record hNC hI hdd hL hi hcc hkk kk)
      · exact q_tableIn d_Law_law_40 (by rw [hs]; decide) (by rw [hs]; decide) (by rw [hs]; rfl) (tgt := 637) rfl (l_copy h_copy hNC hI hdd hL hi hcc hkk kk)
      · exact q_tableIn d_Law_law_40 (by rw [hs]; decide) (by rw [hs]; decide) (by rw [hs]; rfl) (tgt := 693) rfl (l_drop h_drop hNC hI hdd hL hi hcc hkk kk)
      · exact q_tableIn d_Law_law_40 (by rw [hs]; decide) (by rw [hs]; decide) (by rw [hs]; rfl) (tgt := 729) rfl (l_set h_set hNC hI hdd hL hi hcc hkk kk)
      · exact q_tableIn d_Law_law_40 (by rw [hs]; decide) (by rw [hs]; decide) (by rw [hs]; rfl) (tgt := 789) rfl (l_put h_put hNC hI hdd hL hi hcc hkk kk)
      · exact q_tableIn d_Law_law_40 (by rw [hs]; decide) (by rw [hs]; decide) (by rw [hs]; rfl) (tgt := 881) rfl (l_cut h_cut hNC hI hdd hL hi hcc hkk kk)
      · exact q_tableIn d_Law_law_40 (by rw [hs]; decide) (by rw [hs]; decide) (by rw [hs]; rfl) (tgt := 941) rfl (l_get h_get hNC hI hdd hL hi hcc hkk kk)
      · exact q_tableIn d_Law_law_40 (by rw [hs]; decide) (by rw [hs]; decide) (by rw [hs]; rfl) (tgt := 1009) rfl (l_size h_size hNC hI hdd hL hi hcc hkk kk)
      · exact q_tableIn d_Law_law_40 (by rw [hs]; decide) (by rw [hs]; decide) (by rw [hs]; rfl) (tgt := 1077) rfl (l_item h_item hNC hI hdd hL hi hcc hkk kk)
      · exact q_tableIn d_Law_law_40 (by rw [hs]; decide) (by rw [hs]; decide) (by rw [hs]; rfl) (tgt := 1157) rfl (l_version h_version hNC hI hdd hL hi hcc hkk kk)
      · exact q_tableIn d_Law_law_40 (by rw [hs]; decide) (by rw [hs]; decide) (by rw [hs]; rfl) (tgt := 1213) rfl (l_kept h_kept hNC hI hdd hL hi hcc hkk kk)
      · exact q_tableIn d_Law_law_40 (by rw [hs]; decide) (by rw [hs]; decide) (by rw [hs]; rfl) (tgt := 1269) rfl (l_same h_same hNC hI hdd hL hi hcc hkk kk)
      · exact q_tableIn d_Law_law_40 (by rw [hs]; decide) (by rw [hs]; decide) (by rw [hs]; rfl) (tgt := 1344) rfl (l_translate h_translate hNC hI hdd hL hi hcc hkk kk)
      · exact q_tableIn d_Law_law_40 (by rw [hs]; decide) (by rw [hs]; decide) (by rw [hs]; rfl) (tgt := 1412) rfl (l_route h_route hNC hI hdd hL hi hcc hkk kk)
      · exact q_tableIn d_Law_law_40 (by rw [hs]; decide) (by rw [hs]; decide) (by rw [hs]; rfl) (tgt := 1492) rfl (l_clash h_clash hNC hI hdd hL hi hcc hkk kk)
end LLoop
