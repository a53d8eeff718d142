/-! finding the route, the reference's side -/
section MRoute
variable {g : q_G} {sz m : Nat} {T : q_T} {I : q_I} {R : q_R} {J : q_J} {S : KA}
/-- what stays when a route is sought -/
def m_rt (m : Nat) (I I' : q_I) : Prop := (∀ b, b ≠ m → b ≠ m + 25 → b ≠ m + 26 → b ≠ m + 27 → I' b = I b) ∧ ∀ i, i ≠ nI 33 → I' m i = I m i
/-- the steps of a way -/
def k_sts (ss : List KS) (wo : Int32) (l : List Nat) (f : Int32 → Int32) : Prop := ∀ k u w s, l[k]? = some u → l[k + 1]? = some w → k_fst ss wo u w = some s → f (nI k) = nI s
theorem k_sts_list {ss : List KS} {wo : Int32} {l : List Nat} {f : Int32 → Int32} (h0 : l ≠ []) (hA : ∀ k u w, l[k]? = some u → l[k + 1]? = some w → k_A ss wo u w = true) (h : k_sts ss wo l f) : ∃ r : List Nat, r.length + 1 = l.length ∧ k_ar f r ∧ ∀ k u w, l[k]? = some u → l[k + 1]? = some w → k_fst ss wo u w = some (r.getD k 0) := by
  have hl : 0 < l.length := List.length_pos_iff.mpr h0
  refine ⟨(List.range (l.length - 1)).map (fun k => (k_fst ss wo (l.getD k 0) (l.getD (k + 1) 0)).getD 0), by rw [List.length_map, List.length_range]; omega, fun i v hv => ?_, fun k u w hu hw => ?_⟩
  · rw [List.getElem?_map] at hv
    cases hi : (List.range (l.length - 1))[i]? with
    | none => rw [hi] at hv; cases hv
    | some q =>
      have hil := (List.getElem?_eq_some_iff.mp hi).1
      rw [List.length_range] at hil
      rw [List.getElem?_range hil] at hi
      cases hi
      rw [List.getElem?_range hil] at hv
      have hu : l[i]? = some (l.getD i 0) := by rw [List.getD_eq_getElem?_getD, List.getElem?_eq_getElem (by omega)]; rfl
      have hw : l[i + 1]? = some (l.getD (i + 1) 0) := by rw [List.getD_eq_getElem?_getD, List.getElem?_eq_getElem (by omega)]; rfl
      have ha := hA i _ _ hu hw
      unfold k_A at ha
      cases hf : k_fst ss wo (l.getD i 0) (l.getD (i + 1) 0) with
      | none => rw [hf] at ha; cases ha
      | some s =>
        have hv2 : (k_fst ss wo (l.getD i 0) (l.getD (i + 1) 0)).getD 0 = v := Option.some.inj hv
        rw [hf] at hv2
        have : s = v := hv2
        rw [← this]
        exact h i _ _ s hu hw hf
  · have hk := (List.getElem?_eq_some_iff.mp hw).1
    have e1 : l.getD k 0 = u := by rw [List.getD_eq_getElem?_getD, hu]; rfl
    have e2 : l.getD (k + 1) 0 = w := by rw [List.getD_eq_getElem?_getD, hw]; rfl
    have ha := hA k _ _ hu hw
    unfold k_A at ha
    rw [List.getD_eq_getElem?_getD, List.getElem?_map, List.getElem?_range (by omega)]
    show k_fst ss wo u w = some ((k_fst ss wo (l.getD k 0) (l.getD (k + 1) 0)).getD 0)
    rw [e1, e2]
    cases hf : k_fst ss wo u w with
    | none => rw [hf] at ha; cases ha
    | some s => rfl
set_option maxHeartbeats 2000000 in
theorem c_Model_findRoute {n f t : Nat} {ss : List KS} (hL : q_L 11 t_Model m T R) (hS : m_ssv m ss I) (hn : I m (nI 1) = nI n) (h8 : n ≤ 8) (hf : f < n) (ht : t < n) (wo : Int32) : q_Ci g M_Model_findRoute [.ref m, .int (nI f), .int (nI t), .int wo] (sz, T, I, R, J) 0 0 (fun r h' => r = p_b (k_way (k_A ss wo) n f t).isSome ∧ ∃ I' : q_I, h' = (sz, T, I', R, J) ∧ m_rt m I I' ∧ ∀ l, k_way (k_A ss wo) n f t = some l → I' m (nI 33) = nI l.length ∧ k_ar (I' (m + 25)) l ∧ k_sts ss wo l (I' (m + 26))) := by
  obtain ⟨A, hA⟩ : ∃ A, A = k_A ss wo := ⟨_, rfl⟩
  obtain ⟨s0, hs0⟩ : ∃ s0, s0 = min f t := ⟨_, rfl⟩
  obtain ⟨gl, hgl⟩ : ∃ gl, gl = max f t := ⟨_, rfl⟩
  have hm1 : s0 < n := by omega
  have hm2 : gl < n := by omega
  have hwy : k_way A n f t = (k_far A n gl s0).map (fun d => if f ≤ t then k_wy A n gl d s0 else (k_wy A n gl d s0).reverse) := by unfold k_way; rw [← hs0, ← hgl]
  rw [← hA]
  have m33 : ∀ k : Nat, k < 33 → nI k ≠ nI 33 := fun k hk z => by have := q_nI_inj z; omega
  -- the end, from 163 on
  have fin : ∀ (I1 : q_I) (F : Nat → Nat) (mcc msc : Nat), mcc = 0 → msc = 0 → (∀ b, b ≠ m + 27 → I1 b = I b) → k_tb (I1 (m + 27)) n F → k_rgt A n gl 100 F → ∀ l6 l7 l8, q_V g M_Model_findRoute 0 0 mcc msc (sz, T, I1, R, J) (fun o h' => ∃ r : Int32, o = .inl (some (.int r)) ∧ (r = p_b (k_way A n f t).isSome ∧ ∃ I' : q_I, h' = (sz, T, I', R, J) ∧ m_rt m I I' ∧ ∀ l, k_way A n f t = some l → I' m (nI 33) = nI l.length ∧ k_ar (I' (m + 25)) l ∧ k_sts ss wo l (I' (m + 26)))) 163 [some (.ref m), some (.int (nI f)), some (.int (nI t)), some (.int wo), some (.int (nI s0)), some (.int (nI gl)), l6, l7, l8] [] := by
    intro I1 F mcc msc e1 e2 i1 i2 i3 l6 l7 l8
    subst e1 e2
    refine q_aload_n d_Model_findRoute_163 rfl rfl ?_
    refine q_getR (ci := 11) (fk := 36) d_Model_findRoute_164 rfl (Nat.le_of_ble_eq_true rfl) w_1140 (fun _ _ => rfl) hL.1 (hL.2 36 _ _ _ rfl).1 ?_
    refine q_iload d_Model_findRoute_167 rfl ?_
    refine q_iald d_Model_findRoute_169 (hL.2 36 _ _ _ rfl).2 (by first | assumption | exact vp_in_nI (by omega) (by omega)) ?_
    rw [i2 s0 hm1, i3 s0 hm1, hwy]
    cases hfar : k_far A n gl s0 with
    | none =>
      rw [show (none : Option Nat).getD 100 = 100 from rfl]
      refine q_bipush (v := nI 100) d_Model_findRoute_170 (by decide) ?_
      refine q_icmp_lt (tgt := 177) d_Model_findRoute_172 rfl (fun hc => ?_) (fun hc => ?_)
      · exact absurd hc (by decide)
      refine q_iconst (v := nI 0) d_Model_findRoute_175 (by decide) ?_
      refine q_zret d_Model_findRoute_176 rfl (by first | exact Or.inl rfl | exact Or.inr rfl | assumption) (by omega) (by omega) ?_
      exact ⟨_, rfl, rfl, I1, rfl, ⟨fun b b1 b2 b3 b4 => i1 b b4, fun i hi => by rw [i1 m (by omega)]⟩, fun l hl => by cases hl⟩
    | some d =>
      obtain ⟨d1, -⟩ := k_far_ball hfar
      obtain ⟨o1, o2⟩ := k_wy_ok hm2 d s0 hm1 hfar
      have hlen := k_wy_len A n gl d s0
      rw [show (some d).getD 100 = d from rfl]
      obtain ⟨l, hl⟩ : ∃ l, l = k_wy A n gl d s0 := ⟨_, rfl⟩
      rw [← hl] at o1 o2 hlen
      have last : ∀ (I2 : q_I) (mcc msc : Nat), mcc = 0 → msc = 0 → m_rt m I I2 → I2 m (nI 33) = nI l.length → k_ar (I2 (m + 25)) l → k_sts ss wo l (I2 (m + 26)) → ∀ l6 l7 l8, q_V g M_Model_findRoute 0 0 mcc msc (sz, T, I2, R, J) (fun o h' => ∃ r : Int32, o = .inl (some (.int r)) ∧ (r = p_b ((some d).map (fun d => if f ≤ t then k_wy A n gl d s0 else (k_wy A n gl d s0).reverse)).isSome ∧ ∃ I' : q_I, h' = (sz, T, I', R, J) ∧ m_rt m I I' ∧ ∀ l, (some d).map (fun d => if f ≤ t then k_wy A n gl d s0 else (k_wy A n gl d s0).reverse) = some l → I' m (nI 33) = nI l.length ∧ k_ar (I' (m + 25)) l ∧ k_sts ss wo l (I' (m + 26)))) 303 [some (.ref m), some (.int (nI f)), some (.int (nI t)), some (.int wo), some (.int (nI s0)), some (.int (nI gl)), l6, l7, l8] [] := by
        intro I2 mcc msc e1 e2 p1 p2 p3 p4 l6 l7 l8
        subst e1 e2
        by_cases hft : f ≤ t
        · refine q_iload_n d_Model_findRoute_303 rfl rfl ?_
          refine q_iload_n d_Model_findRoute_304 rfl rfl ?_
          refine q_icmp_le (tgt := 312) d_Model_findRoute_305 rfl (fun hc => ?_) (fun hc => ?_)
          rotate_left
          · exact absurd (by rw [nI_leI (by omega) (by omega)]; exact hft) hc
          refine q_iconst (v := nI 1) d_Model_findRoute_312 (by decide) ?_
          refine q_zret d_Model_findRoute_313 rfl (by first | exact Or.inl rfl | exact Or.inr rfl | assumption) (by omega) (by omega) ?_
          refine ⟨_, rfl, rfl, I2, rfl, p1, fun l9 hl9 => ?_⟩
          have : (if f ≤ t then k_wy A n gl d s0 else (k_wy A n gl d s0).reverse) = l9 := Option.some.inj hl9
          rw [if_pos hft, ← hl] at this
          rw [← this]
          exact ⟨p2, p3, p4⟩
        · refine q_iload_n d_Model_findRoute_303 rfl rfl ?_
          refine q_iload_n d_Model_findRoute_304 rfl rfl ?_
          refine q_icmp_le (tgt := 312) d_Model_findRoute_305 rfl (fun hc => ?_) (fun hc => ?_)
          · rw [nI_leI (by omega) (by omega)] at hc
            omega
          obtain ⟨r, r1, r2, r3⟩ := k_sts_list (by intro z; rw [z] at hlen; cases hlen) (fun k u w hu hw => by rw [← hA]; exact (o2 k u w hu hw).1) p4
          refine q_aload_n d_Model_findRoute_308 rfl rfl ?_
          refine q_callVv (M2 := M_Model_turnRoute) d_Model_findRoute_309 ⟨(Nat.le_of_ble_eq_true rfl), (Nat.le_of_ble_eq_true rfl), w_1485, w_10, ⟨by decide, by decide⟩, show _ = some 0 by decide +kernel⟩ w_1482 w_1484 (ci := 11) rfl s_80 hL.1 rfl (Nat.le_of_ble_eq_true rfl) (by omega) (by omega) (c_Model_turnRoute hL p2 r1 (by omega) p3 r2) ?_
          rintro _ ⟨I3, rfl, j1, j2, j3⟩
          refine q_iconst (v := nI 1) d_Model_findRoute_312 (by decide) ?_
          refine q_zret d_Model_findRoute_313 rfl (by first | exact Or.inl rfl | exact Or.inr rfl | assumption) (by omega) (by omega) ?_
          refine ⟨_, rfl, rfl, I3, rfl, ⟨fun b b1 b2 b3 b4 => by rw [j1 b b2 b3, p1.1 b b1 b2 b3 b4], fun i hi => by rw [j1 m (by omega) (by omega), p1.2 i hi]⟩, fun l9 hl9 => ?_⟩
          have : (if f ≤ t then k_wy A n gl d s0 else (k_wy A n gl d s0).reverse) = l9 := Option.some.inj hl9
          rw [if_neg hft, ← hl] at this
          rw [← this]
          refine ⟨by rw [j1 m (by omega) (by omega), p2, List.length_reverse], j2, fun k u w s hu hw hs => ?_⟩
          have hk := (List.getElem?_eq_some_iff.mp hw).1
          rw [List.length_reverse] at hk
          rw [List.getElem?_reverse (by omega)] at hu hw
          have h9 := r3 (l.length - 1 - (k + 1)) w u hw (by rw [show l.length - 1 - (k + 1) + 1 = l.length - 1 - k by omega]; exact hu)
          rw [k_fst_sym, h9] at hs
          have hrk : r.reverse[k]? = some s := by
            rw [List.getElem?_reverse (by omega), show r.length - 1 - k = l.length - 1 - (k + 1) by omega]
            rw [← Option.some.inj hs, List.getD_eq_getElem?_getD, List.getElem?_eq_getElem (by omega)]
            rfl
          exact j3 k s hrk
      have loop : ∀ (j q : Nat) (I2 : q_I) (mcc msc : Nat), mcc = 0 → msc = 0 → q + j = d → (∀ b, b ≠ m → b ≠ m + 25 → b ≠ m + 26 → I2 b = I1 b) → (∀ i, i ≠ nI 33 → I2 m i = I m i) → I2 m (nI 33) = nI (q + 1) → (∀ i v, i ≤ q → l[i]? = some v → I2 (m + 25) (nI i) = nI v) → (∀ k u w s, k < q → l[k]? = some u → l[k + 1]? = some w → k_fst ss wo u w = some s → I2 (m + 26) (nI k) = nI s) → ∀ l6 l7 l8, q_V g M_Model_findRoute 0 0 mcc msc (sz, T, I2, R, J) (fun o h' => ∃ r : Int32, o = .inl (some (.int r)) ∧ (r = p_b ((some d).map (fun d => if f ≤ t then k_wy A n gl d s0 else (k_wy A n gl d s0).reverse)).isSome ∧ ∃ I' : q_I, h' = (sz, T, I', R, J) ∧ m_rt m I I' ∧ ∀ l, (some d).map (fun d => if f ≤ t then k_wy A n gl d s0 else (k_wy A n gl d s0).reverse) = some l → I' m (nI 33) = nI l.length ∧ k_ar (I' (m + 25)) l ∧ k_sts ss wo l (I' (m + 26)))) 190 [some (.ref m), some (.int (nI f)), some (.int (nI t)), some (.int wo), some (.int (nI s0)), some (.int (nI gl)), l6, l7, l8] [] := by
        intro j
        induction j with
        | zero =>
          intro q I2 mcc msc e1 e2 hq p1 p2 p3 p4 p5 l6 l7 l8
          subst e1 e2
          obtain rfl : q = d := by omega
          obtain ⟨u, hu⟩ : ∃ u, l[q]? = some u := ⟨_, List.getElem?_eq_getElem (by omega)⟩
          obtain ⟨u1, u2⟩ := o1 q u hu
          rw [Nat.sub_self] at u2
          have hug := (k_far0 hm2).mp u2
          refine q_aload_n d_Model_findRoute_190 rfl rfl ?_
          refine q_getR (ci := 11) (fk := 34) d_Model_findRoute_191 rfl (Nat.le_of_ble_eq_true rfl) w_1138 (fun _ _ => rfl) hL.1 (hL.2 34 _ _ _ rfl).1 ?_
          refine q_aload_n d_Model_findRoute_194 rfl rfl ?_
          refine q_getI (ci := 11) (fk := 33) d_Model_findRoute_195 rfl (Nat.le_of_ble_eq_true rfl) w_1137 (fun _ _ => rfl) hL.1 ?_
          rw [p3]
          refine q_iconst (v := nI 1) d_Model_findRoute_198 (by decide) ?_
          refine q_isub d_Model_findRoute_199 ?_
          rw [nI_sb q 1]
          refine q_iald d_Model_findRoute_200 (hL.2 34 _ _ _ rfl).2 (by first | assumption | exact vp_in_nI (by omega) (by omega)) ?_
          rw [p4 q u (Nat.le_refl _) hu, hug]
          refine q_iload d_Model_findRoute_201 rfl ?_
          refine q_icmp_eq (tgt := 303) d_Model_findRoute_203 rfl (fun hc => ?_) (fun hc => ?_)
          · exact last I2 _ _ rfl rfl ⟨fun b b1 b2 b3 b4 => by rw [p1 b b1 b2 b3, i1 b b4], p2⟩ (by rw [p3, hlen]) (fun i v hv => p4 i v (by
              have := (List.getElem?_eq_some_iff.mp hv).1
              omega) hv) (fun k u w s hu hw hs => p5 k u w s (by
              have := (List.getElem?_eq_some_iff.mp hw).1
              omega) hu hw hs) _ _ _
          · exact absurd rfl hc
        | succ j ih =>
          intro q I2 mcc msc e1 e2 hq p1 p2 p3 p4 p5 l6 l7 l8
          subst e1 e2
          obtain ⟨u, hu⟩ : ∃ u, l[q]? = some u := ⟨_, List.getElem?_eq_getElem (by omega)⟩
          obtain ⟨w, hw⟩ : ∃ w, l[q + 1]? = some w := ⟨_, List.getElem?_eq_getElem (by omega)⟩
          obtain ⟨u1, u2⟩ := o1 q u hu
          obtain ⟨w1, w2⟩ := o1 (q + 1) w hw
          obtain ⟨-, u3⟩ := o2 q u w hu hw
          obtain ⟨e, he⟩ : ∃ e, d - q = e + 1 := ⟨d - q - 1, by omega⟩
          rw [he] at u2
          rw [show d - q - 1 = e by omega] at u3
          have hug : ¬ u = gl := fun z => by
            rw [(k_far0 hm2).mpr z] at u2
            cases u2
          have hFu : F u = e + 1 := (k_rgt_is i3 (by omega) u1).mpr u2
          have hS2 : m_ssv m ss I2 := hS.cong (p2 _ (m33 8 (by omega))) (by rw [p1 (m + 6) (by omega) (by omega) (by omega), i1 (m + 6) (by omega)]) (by rw [p1 (m + 7) (by omega) (by omega) (by omega), i1 (m + 7) (by omega)])
          have h27 : I2 (m + 27) = I1 (m + 27) := p1 (m + 27) (by omega) (by omega) (by omega)
          obtain ⟨-, x2, x3, x4⟩ := k_lst_some u3
          have seek : ∀ (j2 v mcc msc : Nat), mcc = 0 → msc = 0 → v + j2 = w → ∀ l8, q_V g M_Model_findRoute 0 0 mcc msc (sz, T, I2, R, J) (fun o h' => ∃ r : Int32, o = .inl (some (.int r)) ∧ (r = p_b ((some d).map (fun d => if f ≤ t then k_wy A n gl d s0 else (k_wy A n gl d s0).reverse)).isSome ∧ ∃ I' : q_I, h' = (sz, T, I', R, J) ∧ m_rt m I I' ∧ ∀ l, (some d).map (fun d => if f ≤ t then k_wy A n gl d s0 else (k_wy A n gl d s0).reverse) = some l → I' m (nI 33) = nI l.length ∧ k_ar (I' (m + 25)) l ∧ k_sts ss wo l (I' (m + 26)))) 222 [some (.ref m), some (.int (nI f)), some (.int (nI t)), some (.int wo), some (.int (nI s0)), some (.int (nI gl)), some (.int (nI u)), some (.int (nI v)), l8] [] := by
            intro j2
            induction j2 with
            | zero =>
              intro v mcc msc e1 e2 hv l8
              subst e1 e2
              obtain rfl : v = w := by omega
              rw [Bool.and_eq_true, decide_eq_true_iff] at x3
              have hFw : F v = e := (k_rgt_is i3 (by omega) w1).mpr x3.2
              have hAw := x3.1
              rw [hA] at hAw
              unfold k_A at hAw
              cases hfs : k_fst ss wo u v with
              | none => rw [hfs] at hAw; cases hAw
              | some s =>
                have hs16 := k_fst_lt hfs
                have := hS.2.1
                refine q_aload_n d_Model_findRoute_222 rfl rfl ?_
                refine q_iload d_Model_findRoute_223 rfl ?_
                refine q_iload d_Model_findRoute_225 rfl ?_
                refine q_iload_n d_Model_findRoute_227 rfl rfl ?_
                refine q_callVi (M2 := M_Model_between) d_Model_findRoute_228 ⟨(Nat.le_of_ble_eq_true rfl), (Nat.le_of_ble_eq_true rfl), w_1481, w_10, ⟨by decide, by decide⟩, show _ = some 3 by decide +kernel⟩ w_1478 w_1480 (ci := 11) rfl s_79 hL.1 rfl (Nat.le_of_ble_eq_true rfl) (by omega) (by omega) (c_Model_between hL hS2 (by omega) (by omega) wo) ?_
                rintro _ _ ⟨rfl, rfl⟩
                rw [hfs]
                refine q_if_lt (tgt := 253) d_Model_findRoute_231 rfl (fun hc => ?_) (fun hc => ?_)
                · exact absurd hc (show ¬ nI s < 0 from nI_pos (by omega))
                refine q_aload_n d_Model_findRoute_234 rfl rfl ?_
                refine q_getR (ci := 11) (fk := 36) d_Model_findRoute_235 rfl (Nat.le_of_ble_eq_true rfl) w_1140 (fun _ _ => rfl) hL.1 (hL.2 36 _ _ _ rfl).1 ?_
                refine q_iload d_Model_findRoute_238 rfl ?_
                refine q_iald d_Model_findRoute_240 (hL.2 36 _ _ _ rfl).2 (by first | assumption | exact vp_in_nI (by omega) (by omega)) ?_
                rw [h27, i2 v w1, hFw]
                refine q_aload_n d_Model_findRoute_241 rfl rfl ?_
                refine q_getR (ci := 11) (fk := 36) d_Model_findRoute_242 rfl (Nat.le_of_ble_eq_true rfl) w_1140 (fun _ _ => rfl) hL.1 (hL.2 36 _ _ _ rfl).1 ?_
                refine q_iload d_Model_findRoute_245 rfl ?_
                refine q_iald d_Model_findRoute_247 (hL.2 36 _ _ _ rfl).2 (by first | assumption | exact vp_in_nI (by omega) (by omega)) ?_
                rw [h27, i2 u u1, hFu]
                refine q_iconst (v := nI 1) d_Model_findRoute_248 (by decide) ?_
                refine q_isub d_Model_findRoute_249 ?_
                rw [nI_sb e 1]
                refine q_icmp_eq (tgt := 259) d_Model_findRoute_250 rfl (fun hc => ?_) (fun hc => ?_)
                rotate_left
                · exact absurd rfl hc
                refine q_aload_n d_Model_findRoute_259 rfl rfl ?_
                refine q_getR (ci := 11) (fk := 35) d_Model_findRoute_260 rfl (Nat.le_of_ble_eq_true rfl) w_1139 (fun _ _ => rfl) hL.1 (hL.2 35 _ _ _ rfl).1 ?_
                refine q_aload_n d_Model_findRoute_263 rfl rfl ?_
                refine q_getI (ci := 11) (fk := 33) d_Model_findRoute_264 rfl (Nat.le_of_ble_eq_true rfl) w_1137 (fun _ _ => rfl) hL.1 ?_
                rw [p3]
                refine q_iconst (v := nI 1) d_Model_findRoute_267 (by decide) ?_
                refine q_isub d_Model_findRoute_268 ?_
                rw [nI_sb q 1]
                refine q_aload_n d_Model_findRoute_269 rfl rfl ?_
                refine q_iload d_Model_findRoute_270 rfl ?_
                refine q_iload d_Model_findRoute_272 rfl ?_
                refine q_iload_n d_Model_findRoute_274 rfl rfl ?_
                refine q_callVi (M2 := M_Model_between) d_Model_findRoute_275 ⟨(Nat.le_of_ble_eq_true rfl), (Nat.le_of_ble_eq_true rfl), w_1481, w_10, ⟨by decide, by decide⟩, show _ = some 3 by decide +kernel⟩ w_1478 w_1480 (ci := 11) rfl s_79 hL.1 rfl (Nat.le_of_ble_eq_true rfl) (by omega) (by omega) (c_Model_between hL hS2 (by omega) (by omega) wo) ?_
                rintro _ _ ⟨rfl, rfl⟩
                rw [hfs, show p_idx (some s) = nI s from rfl]
                refine q_iast d_Model_findRoute_278 (hL.2 35 _ _ _ rfl).2 (by first | assumption | exact vp_in_nI (by omega) (by omega)) ?_
                refine q_aload_n d_Model_findRoute_279 rfl rfl ?_
                refine q_getR (ci := 11) (fk := 34) d_Model_findRoute_280 rfl (Nat.le_of_ble_eq_true rfl) w_1138 (fun _ _ => rfl) hL.1 (hL.2 34 _ _ _ rfl).1 ?_
                refine q_aload_n d_Model_findRoute_283 rfl rfl ?_
                refine q_getI (ci := 11) (fk := 33) d_Model_findRoute_284 rfl (Nat.le_of_ble_eq_true rfl) w_1137 (fun _ _ => rfl) hL.1 ?_
                rw [q_upI_nea (by omega), p3]
                refine q_iload d_Model_findRoute_287 rfl ?_
                refine q_iast d_Model_findRoute_289 (hL.2 34 _ _ _ rfl).2 (by first | assumption | exact vp_in_nI (by omega) (by omega)) ?_
                refine q_aload_n d_Model_findRoute_290 rfl rfl ?_
                refine q_dup d_Model_findRoute_291 rfl ?_
                refine q_getI (ci := 11) (fk := 33) d_Model_findRoute_292 rfl (Nat.le_of_ble_eq_true rfl) w_1137 (fun _ _ => rfl) hL.1 ?_
                rw [q_upI_nea (by omega), q_upI_nea (by omega), p3]
                refine q_iconst (v := nI 1) d_Model_findRoute_295 (by decide) ?_
                first | refine q_iaddN d_Model_findRoute_296 ?_ | refine q_iadd d_Model_findRoute_296 ?_
                refine q_putI (ci := 11) (fk := 33) d_Model_findRoute_297 rfl (Nat.le_of_ble_eq_true rfl) w_1137 (Or.inl rfl) (fun _ _ => rfl) rfl rfl hL.1 ?_
                refine q_goto (tgt := 190) d_Model_findRoute_300 rfl ?_
                refine ih (q + 1) _ _ _ rfl rfl (by omega) (fun b b1 b2 b3 => by funext z; rw [q_upI_nea b1, q_upI_nea b2, q_upI_nea b3, p1 b b1 b2 b3]) (fun i hi => by rw [q_upI_nei hi, q_upI_nea (by omega), q_upI_nea (by omega), p2 i hi]) (by rw [q_upI_self]) (fun i v9 hi hv9 => ?_) (fun k u9 w9 s9 hk hu9 hw9 hs9 => ?_) _ _ _
                · rw [q_upI_nea (by omega)]
                  by_cases hiq : i = q + 1
                  · subst hiq
                    obtain rfl : v = v9 := Option.some.inj (hw.symm.trans hv9)
                    rw [q_upI_self]
                  · rw [q_upI_nk (by omega), q_upI_nea (by omega)]
                    exact p4 i v9 (by omega) hv9
                · rw [q_upI_nea (by omega), q_upI_nea (by omega)]
                  by_cases hkq : k = q
                  · subst hkq
                    obtain rfl : u = u9 := Option.some.inj (hu.symm.trans hu9)
                    obtain rfl : v = w9 := Option.some.inj (hw.symm.trans hw9)
                    rw [q_upI_self]
                    rw [hfs] at hs9
                    exact congrArg nI (Option.some.inj hs9)
                  · rw [q_upI_nk (by omega)]
                    exact p5 k u9 w9 s9 (by omega) hu9 hw9 hs9
            | succ j2 ih2 =>
              intro v mcc msc e1 e2 hv l8
              subst e1 e2
              have hno := x4 v (by omega) (by omega)
              have next : ∀ mcc msc : Nat, mcc = 0 → msc = 0 → ∀ l8, q_V g M_Model_findRoute 0 0 mcc msc (sz, T, I2, R, J) (fun o h' => ∃ r : Int32, o = .inl (some (.int r)) ∧ (r = p_b ((some d).map (fun d => if f ≤ t then k_wy A n gl d s0 else (k_wy A n gl d s0).reverse)).isSome ∧ ∃ I' : q_I, h' = (sz, T, I', R, J) ∧ m_rt m I I' ∧ ∀ l, (some d).map (fun d => if f ≤ t then k_wy A n gl d s0 else (k_wy A n gl d s0).reverse) = some l → I' m (nI 33) = nI l.length ∧ k_ar (I' (m + 25)) l ∧ k_sts ss wo l (I' (m + 26)))) 253 [some (.ref m), some (.int (nI f)), some (.int (nI t)), some (.int wo), some (.int (nI s0)), some (.int (nI gl)), some (.int (nI u)), some (.int (nI v)), l8] [] := by
                intro mcc msc e1 e2 l8
                subst e1 e2
                first | refine q_iincN d_Model_findRoute_253 rfl (Nat.le_of_ble_eq_true rfl) (by first | exact q_ok0 | exact q_okI rfl | exact q_okR rfl | exact q_okN rfl) rfl ?_ | refine q_iinc d_Model_findRoute_253 rfl rfl (Nat.le_of_ble_eq_true rfl) (by first | exact q_ok0 | exact q_okI rfl | exact q_okR rfl | exact q_okN rfl) rfl ?_
                refine q_goto (tgt := 222) d_Model_findRoute_256 rfl ?_
                exact ih2 (v + 1) _ _ rfl rfl (by omega) l8
              have hFv2 : F v < 2 ^ 31 := by
                rw [i3 v (by omega)]
                cases hfv : k_far A n gl v with
                | none => show 100 < 2 ^ 31; omega
                | some e => have := (k_far_ball hfv).1; show e < 2 ^ 31; omega
              refine q_aload_n d_Model_findRoute_222 rfl rfl ?_
              refine q_iload d_Model_findRoute_223 rfl ?_
              refine q_iload d_Model_findRoute_225 rfl ?_
              refine q_iload_n d_Model_findRoute_227 rfl rfl ?_
              refine q_callVi (M2 := M_Model_between) d_Model_findRoute_228 ⟨(Nat.le_of_ble_eq_true rfl), (Nat.le_of_ble_eq_true rfl), w_1481, w_10, ⟨by decide, by decide⟩, show _ = some 3 by decide +kernel⟩ w_1478 w_1480 (ci := 11) rfl s_79 hL.1 rfl (Nat.le_of_ble_eq_true rfl) (by omega) (by omega) (c_Model_between hL hS2 (by omega) (by omega) wo) ?_
              rintro _ _ ⟨rfl, rfl⟩
              cases hfs : k_fst ss wo u v with
              | none =>
                refine q_if_lt (tgt := 253) d_Model_findRoute_231 rfl (fun hc => ?_) (fun hc => ?_)
                · exact next _ _ rfl rfl _
                · exact absurd (show p_idx none < 0 by decide) hc
              | some s =>
                have hs16 := k_fst_lt hfs
                have := hS.2.1
                refine q_if_lt (tgt := 253) d_Model_findRoute_231 rfl (fun hc => ?_) (fun hc => ?_)
                · exact absurd hc (show ¬ nI s < 0 from nI_pos (by omega))
                have hAv : A u v = true := by rw [hA]; unfold k_A; rw [hfs]; rfl
                rw [hAv, Bool.true_and, decide_eq_false_iff_not] at hno
                have hFv : ¬ F v = e := fun z => hno ((k_rgt_is i3 (by omega) (by omega)).mp z)
                refine q_aload_n d_Model_findRoute_234 rfl rfl ?_
                refine q_getR (ci := 11) (fk := 36) d_Model_findRoute_235 rfl (Nat.le_of_ble_eq_true rfl) w_1140 (fun _ _ => rfl) hL.1 (hL.2 36 _ _ _ rfl).1 ?_
                refine q_iload d_Model_findRoute_238 rfl ?_
                refine q_iald d_Model_findRoute_240 (hL.2 36 _ _ _ rfl).2 (by first | assumption | exact vp_in_nI (by omega) (by omega)) ?_
                rw [h27, i2 v (by omega)]
                refine q_aload_n d_Model_findRoute_241 rfl rfl ?_
                refine q_getR (ci := 11) (fk := 36) d_Model_findRoute_242 rfl (Nat.le_of_ble_eq_true rfl) w_1140 (fun _ _ => rfl) hL.1 (hL.2 36 _ _ _ rfl).1 ?_
                refine q_iload d_Model_findRoute_245 rfl ?_
                refine q_iald d_Model_findRoute_247 (hL.2 36 _ _ _ rfl).2 (by first | assumption | exact vp_in_nI (by omega) (by omega)) ?_
                rw [h27, i2 u u1, hFu]
                refine q_iconst (v := nI 1) d_Model_findRoute_248 (by decide) ?_
                refine q_isub d_Model_findRoute_249 ?_
                rw [nI_sb e 1]
                refine q_icmp_eq (tgt := 259) d_Model_findRoute_250 rfl (fun hc => ?_) (fun hc => ?_)
                · exact absurd ((nI_eq hFv2 (by omega)).mp hc) hFv
                · exact next _ _ rfl rfl _
          refine q_aload_n d_Model_findRoute_190 rfl rfl ?_
          refine q_getR (ci := 11) (fk := 34) d_Model_findRoute_191 rfl (Nat.le_of_ble_eq_true rfl) w_1138 (fun _ _ => rfl) hL.1 (hL.2 34 _ _ _ rfl).1 ?_
          refine q_aload_n d_Model_findRoute_194 rfl rfl ?_
          refine q_getI (ci := 11) (fk := 33) d_Model_findRoute_195 rfl (Nat.le_of_ble_eq_true rfl) w_1137 (fun _ _ => rfl) hL.1 ?_
          rw [p3]
          refine q_iconst (v := nI 1) d_Model_findRoute_198 (by decide) ?_
          refine q_isub d_Model_findRoute_199 ?_
          rw [nI_sb q 1]
          refine q_iald d_Model_findRoute_200 (hL.2 34 _ _ _ rfl).2 (by first | assumption | exact vp_in_nI (by omega) (by omega)) ?_
          rw [p4 q u (Nat.le_refl _) hu]
          refine q_iload d_Model_findRoute_201 rfl ?_
          refine q_icmp_eq (tgt := 303) d_Model_findRoute_203 rfl (fun hc => ?_) (fun hc => ?_)
          · exact absurd ((nI_eq (by omega) (by omega)).mp hc) hug
          refine q_aload_n d_Model_findRoute_206 rfl rfl ?_
          refine q_getR (ci := 11) (fk := 34) d_Model_findRoute_207 rfl (Nat.le_of_ble_eq_true rfl) w_1138 (fun _ _ => rfl) hL.1 (hL.2 34 _ _ _ rfl).1 ?_
          refine q_aload_n d_Model_findRoute_210 rfl rfl ?_
          refine q_getI (ci := 11) (fk := 33) d_Model_findRoute_211 rfl (Nat.le_of_ble_eq_true rfl) w_1137 (fun _ _ => rfl) hL.1 ?_
          rw [p3]
          refine q_iconst (v := nI 1) d_Model_findRoute_214 (by decide) ?_
          refine q_isub d_Model_findRoute_215 ?_
          rw [nI_sb q 1]
          refine q_iald d_Model_findRoute_216 (hL.2 34 _ _ _ rfl).2 (by first | assumption | exact vp_in_nI (by omega) (by omega)) ?_
          rw [p4 q u (Nat.le_refl _) hu]
          refine q_istore d_Model_findRoute_217 (Nat.le_of_ble_eq_true rfl) (by first | exact q_ok0 | exact q_okI rfl | exact q_okR rfl | exact q_okN rfl) rfl ?_
          refine q_iconst (v := nI 0) d_Model_findRoute_219 (by decide) ?_
          refine q_istore d_Model_findRoute_220 (Nat.le_of_ble_eq_true rfl) (by first | exact q_ok0 | exact q_okI rfl | exact q_okR rfl | exact q_okN rfl) rfl ?_
          exact seek w 0 _ _ rfl rfl (by omega) _
      refine q_bipush (v := nI 100) d_Model_findRoute_170 (by decide) ?_
      refine q_icmp_lt (tgt := 177) d_Model_findRoute_172 rfl (fun hc => ?_) (fun hc => ?_)
      rotate_left
      · exact absurd (nI_lt (show d < 100 by omega) (by omega)) hc
      refine q_aload_n d_Model_findRoute_177 rfl rfl ?_
      refine q_iconst (v := nI 1) d_Model_findRoute_178 (by decide) ?_
      refine q_putI (ci := 11) (fk := 33) d_Model_findRoute_179 rfl (Nat.le_of_ble_eq_true rfl) w_1137 (Or.inl rfl) (fun _ _ => rfl) rfl rfl hL.1 ?_
      refine q_aload_n d_Model_findRoute_182 rfl rfl ?_
      refine q_getR (ci := 11) (fk := 34) d_Model_findRoute_183 rfl (Nat.le_of_ble_eq_true rfl) w_1138 (fun _ _ => rfl) hL.1 (hL.2 34 _ _ _ rfl).1 ?_
      refine q_iconst (v := nI 0) d_Model_findRoute_186 (by decide) ?_
      refine q_iload d_Model_findRoute_187 rfl ?_
      refine q_iast d_Model_findRoute_189 (hL.2 34 _ _ _ rfl).2 (by first | assumption | exact vp_in_nI (by omega) (by omega)) ?_
      refine loop d 0 _ _ _ rfl rfl (by omega) (fun b b1 b2 b3 => by funext z; rw [q_upI_nea b2, q_upI_nea b1]) (fun i hi => by rw [q_upI_nea (by omega), q_upI_nei hi, i1 m (by omega)]) (by rw [q_upI_nea (by omega), q_upI_self]) (fun i v hi hv => ?_) (fun k u w s hk => absurd hk (Nat.not_lt_zero _)) _ _ _
      obtain rfl : i = 0 := by omega
      rw [hl, k_wy_hd] at hv
      cases hv
      rw [q_upI_self]
  -- the rounds
  have rounds : ∀ (j r : Nat) (I2 : q_I) (F : Nat → Nat) (mcc msc : Nat), mcc = 0 → msc = 0 → r + j = n → (∀ b, b ≠ m + 27 → I2 b = I b) → k_tb (I2 (m + 27)) n F → k_lo A n gl 100 F → k_hi A n gl r F → ∀ l7 l8, q_V g M_Model_findRoute 0 0 mcc msc (sz, T, I2, R, J) (fun o h' => ∃ r : Int32, o = .inl (some (.int r)) ∧ (r = p_b (k_way A n f t).isSome ∧ ∃ I' : q_I, h' = (sz, T, I', R, J) ∧ m_rt m I I' ∧ ∀ l, k_way A n f t = some l → I' m (nI 33) = nI l.length ∧ k_ar (I' (m + 25)) l ∧ k_sts ss wo l (I' (m + 26)))) 65 [some (.ref m), some (.int (nI f)), some (.int (nI t)), some (.int wo), some (.int (nI s0)), some (.int (nI gl)), some (.int (nI r)), l7, l8] [] := by
    intro j
    induction j with
    | zero =>
      intro r I2 F mcc msc e1 e2 hr p1 p2 p3 p4 l7 l8
      subst e1 e2
      refine q_iload d_Model_findRoute_65 rfl ?_
      refine q_aload_n d_Model_findRoute_67 rfl rfl ?_
      refine q_getI (ci := 11) (fk := 1) d_Model_findRoute_68 rfl (Nat.le_of_ble_eq_true rfl) w_1105 (fun _ _ => rfl) hL.1 ?_
      rw [p1 m (by omega), hn]
      refine q_icmp_ge (tgt := 163) d_Model_findRoute_71 rfl (fun hc => ?_) (fun hc => ?_)
      · exact fin I2 F _ _ rfl rfl p1 p2 (k_rgt_of hm2 (by omega) p3.1 (fun v k hv hk hb => p4 v k hv (by omega) hb) p3.2) _ _ _
      · exact absurd (by rw [nI_leI (by omega) (by omega)]; omega) hc
    | succ j ih =>
      intro r I2 F mcc msc e1 e2 hr p1 p2 p3 p4 l7 l8
      subst e1 e2
      have us : ∀ (j2 u : Nat) (I3 : q_I) (F3 : Nat → Nat) (mcc msc : Nat), mcc = 0 → msc = 0 → u + j2 = n → (∀ b, b ≠ m + 27 → I3 b = I b) → k_tb (I3 (m + 27)) n F3 → k_lo A n gl 100 F3 → k_hi A n gl r F3 → (∀ u2 v2, u2 < u → v2 < n → A u2 v2 = true → k_ball A n gl r v2 = true → F3 u2 ≤ r + 1) → ∀ l8, q_V g M_Model_findRoute 0 0 mcc msc (sz, T, I3, R, J) (fun o h' => ∃ r : Int32, o = .inl (some (.int r)) ∧ (r = p_b (k_way A n f t).isSome ∧ ∃ I' : q_I, h' = (sz, T, I', R, J) ∧ m_rt m I I' ∧ ∀ l, k_way A n f t = some l → I' m (nI 33) = nI l.length ∧ k_ar (I' (m + 25)) l ∧ k_sts ss wo l (I' (m + 26)))) 77 [some (.ref m), some (.int (nI f)), some (.int (nI t)), some (.int wo), some (.int (nI s0)), some (.int (nI gl)), some (.int (nI r)), some (.int (nI u)), l8] [] := by
        intro j2
        induction j2 with
        | zero =>
          intro u I3 F3 mcc msc e1 e2 hu q1 q2 q3 q4 q5 l8
          subst e1 e2
          refine q_iload d_Model_findRoute_77 rfl ?_
          refine q_aload_n d_Model_findRoute_79 rfl rfl ?_
          refine q_getI (ci := 11) (fk := 1) d_Model_findRoute_80 rfl (Nat.le_of_ble_eq_true rfl) w_1105 (fun _ _ => rfl) hL.1 ?_
          rw [q1 m (by omega), hn]
          refine q_icmp_ge (tgt := 157) d_Model_findRoute_83 rfl (fun hc => ?_) (fun hc => ?_)
          rotate_left
          · exact absurd (by rw [nI_leI (by omega) (by omega)]; omega) hc
          first | refine q_iincN d_Model_findRoute_157 rfl (Nat.le_of_ble_eq_true rfl) (by first | exact q_ok0 | exact q_okI rfl | exact q_okR rfl | exact q_okN rfl) rfl ?_ | refine q_iinc d_Model_findRoute_157 rfl rfl (Nat.le_of_ble_eq_true rfl) (by first | exact q_ok0 | exact q_okI rfl | exact q_okR rfl | exact q_okN rfl) rfl ?_
          refine q_goto (tgt := 65) d_Model_findRoute_160 rfl ?_
          refine ih (r + 1) I3 F3 _ _ rfl rfl (by omega) q1 q2 q3 ?_ _ _
          rw [hA] at q4 q5 ⊢
          exact k_hi_next q4 (fun u2 w2 hu2 hw2 ha hb => q5 u2 w2 (by omega) hw2 ha hb)
        | succ j2 ih2 =>
          intro u I3 F3 mcc msc e1 e2 hu q1 q2 q3 q4 q5 l8
          subst e1 e2
          have vs : ∀ (j3 v : Nat) (I4 : q_I) (F4 : Nat → Nat) (mcc msc : Nat), mcc = 0 → msc = 0 → v + j3 = n → (∀ b, b ≠ m + 27 → I4 b = I b) → k_tb (I4 (m + 27)) n F4 → k_lo A n gl 100 F4 → k_hi A n gl r F4 → (∀ u2 v2, u2 < u → v2 < n → A u2 v2 = true → k_ball A n gl r v2 = true → F4 u2 ≤ r + 1) → (∀ v2, v2 < v → A u v2 = true → k_ball A n gl r v2 = true → F4 u ≤ r + 1) → q_V g M_Model_findRoute 0 0 mcc msc (sz, T, I4, R, J) (fun o h' => ∃ r : Int32, o = .inl (some (.int r)) ∧ (r = p_b (k_way A n f t).isSome ∧ ∃ I' : q_I, h' = (sz, T, I', R, J) ∧ m_rt m I I' ∧ ∀ l, k_way A n f t = some l → I' m (nI 33) = nI l.length ∧ k_ar (I' (m + 25)) l ∧ k_sts ss wo l (I' (m + 26)))) 89 [some (.ref m), some (.int (nI f)), some (.int (nI t)), some (.int wo), some (.int (nI s0)), some (.int (nI gl)), some (.int (nI r)), some (.int (nI u)), some (.int (nI v))] [] := by
            intro j3
            induction j3 with
            | zero =>
              intro v I4 F4 mcc msc e1 e2 hv y1 y2 y3 y4 y5 y6
              subst e1 e2
              refine q_iload d_Model_findRoute_89 rfl ?_
              refine q_aload_n d_Model_findRoute_91 rfl rfl ?_
              refine q_getI (ci := 11) (fk := 1) d_Model_findRoute_92 rfl (Nat.le_of_ble_eq_true rfl) w_1105 (fun _ _ => rfl) hL.1 ?_
              rw [y1 m (by omega), hn]
              refine q_icmp_ge (tgt := 151) d_Model_findRoute_95 rfl (fun hc => ?_) (fun hc => ?_)
              rotate_left
              · exact absurd (by rw [nI_leI (by omega) (by omega)]; omega) hc
              first | refine q_iincN d_Model_findRoute_151 rfl (Nat.le_of_ble_eq_true rfl) (by first | exact q_ok0 | exact q_okI rfl | exact q_okR rfl | exact q_okN rfl) rfl ?_ | refine q_iinc d_Model_findRoute_151 rfl rfl (Nat.le_of_ble_eq_true rfl) (by first | exact q_ok0 | exact q_okI rfl | exact q_okR rfl | exact q_okN rfl) rfl ?_
              refine q_goto (tgt := 77) d_Model_findRoute_154 rfl ?_
              refine ih2 (u + 1) I4 F4 _ _ rfl rfl (by omega) y1 y2 y3 y4 (fun u2 v2 hu2 hv2 ha hb => ?_) _
              by_cases huu : u2 = u
              · subst huu
                exact y6 v2 (by omega) ha hb
              · exact y5 u2 v2 (by omega) hv2 ha hb
            | succ j3 ih3 =>
              intro v I4 F4 mcc msc e1 e2 hv y1 y2 y3 y4 y5 y6
              subst e1 e2
              have hS4 : m_ssv m ss I4 := hS.cong (by rw [y1 m (by omega)]) (y1 (m + 6) (by omega)) (y1 (m + 7) (by omega))
              have b1 := y3.2 u (by omega)
              have b2 := y3.2 v (by omega)
              have keep : (A u v = true → k_ball A n gl r v = true → F4 u ≤ r + 1) → ∀ mcc msc : Nat, mcc = 0 → msc = 0 → q_V g M_Model_findRoute 0 0 mcc msc (sz, T, I4, R, J) (fun o h' => ∃ r : Int32, o = .inl (some (.int r)) ∧ (r = p_b (k_way A n f t).isSome ∧ ∃ I' : q_I, h' = (sz, T, I', R, J) ∧ m_rt m I I' ∧ ∀ l, k_way A n f t = some l → I' m (nI 33) = nI l.length ∧ k_ar (I' (m + 25)) l ∧ k_sts ss wo l (I' (m + 26)))) 145 [some (.ref m), some (.int (nI f)), some (.int (nI t)), some (.int wo), some (.int (nI s0)), some (.int (nI gl)), some (.int (nI r)), some (.int (nI u)), some (.int (nI v))] [] := by
                intro hk mcc msc e1 e2
                subst e1 e2
                first | refine q_iincN d_Model_findRoute_145 rfl (Nat.le_of_ble_eq_true rfl) (by first | exact q_ok0 | exact q_okI rfl | exact q_okR rfl | exact q_okN rfl) rfl ?_ | refine q_iinc d_Model_findRoute_145 rfl rfl (Nat.le_of_ble_eq_true rfl) (by first | exact q_ok0 | exact q_okI rfl | exact q_okR rfl | exact q_okN rfl) rfl ?_
                refine q_goto (tgt := 89) d_Model_findRoute_148 rfl ?_
                refine ih3 (v + 1) I4 F4 _ _ rfl rfl (by omega) y1 y2 y3 y4 y5 (fun v2 hv2 ha hb => ?_)
                by_cases hvv : v2 = v
                · rw [hvv] at ha hb; exact hk ha hb
                · exact y6 v2 (by omega) ha hb
              refine q_iload d_Model_findRoute_89 rfl ?_
              refine q_aload_n d_Model_findRoute_91 rfl rfl ?_
              refine q_getI (ci := 11) (fk := 1) d_Model_findRoute_92 rfl (Nat.le_of_ble_eq_true rfl) w_1105 (fun _ _ => rfl) hL.1 ?_
              rw [y1 m (by omega), hn]
              refine q_icmp_ge (tgt := 151) d_Model_findRoute_95 rfl (fun hc => ?_) (fun hc => ?_)
              · rw [nI_leI (by omega) (by omega)] at hc
                omega
              refine q_aload_n d_Model_findRoute_98 rfl rfl ?_
              refine q_iload d_Model_findRoute_99 rfl ?_
              refine q_iload d_Model_findRoute_101 rfl ?_
              refine q_iload_n d_Model_findRoute_103 rfl rfl ?_
              refine q_callVi (M2 := M_Model_between) d_Model_findRoute_104 ⟨(Nat.le_of_ble_eq_true rfl), (Nat.le_of_ble_eq_true rfl), w_1481, w_10, ⟨by decide, by decide⟩, show _ = some 3 by decide +kernel⟩ w_1478 w_1480 (ci := 11) rfl s_79 hL.1 rfl (Nat.le_of_ble_eq_true rfl) (by omega) (by omega) (c_Model_between hL hS4 (by omega) (by omega) wo) ?_
              rintro _ _ ⟨rfl, rfl⟩
              cases hfs : k_fst ss wo u v with
              | none =>
                refine q_if_lt (tgt := 145) d_Model_findRoute_107 rfl (fun hc => ?_) (fun hc => ?_)
                · exact keep (fun ha => by rw [hA] at ha; unfold k_A at ha; rw [hfs] at ha; cases ha) _ _ rfl rfl
                · exact absurd (show p_idx none < 0 by decide) hc
              | some s =>
                have hs16 := k_fst_lt hfs
                have := hS.2.1
                have hAv : A u v = true := by rw [hA]; unfold k_A; rw [hfs]; rfl
                refine q_if_lt (tgt := 145) d_Model_findRoute_107 rfl (fun hc => ?_) (fun hc => ?_)
                · exact absurd hc (show ¬ nI s < 0 from nI_pos (by omega))
                refine q_aload_n d_Model_findRoute_110 rfl rfl ?_
                refine q_getR (ci := 11) (fk := 36) d_Model_findRoute_111 rfl (Nat.le_of_ble_eq_true rfl) w_1140 (fun _ _ => rfl) hL.1 (hL.2 36 _ _ _ rfl).1 ?_
                refine q_iload d_Model_findRoute_114 rfl ?_
                refine q_iald d_Model_findRoute_116 (hL.2 36 _ _ _ rfl).2 (by first | assumption | exact vp_in_nI (by omega) (by omega)) ?_
                rw [y2 v (by omega)]
                refine q_iconst (v := nI 1) d_Model_findRoute_117 (by decide) ?_
                first | refine q_iaddN d_Model_findRoute_118 ?_ | refine q_iadd d_Model_findRoute_118 ?_
                refine q_aload_n d_Model_findRoute_119 rfl rfl ?_
                refine q_getR (ci := 11) (fk := 36) d_Model_findRoute_120 rfl (Nat.le_of_ble_eq_true rfl) w_1140 (fun _ _ => rfl) hL.1 (hL.2 36 _ _ _ rfl).1 ?_
                refine q_iload d_Model_findRoute_123 rfl ?_
                refine q_iald d_Model_findRoute_125 (hL.2 36 _ _ _ rfl).2 (by first | assumption | exact vp_in_nI (by omega) (by omega)) ?_
                rw [y2 u (by omega)]
                refine q_icmp_ge (tgt := 145) d_Model_findRoute_126 rfl (fun hc => ?_) (fun hc => ?_)
                · rw [nI_leI (by omega) (by omega)] at hc
                  exact keep (fun _ hb => by
                    have := y4 v r (by omega) (Nat.le_refl _) hb
                    omega) _ _ rfl rfl
                have hlt : F4 v + 1 < F4 u := by
                  refine Classical.byContradiction fun z => hc ?_
                  rw [nI_leI (by omega) (by omega)]
                  omega
                refine q_aload_n d_Model_findRoute_129 rfl rfl ?_
                refine q_getR (ci := 11) (fk := 36) d_Model_findRoute_130 rfl (Nat.le_of_ble_eq_true rfl) w_1140 (fun _ _ => rfl) hL.1 (hL.2 36 _ _ _ rfl).1 ?_
                refine q_iload d_Model_findRoute_133 rfl ?_
                refine q_aload_n d_Model_findRoute_135 rfl rfl ?_
                refine q_getR (ci := 11) (fk := 36) d_Model_findRoute_136 rfl (Nat.le_of_ble_eq_true rfl) w_1140 (fun _ _ => rfl) hL.1 (hL.2 36 _ _ _ rfl).1 ?_
                refine q_iload d_Model_findRoute_139 rfl ?_
                refine q_iald d_Model_findRoute_141 (hL.2 36 _ _ _ rfl).2 (by first | assumption | exact vp_in_nI (by omega) (by omega)) ?_
                rw [y2 v (by omega)]
                refine q_iconst (v := nI 1) d_Model_findRoute_142 (by decide) ?_
                first | refine q_iaddN d_Model_findRoute_143 ?_ | refine q_iadd d_Model_findRoute_143 ?_
                refine q_iast d_Model_findRoute_144 (hL.2 36 _ _ _ rfl).2 (by first | assumption | exact vp_in_nI (by omega) (by omega)) ?_
                first | refine q_iincN d_Model_findRoute_145 rfl (Nat.le_of_ble_eq_true rfl) (by first | exact q_ok0 | exact q_okI rfl | exact q_okR rfl | exact q_okN rfl) rfl ?_ | refine q_iinc d_Model_findRoute_145 rfl rfl (Nat.le_of_ble_eq_true rfl) (by first | exact q_ok0 | exact q_okI rfl | exact q_okR rfl | exact q_okN rfl) rfl ?_
                refine q_goto (tgt := 89) d_Model_findRoute_148 rfl ?_
                have hup : k_tb (q_upI I4 (m + 27) (nI u) (nI (F4 v + 1)) (m + 27)) n (k_up F4 u v) := by
                  have := k_tb_up (w := v) (u := u) y2 h8 (by omega)
                  rw [Nat.min_eq_right (by omega)] at this
                  exact this
                have hle := k_up_le F4 u v
                refine ih3 (v + 1) _ (k_up F4 u v) _ _ rfl rfl (by omega) (fun b hb => by funext z; rw [q_upI_nea hb, y1 b hb]) hup (k_lo_up y3 (by omega) (by omega) hAv) (k_hi_le y4 hle) (fun u2 v2 hu2 hv2 ha hb => Nat.le_trans (hle u2) (y5 u2 v2 hu2 hv2 ha hb)) (fun v2 hv2 ha hb => ?_)
                by_cases hvv : v2 = v
                · rw [hvv] at hb
                  have h1 := y4 v r (by omega) (Nat.le_refl _) hb
                  have h2 := k_up_at F4 u v
                  omega
                · exact Nat.le_trans (hle u) (y6 v2 (by omega) ha hb)
          refine q_iload d_Model_findRoute_77 rfl ?_
          refine q_aload_n d_Model_findRoute_79 rfl rfl ?_
          refine q_getI (ci := 11) (fk := 1) d_Model_findRoute_80 rfl (Nat.le_of_ble_eq_true rfl) w_1105 (fun _ _ => rfl) hL.1 ?_
          rw [q1 m (by omega), hn]
          refine q_icmp_ge (tgt := 157) d_Model_findRoute_83 rfl (fun hc => ?_) (fun hc => ?_)
          · rw [nI_leI (by omega) (by omega)] at hc
            omega
          refine q_iconst (v := nI 0) d_Model_findRoute_86 (by decide) ?_
          refine q_istore d_Model_findRoute_87 (Nat.le_of_ble_eq_true rfl) (by first | exact q_ok0 | exact q_okI rfl | exact q_okR rfl | exact q_okN rfl) rfl ?_
          exact vs n 0 I3 F3 _ _ rfl rfl (by omega) q1 q2 q3 q4 q5 (fun v2 hv2 => absurd hv2 (Nat.not_lt_zero _))
      refine q_iload d_Model_findRoute_65 rfl ?_
      refine q_aload_n d_Model_findRoute_67 rfl rfl ?_
      refine q_getI (ci := 11) (fk := 1) d_Model_findRoute_68 rfl (Nat.le_of_ble_eq_true rfl) w_1105 (fun _ _ => rfl) hL.1 ?_
      rw [p1 m (by omega), hn]
      refine q_icmp_ge (tgt := 163) d_Model_findRoute_71 rfl (fun hc => ?_) (fun hc => ?_)
      · rw [nI_leI (by omega) (by omega)] at hc
        omega
      refine q_iconst (v := nI 0) d_Model_findRoute_74 (by decide) ?_
      refine q_istore d_Model_findRoute_75 (Nat.le_of_ble_eq_true rfl) (by first | exact q_ok0 | exact q_okI rfl | exact q_okR rfl | exact q_okN rfl) rfl ?_
      exact us n 0 I2 F _ _ rfl rfl (by omega) p1 p2 p3 p4 (fun u2 v2 hu2 => absurd hu2 (Nat.not_lt_zero _)) _
  have init : ∀ (j v : Nat) (I2 : q_I), v + j = n → (∀ b, b ≠ m + 27 → I2 b = I b) → (∀ q, q < v → I2 (m + 27) (nI q) = nI (if q = gl then 0 else 100)) → ∀ l7 l8, q_V g M_Model_findRoute 0 0 0 0 (sz, T, I2, R, J) (fun o h' => ∃ r : Int32, o = .inl (some (.int r)) ∧ (r = p_b (k_way A n f t).isSome ∧ ∃ I' : q_I, h' = (sz, T, I', R, J) ∧ m_rt m I I' ∧ ∀ l, k_way A n f t = some l → I' m (nI 33) = nI l.length ∧ k_ar (I' (m + 25)) l ∧ k_sts ss wo l (I' (m + 26)))) 27 [some (.ref m), some (.int (nI f)), some (.int (nI t)), some (.int wo), some (.int (nI s0)), some (.int (nI gl)), some (.int (nI v)), l7, l8] [] := by
    intro j
    induction j with
    | zero =>
      intro v I2 hv p1 p2 l7 l8
      obtain rfl : v = n := by omega
      refine q_iload d_Model_findRoute_27 rfl ?_
      refine q_aload_n d_Model_findRoute_29 rfl rfl ?_
      refine q_getI (ci := 11) (fk := 1) d_Model_findRoute_30 rfl (Nat.le_of_ble_eq_true rfl) w_1105 (fun _ _ => rfl) hL.1 ?_
      rw [p1 m (by omega), hn]
      refine q_icmp_ge (tgt := 62) d_Model_findRoute_33 rfl (fun hc => ?_) (fun hc => ?_)
      rotate_left
      · exact absurd (Int32.le_refl _) hc
      refine q_iconst (v := nI 0) d_Model_findRoute_62 (by decide) ?_
      refine q_istore d_Model_findRoute_63 (Nat.le_of_ble_eq_true rfl) (by first | exact q_ok0 | exact q_okI rfl | exact q_okR rfl | exact q_okN rfl) rfl ?_
      refine rounds v 0 I2 (fun q => if q = gl then 0 else 100) _ _ rfl rfl (by omega) p1 p2 ⟨fun q hq h8 => ?_, fun q hq => ?_⟩ (fun q k hq hk hb => ?_) _ _
      · by_cases hqg : q = gl
        · show k_ball _ _ _ (if q = gl then 0 else 100) q = true
          rw [if_pos hqg, k_ball]
          exact decide_eq_true hqg
        · have h9 : (if q = gl then 0 else 100) < 100 := h8
          rw [if_neg hqg] at h9
          omega
      · show (if q = gl then 0 else 100) ≤ 100
        split <;> omega
      · obtain rfl : k = 0 := by omega
        rw [k_ball] at hb
        show (if q = gl then 0 else 100) ≤ 0
        rw [if_pos (of_decide_eq_true hb)]
        omega
    | succ j ih =>
      intro v I2 hv p1 p2 l7 l8
      have st : ∀ y, y = (if v = gl then 0 else 100) → q_V g M_Model_findRoute 0 0 0 0 (sz, T, I2, R, J) (fun o h' => ∃ r : Int32, o = .inl (some (.int r)) ∧ (r = p_b (k_way A n f t).isSome ∧ ∃ I' : q_I, h' = (sz, T, I', R, J) ∧ m_rt m I I' ∧ ∀ l, k_way A n f t = some l → I' m (nI 33) = nI l.length ∧ k_ar (I' (m + 25)) l ∧ k_sts ss wo l (I' (m + 26)))) 55 [some (.ref m), some (.int (nI f)), some (.int (nI t)), some (.int wo), some (.int (nI s0)), some (.int (nI gl)), some (.int (nI v)), l7, l8] [.int (nI y), .int (nI v), .ref (m + 27)] := by
        intro y hy
        have t27 := (hL.2 36 _ _ _ rfl).2
        refine q_iast d_Model_findRoute_55 (hL.2 36 _ _ _ rfl).2 (by first | assumption | exact vp_in_nI (by omega) (by omega)) ?_
        first | refine q_iincN d_Model_findRoute_56 rfl (Nat.le_of_ble_eq_true rfl) (by first | exact q_ok0 | exact q_okI rfl | exact q_okR rfl | exact q_okN rfl) rfl ?_ | refine q_iinc d_Model_findRoute_56 rfl rfl (Nat.le_of_ble_eq_true rfl) (by first | exact q_ok0 | exact q_okI rfl | exact q_okR rfl | exact q_okN rfl) rfl ?_
        refine q_goto (tgt := 27) d_Model_findRoute_59 rfl ?_
        refine ih (v + 1) _ (by omega) (fun b hb => by funext i; rw [q_upI_nea hb, p1 b hb]) (fun q hq => ?_) _ _
        by_cases hqv : q = v
        · rw [hqv, q_upI_self, hy]
        · rw [q_upI_nk (by omega)]
          exact p2 q (by omega)
      refine q_iload d_Model_findRoute_27 rfl ?_
      refine q_aload_n d_Model_findRoute_29 rfl rfl ?_
      refine q_getI (ci := 11) (fk := 1) d_Model_findRoute_30 rfl (Nat.le_of_ble_eq_true rfl) w_1105 (fun _ _ => rfl) hL.1 ?_
      rw [p1 m (by omega), hn]
      refine q_icmp_ge (tgt := 62) d_Model_findRoute_33 rfl (fun hc => ?_) (fun hc => ?_)
      · rw [nI_leI (by omega) (by omega)] at hc
        omega
      refine q_aload_n d_Model_findRoute_36 rfl rfl ?_
      refine q_getR (ci := 11) (fk := 36) d_Model_findRoute_37 rfl (Nat.le_of_ble_eq_true rfl) w_1140 (fun _ _ => rfl) hL.1 (hL.2 36 _ _ _ rfl).1 ?_
      refine q_iload d_Model_findRoute_40 rfl ?_
      refine q_iload d_Model_findRoute_42 rfl ?_
      refine q_iload d_Model_findRoute_44 rfl ?_
      refine q_icmp_ne (tgt := 53) d_Model_findRoute_46 rfl (fun hc => ?_) (fun hc => ?_)
      · have h1 : ¬ v = gl := fun z => hc (by rw [z])
        refine q_bipush (v := nI 100) d_Model_findRoute_53 (by decide) ?_
        exact st 100 (by rw [if_neg h1])
      · have h1 : v = gl := (nI_eq (by omega) (by omega)).mp (by have := hc; exact this)
        refine q_iconst (v := nI 0) d_Model_findRoute_49 (by decide) ?_
        refine q_goto (tgt := 55) d_Model_findRoute_50 rfl ?_
        exact st 0 (by rw [if_pos h1])
  refine q_C.of (ls0 := [some (.ref m), some (.int (nI f)), some (.int (nI t)), some (.int wo), none, none, none, none, none]) (by decide) rfl (by decide) (Nat.le_of_ble_eq_true rfl) rfl ?_
  by_cases hft : f < t
  · have e1 : f = s0 := by omega
    have e2 : t = gl := by omega
    refine q_iload_n d_Model_findRoute_0 rfl rfl ?_
    refine q_iload_n d_Model_findRoute_1 rfl rfl ?_
    refine q_icmp_ge (tgt := 9) d_Model_findRoute_2 rfl (fun hc => ?_) (fun hc => ?_)
    · rw [nI_leI (by omega) (by omega)] at hc
      omega
    refine q_iload_n d_Model_findRoute_5 rfl rfl ?_
    refine q_goto (tgt := 10) d_Model_findRoute_6 rfl ?_
    refine q_istore d_Model_findRoute_10 (Nat.le_of_ble_eq_true rfl) (by first | exact q_ok0 | exact q_okI rfl | exact q_okR rfl | exact q_okN rfl) rfl ?_
    refine q_iload_n d_Model_findRoute_12 rfl rfl ?_
    refine q_iload_n d_Model_findRoute_13 rfl rfl ?_
    refine q_icmp_ge (tgt := 21) d_Model_findRoute_14 rfl (fun hc => ?_) (fun hc => ?_)
    · rw [nI_leI (by omega) (by omega)] at hc
      omega
    refine q_iload_n d_Model_findRoute_17 rfl rfl ?_
    refine q_goto (tgt := 22) d_Model_findRoute_18 rfl ?_
    refine q_istore d_Model_findRoute_22 (Nat.le_of_ble_eq_true rfl) (by first | exact q_ok0 | exact q_okI rfl | exact q_okR rfl | exact q_okN rfl) rfl ?_
    refine q_iconst (v := nI 0) d_Model_findRoute_24 (by decide) ?_
    refine q_istore d_Model_findRoute_25 (Nat.le_of_ble_eq_true rfl) (by first | exact q_ok0 | exact q_okI rfl | exact q_okR rfl | exact q_okN rfl) rfl ?_
    have := init n 0 I (by omega) (fun b hb => rfl) (fun q hq => absurd hq (Nat.not_lt_zero _)) none none
    rw [← e1, ← e2] at this
    exact this
  · have e1 : t = s0 := by omega
    have e2 : f = gl := by omega
    refine q_iload_n d_Model_findRoute_0 rfl rfl ?_
    refine q_iload_n d_Model_findRoute_1 rfl rfl ?_
    refine q_icmp_ge (tgt := 9) d_Model_findRoute_2 rfl (fun hc => ?_) (fun hc => ?_)
    rotate_left
    · exact absurd (by rw [nI_leI (by omega) (by omega)]; omega) hc
    refine q_iload_n d_Model_findRoute_9 rfl rfl ?_
    refine q_istore d_Model_findRoute_10 (Nat.le_of_ble_eq_true rfl) (by first | exact q_ok0 | exact q_okI rfl | exact q_okR rfl | exact q_okN rfl) rfl ?_
    refine q_iload_n d_Model_findRoute_12 rfl rfl ?_
    refine q_iload_n d_Model_findRoute_13 rfl rfl ?_
    refine q_icmp_ge (tgt := 21) d_Model_findRoute_14 rfl (fun hc => ?_) (fun hc => ?_)
    rotate_left
    · exact absurd (by rw [nI_leI (by omega) (by omega)]; omega) hc
    refine q_iload_n d_Model_findRoute_21 rfl rfl ?_
    refine q_istore d_Model_findRoute_22 (Nat.le_of_ble_eq_true rfl) (by first | exact q_ok0 | exact q_okI rfl | exact q_okR rfl | exact q_okN rfl) rfl ?_
    refine q_iconst (v := nI 0) d_Model_findRoute_24 (by decide) ?_
    refine q_istore d_Model_findRoute_25 (Nat.le_of_ble_eq_true rfl) (by first | exact q_ok0 | exact q_okI rfl | exact q_okR rfl | exact q_okN rfl) rfl ?_
    have := init n 0 I (by omega) (fun b hb => rfl) (fun q hq => absurd hq (Nat.not_lt_zero _)) none none
    rw [← e1, ← e2] at this
    exact this
end MRoute
