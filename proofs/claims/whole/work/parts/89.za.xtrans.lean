/-! translate, both sides together -/
section XTrans
variable {g : q_G} {b x L n sz : Nat} {f : Int32 → Int32} {T : q_T} {I : q_I} {R : q_R} {J : q_J} {S : KA}
theorem a_go_ok (hw : wf S) : ∀ (l : List Nat) (u : Nat) (Y : KY), (∀ k u w, l[k]? = some u → l[k + 1]? = some w → k_A S.ss (-1) u w = true) → l[0]? = some u → w_rec S.vs S.ss (u, Y.1, Y.2.1) → ∀ w, l[l.length - 1]? = some w → w_rec S.vs S.ss (w, (a_go S.ss l Y).1, (a_go S.ss l Y).2.1)
  | [], u, Y, _, h0, _, _, _ => by cases h0
  | [a], u, Y, _, h0, hr, w, hw2 => by
    have e1 : a = u := Option.some.inj h0
    have e2 : a = w := Option.some.inj hw2
    rw [← e2, e1]; exact hr
  | a :: b :: t, u, Y, hA, h0, hr, w, hw2 => by
    have e1 : a = u := Option.some.inj h0
    subst e1
    have hA' := hA 0 a b rfl rfl
    obtain ⟨s, hs⟩ : ∃ s, k_fst S.ss (-1) a b = some s := by
      unfold k_A at hA'
      cases hf : k_fst S.ss (-1) a b with
      | none => rw [hf] at hA'; cases hA'
      | some s => exact ⟨s, rfl⟩
    obtain ⟨st, s1, s2, s3, s4⟩ := k_fst_st hs
    have es1 : a_s1 S.ss a b Y = a_st (decide (st.fr = a)) s st Y := by
      unfold a_s1
      rw [hs]
      simp only [s1]
    have wok := a_st_ok (fw := decide (st.fr = a)) (Y := Y) hw s1 (by rw [s2]; exact hr)
    rw [s3, ← es1] at wok
    exact a_go_ok hw (b :: t) b (a_s1 S.ss a b Y) (fun k u w h1 h2 => hA (k + 1) u w h1 h2) rfl wok w hw2
theorem wf.tr (hw : wf S) {i v : Nat} {c : KR} (hi : i < 16) (hc : S.rs i = some c) (hv : v < S.vs.length) : wf (a_tr S i v c).2.2 := by
  have hwr := hw.2.2.2.1 i c hi hc
  unfold a_tr
  cases ho : k_way (k_A S.ss (-1)) S.vs.length c.ver v with
  | none => exact hw
  | some l =>
    obtain ⟨w1, w2, w3, w4⟩ := k_way_ok hwr.1 hv ho
    have := a_go_ok hw l c.ver (c.val, c.kp, false) w1 w3 hwr v w4
    show wf (if (a_go S.ss l (c.val, c.kp, false)).2.2 = true then (nI 3, 0, S) else (0, nI (l.length - 1), S.setR i (some (v, (a_go S.ss l (c.val, c.kp, false)).1, (a_go S.ss l (c.val, c.kp, false)).2.1)))).2.2
    split
    · exact hw
    · exact hw.setRc (hw.bg1 hi hc) i this
theorem x_translate (hI : q_INV b x L f (n + 1) sz T I R) (p0 p1 : Int32) : q_gi g b x L f n sz T I R J M_Lens_translate M_Model_translate [.int p0, .int p1] [2, 0, 4] := by
  refine q_glue1 hI fun S hw hC hM => ?_
  rcases k_hcase S p0 with hb | ⟨h, c, hh, rfl, hc, hb⟩
  · exact ⟨_, c_Lens_translate_no hC hb, hw, fun _ _ _ _ _ hm => c_Model_translate_no hw hm (Or.inl hb)⟩
  cases hb2 : k_bel S.vs.length p1 with
  | false => exact ⟨_, c_Lens_translate_no2 hC hb hb2, hw, fun _ _ _ _ _ hm => c_Model_translate_no hw hm (Or.inr hb2)⟩
  | true =>
    obtain ⟨v, Lv, rfl, v1, v2⟩ := hw.verV hb2
    exact ⟨_, c_Lens_translate hw hC hh hc hb v1, hw.tr hh hc v1, fun _ _ _ _ _ hm => c_Model_translate hw hm hh hc hb v1⟩
end XTrans
