/-! System.arraycopy between int arrays -/
section QCopy
variable {g : q_G} {M : q_M} {mc ms c k idx : Nat} {Q : q_O → q_H → Prop} {pc : Nat} {ls : List (Option Value)} {rest : List Value}
variable {sz : Nat} {T : q_T} {I : q_I} {R0 : q_R} {J : q_J}
/-- n numbers go from the place sp of a0 to the place dp of a -/
def k_acp (I : q_I) (a0 sp a dp n : Nat) : q_I := fun b i => if b = a ∧ ¬ i < 0 ∧ dp ≤ i.toNatClampNeg ∧ i.toNatClampNeg < dp + n then I a0 (nI (sp + (i.toNatClampNeg - dp))) else I b i
theorem k_acp_ne {a0 sp a dp n b : Nat} (h : b ≠ a) : k_acp I a0 sp a dp n b = I b := by
  funext i
  unfold k_acp
  rw [if_neg (fun z => h z.1)]
theorem k_acp_in {a0 sp a dp n j : Nat} (h1 : dp ≤ j) (h2 : j < dp + n) (h3 : j < 2 ^ 31) : k_acp I a0 sp a dp n a (nI j) = I a0 (nI (sp + (j - dp))) := by
  unfold k_acp
  rw [nI_clamp h3, if_pos ⟨rfl, nI_pos h3, h1, h2⟩]
theorem k_acp_out {a0 sp a dp n j b : Nat} (h : j < dp ∨ dp + n ≤ j) (h3 : j < 2 ^ 31) : k_acp I a0 sp a dp n b (nI j) = I b (nI j) := by
  unfold k_acp
  rw [nI_clamp h3, if_neg (fun z => by omega)]
set_option maxHeartbeats 1000000 in
theorem q_acopy {a0 a n0 n1 sp dp n : Nat} (d : decode (q_bc M) pc = .ok (.invokestatic idx, 3)) (hlk : Cond.methodLink (q_ow M) idx arraycopyName ∈ q_tb) (hst : Cond.static arraycopyName ∈ q_tb) (hna : Cond.native arraycopyName ∈ q_tb) (hin : Cond.initialized "java/lang/System" ∈ q_tb)
    (hT0 : T a0 = some (0, n0)) (hT1 : T a = some (0, n1)) (h4 : sp + n ≤ n0) (h5 : dp + n ≤ n1) (hfr : 1 ≤ q_fr M) (hlo : 8 + (nativeFrameWords "java/lang/System" "arraycopy" 5 + 11) ≤ q_lo M) (hrest : (rest.map fun v => v.category).sum ≤ 8)
    (kk : q_V g M mc ms c k (sz, T, k_acp I a0 sp a dp n, R0, J) Q (pc + 3) ls rest) : q_V g M mc ms c k (sz, T, I, R0, J) Q pc ls (.int (nI n) :: .int (nI dp) :: .ref a :: .int (nI sp) :: .ref a0 :: rest) := by
  intro p e R s m args below meth cd C H locs la hC hS hl T9 hT9 X
  obtain ⟨-, hA0, g3⟩ := hC.2.1 a0 _ _ hT0
  obtain ⟨hn0, hlt0, hce0⟩ := g3.1 (by omega)
  obtain ⟨hal, hA, h3⟩ := hC.2.1 a _ _ hT1
  obtain ⟨hn1, hlt, hce⟩ := h3.1 (by omega)
  have hc0 : H[a0]? = some (arrV (g.2.2.2 0) n0 (fun j => Value.int (I a0 (nI j)))) := hce0
  have hc1 : H[a]? = some (arrV (g.2.2.2 0) n1 (fun j => Value.int (I a (nI j)))) := hce
  obtain ⟨-, k0, hk0, cm0, hkk0⟩ := (C.K.2 0 _ rfl).1 n0 (fun j => Value.int (I a0 (nI j)))
  obtain ⟨-, k1, hk1, cm1, hkk1⟩ := (C.K.2 0 _ rfl).1 n1 (fun j => Value.int (I a (nI j)))
  obtain ⟨-, -, -, -, -, -, -, -, -, -, -, -, -, -, cfr, clo⟩ := id C
  have csp : (nI sp).toNatClampNeg = sp := nI_clamp (by omega)
  have cdp : (nI dp).toNatClampNeg = dp := nI_clamp (by omega)
  have cn : (nI n).toNatClampNeg = n := nI_clamp (by omega)
  obtain ⟨vm', X', step⟩ := X.arraycopy C.1 C.own (C.wd hlk) (C.wd hna) (C.wd hst) (C.wd hin) (src := a0) (dst := a) (cs := arrV (g.2.2.2 0) n0 (fun j => Value.int (I a0 (nI j)))) (cd := arrV (g.2.2.2 0) n1 (fun j => Value.int (I a (nI j)))) (srcPos := nI sp) (destPos := nI dp) (n := nI n) (by rw [hT9]; exact hc0) (by rw [hT9]; exact hc1)
    (fun _ h => by cases h) (fun _ h => by cases h) (fun h => by cases h) (fun h => by cases h) hk0 hk1 hkk0 hkk1 (by simp [refKind]) (nI_pos (by omega)) (nI_pos (by omega)) (nI_pos (by omega))
    (by rw [nI_toInt (by omega), nI_toInt (by omega), arrV_size]; omega)
    (by rw [nI_toInt (by omega), nI_toInt (by omega), arrV_size]; omega)
    (fun vm₁ _ i hi => by
      rw [cn] at hi
      have e9 : (arrV (g.2.2.2 0) n0 (fun j => Value.int (I a0 (nI j)))).slots.getD ((nI sp).toNatClampNeg + i) .null = Value.int (I a0 (nI (sp + i))) := by
        rw [csp, Array.getD_eq_getD_getElem?, arrV_read _ _ (by omega)]
        rfl
      refine ⟨?_, ?_⟩
      · rw [e9]
        rfl
      · rw [e9]
        exact trivial)
    (g := F0 m pc la (.int (nI n) :: .int (nI dp) :: .ref a :: .int (nI sp) :: .ref a0 :: rest)) rfl (by rw [C.2.2.1]; exact hl.1) (rest := rest) rfl (by rw [C.2.1]; exact d) (Nat.le_trans hfr cfr) (by show 2 * 0 + _ + _ ≤ _; omega)
  have e1 : copied (arrV (g.2.2.2 0) n0 (fun j => Value.int (I a0 (nI j)))) (arrV (g.2.2.2 0) n1 (fun j => Value.int (I a (nI j)))) (nI sp) (nI dp) (nI n) = arrV (g.2.2.2 0) n1 (fun j => Value.int (va_cpy (fun j => I a0 (nI j)) (fun j => I a (nI j)) sp dp n j)) := by
    have := va_copied (fun z => Value.int z) (g.2.2.2 0) (g.2.2.2 0) (n0 := n0) (n1 := n1) (dp := dp) (fun j => I a0 (nI j)) (fun j => I a (nI j)) h4
    unfold copied
    rw [csp, cdp, cn]
    exact this
  rw [e1] at X' step
  have hcell : (H.setIfInBounds a (arrV (g.2.2.2 0) n1 (fun j => Value.int (va_cpy (fun j => I a0 (nI j)) (fun j => I a (nI j)) sp dp n j))))[a]? = some (arrV (g.2.2.2 0) n1 (fun j => q_el 0 (k_acp I a0 sp a dp n a (nI j)) (J a (nI j)) (R0 a (nI j)))) := by
    have hlH : a < H.size := (Array.getElem?_eq_some_iff.mp hc1).1
    rw [Array.getElem?_setIfInBounds, if_pos rfl, if_pos hlH]
    congr 1
    refine arrV_congr _ _ fun j hj => ?_
    show Value.int (va_cpy (fun j => I a0 (nI j)) (fun j => I a (nI j)) sp dp n j) = Value.int (k_acp I a0 sp a dp n a (nI j))
    congr 1
    unfold va_cpy
    by_cases hin : dp ≤ j ∧ j < dp + n
    · rw [if_pos hin, k_acp_in hin.1 hin.2 (by omega)]
    · rw [if_neg hin, k_acp_out (by omega) (by omega)]
  obtain ⟨t, a1, b1⟩ := kk p e R s m args below meth cd C (H.setIfInBounds a (arrV (g.2.2.2 0) n1 (fun j => Value.int (va_cpy (fun j => I a0 (nI j)) (fun j => I a (nI j)) sp dp n j)))) _ la (hC.upd (h2 := (sz, T, k_acp I a0 sp a dp n, R0, J)) hT1 rfl rfl (fun b hb => ⟨k_acp_ne hb, rfl, rfl⟩) (by simp) (fun q hq => by simp [Array.getElem?_setIfInBounds, Ne.symm hq]) ⟨fun _ => ⟨hn1, hlt, hcell⟩, fun z => by omega, fun z => by omega⟩) ⟨by simp; exact hS.1, fun q g1 g2 => by
      have hqa : q ≠ a := fun z => g2 (by rw [z]; exact hA (by omega))
      rw [show (H.setIfInBounds a (arrV (g.2.2.2 0) n1 (fun j => Value.int (va_cpy (fun j => I a0 (nI j)) (fun j => I a (nI j)) sp dp n j))))[q]? = H[q]? by simp [Array.getElem?_setIfInBounds, Ne.symm hqa]]
      exact hS.2.1 q g1 g2, fun q hq => by
      rcases List.mem_append.mp hq with h | h
      · exact hS.2.2 q h
      · obtain ⟨z, -, hz⟩ := List.mem_map.mp h
        rw [← hz]
        exact hA (by omega)⟩ hl _ (by rw [← hT9]; rfl) X'
  exact ⟨t, step t a1, b1⟩
end QCopy
