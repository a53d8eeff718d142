/-! primitive, the reference's side -/
abbrev M_Model_primitive : q_M := (⟨"LensPathsModel", "primitive", "(IIIII)I"⟩, prog_14_method_48_code, 8, (some .int), "LensPathsModel", [], false, 6, 157)
theorem d_Model_primitive_0 : decode prog_14_method_48_code 0 = .ok (.aload_n 0, 1) := by decide +kernel
theorem d_Model_primitive_1 : decode prog_14_method_48_code 1 = .ok (.aload_n 0, 1) := by decide +kernel
theorem d_Model_primitive_2 : decode prog_14_method_48_code 2 = .ok (.getfield 257, 3) := by decide +kernel
theorem d_Model_primitive_5 : decode prog_14_method_48_code 5 = .ok (.ifCond .eq 17, 3) := by decide +kernel
theorem d_Model_primitive_8 : decode prog_14_method_48_code 8 = .ok (.aload_n 0, 1) := by decide +kernel
theorem d_Model_primitive_9 : decode prog_14_method_48_code 9 = .ok (.getfield 35, 3) := by decide +kernel
theorem d_Model_primitive_12 : decode prog_14_method_48_code 12 = .ok (.aload_n 0, 1) := by decide +kernel
theorem d_Model_primitive_13 : decode prog_14_method_48_code 13 = .ok (.getfield 260, 3) := by decide +kernel
theorem d_Model_primitive_16 : decode prog_14_method_48_code 16 = .ok (.iaload, 1) := by decide +kernel
theorem d_Model_primitive_17 : decode prog_14_method_48_code 17 = .ok (.bipush 8, 2) := by decide +kernel
theorem d_Model_primitive_19 : decode prog_14_method_48_code 19 = .ok (.if_icmp .ne 7, 3) := by decide +kernel
theorem d_Model_primitive_22 : decode prog_14_method_48_code 22 = .ok (.iconst 1, 1) := by decide +kernel
theorem d_Model_primitive_23 : decode prog_14_method_48_code 23 = .ok (.goto 4, 3) := by decide +kernel
theorem d_Model_primitive_26 : decode prog_14_method_48_code 26 = .ok (.iconst 0, 1) := by decide +kernel
theorem d_Model_primitive_27 : decode prog_14_method_48_code 27 = .ok (.putfield 101, 3) := by decide +kernel
theorem d_Model_primitive_30 : decode prog_14_method_48_code 30 = .ok (.aload_n 0, 1) := by decide +kernel
theorem d_Model_primitive_31 : decode prog_14_method_48_code 31 = .ok (.getfield 101, 3) := by decide +kernel
theorem d_Model_primitive_34 : decode prog_14_method_48_code 34 = .ok (.ifCond .le 5, 3) := by decide +kernel
theorem d_Model_primitive_37 : decode prog_14_method_48_code 37 = .ok (.iconst 0, 1) := by decide +kernel
theorem d_Model_primitive_38 : decode prog_14_method_48_code 38 = .ok (.ireturn, 1) := by decide +kernel
theorem d_Model_primitive_39 : decode prog_14_method_48_code 39 = .ok (.aload_n 0, 1) := by decide +kernel
theorem d_Model_primitive_40 : decode prog_14_method_48_code 40 = .ok (.invokevirtual 270, 3) := by decide +kernel
theorem d_Model_primitive_43 : decode prog_14_method_48_code 43 = .ok (.aload_n 0, 1) := by decide +kernel
theorem d_Model_primitive_44 : decode prog_14_method_48_code 44 = .ok (.iload_n 1, 1) := by decide +kernel
theorem d_Model_primitive_45 : decode prog_14_method_48_code 45 = .ok (.ifCond .lt 27, 3) := by decide +kernel
theorem d_Model_primitive_48 : decode prog_14_method_48_code 48 = .ok (.iload_n 1, 1) := by decide +kernel
theorem d_Model_primitive_49 : decode prog_14_method_48_code 49 = .ok (.bipush 8, 2) := by decide +kernel
theorem d_Model_primitive_51 : decode prog_14_method_48_code 51 = .ok (.if_icmp .gt 21, 3) := by decide +kernel
theorem d_Model_primitive_54 : decode prog_14_method_48_code 54 = .ok (.aload_n 0, 1) := by decide +kernel
theorem d_Model_primitive_55 : decode prog_14_method_48_code 55 = .ok (.iload_n 1, 1) := by decide +kernel
theorem d_Model_primitive_56 : decode prog_14_method_48_code 56 = .ok (.iload_n 2, 1) := by decide +kernel
theorem d_Model_primitive_57 : decode prog_14_method_48_code 57 = .ok (.iload_n 3, 1) := by decide +kernel
theorem d_Model_primitive_58 : decode prog_14_method_48_code 58 = .ok (.iload 4, 2) := by decide +kernel
theorem d_Model_primitive_60 : decode prog_14_method_48_code 60 = .ok (.iload 5, 2) := by decide +kernel
theorem d_Model_primitive_62 : decode prog_14_method_48_code 62 = .ok (.invokevirtual 273, 3) := by decide +kernel
theorem d_Model_primitive_65 : decode prog_14_method_48_code 65 = .ok (.ifCond .eq 7, 3) := by decide +kernel
theorem d_Model_primitive_68 : decode prog_14_method_48_code 68 = .ok (.iconst 0, 1) := by decide +kernel
theorem d_Model_primitive_69 : decode prog_14_method_48_code 69 = .ok (.goto 4, 3) := by decide +kernel
theorem d_Model_primitive_72 : decode prog_14_method_48_code 72 = .ok (.iconst 2, 1) := by decide +kernel
theorem d_Model_primitive_73 : decode prog_14_method_48_code 73 = .ok (.putfield 101, 3) := by decide +kernel
theorem d_Model_primitive_76 : decode prog_14_method_48_code 76 = .ok (.aload_n 0, 1) := by decide +kernel
theorem d_Model_primitive_77 : decode prog_14_method_48_code 77 = .ok (.getfield 101, 3) := by decide +kernel
theorem d_Model_primitive_80 : decode prog_14_method_48_code 80 = .ok (.ifCond .le 5, 3) := by decide +kernel
theorem d_Model_primitive_83 : decode prog_14_method_48_code 83 = .ok (.iconst 0, 1) := by decide +kernel
theorem d_Model_primitive_84 : decode prog_14_method_48_code 84 = .ok (.ireturn, 1) := by decide +kernel
theorem d_Model_primitive_85 : decode prog_14_method_48_code 85 = .ok (.aload_n 0, 1) := by decide +kernel
theorem d_Model_primitive_86 : decode prog_14_method_48_code 86 = .ok (.aload_n 0, 1) := by decide +kernel
theorem d_Model_primitive_87 : decode prog_14_method_48_code 87 = .ok (.getfield 260, 3) := by decide +kernel
theorem d_Model_primitive_90 : decode prog_14_method_48_code 90 = .ok (.aload_n 0, 1) := by decide +kernel
theorem d_Model_primitive_91 : decode prog_14_method_48_code 91 = .ok (.getfield 35, 3) := by decide +kernel
theorem d_Model_primitive_94 : decode prog_14_method_48_code 94 = .ok (.aload_n 0, 1) := by decide +kernel
theorem d_Model_primitive_95 : decode prog_14_method_48_code 95 = .ok (.getfield 260, 3) := by decide +kernel
theorem d_Model_primitive_98 : decode prog_14_method_48_code 98 = .ok (.iaload, 1) := by decide +kernel
theorem d_Model_primitive_99 : decode prog_14_method_48_code 99 = .ok (.invokevirtual 157, 3) := by decide +kernel
theorem d_Model_primitive_102 : decode prog_14_method_48_code 102 = .ok (.istore 6, 2) := by decide +kernel
theorem d_Model_primitive_104 : decode prog_14_method_48_code 104 = .ok (.aload_n 0, 1) := by decide +kernel
theorem d_Model_primitive_105 : decode prog_14_method_48_code 105 = .ok (.iload_n 2, 1) := by decide +kernel
theorem d_Model_primitive_106 : decode prog_14_method_48_code 106 = .ok (.invokevirtual 111, 3) := by decide +kernel
theorem d_Model_primitive_109 : decode prog_14_method_48_code 109 = .ok (.istore 7, 2) := by decide +kernel
theorem d_Model_primitive_111 : decode prog_14_method_48_code 111 = .ok (.aload_n 0, 1) := by decide +kernel
theorem d_Model_primitive_112 : decode prog_14_method_48_code 112 = .ok (.getfield 38, 3) := by decide +kernel
theorem d_Model_primitive_115 : decode prog_14_method_48_code 115 = .ok (.iload 6, 2) := by decide +kernel
theorem d_Model_primitive_117 : decode prog_14_method_48_code 117 = .ok (.iload_n 1, 1) := by decide +kernel
theorem d_Model_primitive_118 : decode prog_14_method_48_code 118 = .ok (.iastore, 1) := by decide +kernel
theorem d_Model_primitive_119 : decode prog_14_method_48_code 119 = .ok (.aload_n 0, 1) := by decide +kernel
theorem d_Model_primitive_120 : decode prog_14_method_48_code 120 = .ok (.getfield 38, 3) := by decide +kernel
theorem d_Model_primitive_123 : decode prog_14_method_48_code 123 = .ok (.iload 6, 2) := by decide +kernel
theorem d_Model_primitive_125 : decode prog_14_method_48_code 125 = .ok (.iconst 1, 1) := by decide +kernel
theorem d_Model_primitive_126 : decode prog_14_method_48_code 126 = .ok (.iadd, 1) := by decide +kernel
theorem d_Model_primitive_127 : decode prog_14_method_48_code 127 = .ok (.iload_n 2, 1) := by decide +kernel
theorem d_Model_primitive_128 : decode prog_14_method_48_code 128 = .ok (.iastore, 1) := by decide +kernel
theorem d_Model_primitive_129 : decode prog_14_method_48_code 129 = .ok (.aload_n 0, 1) := by decide +kernel
theorem d_Model_primitive_130 : decode prog_14_method_48_code 130 = .ok (.getfield 38, 3) := by decide +kernel
theorem d_Model_primitive_133 : decode prog_14_method_48_code 133 = .ok (.iload 6, 2) := by decide +kernel
theorem d_Model_primitive_135 : decode prog_14_method_48_code 135 = .ok (.iconst 2, 1) := by decide +kernel
theorem d_Model_primitive_136 : decode prog_14_method_48_code 136 = .ok (.iadd, 1) := by decide +kernel
theorem d_Model_primitive_137 : decode prog_14_method_48_code 137 = .ok (.iload_n 3, 1) := by decide +kernel
theorem d_Model_primitive_138 : decode prog_14_method_48_code 138 = .ok (.iastore, 1) := by decide +kernel
theorem d_Model_primitive_139 : decode prog_14_method_48_code 139 = .ok (.aload_n 0, 1) := by decide +kernel
theorem d_Model_primitive_140 : decode prog_14_method_48_code 140 = .ok (.getfield 38, 3) := by decide +kernel
theorem d_Model_primitive_143 : decode prog_14_method_48_code 143 = .ok (.iload 6, 2) := by decide +kernel
theorem d_Model_primitive_145 : decode prog_14_method_48_code 145 = .ok (.iconst 3, 1) := by decide +kernel
theorem d_Model_primitive_146 : decode prog_14_method_48_code 146 = .ok (.iadd, 1) := by decide +kernel
theorem d_Model_primitive_147 : decode prog_14_method_48_code 147 = .ok (.iload 4, 2) := by decide +kernel
theorem d_Model_primitive_149 : decode prog_14_method_48_code 149 = .ok (.iastore, 1) := by decide +kernel
theorem d_Model_primitive_150 : decode prog_14_method_48_code 150 = .ok (.aload_n 0, 1) := by decide +kernel
theorem d_Model_primitive_151 : decode prog_14_method_48_code 151 = .ok (.getfield 38, 3) := by decide +kernel
theorem d_Model_primitive_154 : decode prog_14_method_48_code 154 = .ok (.iload 6, 2) := by decide +kernel
theorem d_Model_primitive_156 : decode prog_14_method_48_code 156 = .ok (.iconst 5, 1) := by decide +kernel
theorem d_Model_primitive_157 : decode prog_14_method_48_code 157 = .ok (.iadd, 1) := by decide +kernel
theorem d_Model_primitive_158 : decode prog_14_method_48_code 158 = .ok (.iload_n 1, 1) := by decide +kernel
theorem d_Model_primitive_159 : decode prog_14_method_48_code 159 = .ok (.iconst 1, 1) := by decide +kernel
theorem d_Model_primitive_160 : decode prog_14_method_48_code 160 = .ok (.if_icmp .ne 7, 3) := by decide +kernel
theorem d_Model_primitive_163 : decode prog_14_method_48_code 163 = .ok (.iload_n 3, 1) := by decide +kernel
theorem d_Model_primitive_164 : decode prog_14_method_48_code 164 = .ok (.goto 10, 3) := by decide +kernel
theorem d_Model_primitive_167 : decode prog_14_method_48_code 167 = .ok (.aload_n 0, 1) := by decide +kernel
theorem d_Model_primitive_168 : decode prog_14_method_48_code 168 = .ok (.getfield 56, 3) := by decide +kernel
theorem d_Model_primitive_171 : decode prog_14_method_48_code 171 = .ok (.iload 7, 2) := by decide +kernel
theorem d_Model_primitive_173 : decode prog_14_method_48_code 173 = .ok (.iaload, 1) := by decide +kernel
theorem d_Model_primitive_174 : decode prog_14_method_48_code 174 = .ok (.iastore, 1) := by decide +kernel
theorem d_Model_primitive_175 : decode prog_14_method_48_code 175 = .ok (.aload_n 0, 1) := by decide +kernel
theorem d_Model_primitive_176 : decode prog_14_method_48_code 176 = .ok (.getfield 38, 3) := by decide +kernel
theorem d_Model_primitive_179 : decode prog_14_method_48_code 179 = .ok (.iload 6, 2) := by decide +kernel
theorem d_Model_primitive_181 : decode prog_14_method_48_code 181 = .ok (.bipush 6, 2) := by decide +kernel
theorem d_Model_primitive_183 : decode prog_14_method_48_code 183 = .ok (.iadd, 1) := by decide +kernel
theorem d_Model_primitive_184 : decode prog_14_method_48_code 184 = .ok (.iload_n 1, 1) := by decide +kernel
theorem d_Model_primitive_185 : decode prog_14_method_48_code 185 = .ok (.iconst 1, 1) := by decide +kernel
theorem d_Model_primitive_186 : decode prog_14_method_48_code 186 = .ok (.if_icmp .ne 17, 3) := by decide +kernel
theorem d_Model_primitive_189 : decode prog_14_method_48_code 189 = .ok (.iload_n 3, 1) := by decide +kernel
theorem d_Model_primitive_190 : decode prog_14_method_48_code 190 = .ok (.iconst 2, 1) := by decide +kernel
theorem d_Model_primitive_191 : decode prog_14_method_48_code 191 = .ok (.if_icmp .ne 7, 3) := by decide +kernel
theorem d_Model_primitive_194 : decode prog_14_method_48_code 194 = .ok (.iconst 0, 1) := by decide +kernel
theorem d_Model_primitive_195 : decode prog_14_method_48_code 195 = .ok (.goto 15, 3) := by decide +kernel
theorem d_Model_primitive_198 : decode prog_14_method_48_code 198 = .ok (.iload 4, 2) := by decide +kernel
theorem d_Model_primitive_200 : decode prog_14_method_48_code 200 = .ok (.goto 10, 3) := by decide +kernel
theorem d_Model_primitive_203 : decode prog_14_method_48_code 203 = .ok (.aload_n 0, 1) := by decide +kernel
theorem d_Model_primitive_204 : decode prog_14_method_48_code 204 = .ok (.getfield 59, 3) := by decide +kernel
theorem d_Model_primitive_207 : decode prog_14_method_48_code 207 = .ok (.iload 7, 2) := by decide +kernel
theorem d_Model_primitive_209 : decode prog_14_method_48_code 209 = .ok (.iaload, 1) := by decide +kernel
theorem d_Model_primitive_210 : decode prog_14_method_48_code 210 = .ok (.iastore, 1) := by decide +kernel
theorem d_Model_primitive_211 : decode prog_14_method_48_code 211 = .ok (.aload_n 0, 1) := by decide +kernel
theorem d_Model_primitive_212 : decode prog_14_method_48_code 212 = .ok (.getfield 38, 3) := by decide +kernel
theorem d_Model_primitive_215 : decode prog_14_method_48_code 215 = .ok (.iload 6, 2) := by decide +kernel
theorem d_Model_primitive_217 : decode prog_14_method_48_code 217 = .ok (.bipush 7, 2) := by decide +kernel
theorem d_Model_primitive_219 : decode prog_14_method_48_code 219 = .ok (.iadd, 1) := by decide +kernel
theorem d_Model_primitive_220 : decode prog_14_method_48_code 220 = .ok (.iload_n 1, 1) := by decide +kernel
theorem d_Model_primitive_221 : decode prog_14_method_48_code 221 = .ok (.iconst 1, 1) := by decide +kernel
theorem d_Model_primitive_222 : decode prog_14_method_48_code 222 = .ok (.if_icmp .ne 17, 3) := by decide +kernel
theorem d_Model_primitive_225 : decode prog_14_method_48_code 225 = .ok (.iload_n 3, 1) := by decide +kernel
theorem d_Model_primitive_226 : decode prog_14_method_48_code 226 = .ok (.iconst 2, 1) := by decide +kernel
theorem d_Model_primitive_227 : decode prog_14_method_48_code 227 = .ok (.if_icmp .ne 7, 3) := by decide +kernel
theorem d_Model_primitive_230 : decode prog_14_method_48_code 230 = .ok (.iconst 0, 1) := by decide +kernel
theorem d_Model_primitive_231 : decode prog_14_method_48_code 231 = .ok (.goto 15, 3) := by decide +kernel
theorem d_Model_primitive_234 : decode prog_14_method_48_code 234 = .ok (.iload 5, 2) := by decide +kernel
theorem d_Model_primitive_236 : decode prog_14_method_48_code 236 = .ok (.goto 10, 3) := by decide +kernel
theorem d_Model_primitive_239 : decode prog_14_method_48_code 239 = .ok (.aload_n 0, 1) := by decide +kernel
theorem d_Model_primitive_240 : decode prog_14_method_48_code 240 = .ok (.getfield 62, 3) := by decide +kernel
theorem d_Model_primitive_243 : decode prog_14_method_48_code 243 = .ok (.iload 7, 2) := by decide +kernel
theorem d_Model_primitive_245 : decode prog_14_method_48_code 245 = .ok (.iaload, 1) := by decide +kernel
theorem d_Model_primitive_246 : decode prog_14_method_48_code 246 = .ok (.iastore, 1) := by decide +kernel
theorem d_Model_primitive_247 : decode prog_14_method_48_code 247 = .ok (.aload_n 0, 1) := by decide +kernel
theorem d_Model_primitive_248 : decode prog_14_method_48_code 248 = .ok (.getfield 35, 3) := by decide +kernel
theorem d_Model_primitive_251 : decode prog_14_method_48_code 251 = .ok (.aload_n 0, 1) := by decide +kernel
theorem d_Model_primitive_252 : decode prog_14_method_48_code 252 = .ok (.getfield 260, 3) := by decide +kernel
theorem d_Model_primitive_255 : decode prog_14_method_48_code 255 = .ok (.dup2, 1) := by decide +kernel
theorem d_Model_primitive_256 : decode prog_14_method_48_code 256 = .ok (.iaload, 1) := by decide +kernel
theorem d_Model_primitive_257 : decode prog_14_method_48_code 257 = .ok (.iconst 1, 1) := by decide +kernel
theorem d_Model_primitive_258 : decode prog_14_method_48_code 258 = .ok (.iadd, 1) := by decide +kernel
theorem d_Model_primitive_259 : decode prog_14_method_48_code 259 = .ok (.iastore, 1) := by decide +kernel
theorem d_Model_primitive_260 : decode prog_14_method_48_code 260 = .ok (.aload_n 0, 1) := by decide +kernel
theorem d_Model_primitive_261 : decode prog_14_method_48_code 261 = .ok (.getfield 35, 3) := by decide +kernel
theorem d_Model_primitive_264 : decode prog_14_method_48_code 264 = .ok (.aload_n 0, 1) := by decide +kernel
theorem d_Model_primitive_265 : decode prog_14_method_48_code 265 = .ok (.getfield 260, 3) := by decide +kernel
theorem d_Model_primitive_268 : decode prog_14_method_48_code 268 = .ok (.iaload, 1) := by decide +kernel
theorem d_Model_primitive_269 : decode prog_14_method_48_code 269 = .ok (.ireturn, 1) := by decide +kernel
section MPrim
variable {g : q_G} {sz m : Nat} {T : q_T} {I : q_I} {R : q_R} {J : q_J} {S : KA}
theorem a_prm_range {D : List KF} {dn : Nat} {kd a b c : Int32} {o : Option (List Nat)} (h : kd < 0 ∨ nI 8 < kd) : a_prm D dn kd o a b c = none := by
  have hk1 : ¬ kd = 1 := fun z => by
    rcases h with h | h
    · rw [z] at h; exact absurd h (by decide)
    · rw [z] at h; exact absurd h (by decide)
  unfold a_prm
  rw [if_neg hk1]
  cases a_fld D o with
  | none => rfl
  | some f =>
    show (if kd < 0 then none else if b_knd D f kd.toNatClampNeg a b = true then _ else none) = none
    by_cases hn : kd < 0
    · rw [if_pos hn]
    · rw [if_neg hn]
      obtain ⟨k, k1, rfl⟩ := nI_of hn
      have h8 : 8 < k := by
        rcases h with h | h
        · exact absurd h hn
        · exact (nI_ltI (by decide) k1).mp h
      rw [nI_clamp k1]
      have : b_knd D f k a b = false := by
        unfold b_knd
        match k, (show 9 ≤ k by omega) with
        | k + 9, _ => rfl
      rw [this]; rfl
theorem c_Model_primitive_no (hw : wf S) (hM : relM S m T I R) {kd pth a b c : Int32} (ho : S.op = false ∨ S.dp.length = 8) : q_Ci g M_Model_primitive [.ref m, .int kd, .int pth, .int a, .int b, .int c] (sz, T, I, R, J) 0 0 (m_spm m sz T I R J (nI 1, 0, S)) := by
  have hL := hM.1
  have hs16 := hw.2.1.1
  have fin : q_V g M_Model_primitive 0 0 0 0 (sz, T, I, R, J) (fun o h' => ∃ r : Int32, o = .inl (some (.int r)) ∧ m_spm m sz T I R J (nI 1, 0, S) r h') 22 [some (.ref m), some (.int kd), some (.int pth), some (.int a), some (.int b), some (.int c), none, none] [.ref m] := by
    refine q_iconst (v := nI 1) d_Model_primitive_22 (by decide) ?_
    refine q_goto (tgt := 27) d_Model_primitive_23 rfl ?_
    refine q_putI (ci := 11) (fk := 0) d_Model_primitive_27 rfl (Nat.le_of_ble_eq_true rfl) w_1104 (Or.inl rfl) (fun _ _ => rfl) rfl rfl hL.1 ?_
    refine q_aload_n d_Model_primitive_30 rfl rfl ?_
    refine q_getI (ci := 11) (fk := 0) d_Model_primitive_31 rfl (Nat.le_of_ble_eq_true rfl) w_1104 (fun _ _ => rfl) hL.1 ?_
    rw [q_upI_self]
    refine q_if_le (tgt := 39) d_Model_primitive_34 rfl (fun hc => ?_) (fun hc => ?_)
    · exact absurd hc (by decide)
    · refine q_iconst (v := nI 0) d_Model_primitive_37 (by decide) ?_
      refine q_iret d_Model_primitive_38 rfl (by omega) (by omega) ?_
      exact ⟨_, rfl, m_no hM (by decide) _⟩
  refine q_C.of (ls0 := [some (.ref m), some (.int kd), some (.int pth), some (.int a), some (.int b), some (.int c), none, none]) (by decide) rfl (by decide) (Nat.le_of_ble_eq_true rfl) rfl ?_
  refine q_aload_n d_Model_primitive_0 rfl rfl ?_
  refine q_aload_n d_Model_primitive_1 rfl rfl ?_
  refine q_getI (ci := 11) (fk := 13) d_Model_primitive_2 rfl (Nat.le_of_ble_eq_true rfl) w_1117 (fun _ _ => rfl) hL.1 ?_
  rw [hM.2.2.1.2.2.1]
  cases hop : S.op with
  | false =>
    refine q_if_eq (tgt := 22) d_Model_primitive_5 rfl (fun hc => ?_) (fun hc => ?_)
    · exact fin
    · exact absurd rfl hc
  | true =>
    have h8 : S.dp.length = 8 := by
      rcases ho with z | z
      · rw [hop] at z; cases z
      · exact z
    refine q_if_eq (tgt := 22) d_Model_primitive_5 rfl (fun hc => ?_) (fun hc => ?_)
    · exact absurd hc (by decide)
    refine q_aload_n d_Model_primitive_8 rfl rfl ?_
    refine q_getR (ci := 11) (fk := 11) d_Model_primitive_9 rfl (Nat.le_of_ble_eq_true rfl) w_1115 (fun _ _ => rfl) hL.1 (hL.2 11 _ _ _ rfl).1 ?_
    refine q_aload_n d_Model_primitive_12 rfl rfl ?_
    refine q_getI (ci := 11) (fk := 8) d_Model_primitive_13 rfl (Nat.le_of_ble_eq_true rfl) w_1112 (fun _ _ => rfl) hL.1 ?_
    rw [hM.2.2.1.1]
    refine q_iald d_Model_primitive_16 (hL.2 11 _ _ _ rfl).2 (by first | assumption | exact vp_in_nI (by omega) (by omega)) ?_
    rw [(hM.2.2.1.2.2.2 hop).2.1, h8]
    refine q_bipush (v := nI 8) d_Model_primitive_17 (by decide) ?_
    refine q_icmp_ne (tgt := 26) d_Model_primitive_19 rfl (fun hc => ?_) (fun hc => ?_)
    · exact absurd rfl hc
    · exact fin
/-- up to the question -/
theorem c_Model_primitive_pre (hw : wf S) (hM : relM S m T I R) {kd pth a b c : Int32} (hop : S.op = true) (h8 : S.dp.length < 8) {Q : q_O → q_H → Prop} (kk : ∀ (I2 : q_I) (M : List KF) (v : Int32), m_w0 m I I2 ∨ True → m_ps m I I2 → k_mw m M I2 → M.Perm S.dD → k_wfL M → v = (if (a_prm S.dD S.dn kd (k_of pth) a b c).isSome = true then nI 0 else nI 2) → q_V g M_Model_primitive 0 0 0 0 (sz, T, I2, R, J) Q 73 [some (.ref m), some (.int kd), some (.int pth), some (.int a), some (.int b), some (.int c), none, none] [.int v, .ref m]) : q_C g M_Model_primitive [.ref m, .int kd, .int pth, .int a, .int b, .int c] (sz, T, I, R, J) 0 0 Q := by
  have hL := hM.1
  have hs16 := hw.2.1.1
  obtain ⟨I0, hI0⟩ : ∃ I0, I0 = q_upI I m (nI 0) (nI 0) := ⟨_, rfl⟩
  have hps : m_ps m I I0 := by rw [hI0]; exact m_ps.int (by decide) (by decide) (by decide) (by decide) (by decide)
  refine q_C.of (ls0 := [some (.ref m), some (.int kd), some (.int pth), some (.int a), some (.int b), some (.int c), none, none]) (by decide) rfl (by decide) (Nat.le_of_ble_eq_true rfl) rfl ?_
  refine q_aload_n d_Model_primitive_0 rfl rfl ?_
  refine q_aload_n d_Model_primitive_1 rfl rfl ?_
  refine q_getI (ci := 11) (fk := 13) d_Model_primitive_2 rfl (Nat.le_of_ble_eq_true rfl) w_1117 (fun _ _ => rfl) hL.1 ?_
  rw [hM.2.2.1.2.2.1, hop]
  refine q_if_eq (tgt := 22) d_Model_primitive_5 rfl (fun hc => ?_) (fun hc => ?_)
  · exact absurd hc (by decide)
  refine q_aload_n d_Model_primitive_8 rfl rfl ?_
  refine q_getR (ci := 11) (fk := 11) d_Model_primitive_9 rfl (Nat.le_of_ble_eq_true rfl) w_1115 (fun _ _ => rfl) hL.1 (hL.2 11 _ _ _ rfl).1 ?_
  refine q_aload_n d_Model_primitive_12 rfl rfl ?_
  refine q_getI (ci := 11) (fk := 8) d_Model_primitive_13 rfl (Nat.le_of_ble_eq_true rfl) w_1112 (fun _ _ => rfl) hL.1 ?_
  rw [hM.2.2.1.1]
  refine q_iald d_Model_primitive_16 (hL.2 11 _ _ _ rfl).2 (by first | assumption | exact vp_in_nI (by omega) (by omega)) ?_
  rw [(hM.2.2.1.2.2.2 hop).2.1]
  refine q_bipush (v := nI 8) d_Model_primitive_17 (by decide) ?_
  refine q_icmp_ne (tgt := 26) d_Model_primitive_19 rfl (fun hc => ?_) (fun hc => ?_)
  rotate_left
  · have := (nI_eq (by omega) (by omega)).mp (show nI S.dp.length = nI 8 by have := hc; exact this)
    omega
  refine q_iconst (v := nI 0) d_Model_primitive_26 (by decide) ?_
  refine q_putI (ci := 11) (fk := 0) d_Model_primitive_27 rfl (Nat.le_of_ble_eq_true rfl) w_1104 (Or.inl rfl) (fun _ _ => rfl) rfl rfl hL.1 ?_
  refine q_aload_n d_Model_primitive_30 rfl rfl ?_
  refine q_getI (ci := 11) (fk := 0) d_Model_primitive_31 rfl (Nat.le_of_ble_eq_true rfl) w_1104 (fun _ _ => rfl) hL.1 ?_
  rw [q_upI_self]
  refine q_if_le (tgt := 39) d_Model_primitive_34 rfl (fun hc => ?_) (fun hc => ?_)
  rotate_left
  · exact absurd (Int32.le_refl _) hc
  rw [← hI0]
  refine q_aload_n d_Model_primitive_39 rfl rfl ?_
  refine q_callVv (M2 := M_Model_takeUnderWay) d_Model_primitive_40 ⟨(Nat.le_of_ble_eq_true rfl), (Nat.le_of_ble_eq_true rfl), w_1289, w_10, ⟨by decide, by decide⟩, show _ = some 0 by decide +kernel⟩ w_1286 w_1288 (ci := 11) rfl s_56 hL.1 rfl (Nat.le_of_ble_eq_true rfl) (by omega) (by omega) (c_Model_takeUnderWay hw (hM.ps hps) hop) ?_
  rintro _ ⟨I2, M, rfl, k1, k2, k3, k4⟩
  have hdD : k_dis S.dD := k4.2.2.1.perm k3.symm
  have hpm := a_prm_perm k3 hdD S.dn kd (k_of pth) a b c
  have two : (a_prm S.dD S.dn kd (k_of pth) a b c).isSome = false → ∀ mcc msc : Nat, mcc = 0 → msc = 0 → q_V g M_Model_primitive 0 0 mcc msc (sz, T, I2, R, J) Q 72 [some (.ref m), some (.int kd), some (.int pth), some (.int a), some (.int b), some (.int c), none, none] [.ref m] := by
    intro hz mcc msc e1 e2
    subst e1 e2
    refine q_iconst (v := nI 2) d_Model_primitive_72 (by decide) ?_
    exact kk I2 M _ (Or.inr trivial) (hps.trans k1.1) k2 k3 k4 (by rw [hz]; rfl)
  refine q_aload_n d_Model_primitive_43 rfl rfl ?_
  refine q_iload_n d_Model_primitive_44 rfl rfl ?_
  refine q_if_lt (tgt := 72) d_Model_primitive_45 rfl (fun hc => ?_) (fun hc => ?_)
  · exact two (by rw [a_prm_range (Or.inl hc)]; rfl) _ _ rfl rfl
  have hneg := hc
  refine q_iload_n d_Model_primitive_48 rfl rfl ?_
  refine q_bipush (v := nI 8) d_Model_primitive_49 (by decide) ?_
  refine q_icmp_gt (tgt := 72) d_Model_primitive_51 rfl (fun hc => ?_) (fun hc => ?_)
  · exact two (by rw [a_prm_range (Or.inr hc)]; rfl) _ _ rfl rfl
  have hk8 := Int32.not_lt.mp hc
  obtain ⟨k, kk1, hkd⟩ := nI_of hneg
  rw [hkd] at hk8
  rw [nI_leI kk1 (by decide)] at hk8
  refine q_aload_n d_Model_primitive_54 rfl rfl ?_
  refine q_iload_n d_Model_primitive_55 rfl rfl ?_
  refine q_iload_n d_Model_primitive_56 rfl rfl ?_
  refine q_iload_n d_Model_primitive_57 rfl rfl ?_
  refine q_iload d_Model_primitive_58 rfl ?_
  refine q_iload d_Model_primitive_60 rfl ?_
  rw [hkd]
  refine q_callVi (M2 := M_Model_canDo) d_Model_primitive_62 ⟨(Nat.le_of_ble_eq_true rfl), (Nat.le_of_ble_eq_true rfl), w_1376, w_10, ⟨by decide, by decide⟩, show _ = some 5 by decide +kernel⟩ w_1373 w_1375 (ci := 11) rfl s_71 hL.1 rfl (Nat.le_of_ble_eq_true rfl) (by omega) (by omega) (c_Model_canDo (dn := S.dn) (pth := pth) (a := a) (b := b) (c := c) hL k2 k4 hk8) ?_
  rintro _ _ ⟨rfl, rfl⟩
  rw [← hkd, hpm]
  cases hz : (a_prm S.dD S.dn kd (k_of pth) a b c).isSome with
  | false =>
    refine q_if_eq (tgt := 72) d_Model_primitive_65 rfl (fun hc => ?_) (fun hc => ?_)
    · exact two hz _ _ rfl rfl
    · exact absurd rfl hc
  | true =>
    refine q_if_eq (tgt := 72) d_Model_primitive_65 rfl (fun hc => ?_) (fun hc => ?_)
    · exact absurd hc (by decide)
    refine q_iconst (v := nI 0) d_Model_primitive_68 (by decide) ?_
    refine q_goto (tgt := 73) d_Model_primitive_69 rfl ?_
    exact kk I2 M _ (Or.inr trivial) (hps.trans k1.1) k2 k3 k4 (by rw [hz]; rfl)
theorem c_Model_primitive_no2 (hw : wf S) (hM : relM S m T I R) {kd pth a b c : Int32} (hop : S.op = true) (h8 : S.dp.length < 8) (hz : a_prm S.dD S.dn kd (k_of pth) a b c = none) : q_Ci g M_Model_primitive [.ref m, .int kd, .int pth, .int a, .int b, .int c] (sz, T, I, R, J) 0 0 (m_spm m sz T I R J (nI 2, 0, S)) := by
  have hL := hM.1
  refine c_Model_primitive_pre hw hM hop h8 fun I2 M v _ k1 k2 k3 k4 hv => ?_
  rw [hz] at hv
  have hv2 : v = nI 2 := hv
  subst hv2
  refine q_putI (ci := 11) (fk := 0) d_Model_primitive_73 rfl (Nat.le_of_ble_eq_true rfl) w_1104 (Or.inl rfl) (fun _ _ => rfl) rfl rfl hL.1 ?_
  refine q_aload_n d_Model_primitive_76 rfl rfl ?_
  refine q_getI (ci := 11) (fk := 0) d_Model_primitive_77 rfl (Nat.le_of_ble_eq_true rfl) w_1104 (fun _ _ => rfl) hL.1 ?_
  rw [q_upI_self]
  refine q_if_le (tgt := 85) d_Model_primitive_80 rfl (fun hc => ?_) (fun hc => ?_)
  · exact absurd hc (by decide)
  · refine q_iconst (v := nI 0) d_Model_primitive_83 (by decide) ?_
    refine q_iret d_Model_primitive_84 rfl (by omega) (by omega) ?_
    have hps := k1.trans (m_ps.int (I := I2) (m := m) (k := 0) (v := nI 2) (by decide) (by decide) (by decide) (by decide) (by decide))
    exact ⟨_, rfl, fun z => absurd (show nI 2 = 0 from z) (by decide), _, rfl, q_upI_self, hps.1.1, hM.ps hps⟩
set_option maxHeartbeats 2000000 in
theorem c_Model_primitive (hw : wf S) (hM : relM S m T I R) {kd pth a b c : Int32} {p : KP} (hop : S.op = true) (h8 : S.dp.length < 8) (hz : a_prm S.dD S.dn kd (k_of pth) a b c = some p) (hcan : (kd = nI p.kind ∧ p.kind ≤ 8) ∧ k_of pth = some p.nm ∧ p.a = a ∧ p.b = b ∧ (p.kind ≠ 1 → a_fld S.dD (k_of pth) = some p.f) ∧ (p.kind = 1 → p.so = a ∧ p.lo = (if a = 2 then 0 else b) ∧ p.hi = if a = 2 then 0 else c)) {o : KO} (ho : o_prim S p (a_dn S.dn kd) o) : q_Ci g M_Model_primitive [.ref m, .int kd, .int pth, .int a, .int b, .int c] (sz, T, I, R, J) 0 0 (m_spm m sz T I R J o) := by
  have hL := hM.1
  have hs16 := hw.2.1.1
  obtain ⟨D1, -, -, rfl⟩ := ho
  obtain ⟨⟨c1, c2⟩, c3, c4, c5, c6, c7⟩ := hcan
  have hpth : pth = nI (k_path p.nm) := ((k_of_iff (k_of_ok c3) pth).mpr c3).symm
  refine c_Model_primitive_pre hw hM hop h8 fun I2 M v _ k1 k2 k3 k4 hv => ?_
  rw [hz] at hv
  have hv2 : v = nI 0 := hv
  subst hv2
  obtain ⟨n, hn⟩ : ∃ n, n = S.ss.length := ⟨_, rfl⟩
  obtain ⟨t, ht⟩ : ∃ t, t = S.dp.length := ⟨_, rfl⟩
  rw [← hn] at hs16
  rw [← ht] at h8
  obtain ⟨I3, hI3⟩ : ∃ I3, I3 = q_upI I2 m (nI 0) (nI 0) := ⟨_, rfl⟩
  have hps : m_ps m I I3 := by rw [hI3]; exact k1.trans (m_ps.int (by decide) (by decide) (by decide) (by decide) (by decide))
  have hM3 := hM.ps hps
  have z3 : I3 m (nI 0) = 0 := by rw [hI3, q_upI_self]; rfl
  have h83 : I3 m (nI 8) = nI n := by rw [hM3.2.2.1.1, hn]
  have h88 : I3 (m + 8) (nI n) = nI t := by rw [hn, ht]; exact (hM3.2.2.1.2.2.2 hop).2.1
  have k2' : k_mw m M I3 := by
    rw [hI3]
    unfold k_mw
    rw [q_upI_nk (by omega)]
    refine ⟨k2.1, k2.2.1, fun i e he => ?_⟩
    rw [q_upI_nea (by omega), q_upI_nea (by omega), q_upI_nea (by omega), q_upI_nea (by omega)]
    exact k2.2.2 i e he
  obtain ⟨q, hq⟩ : ∃ q, q = 8 * (8 * n + t) := ⟨_, rfl⟩
  have hfld : p.kind ≠ 1 → ∃ i, k_fo M (k_of pth) = some i ∧ M[i]? = some p.f ∧ i < 24 := fun hk => by
    have h9 := c6 hk
    rw [← a_fld_perm k3 (k4.2.2.1.perm k3.symm) (k_of pth)] at h9
    unfold a_fld at h9
    cases hfo : k_fo M (k_of pth) with
    | none => rw [hfo] at h9; cases h9
    | some i =>
      rw [hfo] at h9
      have h7 : M[i]? = some p.f := h9
      have := (List.getElem?_eq_some_iff.mp h7).1
      have := k4.1
      exact ⟨i, rfl, h7, by omega⟩
  refine q_putI (ci := 11) (fk := 0) d_Model_primitive_73 rfl (Nat.le_of_ble_eq_true rfl) w_1104 (Or.inl rfl) (fun _ _ => rfl) rfl rfl hL.1 ?_
  refine q_aload_n d_Model_primitive_76 rfl rfl ?_
  refine q_getI (ci := 11) (fk := 0) d_Model_primitive_77 rfl (Nat.le_of_ble_eq_true rfl) w_1104 (fun _ _ => rfl) hL.1 ?_
  rw [q_upI_self]
  refine q_if_le (tgt := 85) d_Model_primitive_80 rfl (fun hc => ?_) (fun hc => ?_)
  rotate_left
  · exact absurd (Int32.le_refl _) hc
  rw [← hI3]
  refine q_aload_n d_Model_primitive_85 rfl rfl ?_
  refine q_aload_n d_Model_primitive_86 rfl rfl ?_
  refine q_getI (ci := 11) (fk := 8) d_Model_primitive_87 rfl (Nat.le_of_ble_eq_true rfl) w_1112 (fun _ _ => rfl) hL.1 ?_
  rw [h83]
  refine q_aload_n d_Model_primitive_90 rfl rfl ?_
  refine q_getR (ci := 11) (fk := 11) d_Model_primitive_91 rfl (Nat.le_of_ble_eq_true rfl) w_1115 (fun _ _ => rfl) hL.1 (hL.2 11 _ _ _ rfl).1 ?_
  refine q_aload_n d_Model_primitive_94 rfl rfl ?_
  refine q_getI (ci := 11) (fk := 8) d_Model_primitive_95 rfl (Nat.le_of_ble_eq_true rfl) w_1112 (fun _ _ => rfl) hL.1 ?_
  rw [h83]
  refine q_iald d_Model_primitive_98 (hL.2 11 _ _ _ rfl).2 (by first | assumption | exact vp_in_nI (by omega) (by omega)) ?_
  rw [h88]
  refine q_callVi (M2 := M_Model_at) d_Model_primitive_99 ⟨(Nat.le_of_ble_eq_true rfl), (Nat.le_of_ble_eq_true rfl), w_1297, w_10, ⟨by decide, by decide⟩, show _ = some 2 by decide +kernel⟩ w_1294 w_1296 (ci := 11) rfl s_58 hL.1 rfl (Nat.le_of_ble_eq_true rfl) (by omega) (by omega) (c_Model_at) ?_
  rintro _ _ ⟨rfl, rfl⟩
  rw [← hq]
  refine q_istore d_Model_primitive_102 (Nat.le_of_ble_eq_true rfl) (by first | exact q_ok0 | exact q_okI rfl | exact q_okR rfl | exact q_okN rfl) rfl ?_
  refine q_aload_n d_Model_primitive_104 rfl rfl ?_
  refine q_iload_n d_Model_primitive_105 rfl rfl ?_
  refine q_callVi (M2 := M_Model_find) d_Model_primitive_106 ⟨(Nat.le_of_ble_eq_true rfl), (Nat.le_of_ble_eq_true rfl), w_1266, w_10, ⟨by decide, by decide⟩, show _ = some 1 by decide +kernel⟩ w_1263 w_1265 (ci := 11) rfl s_53 hL.1 rfl (Nat.le_of_ble_eq_true rfl) (by omega) (by omega) (c_Model_findF hL k2' k4.2.1 pth) ?_
  rintro _ _ ⟨rfl, rfl⟩
  refine q_istore d_Model_primitive_109 (Nat.le_of_ble_eq_true rfl) (by first | exact q_ok0 | exact q_okI rfl | exact q_okR rfl | exact q_okN rfl) rfl ?_
  refine q_aload_n d_Model_primitive_111 rfl rfl ?_
  refine q_getR (ci := 11) (fk := 12) d_Model_primitive_112 rfl (Nat.le_of_ble_eq_true rfl) w_1116 (fun _ _ => rfl) hL.1 (hL.2 12 _ _ _ rfl).1 ?_
  refine q_iload d_Model_primitive_115 rfl ?_
  refine q_iload_n d_Model_primitive_117 rfl rfl ?_
  refine q_iast d_Model_primitive_118 (hL.2 12 _ _ _ rfl).2 (by first | assumption | exact vp_in_nI (by omega) (by omega)) ?_
  refine q_aload_n d_Model_primitive_119 rfl rfl ?_
  refine q_getR (ci := 11) (fk := 12) d_Model_primitive_120 rfl (Nat.le_of_ble_eq_true rfl) w_1116 (fun _ _ => rfl) hL.1 (hL.2 12 _ _ _ rfl).1 ?_
  refine q_iload d_Model_primitive_123 rfl ?_
  refine q_iconst (v := nI 1) d_Model_primitive_125 (by decide) ?_
  first | refine q_iaddN d_Model_primitive_126 ?_ | refine q_iadd d_Model_primitive_126 ?_
  refine q_iload_n d_Model_primitive_127 rfl rfl ?_
  refine q_iast d_Model_primitive_128 (hL.2 12 _ _ _ rfl).2 (by first | assumption | exact vp_in_nI (by omega) (by omega)) ?_
  refine q_aload_n d_Model_primitive_129 rfl rfl ?_
  refine q_getR (ci := 11) (fk := 12) d_Model_primitive_130 rfl (Nat.le_of_ble_eq_true rfl) w_1116 (fun _ _ => rfl) hL.1 (hL.2 12 _ _ _ rfl).1 ?_
  refine q_iload d_Model_primitive_133 rfl ?_
  refine q_iconst (v := nI 2) d_Model_primitive_135 (by decide) ?_
  first | refine q_iaddN d_Model_primitive_136 ?_ | refine q_iadd d_Model_primitive_136 ?_
  refine q_iload_n d_Model_primitive_137 rfl rfl ?_
  refine q_iast d_Model_primitive_138 (hL.2 12 _ _ _ rfl).2 (by first | assumption | exact vp_in_nI (by omega) (by omega)) ?_
  refine q_aload_n d_Model_primitive_139 rfl rfl ?_
  refine q_getR (ci := 11) (fk := 12) d_Model_primitive_140 rfl (Nat.le_of_ble_eq_true rfl) w_1116 (fun _ _ => rfl) hL.1 (hL.2 12 _ _ _ rfl).1 ?_
  refine q_iload d_Model_primitive_143 rfl ?_
  refine q_iconst (v := nI 3) d_Model_primitive_145 (by decide) ?_
  first | refine q_iaddN d_Model_primitive_146 ?_ | refine q_iadd d_Model_primitive_146 ?_
  refine q_iload d_Model_primitive_147 rfl ?_
  refine q_iast d_Model_primitive_149 (hL.2 12 _ _ _ rfl).2 (by first | assumption | exact vp_in_nI (by omega) (by omega)) ?_
  refine q_aload_n d_Model_primitive_150 rfl rfl ?_
  refine q_getR (ci := 11) (fk := 12) d_Model_primitive_151 rfl (Nat.le_of_ble_eq_true rfl) w_1116 (fun _ _ => rfl) hL.1 (hL.2 12 _ _ _ rfl).1 ?_
  refine q_iload d_Model_primitive_154 rfl ?_
  refine q_iconst (v := nI 5) d_Model_primitive_156 (by decide) ?_
  first | refine q_iaddN d_Model_primitive_157 ?_ | refine q_iadd d_Model_primitive_157 ?_
  obtain ⟨I4, hI4⟩ : ∃ I4, I4 = q_upI (q_upI (q_upI (q_upI I3 (m + 9) (nI q) kd) (m + 9) (nI (q + 1)) pth) (m + 9) (nI (q + 2)) a) (m + 9) (nI (q + 3)) b := ⟨_, rfl⟩
  rw [← hI4]
  have o4 : ∀ b9, b9 ≠ m + 9 → I4 b9 = I3 b9 := fun b9 h9 => by rw [hI4]; funext j; rw [q_upI_nea h9, q_upI_nea h9, q_upI_nea h9, q_upI_nea h9]
  have t9 := (hL.2 12 _ _ _ rfl).2
  -- the last: the count
  have fin : ∀ (mcc msc : Nat) (I5 : q_I) (l7 : Option Value), mcc = 0 → msc = 0 → (∀ b9, b9 ≠ m + 9 → I5 b9 = I3 b9) → (∀ j, j < 1088 → j < q ∨ q + 8 ≤ j → I5 (m + 9) (nI j) = I3 (m + 9) (nI j)) → k_mp m q p I5 → q_V g M_Model_primitive 0 0 mcc msc (sz, T, I5, R, J) (fun o' h' => ∃ r : Int32, o' = .inl (some (.int r)) ∧ m_spm m sz T I R J (0, nI (S.dp.length + 1), S.addP p D1 (a_dn S.dn kd)) r h') 247 [some (.ref m), some (.int kd), some (.int pth), some (.int a), some (.int b), some (.int c), some (.int (nI q)), l7] [] := by
    intro mcc msc I5 l7 e1 e2 p1 p2 p3
    subst e1 e2
    refine q_aload_n d_Model_primitive_247 rfl rfl ?_
    refine q_getR (ci := 11) (fk := 11) d_Model_primitive_248 rfl (Nat.le_of_ble_eq_true rfl) w_1115 (fun _ _ => rfl) hL.1 (hL.2 11 _ _ _ rfl).1 ?_
    refine q_aload_n d_Model_primitive_251 rfl rfl ?_
    refine q_getI (ci := 11) (fk := 8) d_Model_primitive_252 rfl (Nat.le_of_ble_eq_true rfl) w_1112 (fun _ _ => rfl) hL.1 ?_
    rw [p1 m (by omega), h83]
    refine q_dup2 d_Model_primitive_255 rfl rfl ?_
    refine q_iald d_Model_primitive_256 (hL.2 11 _ _ _ rfl).2 (by first | assumption | exact vp_in_nI (by omega) (by omega)) ?_
    rw [p1 (m + 8) (by omega), h88]
    refine q_iconst (v := nI 1) d_Model_primitive_257 (by decide) ?_
    first | refine q_iaddN d_Model_primitive_258 ?_ | refine q_iadd d_Model_primitive_258 ?_
    refine q_iast d_Model_primitive_259 (hL.2 11 _ _ _ rfl).2 (by first | assumption | exact vp_in_nI (by omega) (by omega)) ?_
    refine q_aload_n d_Model_primitive_260 rfl rfl ?_
    refine q_getR (ci := 11) (fk := 11) d_Model_primitive_261 rfl (Nat.le_of_ble_eq_true rfl) w_1115 (fun _ _ => rfl) hL.1 (hL.2 11 _ _ _ rfl).1 ?_
    refine q_aload_n d_Model_primitive_264 rfl rfl ?_
    refine q_getI (ci := 11) (fk := 8) d_Model_primitive_265 rfl (Nat.le_of_ble_eq_true rfl) w_1112 (fun _ _ => rfl) hL.1 ?_
    rw [q_upI_nea (by omega), p1 m (by omega), h83]
    refine q_iald d_Model_primitive_268 (hL.2 11 _ _ _ rfl).2 (by first | assumption | exact vp_in_nI (by omega) (by omega)) ?_
    rw [q_upI_self]
    refine q_iret d_Model_primitive_269 rfl (by omega) (by omega) ?_
    obtain ⟨I6, hI6⟩ : ∃ I6, I6 = q_upI I5 (m + 8) (nI n) (nI (t + 1)) := ⟨_, rfl⟩
    rw [← hI6]
    have o6 : ∀ b9, b9 ≠ m + 8 → b9 ≠ m + 9 → I6 b9 = I3 b9 := fun b9 h9 h10 => by rw [hI6]; have : q_upI I5 (m + 8) (nI n) (nI (t + 1)) b9 = I5 b9 := by funext j; rw [q_upI_nea h9]
                                                                                   rw [this, p1 b9 h10]
    have e69 : I6 (m + 9) = I5 (m + 9) := by rw [hI6]; funext j; rw [q_upI_nea (by omega)]
    obtain ⟨g1, g2, g3, g4, g5⟩ := hM3
    refine ⟨_, rfl, fun _ => by rw [ht], I6, rfl, by rw [o6 m (by omega) (by omega)]; exact z3, fun b9 h9 => by rw [o6 b9 (by omega) (by omega)]; exact hps.1.1 b9 h9, g1, ?_, ⟨?_, fun i st hi => ?_, ?_, fun _ => ⟨?_, ?_, fun j p9 hj => ?_⟩⟩, ?_, ?_⟩
    · unfold m_ver
      rw [o6 m (by omega) (by omega), o6 (m + 1) (by omega) (by omega), o6 (m + 2) (by omega) (by omega), o6 (m + 3) (by omega) (by omega), o6 (m + 4) (by omega) (by omega), o6 (m + 5) (by omega) (by omega)]
      exact g2
    · rw [o6 m (by omega) (by omega)]; exact g3.1
    · have hin := (List.getElem?_eq_some_iff.mp hi).1
      have hin2 : i < n := by rw [hn]; exact hin
      obtain ⟨b1, b2, b3, b4⟩ := g3.2.1 i st hi
      have hst := hw.2.1.2 st (List.mem_of_getElem? hi)
      refine ⟨by rw [o6 (m + 6) (by omega) (by omega)]; exact b1, by rw [o6 (m + 7) (by omega) (by omega)]; exact b2, ?_, fun j p9 hj => ?_⟩
      · rw [hI6, q_upI_nk (by omega), p1 (m + 8) (by omega)]; exact b3
      · have hj8 := (List.getElem?_eq_some_iff.mp hj).1
        have hj9 := hst.2.2.2.1
        have h9 := b4 j p9 hj
        unfold k_mp at h9 ⊢
        rw [e69, p2 _ (by omega) (by omega), p2 _ (by omega) (by omega), p2 _ (by omega) (by omega), p2 _ (by omega) (by omega), p2 _ (by omega) (by omega), p2 _ (by omega) (by omega), p2 _ (by omega) (by omega)]
        exact h9
    · rw [o6 m (by omega) (by omega)]; exact g3.2.2.1
    · rw [o6 (m + 6) (by omega) (by omega)]; exact (g3.2.2.2 hop).1
    · show I6 (m + 8) (nI S.ss.length) = nI (S.dp ++ [p]).length
      rw [← hn, hI6, q_upI_self, List.length_append, ← ht]; rfl
    · have hj2 : (S.dp ++ [p])[j]? = some p9 := hj
      show k_mp m (8 * (8 * S.ss.length + j)) p9 I6
      rw [← hn]
      by_cases hjt : j < S.dp.length
      · rw [List.getElem?_append_left hjt] at hj2
        have h9 := (g3.2.2.2 hop).2.2 j p9 hj2
        rw [← hn] at h9
        unfold k_mp at h9 ⊢
        rw [e69, p2 _ (by omega) (by omega), p2 _ (by omega) (by omega), p2 _ (by omega) (by omega), p2 _ (by omega) (by omega), p2 _ (by omega) (by omega), p2 _ (by omega) (by omega), p2 _ (by omega) (by omega)]
        exact h9
      · rw [List.getElem?_append_right (by omega)] at hj2
        have hj3 := (List.getElem?_eq_some_iff.mp hj2).1
        have h1 : ([p] : List KP).length = 1 := rfl
        have hj4 : j = t := by omega
        rw [show j - S.dp.length = 0 by omega] at hj2
        have : p = p9 := by simpa using hj2
        subst this
        rw [hj4, ← hq]
        exact p3.cong e69
    · unfold m_row m_kpt
      rw [o6 (m + 10) (by omega) (by omega), o6 (m + 11) (by omega) (by omega), o6 (m + 12) (by omega) (by omega), o6 (m + 13) (by omega) (by omega)]
      exact g4
    · rw [o6 m (by omega) (by omega)]; exact g5
  have mk : ∀ (I5 : q_I) (s l h : Int32), I5 = q_upI (q_upI (q_upI I4 (m + 9) (nI (q + 5)) s) (m + 9) (nI (q + 6)) l) (m + 9) (nI (q + 7)) h → s = p.so → l = p.lo → h = p.hi → (∀ b9, b9 ≠ m + 9 → I5 b9 = I3 b9) ∧ (∀ j, j < 1088 → j < q ∨ q + 8 ≤ j → I5 (m + 9) (nI j) = I3 (m + 9) (nI j)) ∧ k_mp m q p I5 := by
    intro I5 s l h h5 hs hl hh
    subst hs hl hh
    refine ⟨fun b9 h9 => ?_, fun j hj hj2 => ?_, ?_, ?_, ?_, ?_, ?_, ?_, ?_⟩
    · rw [← o4 b9 h9, h5]; funext j; rw [q_upI_nea h9, q_upI_nea h9, q_upI_nea h9]
    · rw [h5, hI4]
      simp (disch := omega) only [q_upI_nea, q_upI_self, q_upI_nk]
    · rw [h5, hI4]
      simp (disch := omega) only [q_upI_nea, q_upI_self, q_upI_nk]
      exact c1
    · rw [h5, hI4]
      simp (disch := omega) only [q_upI_nea, q_upI_self, q_upI_nk]
      exact hpth
    · rw [h5, hI4]
      simp (disch := omega) only [q_upI_nea, q_upI_self, q_upI_nk]
      exact c4.symm
    · rw [h5, hI4]
      simp (disch := omega) only [q_upI_nea, q_upI_self, q_upI_nk]
      exact c5.symm
    · rw [h5]
      simp (disch := omega) only [q_upI_nea, q_upI_self, q_upI_nk]
    · rw [h5]
      simp (disch := omega) only [q_upI_nea, q_upI_self, q_upI_nk]
    · rw [h5]
      simp (disch := omega) only [q_upI_nea, q_upI_self, q_upI_nk]
  by_cases hk1 : p.kind = 1
  · have hkd1 : kd = 1 := by rw [c1, hk1]; rfl
    obtain ⟨d1, d2, d3⟩ := c7 hk1
    by_cases ha2 : a = 2
    · rw [if_pos ha2] at d2 d3
      refine q_iload_n d_Model_primitive_158 rfl rfl ?_
      refine q_iconst (v := nI 1) d_Model_primitive_159 (by decide) ?_
      refine q_icmp_ne (tgt := 167) d_Model_primitive_160 rfl (fun hc => ?_) (fun hc => ?_)
      · exact absurd hkd1 hc
      refine q_iload_n d_Model_primitive_163 rfl rfl ?_
      refine q_goto (tgt := 174) d_Model_primitive_164 rfl ?_
      refine q_iast d_Model_primitive_174 (hL.2 12 _ _ _ rfl).2 (by first | assumption | exact vp_in_nI (by omega) (by omega)) ?_
      refine q_aload_n d_Model_primitive_175 rfl rfl ?_
      refine q_getR (ci := 11) (fk := 12) d_Model_primitive_176 rfl (Nat.le_of_ble_eq_true rfl) w_1116 (fun _ _ => rfl) hL.1 (hL.2 12 _ _ _ rfl).1 ?_
      refine q_iload d_Model_primitive_179 rfl ?_
      refine q_bipush (v := nI 6) d_Model_primitive_181 (by decide) ?_
      first | refine q_iaddN d_Model_primitive_183 ?_ | refine q_iadd d_Model_primitive_183 ?_
      refine q_iload_n d_Model_primitive_184 rfl rfl ?_
      refine q_iconst (v := nI 1) d_Model_primitive_185 (by decide) ?_
      refine q_icmp_ne (tgt := 203) d_Model_primitive_186 rfl (fun hc => ?_) (fun hc => ?_)
      · exact absurd hkd1 hc
      refine q_iload_n d_Model_primitive_189 rfl rfl ?_
      refine q_iconst (v := nI 2) d_Model_primitive_190 (by decide) ?_
      refine q_icmp_ne (tgt := 198) d_Model_primitive_191 rfl (fun hc => ?_) (fun hc => ?_)
      · exact absurd ha2 hc
      refine q_iconst (v := nI 0) d_Model_primitive_194 (by decide) ?_
      refine q_goto (tgt := 210) d_Model_primitive_195 rfl ?_
      refine q_iast d_Model_primitive_210 (hL.2 12 _ _ _ rfl).2 (by first | assumption | exact vp_in_nI (by omega) (by omega)) ?_
      refine q_aload_n d_Model_primitive_211 rfl rfl ?_
      refine q_getR (ci := 11) (fk := 12) d_Model_primitive_212 rfl (Nat.le_of_ble_eq_true rfl) w_1116 (fun _ _ => rfl) hL.1 (hL.2 12 _ _ _ rfl).1 ?_
      refine q_iload d_Model_primitive_215 rfl ?_
      refine q_bipush (v := nI 7) d_Model_primitive_217 (by decide) ?_
      first | refine q_iaddN d_Model_primitive_219 ?_ | refine q_iadd d_Model_primitive_219 ?_
      refine q_iload_n d_Model_primitive_220 rfl rfl ?_
      refine q_iconst (v := nI 1) d_Model_primitive_221 (by decide) ?_
      refine q_icmp_ne (tgt := 239) d_Model_primitive_222 rfl (fun hc => ?_) (fun hc => ?_)
      · exact absurd hkd1 hc
      refine q_iload_n d_Model_primitive_225 rfl rfl ?_
      refine q_iconst (v := nI 2) d_Model_primitive_226 (by decide) ?_
      refine q_icmp_ne (tgt := 234) d_Model_primitive_227 rfl (fun hc => ?_) (fun hc => ?_)
      · exact absurd ha2 hc
      refine q_iconst (v := nI 0) d_Model_primitive_230 (by decide) ?_
      refine q_goto (tgt := 246) d_Model_primitive_231 rfl ?_
      refine q_iast d_Model_primitive_246 (hL.2 12 _ _ _ rfl).2 (by first | assumption | exact vp_in_nI (by omega) (by omega)) ?_
      obtain ⟨x1, x2, x3⟩ := mk _ _ _ _ rfl d1.symm d2.symm d3.symm
      exact fin _ _ _ _ rfl rfl x1 x2 x3
    · rw [if_neg ha2] at d2 d3
      refine q_iload_n d_Model_primitive_158 rfl rfl ?_
      refine q_iconst (v := nI 1) d_Model_primitive_159 (by decide) ?_
      refine q_icmp_ne (tgt := 167) d_Model_primitive_160 rfl (fun hc => ?_) (fun hc => ?_)
      · exact absurd hkd1 hc
      refine q_iload_n d_Model_primitive_163 rfl rfl ?_
      refine q_goto (tgt := 174) d_Model_primitive_164 rfl ?_
      refine q_iast d_Model_primitive_174 (hL.2 12 _ _ _ rfl).2 (by first | assumption | exact vp_in_nI (by omega) (by omega)) ?_
      refine q_aload_n d_Model_primitive_175 rfl rfl ?_
      refine q_getR (ci := 11) (fk := 12) d_Model_primitive_176 rfl (Nat.le_of_ble_eq_true rfl) w_1116 (fun _ _ => rfl) hL.1 (hL.2 12 _ _ _ rfl).1 ?_
      refine q_iload d_Model_primitive_179 rfl ?_
      refine q_bipush (v := nI 6) d_Model_primitive_181 (by decide) ?_
      first | refine q_iaddN d_Model_primitive_183 ?_ | refine q_iadd d_Model_primitive_183 ?_
      refine q_iload_n d_Model_primitive_184 rfl rfl ?_
      refine q_iconst (v := nI 1) d_Model_primitive_185 (by decide) ?_
      refine q_icmp_ne (tgt := 203) d_Model_primitive_186 rfl (fun hc => ?_) (fun hc => ?_)
      · exact absurd hkd1 hc
      refine q_iload_n d_Model_primitive_189 rfl rfl ?_
      refine q_iconst (v := nI 2) d_Model_primitive_190 (by decide) ?_
      refine q_icmp_ne (tgt := 198) d_Model_primitive_191 rfl (fun hc => ?_) (fun hc => ?_)
      rotate_left
      · exact absurd (show a = 2 by have := hc; exact this) ha2
      refine q_iload d_Model_primitive_198 rfl ?_
      refine q_goto (tgt := 210) d_Model_primitive_200 rfl ?_
      refine q_iast d_Model_primitive_210 (hL.2 12 _ _ _ rfl).2 (by first | assumption | exact vp_in_nI (by omega) (by omega)) ?_
      refine q_aload_n d_Model_primitive_211 rfl rfl ?_
      refine q_getR (ci := 11) (fk := 12) d_Model_primitive_212 rfl (Nat.le_of_ble_eq_true rfl) w_1116 (fun _ _ => rfl) hL.1 (hL.2 12 _ _ _ rfl).1 ?_
      refine q_iload d_Model_primitive_215 rfl ?_
      refine q_bipush (v := nI 7) d_Model_primitive_217 (by decide) ?_
      first | refine q_iaddN d_Model_primitive_219 ?_ | refine q_iadd d_Model_primitive_219 ?_
      refine q_iload_n d_Model_primitive_220 rfl rfl ?_
      refine q_iconst (v := nI 1) d_Model_primitive_221 (by decide) ?_
      refine q_icmp_ne (tgt := 239) d_Model_primitive_222 rfl (fun hc => ?_) (fun hc => ?_)
      · exact absurd hkd1 hc
      refine q_iload_n d_Model_primitive_225 rfl rfl ?_
      refine q_iconst (v := nI 2) d_Model_primitive_226 (by decide) ?_
      refine q_icmp_ne (tgt := 234) d_Model_primitive_227 rfl (fun hc => ?_) (fun hc => ?_)
      rotate_left
      · exact absurd (show a = 2 by have := hc; exact this) ha2
      refine q_iload d_Model_primitive_234 rfl ?_
      refine q_goto (tgt := 246) d_Model_primitive_236 rfl ?_
      refine q_iast d_Model_primitive_246 (hL.2 12 _ _ _ rfl).2 (by first | assumption | exact vp_in_nI (by omega) (by omega)) ?_
      obtain ⟨x1, x2, x3⟩ := mk _ _ _ _ rfl d1.symm d2.symm d3.symm
      exact fin _ _ _ _ rfl rfl x1 x2 x3
  · have hkd1 : ¬ kd = 1 := fun z => hk1 (by
      rw [c1] at z
      exact (nI_eq (by omega) (by decide)).mp z)
    obtain ⟨i, i1, i2, i3⟩ := hfld hk1
    obtain ⟨w1, w2, w3, w4⟩ := k2'.2.2 i p.f i2
    rw [i1, show p_idx (some i) = nI i from rfl]
    refine q_iload_n d_Model_primitive_158 rfl rfl ?_
    refine q_iconst (v := nI 1) d_Model_primitive_159 (by decide) ?_
    refine q_icmp_ne (tgt := 167) d_Model_primitive_160 rfl (fun hc => ?_) (fun hc => ?_)
    rotate_left
    · exact absurd (show kd = 1 by have := hc; exact this) hkd1
    refine q_aload_n d_Model_primitive_167 rfl rfl ?_
    refine q_getR (ci := 11) (fk := 20) d_Model_primitive_168 rfl (Nat.le_of_ble_eq_true rfl) w_1124 (fun _ _ => rfl) hL.1 (hL.2 20 _ _ _ rfl).1 ?_
    refine q_iload d_Model_primitive_171 rfl ?_
    refine q_iald d_Model_primitive_173 (hL.2 20 _ _ _ rfl).2 (by first | assumption | exact vp_in_nI (by omega) (by omega)) ?_
    rw [o4 (m + 15) (by omega), w2]
    refine q_iast d_Model_primitive_174 (hL.2 12 _ _ _ rfl).2 (by first | assumption | exact vp_in_nI (by omega) (by omega)) ?_
    refine q_aload_n d_Model_primitive_175 rfl rfl ?_
    refine q_getR (ci := 11) (fk := 12) d_Model_primitive_176 rfl (Nat.le_of_ble_eq_true rfl) w_1116 (fun _ _ => rfl) hL.1 (hL.2 12 _ _ _ rfl).1 ?_
    refine q_iload d_Model_primitive_179 rfl ?_
    refine q_bipush (v := nI 6) d_Model_primitive_181 (by decide) ?_
    first | refine q_iaddN d_Model_primitive_183 ?_ | refine q_iadd d_Model_primitive_183 ?_
    refine q_iload_n d_Model_primitive_184 rfl rfl ?_
    refine q_iconst (v := nI 1) d_Model_primitive_185 (by decide) ?_
    refine q_icmp_ne (tgt := 203) d_Model_primitive_186 rfl (fun hc => ?_) (fun hc => ?_)
    rotate_left
    · exact absurd (show kd = 1 by have := hc; exact this) hkd1
    refine q_aload_n d_Model_primitive_203 rfl rfl ?_
    refine q_getR (ci := 11) (fk := 21) d_Model_primitive_204 rfl (Nat.le_of_ble_eq_true rfl) w_1125 (fun _ _ => rfl) hL.1 (hL.2 21 _ _ _ rfl).1 ?_
    refine q_iload d_Model_primitive_207 rfl ?_
    refine q_iald d_Model_primitive_209 (hL.2 21 _ _ _ rfl).2 (by first | assumption | exact vp_in_nI (by omega) (by omega)) ?_
    rw [q_upI_nea (by omega), o4 (m + 16) (by omega), w3]
    refine q_iast d_Model_primitive_210 (hL.2 12 _ _ _ rfl).2 (by first | assumption | exact vp_in_nI (by omega) (by omega)) ?_
    refine q_aload_n d_Model_primitive_211 rfl rfl ?_
    refine q_getR (ci := 11) (fk := 12) d_Model_primitive_212 rfl (Nat.le_of_ble_eq_true rfl) w_1116 (fun _ _ => rfl) hL.1 (hL.2 12 _ _ _ rfl).1 ?_
    refine q_iload d_Model_primitive_215 rfl ?_
    refine q_bipush (v := nI 7) d_Model_primitive_217 (by decide) ?_
    first | refine q_iaddN d_Model_primitive_219 ?_ | refine q_iadd d_Model_primitive_219 ?_
    refine q_iload_n d_Model_primitive_220 rfl rfl ?_
    refine q_iconst (v := nI 1) d_Model_primitive_221 (by decide) ?_
    refine q_icmp_ne (tgt := 239) d_Model_primitive_222 rfl (fun hc => ?_) (fun hc => ?_)
    rotate_left
    · exact absurd (show kd = 1 by have := hc; exact this) hkd1
    refine q_aload_n d_Model_primitive_239 rfl rfl ?_
    refine q_getR (ci := 11) (fk := 22) d_Model_primitive_240 rfl (Nat.le_of_ble_eq_true rfl) w_1126 (fun _ _ => rfl) hL.1 (hL.2 22 _ _ _ rfl).1 ?_
    refine q_iload d_Model_primitive_243 rfl ?_
    refine q_iald d_Model_primitive_245 (hL.2 22 _ _ _ rfl).2 (by first | assumption | exact vp_in_nI (by omega) (by omega)) ?_
    rw [q_upI_nea (by omega), q_upI_nea (by omega), o4 (m + 17) (by omega), w4]
    refine q_iast d_Model_primitive_246 (hL.2 12 _ _ _ rfl).2 (by first | assumption | exact vp_in_nI (by omega) (by omega)) ?_
    obtain ⟨x1, x2, x3⟩ := mk _ _ _ _ rfl rfl rfl rfl
    exact fin _ _ _ _ rfl rfl x1 x2 x3
end MPrim
