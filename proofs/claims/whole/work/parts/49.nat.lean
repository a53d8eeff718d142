/-! methods of java.lang.Math: no row of the natives stands for them -/
abbrev M_Math_min_I : q_M := (⟨"java/lang/Math", "min", "(II)I"⟩, prog_20_method_69_code, 2, (some .int), "java/lang/Math", [], false, 0, 0)
theorem d_Math_min_I_0 : decode prog_20_method_69_code 0 = .ok (.iload_n 0, 1) := by decide +kernel
theorem d_Math_min_I_1 : decode prog_20_method_69_code 1 = .ok (.iload_n 1, 1) := by decide +kernel
theorem d_Math_min_I_2 : decode prog_20_method_69_code 2 = .ok (.if_icmp .gt 7, 3) := by decide +kernel
theorem d_Math_min_I_5 : decode prog_20_method_69_code 5 = .ok (.iload_n 0, 1) := by decide +kernel
theorem d_Math_min_I_6 : decode prog_20_method_69_code 6 = .ok (.goto 4, 3) := by decide +kernel
theorem d_Math_min_I_9 : decode prog_20_method_69_code 9 = .ok (.iload_n 1, 1) := by decide +kernel
theorem d_Math_min_I_10 : decode prog_20_method_69_code 10 = .ok (.ireturn, 1) := by decide +kernel
abbrev M_Math_max_I : q_M := (⟨"java/lang/Math", "max", "(II)I"⟩, prog_20_method_65_code, 2, (some .int), "java/lang/Math", [], false, 0, 0)
theorem d_Math_max_I_0 : decode prog_20_method_65_code 0 = .ok (.iload_n 0, 1) := by decide +kernel
theorem d_Math_max_I_1 : decode prog_20_method_65_code 1 = .ok (.iload_n 1, 1) := by decide +kernel
theorem d_Math_max_I_2 : decode prog_20_method_65_code 2 = .ok (.if_icmp .lt 7, 3) := by decide +kernel
theorem d_Math_max_I_5 : decode prog_20_method_65_code 5 = .ok (.iload_n 0, 1) := by decide +kernel
theorem d_Math_max_I_6 : decode prog_20_method_65_code 6 = .ok (.goto 4, 3) := by decide +kernel
theorem d_Math_max_I_9 : decode prog_20_method_65_code 9 = .ok (.iload_n 1, 1) := by decide +kernel
theorem d_Math_max_I_10 : decode prog_20_method_65_code 10 = .ok (.ireturn, 1) := by decide +kernel
abbrev M_Math_floorDiv_I : q_M := (⟨"java/lang/Math", "floorDiv", "(II)I"⟩, prog_20_method_47_code, 3, (some .int), "java/lang/Math", [], false, 0, 0)
theorem d_Math_floorDiv_I_0 : decode prog_20_method_47_code 0 = .ok (.iload_n 0, 1) := by decide +kernel
theorem d_Math_floorDiv_I_1 : decode prog_20_method_47_code 1 = .ok (.iload_n 1, 1) := by decide +kernel
theorem d_Math_floorDiv_I_2 : decode prog_20_method_47_code 2 = .ok (.idiv, 1) := by decide +kernel
theorem d_Math_floorDiv_I_3 : decode prog_20_method_47_code 3 = .ok (.istore_n 2, 1) := by decide +kernel
theorem d_Math_floorDiv_I_4 : decode prog_20_method_47_code 4 = .ok (.iload_n 0, 1) := by decide +kernel
theorem d_Math_floorDiv_I_5 : decode prog_20_method_47_code 5 = .ok (.iload_n 1, 1) := by decide +kernel
theorem d_Math_floorDiv_I_6 : decode prog_20_method_47_code 6 = .ok (.ixor, 1) := by decide +kernel
theorem d_Math_floorDiv_I_7 : decode prog_20_method_47_code 7 = .ok (.ifCond .ge 14, 3) := by decide +kernel
theorem d_Math_floorDiv_I_10 : decode prog_20_method_47_code 10 = .ok (.iload_n 2, 1) := by decide +kernel
theorem d_Math_floorDiv_I_11 : decode prog_20_method_47_code 11 = .ok (.iload_n 1, 1) := by decide +kernel
theorem d_Math_floorDiv_I_12 : decode prog_20_method_47_code 12 = .ok (.imul, 1) := by decide +kernel
theorem d_Math_floorDiv_I_13 : decode prog_20_method_47_code 13 = .ok (.iload_n 0, 1) := by decide +kernel
theorem d_Math_floorDiv_I_14 : decode prog_20_method_47_code 14 = .ok (.if_icmp .eq 7, 3) := by decide +kernel
theorem d_Math_floorDiv_I_17 : decode prog_20_method_47_code 17 = .ok (.iload_n 2, 1) := by decide +kernel
theorem d_Math_floorDiv_I_18 : decode prog_20_method_47_code 18 = .ok (.iconst 1, 1) := by decide +kernel
theorem d_Math_floorDiv_I_19 : decode prog_20_method_47_code 19 = .ok (.isub, 1) := by decide +kernel
theorem d_Math_floorDiv_I_20 : decode prog_20_method_47_code 20 = .ok (.ireturn, 1) := by decide +kernel
theorem d_Math_floorDiv_I_21 : decode prog_20_method_47_code 21 = .ok (.iload_n 2, 1) := by decide +kernel
theorem d_Math_floorDiv_I_22 : decode prog_20_method_47_code 22 = .ok (.ireturn, 1) := by decide +kernel
abbrev M_Math_floorDiv_L : q_M := (⟨"java/lang/Math", "floorDiv", "(JJ)J"⟩, prog_20_method_49_code, 6, (some .long), "java/lang/Math", [], false, 0, 0)
theorem d_Math_floorDiv_L_0 : decode prog_20_method_49_code 0 = .ok (.lload_n 0, 1) := by decide +kernel
theorem d_Math_floorDiv_L_1 : decode prog_20_method_49_code 1 = .ok (.lload_n 2, 1) := by decide +kernel
theorem d_Math_floorDiv_L_2 : decode prog_20_method_49_code 2 = .ok (.ldiv, 1) := by decide +kernel
theorem d_Math_floorDiv_L_3 : decode prog_20_method_49_code 3 = .ok (.lstore 4, 2) := by decide +kernel
theorem d_Math_floorDiv_L_5 : decode prog_20_method_49_code 5 = .ok (.lload_n 0, 1) := by decide +kernel
theorem d_Math_floorDiv_L_6 : decode prog_20_method_49_code 6 = .ok (.lload_n 2, 1) := by decide +kernel
theorem d_Math_floorDiv_L_7 : decode prog_20_method_49_code 7 = .ok (.lxor, 1) := by decide +kernel
theorem d_Math_floorDiv_L_8 : decode prog_20_method_49_code 8 = .ok (.lconst 0, 1) := by decide +kernel
theorem d_Math_floorDiv_L_9 : decode prog_20_method_49_code 9 = .ok (.lcmp, 1) := by decide +kernel
theorem d_Math_floorDiv_L_10 : decode prog_20_method_49_code 10 = .ok (.ifCond .ge 17, 3) := by decide +kernel
theorem d_Math_floorDiv_L_13 : decode prog_20_method_49_code 13 = .ok (.lload 4, 2) := by decide +kernel
theorem d_Math_floorDiv_L_15 : decode prog_20_method_49_code 15 = .ok (.lload_n 2, 1) := by decide +kernel
theorem d_Math_floorDiv_L_16 : decode prog_20_method_49_code 16 = .ok (.lmul, 1) := by decide +kernel
theorem d_Math_floorDiv_L_17 : decode prog_20_method_49_code 17 = .ok (.lload_n 0, 1) := by decide +kernel
theorem d_Math_floorDiv_L_18 : decode prog_20_method_49_code 18 = .ok (.lcmp, 1) := by decide +kernel
theorem d_Math_floorDiv_L_19 : decode prog_20_method_49_code 19 = .ok (.ifCond .eq 8, 3) := by decide +kernel
theorem d_Math_floorDiv_L_22 : decode prog_20_method_49_code 22 = .ok (.lload 4, 2) := by decide +kernel
theorem d_Math_floorDiv_L_24 : decode prog_20_method_49_code 24 = .ok (.lconst 1, 1) := by decide +kernel
theorem d_Math_floorDiv_L_25 : decode prog_20_method_49_code 25 = .ok (.lsub, 1) := by decide +kernel
theorem d_Math_floorDiv_L_26 : decode prog_20_method_49_code 26 = .ok (.lreturn, 1) := by decide +kernel
theorem d_Math_floorDiv_L_27 : decode prog_20_method_49_code 27 = .ok (.lload 4, 2) := by decide +kernel
theorem d_Math_floorDiv_L_29 : decode prog_20_method_49_code 29 = .ok (.lreturn, 1) := by decide +kernel
abbrev M_Math_floorMod_I : q_M := (⟨"java/lang/Math", "floorMod", "(II)I"⟩, prog_20_method_50_code, 3, (some .int), "java/lang/Math", [], false, 0, 0)
theorem d_Math_floorMod_I_0 : decode prog_20_method_50_code 0 = .ok (.iload_n 0, 1) := by decide +kernel
theorem d_Math_floorMod_I_1 : decode prog_20_method_50_code 1 = .ok (.iload_n 1, 1) := by decide +kernel
theorem d_Math_floorMod_I_2 : decode prog_20_method_50_code 2 = .ok (.irem, 1) := by decide +kernel
theorem d_Math_floorMod_I_3 : decode prog_20_method_50_code 3 = .ok (.istore_n 2, 1) := by decide +kernel
theorem d_Math_floorMod_I_4 : decode prog_20_method_50_code 4 = .ok (.iload_n 0, 1) := by decide +kernel
theorem d_Math_floorMod_I_5 : decode prog_20_method_50_code 5 = .ok (.iload_n 1, 1) := by decide +kernel
theorem d_Math_floorMod_I_6 : decode prog_20_method_50_code 6 = .ok (.ixor, 1) := by decide +kernel
theorem d_Math_floorMod_I_7 : decode prog_20_method_50_code 7 = .ok (.ifCond .ge 11, 3) := by decide +kernel
theorem d_Math_floorMod_I_10 : decode prog_20_method_50_code 10 = .ok (.iload_n 2, 1) := by decide +kernel
theorem d_Math_floorMod_I_11 : decode prog_20_method_50_code 11 = .ok (.ifCond .eq 7, 3) := by decide +kernel
theorem d_Math_floorMod_I_14 : decode prog_20_method_50_code 14 = .ok (.iload_n 2, 1) := by decide +kernel
theorem d_Math_floorMod_I_15 : decode prog_20_method_50_code 15 = .ok (.iload_n 1, 1) := by decide +kernel
theorem d_Math_floorMod_I_16 : decode prog_20_method_50_code 16 = .ok (.iadd, 1) := by decide +kernel
theorem d_Math_floorMod_I_17 : decode prog_20_method_50_code 17 = .ok (.ireturn, 1) := by decide +kernel
theorem d_Math_floorMod_I_18 : decode prog_20_method_50_code 18 = .ok (.iload_n 2, 1) := by decide +kernel
theorem d_Math_floorMod_I_19 : decode prog_20_method_50_code 19 = .ok (.ireturn, 1) := by decide +kernel
abbrev M_Math_min_L : q_M := (⟨"java/lang/Math", "min", "(JJ)J"⟩, prog_20_method_70_code, 4, (some .long), "java/lang/Math", [], false, 0, 0)
theorem d_Math_min_L_0 : decode prog_20_method_70_code 0 = .ok (.lload_n 0, 1) := by decide +kernel
theorem d_Math_min_L_1 : decode prog_20_method_70_code 1 = .ok (.lload_n 2, 1) := by decide +kernel
theorem d_Math_min_L_2 : decode prog_20_method_70_code 2 = .ok (.lcmp, 1) := by decide +kernel
theorem d_Math_min_L_3 : decode prog_20_method_70_code 3 = .ok (.ifCond .gt 7, 3) := by decide +kernel
theorem d_Math_min_L_6 : decode prog_20_method_70_code 6 = .ok (.lload_n 0, 1) := by decide +kernel
theorem d_Math_min_L_7 : decode prog_20_method_70_code 7 = .ok (.goto 4, 3) := by decide +kernel
theorem d_Math_min_L_10 : decode prog_20_method_70_code 10 = .ok (.lload_n 2, 1) := by decide +kernel
theorem d_Math_min_L_11 : decode prog_20_method_70_code 11 = .ok (.lreturn, 1) := by decide +kernel
abbrev M_Math_max_L : q_M := (⟨"java/lang/Math", "max", "(JJ)J"⟩, prog_20_method_66_code, 4, (some .long), "java/lang/Math", [], false, 0, 0)
theorem d_Math_max_L_0 : decode prog_20_method_66_code 0 = .ok (.lload_n 0, 1) := by decide +kernel
theorem d_Math_max_L_1 : decode prog_20_method_66_code 1 = .ok (.lload_n 2, 1) := by decide +kernel
theorem d_Math_max_L_2 : decode prog_20_method_66_code 2 = .ok (.lcmp, 1) := by decide +kernel
theorem d_Math_max_L_3 : decode prog_20_method_66_code 3 = .ok (.ifCond .lt 7, 3) := by decide +kernel
theorem d_Math_max_L_6 : decode prog_20_method_66_code 6 = .ok (.lload_n 0, 1) := by decide +kernel
theorem d_Math_max_L_7 : decode prog_20_method_66_code 7 = .ok (.goto 4, 3) := by decide +kernel
theorem d_Math_max_L_10 : decode prog_20_method_66_code 10 = .ok (.lload_n 2, 1) := by decide +kernel
theorem d_Math_max_L_11 : decode prog_20_method_66_code 11 = .ok (.lreturn, 1) := by decide +kernel
theorem q_C.ofF {g : q_G} {M : q_M} {mc ms : Nat} {h : q_H} {Q : q_O → q_H → Prop} {as : List Value} {ls0 : List (Option Value)} (hp : plainFor (q_nm M) = true) (hown : (q_nm M).cls = q_ow M) (hin : q_in M = true → (q_nm M).name = "<init>") (hz : (lg_sl as).length ≤ q_ml M) (hl0 : q_e1 as ++ List.replicate (q_ml M - (q_e1 as).length) none = ls0)
    (hV : q_V g M mc ms 0 0 h Q 0 ls0 []) : q_C g M as h mc ms Q := by
  refine MetFree.of_bodySF (code := q_bc M) (maxLocals := q_ml M) (ret := q_rt M) hp (fun args s m hpre hn => ?_) ?_
  · obtain ⟨m2, c2, h1, h2, h3, h4, h5, h6, -⟩ := q_cwspec (atoms_spec (ws := [q_cw M]) hpre _ List.mem_cons_self) hn
    exact ⟨m2, c2, h1, h2, h3, h4, h5, h6⟩
  · intro p e s m args below meth cd s₁ B hml hP _
    obtain ⟨rfl, hGl, hW, hold, hsize, hCo⟩ := hP
    obtain ⟨m2, c2, h1, h2, h3, h4, h5, h6, h7, -⟩ := q_cwspec (atoms_spec (ws := [q_cw M]) B.pre _ List.mem_cons_self) B.named
    have e1 : m2 = meth := Option.some.inj (h1.symm.trans B.method)
    subst e1
    have e2 : c2 = cd := Option.some.inj (h2.symm.trans (Stand.of_body B).code)
    subst e2
    have hf : s.vm.findClass (q_ow M) = some m.cls := by rw [← hown]; exact findClass_of_methodNamed B.named
    have hh0 : s₁.heap = s.heap := by rw [B.state]; rfl
    have C : q_Cx g M mc ms p e (q_rm M mc ms) s m as.toArray below m2 c2 :=
      ⟨B.exec, h3, h4, hf, h5, h6, h7, fun z => by rw [(name_of_methodNamed B.named B.method).1]; exact hin z, hGl, hW, hold, hsize, rfl, rfl, Nat.le_refl _, Nat.le_refl _⟩
    have hla := lv_entry as (n := q_ml M) hz
    have hlb : lv_has ((lg_sl as ++ List.replicate (q_ml M - (lg_sl as).length) Slot.unset).toArray) (q_ml M) (q_ps 0 ls0) := by
      rw [← hl0, q_ps_app, q_ps_none, List.append_nil, q_e1_ps]
      exact hla
    have hw := hV p e (q_rm M mc ms) s m as.toArray below m2 c2 C s.heap [] _ hCo va_S.rf hlb
    rw [← lg_entry_eq] at hw
    obtain ⟨t, a1, oc, b1, b2, b3⟩ := hw s₁ hh0 (Stand.of_body B)
    exact ⟨t, oc, a1, b1, b2, b3⟩
theorem x_min_I : plainFor (q_nm M_Math_min_I) = true := by decide +kernel
theorem x_max_I : plainFor (q_nm M_Math_max_I) = true := by decide +kernel
theorem x_fdI : plainFor (q_nm M_Math_floorDiv_I) = true := by decide +kernel
theorem x_fdL : plainFor (q_nm M_Math_floorDiv_L) = true := by decide +kernel
theorem x_fmI : plainFor (q_nm M_Math_floorMod_I) = true := by decide +kernel
theorem x_min_L : plainFor (q_nm M_Math_min_L) = true := by decide +kernel
theorem x_max_L : plainFor (q_nm M_Math_max_L) = true := by decide +kernel
