/-! the invariant holds at the start; the calls keep it -/
section LInv
variable {g : q_G} {b x L : Nat} {f : Int32 → Int32}
/-- the state at the start -/
def a_st0 : KA := ([[]], [], false, false, 0, [], [], 0, fun _ => none)
theorem wf_st0 : wf a_st0 := by
  refine ⟨⟨by decide, by decide, fun q hq => ?_⟩, ⟨by decide, fun st hst => (by cases hst)⟩, fun z => (by cases z), fun h c hh hc => (by cases hc), fun _ => ⟨rfl, rfl, rfl, fun _ _ => rfl⟩⟩
  have : q = [] := List.mem_singleton.mp (show q ∈ [[]] from hq)
  rw [this]
  exact ⟨⟨by decide, fun e he => (by cases he), List.nodup_nil, fun e he => (by cases he), fun e he => (by cases he)⟩, List.Pairwise.nil⟩
theorem k_sc_new {s : Nat} {T : q_T} {I : q_I} {R : q_R} (h : s_new s T R) (hI : I s (nI 1) = 0) : k_sc s [] (fun i => i) T I R :=
  ⟨⟨h.1, fun i hi => ⟨(h.2 i hi).1, hi⟩, fun i j _ _ z => z, fun j hj => (h.2 j hj).2⟩, hI, by decide, fun i e he => (by cases he)⟩
theorem q_INV_0 {sz : Nat} {T : q_T} {I : q_I} {R : q_R} (n : Nat) (h : q_Start b x L f sz T I R) : q_INV b x L f n sz T I R := by
  obtain ⟨h1, h2, h3, h4, h5, h6, h7, h8, h9, h10, h11, h12, h13, h14⟩ := h
  obtain ⟨x1, x2, x3, x4, x5, x6, x7, x8, x9, x10, x11⟩ := h4
  have z : ∀ a i, a ≠ b → a ≠ x + 83 → a ≠ x + 93 → a ≠ x + 1 → I a i = 0 := fun a i a1 a2 a3 a4 => by rw [h6 a i a1 a2 a3, if_neg (fun y => a4 y.1)]
  refine ⟨h3, h2, a_st0, wf_st0, ⟨⟨x1, x3, x6, x9, x10, x11⟩, ⟨?_, fun v Lv hv => ?_⟩, ⟨?_, fun i st hi => (by cases hi)⟩, ⟨?_, [], fun i => i, k_sc_new x7 (z _ _ (by omega) (by omega) (by omega) (by omega)), fun y => (by cases y)⟩, ⟨fun i hi => ⟨fun _ => rfl, fun r hr => ?_⟩, x + 61, x2, Or.inl ⟨by omega, by omega⟩, x8, fun i hi hr => ?_⟩, ?_, by omega, fun a q hq => ?_⟩, h5, ⟨h7, fun v Lv hv => ?_⟩, ⟨?_, fun i st hi => (by cases hi), ?_, fun y => (by cases y)⟩, fun h hh => ⟨fun _ => h9 h hh, fun c hc => (by cases hc)⟩, ?_⟩
  · rw [h6 (x + 1) _ (by omega) (by omega) (by omega), if_pos ⟨rfl, rfl⟩]; rfl
  · have hv0 : v = 0 := by
      have := (List.getElem?_eq_some_iff.mp hv).1
      have h8 : a_st0.vs.length = 1 := rfl
      omega
    subst hv0
    have : [] = Lv := Option.some.inj hv
    subst this
    exact ⟨x + 6, fun i => i, x4, Or.inl ⟨by omega, by omega⟩, by omega, k_sc_new x5 (z _ _ (by omega) (by omega) (by omega) (by omega))⟩
  · rw [h6 (x + 1) _ (by omega) (by omega) (by omega), if_neg (fun y => absurd (q_nI_inj y.2) (by decide))]; rfl
  · rw [z _ _ (by omega) (by omega) (by omega) (by omega)]; rfl
  · rw [h12] at hr; cases hr
  · rw [h12] at hr; cases hr
  · rw [z _ _ (by omega) (by omega) (by omega) (by omega)]; rfl
  · refine Classical.byContradiction fun hn => ?_
    rw [h14 a (by omega)] at hq
    cases hq
  · have hv0 : v = 0 := by
      have := (List.getElem?_eq_some_iff.mp hv).1
      have h8 : a_st0.vs.length = 1 := rfl
      omega
    subst hv0
    have : [] = Lv := Option.some.inj hv
    subst this
    exact ⟨z _ _ (by omega) (by omega) (by omega) (by omega), fun i e he => (by cases he)⟩
  · rw [h8 8 (by decide) (by decide)]; rfl
  · rw [h8 13 (by decide) (by decide)]; rfl
  · rw [h8 7 (by decide) (by decide)]; rfl
theorem y_version : q_op_version g b x L f (q_INV b x L f) := fun n sz T I R J hI p0 => x_version hI p0
theorem y_kept : q_op_kept g b x L f (q_INV b x L f) := fun n sz T I R J hI p0 => x_kept hI p0
theorem y_get : q_op_get g b x L f (q_INV b x L f) := fun n sz T I R J hI p0 p1 => x_get hI p0 p1
theorem y_size : q_op_size g b x L f (q_INV b x L f) := fun n sz T I R J hI p0 p1 => x_size hI p0 p1
theorem y_item : q_op_item g b x L f (q_INV b x L f) := fun n sz T I R J hI p0 p1 p2 => x_item hI p0 p1 p2
theorem y_put : q_op_put g b x L f (q_INV b x L f) := fun n sz T I R J hI p0 p1 p2 p3 => x_put hI p0 p1 p2 p3
theorem y_same : q_op_same g b x L f (q_INV b x L f) := fun n sz T I R J hI p0 p1 => x_same hI p0 p1
theorem y_count : q_op_count g b x L f (q_INV b x L f) := fun n sz T I R J hI p0 => x_count hI p0
theorem y_record : q_op_record g b x L f (q_INV b x L f) := fun n sz T I R J hI p0 => x_record hI p0
theorem y_copy : q_op_copy g b x L f (q_INV b x L f) := fun n sz T I R J hI p0 => x_copy hI p0
theorem y_about : q_op_about g b x L f (q_INV b x L f) := fun n sz T I R J hI p0 p1 p2 => x_about hI p0 p1 p2
theorem y_route : q_op_route g b x L f (q_INV b x L f) := fun n sz T I R J hI p0 p1 p2 => x_route hI p0 p1 p2
theorem y_field : q_op_field g b x L f (q_INV b x L f) := fun n sz T I R J hI p0 p1 p2 p3 => x_field hI p0 p1 p2 p3
theorem y_primitive : q_op_primitive g b x L f (q_INV b x L f) := fun n sz T I R J hI p0 p1 p2 p3 p4 => x_primitive hI p0 p1 p2 p3 p4
theorem y_drop : q_op_drop g b x L f (q_INV b x L f) := fun n sz T I R J hI p0 => x_drop hI p0
theorem y_set : q_op_set g b x L f (q_INV b x L f) := fun n sz T I R J hI p0 p1 p2 => x_set hI p0 p1 p2
theorem y_cut : q_op_cut g b x L f (q_INV b x L f) := fun n sz T I R J hI p0 p1 p2 => x_cut hI p0 p1 p2
theorem y_begin : q_op_begin g b x L f (q_INV b x L f) := fun n sz T I R J hI p0 => x_begin hI p0
theorem y_leave : q_op_leave g b x L f (q_INV b x L f) := fun n sz T I R J hI => x_leave hI
theorem y_end : q_op_end g b x L f (q_INV b x L f) := fun n sz T I R J hI p0 => x_end hI p0
theorem y_translate : q_op_translate g b x L f (q_INV b x L f) := fun n sz T I R J hI p0 p1 => x_translate hI p0 p1
theorem y_clash : q_op_clash g b x L f (q_INV b x L f) := fun n sz T I R J hI p0 => x_clash hI p0
/-- the law -/
theorem q_lawV : q_LawV :=
  q_lawV_of (fun b x L f => q_INV b x L f) (fun b x L f sz T I R _ h => q_INV_0 _ h) (fun b x L f n sz T I R h => h.1) (fun b x L f n sz T I R h => h) fun g hg _ b x L f =>
    ⟨y_field, y_begin, y_primitive, y_end, y_leave, y_about, y_count, y_record, y_copy, y_drop, y_set, y_put, y_cut, y_get, y_size, y_item, y_version, y_kept, y_same, y_translate, y_route, y_clash⟩
end LInv
theorem i_vc : Claimed_1_1 ∧ Claimed_1_2 := q_ivc q_lawV
