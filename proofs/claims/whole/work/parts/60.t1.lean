/-! frames of heaps; boats are made -/
/-- h' is h but for the places of S, and may be longer -/
def Ag (S : Nat → Prop) (h h' : XH) : Prop := h.length ≤ h'.length ∧ ∀ k, k < h.length → ¬ S k → h'[k]? = h[k]?
theorem Ag.rf {S : Nat → Prop} {h : XH} : Ag S h h := ⟨Nat.le_refl _, fun _ _ _ => rfl⟩
theorem Ag.set {S : Nat → Prop} {h h' : XH} {k : Nat} {c : XC} (hg : Ag S h h') (hk : S k) : Ag S h (h'.set k c) := by
  refine ⟨by rw [List.length_set]; exact hg.1, fun j h1 h2 => ?_⟩
  rw [gs_ne (fun e => h2 (by rw [← e]; exact hk))]
  exact hg.2 j h1 h2
theorem Ag.push {S : Nat → Prop} {h h' l : XH} (hg : Ag S h h') : Ag S h (h' ++ l) := by
  refine ⟨by rw [List.length_append]; have := hg.1; omega, fun j h1 h2 => ?_⟩
  rw [List.getElem?_append_left (Nat.lt_of_lt_of_le h1 hg.1)]
  exact hg.2 j h1 h2
theorem Ag.mono {S S2 : Nat → Prop} {h h' : XH} (hg : Ag S h h') (hs : ∀ k, S k → S2 k) : Ag S2 h h' := ⟨hg.1, fun k h1 h2 => hg.2 k h1 (fun q => h2 (hs k q))⟩
theorem Ag.trans {S : Nat → Prop} {h h2 h3 : XH} (a : Ag S h h2) (b : Ag S h2 h3) : Ag S h h3 := ⟨Nat.le_trans a.1 b.1, fun k h1 hk => (b.2 k (Nat.lt_of_lt_of_le h1 a.1) hk).trans (a.2 k h1 hk)⟩
theorem Ag.at {S : Nat → Prop} {h h' : XH} {k : Nat} {c : XC} (hg : Ag S h h') (hk : h[k]? = some c) (hs : ¬ S k) : h'[k]? = some c := (hg.2 k (List.getElem?_eq_some_iff.mp hk).1 hs).trans hk
theorem push_set {h : XH} {a b : XC} : (h ++ [a]).set h.length b = h ++ [b] := by
  rw [List.set_append_right _ _ (Nat.le_refl _), Nat.sub_self]
  rfl
theorem push_get {h : XH} {a : XC} : (h ++ [a])[h.length]? = some a := by
  rw [List.getElem?_append_right (Nat.le_refl _), Nat.sub_self]
  rfl
section C60
variable {h : XH} {Z : XZ}
theorem c_X0_init_0 {k : Nat} {a b d : Int32} (hk : h[k]? = some (.inr (0, [.int a, .int b, .int d]))) (nm fr fs : Int32) : ConE M_X0_init [.ref k, .int nm, .int fr, .int fs] h none (h.set k (.inr (0, [.int nm, .int fr, .int fs]))) := by
  refine Con.of rfl (nb rfl) ?_
  refine T_aload_n dX0_init_0 rfl ?_
  refine T_obj dX0_init_1 ob_X0_1 ob_1 ob_2 (nb rfl) (nb rfl) ?_
  refine T_aload_n dX0_init_4 rfl ?_
  refine T_iload_n dX0_init_5 rfl ?_
  refine T_putF dX0_init_6 fp_X0_7_0 rfl hk (nb rfl) (fun _ => ⟨rfl, rfl⟩) ?_
  try refine T_h (List.set_set ..) ?_
  refine T_aload_n dX0_init_9 rfl ?_
  refine T_iload_n dX0_init_10 rfl ?_
  refine T_putF dX0_init_11 fp_X0_13_0 rfl (gs_eq hk) (nb rfl) (fun _ => ⟨rfl, rfl⟩) ?_
  try refine T_h (List.set_set ..) ?_
  refine T_aload_n dX0_init_14 rfl ?_
  refine T_iload_n dX0_init_15 rfl ?_
  refine T_putF dX0_init_16 fp_X0_16_0 rfl (gs_eq hk) (nb rfl) (fun _ => ⟨rfl, rfl⟩) ?_
  try refine T_h (List.set_set ..) ?_
  refine T_vret dX0_init_19 rfl (nb rfl) (nb rfl) ?_
  exact ⟨rfl, rfl⟩
theorem c_X0_init_2 {k : Nat} {a b d : Int32} (hk : h[k]? = some (.inr (2, [.int a, .int b, .int d]))) (nm fr fs : Int32) : ConE M_X0_init [.ref k, .int nm, .int fr, .int fs] h none (h.set k (.inr (2, [.int nm, .int fr, .int fs]))) := by
  refine Con.of rfl (nb rfl) ?_
  refine T_aload_n dX0_init_0 rfl ?_
  refine T_obj dX0_init_1 ob_X0_1 ob_1 ob_2 (nb rfl) (nb rfl) ?_
  refine T_aload_n dX0_init_4 rfl ?_
  refine T_iload_n dX0_init_5 rfl ?_
  refine T_putF dX0_init_6 fp_X0_7_2 rfl hk (nb rfl) (fun _ => ⟨rfl, rfl⟩) ?_
  try refine T_h (List.set_set ..) ?_
  refine T_aload_n dX0_init_9 rfl ?_
  refine T_iload_n dX0_init_10 rfl ?_
  refine T_putF dX0_init_11 fp_X0_13_2 rfl (gs_eq hk) (nb rfl) (fun _ => ⟨rfl, rfl⟩) ?_
  try refine T_h (List.set_set ..) ?_
  refine T_aload_n dX0_init_14 rfl ?_
  refine T_iload_n dX0_init_15 rfl ?_
  refine T_putF dX0_init_16 fp_X0_16_2 rfl (gs_eq hk) (nb rfl) (fun _ => ⟨rfl, rfl⟩) ?_
  try refine T_h (List.set_set ..) ?_
  refine T_vret dX0_init_19 rfl (nb rfl) (nb rfl) ?_
  exact ⟨rfl, rfl⟩
theorem c_X0_init_8 {k : Nat} {a b d : Int32} (hk : h[k]? = some (.inr (8, [.int a, .int b, .int d]))) (nm fr fs : Int32) : ConE M_X0_init [.ref k, .int nm, .int fr, .int fs] h none (h.set k (.inr (8, [.int nm, .int fr, .int fs]))) := by
  refine Con.of rfl (nb rfl) ?_
  refine T_aload_n dX0_init_0 rfl ?_
  refine T_obj dX0_init_1 ob_X0_1 ob_1 ob_2 (nb rfl) (nb rfl) ?_
  refine T_aload_n dX0_init_4 rfl ?_
  refine T_iload_n dX0_init_5 rfl ?_
  refine T_putF dX0_init_6 fp_X0_7_8 rfl hk (nb rfl) (fun _ => ⟨rfl, rfl⟩) ?_
  try refine T_h (List.set_set ..) ?_
  refine T_aload_n dX0_init_9 rfl ?_
  refine T_iload_n dX0_init_10 rfl ?_
  refine T_putF dX0_init_11 fp_X0_13_8 rfl (gs_eq hk) (nb rfl) (fun _ => ⟨rfl, rfl⟩) ?_
  try refine T_h (List.set_set ..) ?_
  refine T_aload_n dX0_init_14 rfl ?_
  refine T_iload_n dX0_init_15 rfl ?_
  refine T_putF dX0_init_16 fp_X0_16_8 rfl (gs_eq hk) (nb rfl) (fun _ => ⟨rfl, rfl⟩) ?_
  try refine T_h (List.set_set ..) ?_
  refine T_vret dX0_init_19 rfl (nb rfl) (nb rfl) ?_
  exact ⟨rfl, rfl⟩
theorem c_X2_init_2 {k : Nat} {a b d : Int32} (hk : h[k]? = some (.inr (2, [.int a, .int b, .int d]))) (nm fr fs : Int32) : ConE M_X2_init [.ref k, .int nm, .int fr, .int fs] h none (h.set k (.inr (2, [.int nm, .int fr, .int fs]))) := by
  refine Con.of rfl (nb rfl) ?_
  refine T_aload_n dX2_init_0 rfl ?_
  refine T_iload_n dX2_init_1 rfl ?_
  refine T_iload_n dX2_init_2 rfl ?_
  refine T_iload_n dX2_init_3 rfl ?_
  refine T_i3e (cu2 := 0) (su2 := 0) dX2_init_4 li_X2_1 rfl (c_X0_init_2 hk _ _ _) (nb rfl) (nb rfl) (nb rfl) (nb rfl) (nb rfl) ?_
  refine T_vret dX2_init_7 rfl (nb rfl) (nb rfl) ?_
  exact ⟨rfl, rfl⟩
theorem c_X2_init_8 {k : Nat} {a b d : Int32} (hk : h[k]? = some (.inr (8, [.int a, .int b, .int d]))) (nm fr fs : Int32) : ConE M_X2_init [.ref k, .int nm, .int fr, .int fs] h none (h.set k (.inr (8, [.int nm, .int fr, .int fs]))) := by
  refine Con.of rfl (nb rfl) ?_
  refine T_aload_n dX2_init_0 rfl ?_
  refine T_iload_n dX2_init_1 rfl ?_
  refine T_iload_n dX2_init_2 rfl ?_
  refine T_iload_n dX2_init_3 rfl ?_
  refine T_i3e (cu2 := 0) (su2 := 0) dX2_init_4 li_X2_1 rfl (c_X0_init_8 hk _ _ _) (nb rfl) (nb rfl) (nb rfl) (nb rfl) (nb rfl) ?_
  refine T_vret dX2_init_7 rfl (nb rfl) (nb rfl) ?_
  exact ⟨rfl, rfl⟩
theorem c_X8_init_8 {k : Nat} {a b d : Int32} (hk : h[k]? = some (.inr (8, [.int a, .int b, .int d]))) (nm fr fs : Int32) : ConE M_X8_init [.ref k, .int nm, .int fr, .int fs] h none (h.set k (.inr (8, [.int nm, .int fr, .int fs]))) := by
  refine Con.of rfl (nb rfl) ?_
  refine T_aload_n dX8_init_0 rfl ?_
  refine T_iload_n dX8_init_1 rfl ?_
  refine T_iload_n dX8_init_2 rfl ?_
  refine T_iload_n dX8_init_3 rfl ?_
  refine T_i3e (cu2 := 0) (su2 := 0) dX8_init_4 li_X8_1 rfl (c_X2_init_8 hk _ _ _) (nb rfl) (nb rfl) (nb rfl) (nb rfl) (nb rfl) ?_
  refine T_vret dX8_init_7 rfl (nb rfl) (nb rfl) ?_
  exact ⟨rfl, rfl⟩
theorem lp_X11_newBoat_28 {k0 nm fr fs : Int32} : T M_X11_newBoat x_E (x_ZE M_X11_newBoat (some (.ref h.length)) (h ++ [.inr (2, [.int nm, .int fr, .int fs])])) 0 0 28 [(0, .int k0), (1, .int nm), (2, .int fr), (3, .int fs)] [] h := by
  refine T_new (cu2 := 1) (su2 := 3) dX11_newBoat_28 nw_X11_312 (nb rfl) (nb rfl) (nb rfl) (nb rfl) ?_
  refine T_dup dX11_newBoat_31 rfl ?_
  refine T_iload_n dX11_newBoat_32 rfl ?_
  refine T_iload_n dX11_newBoat_33 rfl ?_
  refine T_iload_n dX11_newBoat_34 rfl ?_
  refine T_i3e (cu2 := 1) (su2 := 3) dX11_newBoat_35 li_X11_319 rfl (c_X2_init_2 push_get _ _ _) (nb rfl) (nb rfl) (nb rfl) (nb rfl) (nb rfl) ?_
  refine T_h push_set ?_
  refine T_aret dX11_newBoat_38 rfl (nb rfl) (nb rfl) ?_
  exact ⟨rfl, rfl⟩
theorem lp_X11_newBoat_39 {k0 nm fr fs : Int32} : T M_X11_newBoat x_E (x_ZE M_X11_newBoat (some (.ref h.length)) (h ++ [.inr (8, [.int nm, .int fr, .int fs])])) 0 0 39 [(0, .int k0), (1, .int nm), (2, .int fr), (3, .int fs)] [] h := by
  refine T_new (cu2 := 1) (su2 := 3) dX11_newBoat_39 nw_X11_314 (nb rfl) (nb rfl) (nb rfl) (nb rfl) ?_
  refine T_dup dX11_newBoat_42 rfl ?_
  refine T_iload_n dX11_newBoat_43 rfl ?_
  refine T_iload_n dX11_newBoat_44 rfl ?_
  refine T_iload_n dX11_newBoat_45 rfl ?_
  refine T_i3e (cu2 := 1) (su2 := 3) dX11_newBoat_46 li_X11_322 rfl (c_X8_init_8 push_get _ _ _) (nb rfl) (nb rfl) (nb rfl) (nb rfl) (nb rfl) ?_
  refine T_h push_set ?_
  refine T_aret dX11_newBoat_49 rfl (nb rfl) (nb rfl) ?_
  exact ⟨rfl, rfl⟩
theorem lp_X11_newBoat_50 {k0 nm fr fs : Int32} : T M_X11_newBoat x_E (x_ZE M_X11_newBoat (some (.ref h.length)) (h ++ [.inr (0, [.int nm, .int fr, .int fs])])) 0 0 50 [(0, .int k0), (1, .int nm), (2, .int fr), (3, .int fs)] [] h := by
  refine T_new (cu2 := 1) (su2 := 3) dX11_newBoat_50 nw_X11_143 (nb rfl) (nb rfl) (nb rfl) (nb rfl) ?_
  refine T_dup dX11_newBoat_53 rfl ?_
  refine T_iload_n dX11_newBoat_54 rfl ?_
  refine T_iload_n dX11_newBoat_55 rfl ?_
  refine T_iload_n dX11_newBoat_56 rfl ?_
  refine T_i3e (cu2 := 1) (su2 := 3) dX11_newBoat_57 li_X11_323 rfl (c_X0_init_0 push_get _ _ _) (nb rfl) (nb rfl) (nb rfl) (nb rfl) (nb rfl) ?_
  refine T_h push_set ?_
  refine T_aret dX11_newBoat_60 rfl (nb rfl) (nb rfl) ?_
  exact ⟨rfl, rfl⟩
theorem c_X11_newBoat {k : Nat} (hk : k ≤ 2) (nm fr fs : Int32) : ConE M_X11_newBoat [.int (nI k), .int nm, .int fr, .int fs] h (some (.ref h.length)) (h ++ [.inr (bC k, [.int nm, .int fr, .int fs])]) := by
  refine Con.of rfl (nb rfl) ?_
  refine T_iload_n dX11_newBoat_0 rfl ?_
  refine T_lk12 (t1 := 28) (t2 := 39) (td := 50) dX11_newBoat_1 (by decide) (by decide) (by decide) (fun c1 => ?_) (fun c1 => ?_) (fun c1_1 c1_2 => ?_)
  · obtain rfl : k = 1 := (nI_e1 (by omega)).mp c1
    exact lp_X11_newBoat_28
  · obtain rfl : k = 2 := (nI_e2 (by omega)).mp c1
    exact lp_X11_newBoat_39
  · obtain rfl : k = 0 := by
      have a1 : ¬ k = 1 := fun q => c1_1 (by rw [q]; rfl)
      have a2 : ¬ k = 2 := fun q => c1_2 (by rw [q]; rfl)
      omega
    exact lp_X11_newBoat_50
/-- a boat of kind k is one of kind s -/
theorem c_X11_isOfKind {k s b nm fr fs : Nat} (hk : k ≤ 2) (hs : s ≤ 2) (hb : h[b]? = some (bO k nm fr fs)) : ConE M_X11_isOfKind [.ref b, .int (nI s)] h (some (.int (bI (s ≤ k)))) h := by
  refine Con.of rfl (nb rfl) ?_
  refine T_iload_n dX11_isOfKind_0 rfl ?_
  refine T_lk12 (t1 := 28) (t2 := 33) (td := 38) dX11_isOfKind_1 (by decide) (by decide) (by decide) (fun c1 => ?_) (fun c1 => ?_) (fun c1_1 c1_2 => ?_)
  · obtain rfl : s = 1 := (nI_e1 (by omega)).mp c1
    rcases k3 hk with rfl | rfl | rfl
    · refine T_aload_n dX11_isOfKind_28 rfl ?_
      refine T_instN dX11_isOfKind_29 cl_X11_312 hb rfl (fun G U hK => hK.2.1) ?_
      exact T_zret dX11_isOfKind_32 rfl rfl (nb rfl) (nb rfl) ⟨rfl, rfl⟩
    · refine T_aload_n dX11_isOfKind_28 rfl ?_
      refine T_instY dX11_isOfKind_29 cl_X11_312 hb rfl (Or.inl rfl) ?_
      exact T_zret dX11_isOfKind_32 rfl rfl (nb rfl) (nb rfl) ⟨rfl, rfl⟩
    · refine T_aload_n dX11_isOfKind_28 rfl ?_
      refine T_instY dX11_isOfKind_29 cl_X11_312 hb rfl (Or.inr (List.mem_of_getElem? (i := 0) rfl)) ?_
      exact T_zret dX11_isOfKind_32 rfl rfl (nb rfl) (nb rfl) ⟨rfl, rfl⟩
  · obtain rfl : s = 2 := (nI_e2 (by omega)).mp c1
    rcases k3 hk with rfl | rfl | rfl
    · refine T_aload_n dX11_isOfKind_33 rfl ?_
      refine T_instN dX11_isOfKind_34 cl_X11_314 hb rfl (fun G U hK => hK.2.2.1) ?_
      exact T_zret dX11_isOfKind_37 rfl rfl (nb rfl) (nb rfl) ⟨rfl, rfl⟩
    · refine T_aload_n dX11_isOfKind_33 rfl ?_
      refine T_instN dX11_isOfKind_34 cl_X11_314 hb rfl (fun G U hK => hK.2.2.2.1) ?_
      exact T_zret dX11_isOfKind_37 rfl rfl (nb rfl) (nb rfl) ⟨rfl, rfl⟩
    · refine T_aload_n dX11_isOfKind_33 rfl ?_
      refine T_instY dX11_isOfKind_34 cl_X11_314 hb rfl (Or.inl rfl) ?_
      exact T_zret dX11_isOfKind_37 rfl rfl (nb rfl) (nb rfl) ⟨rfl, rfl⟩
  · refine T_iconst (v := 1) dX11_isOfKind_38 (by decide) ?_
    refine T_zret dX11_isOfKind_39 rfl rfl (nb rfl) (nb rfl) ?_
    have a0 : s = 0 := by
      have a1 : ¬ s = 1 := fun q => c1_1 (by rw [q]; rfl)
      have a2 : ¬ s = 2 := fun q => c1_2 (by rw [q]; rfl)
      omega
    exact ⟨sI (bI_t (by omega)), rfl⟩
end C60
