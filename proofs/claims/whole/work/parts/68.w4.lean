/-! calls beside each other: trace, fault, many, boats -/
section C68
variable {h : XH} {u : MSt}
abbrev RfE (v : Value) (w : MSt) : Option Value → MSt → Prop := fun q2 u2 => q2 = some v ∧ u2 = w
theorem sq_id {v : Value} {w : MSt} {h1 : XH} {q : Option Value} {h : XH} (hg : Ag (fun k => k < 67) h h1) (hq : some v = q) (hs : Sim h1 w) : SQ h (RfE v w) q h1 := ⟨hg, fun q2 u2 e => by obtain ⟨rfl, rfl⟩ := e; exact ⟨hq, hs⟩⟩
theorem s_trace (hs : Sim h u) : Con M_X11_trace [.ref 0] h (SQ h (RfE (.int (u.1 1)) u)) := by
  obtain ⟨wy, nw, wt, sp, isl, bp, L, wn, nr, rb, rh, rc, ln, sz, g, p⟩ := id hs
  refine Con.of rfl (nb rfl) ?_
  refine T_aload_n dX11_trace_0 rfl ?_
  refine T_get dX11_trace_1 fl_X11_48_11 p.1.1.1 rfl ?_
  refine T_get dX11_trace_4 fl_X11_316_9 p.1.2.2.2.2.2.2.1 rfl ?_
  refine T_iret dX11_trace_7 rfl (nb rfl) (nb rfl) ?_
  exact sq_id Ag.rf rfl hs
theorem s_fault (hs : Sim h u) : Con M_X11_fault [.ref 0] h (SQ h (RfE (.int (u.1 0)) u)) := by
  obtain ⟨wy, nw, wt, sp, isl, bp, L, wn, nr, rb, rh, rc, ln, sz, g, p⟩ := id hs
  refine Con.of rfl (nb rfl) ?_
  refine T_aload_n dX11_fault_0 rfl ?_
  refine T_get dX11_fault_1 fl_X11_72_11 p.1.1.1 rfl ?_
  refine T_iret dX11_fault_4 rfl (nb rfl) (nb rfl) ?_
  exact sq_id Ag.rf rfl hs
theorem s_many (hs : Sim h u) (what : Int32) : Con M_X11_many [.ref 0, .int what] h (SQ h (RfE (.int (m_many u what)) u)) := by
  obtain ⟨wy, nw, wt, sp, isl, bp, L, wn, nr, rb, rh, rc, ln, sz, g, p⟩ := id hs
  have hM := p.2.1
  have hl := p.1.2.1.2.1.1
  refine Con.of rfl (nb rfl) ?_
  refine T_iload_n dX11_many_0 rfl ?_
  refine T_tb4 (t0 := 32) (t1 := 40) (t2 := 48) (t3 := 56) (td := 64) dX11_many_1 (by decide) (by decide) (by decide) (by decide) (by decide) (fun c1 => ?_) (fun c1 => ?_) (fun c1 => ?_) (fun c1 => ?_) (fun c1_0 c1_1 c1_2 c1_3 => ?_)
  · refine T_aload_n dX11_many_32 rfl ?_
    refine T_get dX11_many_33 fl_X11_65_11 p.1.1.1 rfl ?_
    refine T_get dX11_many_36 fl_X11_118_1 hl rfl ?_
    refine T_iret dX11_many_39 rfl (nb rfl) (nb rfl) ?_
    exact sq_id Ag.rf (sI (by unfold m_many; rw [if_pos c1]; exact hM.2.2.1)) hs
  · refine T_aload_n dX11_many_40 rfl ?_
    refine T_get dX11_many_41 fl_X11_65_11 p.1.1.1 rfl ?_
    refine T_get dX11_many_44 fl_X11_167_1 hl rfl ?_
    refine T_iret dX11_many_47 rfl (nb rfl) (nb rfl) ?_
    exact sq_id Ag.rf (sI (by unfold m_many; rw [if_neg (by rw [c1]; decide), if_pos c1]; exact hM.1)) hs
  · refine T_aload_n dX11_many_48 rfl ?_
    refine T_get dX11_many_49 fl_X11_65_11 p.1.1.1 rfl ?_
    refine T_get dX11_many_52 fl_X11_208_1 hl rfl ?_
    refine T_iret dX11_many_55 rfl (nb rfl) (nb rfl) ?_
    exact sq_id Ag.rf (sI (by unfold m_many; rw [if_neg (by rw [c1]; decide), if_neg (by rw [c1]; decide), if_pos c1]; exact hM.2.1)) hs
  · refine T_aload_n dX11_many_56 rfl ?_
    refine T_get dX11_many_57 fl_X11_27_11 p.1.1.1 rfl ?_
    refine T_get dX11_many_60 fl_X11_128_3 p.1.2.2.2.1.1 rfl ?_
    refine T_iret dX11_many_63 rfl (nb rfl) (nb rfl) ?_
    exact sq_id Ag.rf (sI (by unfold m_many; rw [if_neg (by rw [c1]; decide), if_neg (by rw [c1]; decide), if_neg (by rw [c1]; decide), if_pos c1]; exact p.2.2.2.1.1)) hs
  · refine T_bipush (v := (-2)) dX11_many_64 (by decide) ?_
    refine T_iret dX11_many_66 rfl (nb rfl) (nb rfl) ?_
    exact sq_id Ag.rf (sI (by unfold m_many; rw [if_neg c1_0, if_neg c1_1, if_neg c1_2, if_neg c1_3])) hs
theorem bt_N {b : Int32} {n : Nat} (hn : n ≤ 3) (h : 0 ≤ b ∧ b < nI n) : ∃ i, i < n ∧ b = nI i := by
  obtain ⟨j, j1, rfl⟩ := nI_of (Int32.not_lt.mpr h.1)
  exact ⟨j, (nI_ltI j1 (by omega)).mp h.2, rfl⟩
theorem lp_X11_ofBoat_0 {Qa : Option Value → XH → Prop} {b nm fr fs : Nat} {x1 what : Int32} (hb : h[b]? = some (bO 0 nm fr fs)) (q0 : what = 0 → Qa (some (.int 0)) h) (q1 : what = 1 → Qa (some (.int (nI fr))) h) (q2 : what = 2 → Qa (some (.int (nI fs))) h) (q3 : what = 3 → Qa (some (.int (nI fs))) h) (q4 : ¬ what = 0 → ¬ what = 1 → ¬ what = 2 → ¬ what = 3 → Qa (some (.int (-2))) h) : T M_X11_ofBoat x_E (x_Z M_X11_ofBoat Qa) 0 0 20 [(0, .ref 0), (1, .int x1), (2, .int what), (3, .ref b)] [] h := by
  refine T_iload_n dX11_ofBoat_20 rfl ?_
  refine T_tb4 (t0 := 52) (t1 := 57) (t2 := 62) (t3 := 67) (td := 72) dX11_ofBoat_21 (by decide) (by decide) (by decide) (by decide) (by decide) (fun c21 => ?_) (fun c21 => ?_) (fun c21 => ?_) (fun c21 => ?_) (fun c21_0 c21_1 c21_2 c21_3 => ?_)
  · refine T_aload_n dX11_ofBoat_52 rfl ?_
    refine T_v0e (cu2 := 0) (su2 := 0) dX11_ofBoat_53 lv_X11_142 rfl hb rfl c_X0_kindNumber (nb rfl) (nb rfl) (nb rfl) (nb rfl) (nb rfl) ?_
    refine T_iret dX11_ofBoat_56 rfl (nb rfl) (nb rfl) ?_
    exact q0 c21
  · refine T_aload_n dX11_ofBoat_57 rfl ?_
    refine T_get dX11_ofBoat_58 fl_X11_148_0 hb rfl ?_
    refine T_iret dX11_ofBoat_61 rfl (nb rfl) (nb rfl) ?_
    exact q1 c21
  · refine T_aload_n dX11_ofBoat_62 rfl ?_
    refine T_get dX11_ofBoat_63 fl_X11_151_0 hb rfl ?_
    refine T_iret dX11_ofBoat_66 rfl (nb rfl) (nb rfl) ?_
    exact q2 c21
  · refine T_aload_n dX11_ofBoat_67 rfl ?_
    refine T_v0e (cu2 := 0) (su2 := 0) dX11_ofBoat_68 lv_X11_154 rfl hb rfl (c_X0_goesAgainst hb) (nb rfl) (nb rfl) (nb rfl) (nb rfl) (nb rfl) ?_
    refine T_iret dX11_ofBoat_71 rfl (nb rfl) (nb rfl) ?_
    exact q3 c21
  · refine T_bipush (v := (-2)) dX11_ofBoat_72 (by decide) ?_
    refine T_iret dX11_ofBoat_74 rfl (nb rfl) (nb rfl) ?_
    exact q4 c21_0 c21_1 c21_2 c21_3
theorem lp_X11_ofBoat_2 {Qa : Option Value → XH → Prop} {b nm fr fs : Nat} {x1 what : Int32} (hb : h[b]? = some (bO 1 nm fr fs)) (q0 : what = 0 → Qa (some (.int 1)) h) (q1 : what = 1 → Qa (some (.int (nI fr))) h) (q2 : what = 2 → Qa (some (.int (nI fs))) h) (q3 : what = 3 → Qa (some (.int (nI (fs + 1)))) h) (q4 : ¬ what = 0 → ¬ what = 1 → ¬ what = 2 → ¬ what = 3 → Qa (some (.int (-2))) h) : T M_X11_ofBoat x_E (x_Z M_X11_ofBoat Qa) 0 0 20 [(0, .ref 0), (1, .int x1), (2, .int what), (3, .ref b)] [] h := by
  refine T_iload_n dX11_ofBoat_20 rfl ?_
  refine T_tb4 (t0 := 52) (t1 := 57) (t2 := 62) (t3 := 67) (td := 72) dX11_ofBoat_21 (by decide) (by decide) (by decide) (by decide) (by decide) (fun c21 => ?_) (fun c21 => ?_) (fun c21 => ?_) (fun c21 => ?_) (fun c21_0 c21_1 c21_2 c21_3 => ?_)
  · refine T_aload_n dX11_ofBoat_52 rfl ?_
    refine T_u0e (cu2 := 0) (su2 := 0) dX11_ofBoat_53 lu_X11_142_X2 rfl hb rfl c_X2_kindNumber (nb rfl) (nb rfl) (nb rfl) (nb rfl) (nb rfl) ?_
    refine T_iret dX11_ofBoat_56 rfl (nb rfl) (nb rfl) ?_
    exact q0 c21
  · refine T_aload_n dX11_ofBoat_57 rfl ?_
    refine T_get dX11_ofBoat_58 fl_X11_148_2 hb rfl ?_
    refine T_iret dX11_ofBoat_61 rfl (nb rfl) (nb rfl) ?_
    exact q1 c21
  · refine T_aload_n dX11_ofBoat_62 rfl ?_
    refine T_get dX11_ofBoat_63 fl_X11_151_2 hb rfl ?_
    refine T_iret dX11_ofBoat_66 rfl (nb rfl) (nb rfl) ?_
    exact q2 c21
  · refine T_aload_n dX11_ofBoat_67 rfl ?_
    refine T_u0e (cu2 := 0) (su2 := 0) dX11_ofBoat_68 lu_X11_154_X2 rfl hb rfl (c_X2_goesAgainst hb) (nb rfl) (nb rfl) (nb rfl) (nb rfl) (nb rfl) ?_
    refine T_iret dX11_ofBoat_71 rfl (nb rfl) (nb rfl) ?_
    exact q3 c21
  · refine T_bipush (v := (-2)) dX11_ofBoat_72 (by decide) ?_
    refine T_iret dX11_ofBoat_74 rfl (nb rfl) (nb rfl) ?_
    exact q4 c21_0 c21_1 c21_2 c21_3
theorem lp_X11_ofBoat_8 {Qa : Option Value → XH → Prop} {b nm fr fs : Nat} {x1 what : Int32} (hb : h[b]? = some (bO 2 nm fr fs)) (q0 : what = 0 → Qa (some (.int 2)) h) (q1 : what = 1 → Qa (some (.int (nI fr))) h) (q2 : what = 2 → Qa (some (.int (nI fs))) h) (q3 : what = 3 → Qa (some (.int (nI fs))) h) (q4 : ¬ what = 0 → ¬ what = 1 → ¬ what = 2 → ¬ what = 3 → Qa (some (.int (-2))) h) : T M_X11_ofBoat x_E (x_Z M_X11_ofBoat Qa) 0 0 20 [(0, .ref 0), (1, .int x1), (2, .int what), (3, .ref b)] [] h := by
  refine T_iload_n dX11_ofBoat_20 rfl ?_
  refine T_tb4 (t0 := 52) (t1 := 57) (t2 := 62) (t3 := 67) (td := 72) dX11_ofBoat_21 (by decide) (by decide) (by decide) (by decide) (by decide) (fun c21 => ?_) (fun c21 => ?_) (fun c21 => ?_) (fun c21 => ?_) (fun c21_0 c21_1 c21_2 c21_3 => ?_)
  · refine T_aload_n dX11_ofBoat_52 rfl ?_
    refine T_u0e (cu2 := 0) (su2 := 0) dX11_ofBoat_53 lu_X11_142_X8 rfl hb rfl c_X8_kindNumber (nb rfl) (nb rfl) (nb rfl) (nb rfl) (nb rfl) ?_
    refine T_iret dX11_ofBoat_56 rfl (nb rfl) (nb rfl) ?_
    exact q0 c21
  · refine T_aload_n dX11_ofBoat_57 rfl ?_
    refine T_get dX11_ofBoat_58 fl_X11_148_8 hb rfl ?_
    refine T_iret dX11_ofBoat_61 rfl (nb rfl) (nb rfl) ?_
    exact q1 c21
  · refine T_aload_n dX11_ofBoat_62 rfl ?_
    refine T_get dX11_ofBoat_63 fl_X11_151_8 hb rfl ?_
    refine T_iret dX11_ofBoat_66 rfl (nb rfl) (nb rfl) ?_
    exact q2 c21
  · refine T_aload_n dX11_ofBoat_67 rfl ?_
    refine T_u0e (cu2 := 0) (su2 := 0) dX11_ofBoat_68 lu_X11_154_X8 rfl hb rfl (c_X8_goesAgainst hb) (nb rfl) (nb rfl) (nb rfl) (nb rfl) (nb rfl) ?_
    refine T_iret dX11_ofBoat_71 rfl (nb rfl) (nb rfl) ?_
    exact q3 c21
  · refine T_bipush (v := (-2)) dX11_ofBoat_72 (by decide) ?_
    refine T_iret dX11_ofBoat_74 rfl (nb rfl) (nb rfl) ?_
    exact q4 c21_0 c21_1 c21_2 c21_3
theorem s_ofBoat (hs : Sim h u) (b what : Int32) : Con M_X11_ofBoat [.ref 0, .int b, .int what] h (SQ h (RfE (.int (m_ofBoat u b what)) u)) := by
  obtain ⟨wy, nw, wt, sp, isl, bp, L, wn, nr, rb, rh, rc, ln, sz, g, p⟩ := id hs
  have hM := p.2.1
  have hL := p.1.2.1.1
  have h3 := hL.2.2.1
  obtain ⟨l1, l2, F, l3, l4⟩ := p.1.2.1.2.1
  refine Con.of rfl (nb rfl) ?_
  by_cases q : 0 ≤ b ∧ b < nI (L_n L)
  · obtain ⟨i, hi, rfl⟩ := bt_N h3 q
    have hB := hM.2.2.2.1 i hi
    have hk := (hL.2.2.2.1 i hi).2.1
    have hb := (l4 i hi).2
    unfold bCL at hb
    have q' : 0 ≤ nI i ∧ nI i < u.1 7 := by rw [hM.2.2.1]; exact q
    have ei : (nI i).toNatClampNeg = i := nI_clamp (by omega)
    have f0 : what = 0 → m_ofBoat u (nI i) what = nI (L_kd L i) := fun c => by unfold m_ofBoat; rw [if_pos q', if_pos c, ei]; exact hB.2.1
    have f1 : what = 1 → m_ofBoat u (nI i) what = nI (L_fr L i) := fun c => by unfold m_ofBoat; rw [if_pos q', if_neg (by rw [c]; decide), if_pos c, ei]; exact hB.1
    have f2 : what = 2 → m_ofBoat u (nI i) what = nI (L_fs L i) := fun c => by unfold m_ofBoat; rw [if_pos q', if_neg (by rw [c]; decide), if_neg (by rw [c]; decide), if_pos c, ei]; exact hB.2.2
    have f3 : what = 3 → m_ofBoat u (nI i) what = if L_kd L i = 1 then nI (L_fs L i + 1) else nI (L_fs L i) := fun c => by
      unfold m_ofBoat
      rw [if_pos q', if_neg (by rw [c]; decide), if_neg (by rw [c]; decide), if_neg (by rw [c]; decide), if_pos c, ei, hB.2.1, hB.2.2, nI_1]
      by_cases z : L_kd L i = 1
      · rw [if_pos z, if_pos (by rw [z]; rfl)]
      · rw [if_neg z, if_neg (fun y => z ((nI_e1 (by omega)).mp y))]
    have f4 : ¬ what = 0 → ¬ what = 1 → ¬ what = 2 → ¬ what = 3 → m_ofBoat u (nI i) what = -2 := fun a b c d => by unfold m_ofBoat; rw [if_pos q', if_neg a, if_neg b, if_neg c, if_neg d]
    refine T_aload_n dX11_ofBoat_0 rfl ?_
    refine T_iload_n dX11_ofBoat_1 rfl ?_
    refine T_v1e (cu2 := 0) (su2 := 0) dX11_ofBoat_2 lv_X11_135 rfl p.1.1.1 rfl (c_X11_isBoat p.1.1.1 l1 _) (nb rfl) (nb rfl) (nb rfl) (nb rfl) (nb rfl) ?_
    refine T_if_neB (tgt := 10) dX11_ofBoat_5 (by decide) (fun c5 => ?_) (fun c5 => ?_)
    · refine T_aload_n dX11_ofBoat_10 rfl ?_
      refine T_get dX11_ofBoat_11 fl_X11_65_11 p.1.1.1 rfl ?_
      refine T_get dX11_ofBoat_14 fl_X11_138_1 l1 rfl ?_
      refine T_iload_n dX11_ofBoat_17 rfl ?_
      refine T_aald4 dX11_ofBoat_18 l3 (nI_in3 h3 hi) (by rw [ei]; exact (l4 i hi).1) ?_
      refine T_astore_n dX11_ofBoat_19 (by decide) rfl ?_
      rcases k3 hk with e | e | e
      · rw [e] at hb f0 f3
        exact lp_X11_ofBoat_0 hb (fun c => sq_id Ag.rf (sI (f0 c)) hs) (fun c => sq_id Ag.rf (sI (f1 c)) hs) (fun c => sq_id Ag.rf (sI (f2 c)) hs) (fun c => sq_id Ag.rf (sI (f3 c)) hs) (fun a b c d => sq_id Ag.rf (sI (f4 a b c d)) hs)
      · rw [e] at hb f0 f3
        exact lp_X11_ofBoat_2 hb (fun c => sq_id Ag.rf (sI (f0 c)) hs) (fun c => sq_id Ag.rf (sI (f1 c)) hs) (fun c => sq_id Ag.rf (sI (f2 c)) hs) (fun c => sq_id Ag.rf (sI (f3 c)) hs) (fun a b c d => sq_id Ag.rf (sI (f4 a b c d)) hs)
      · rw [e] at hb f0 f3
        exact lp_X11_ofBoat_8 hb (fun c => sq_id Ag.rf (sI (f0 c)) hs) (fun c => sq_id Ag.rf (sI (f1 c)) hs) (fun c => sq_id Ag.rf (sI (f2 c)) hs) (fun c => sq_id Ag.rf (sI (f3 c)) hs) (fun a b c d => sq_id Ag.rf (sI (f4 a b c d)) hs)
    · exact absurd q c5
  · have q' : ¬ (0 ≤ b ∧ b < u.1 7) := by rw [hM.2.2.1]; exact q
    refine T_aload_n dX11_ofBoat_0 rfl ?_
    refine T_iload_n dX11_ofBoat_1 rfl ?_
    refine T_v1e (cu2 := 0) (su2 := 0) dX11_ofBoat_2 lv_X11_135 rfl p.1.1.1 rfl (c_X11_isBoat p.1.1.1 l1 _) (nb rfl) (nb rfl) (nb rfl) (nb rfl) (nb rfl) ?_
    refine T_if_neB (tgt := 10) dX11_ofBoat_5 (by decide) (fun c5 => ?_) (fun c5 => ?_)
    · exact absurd c5 q
    · refine T_iconst (v := (-1)) dX11_ofBoat_8 (by decide) ?_
      refine T_iret dX11_ofBoat_9 rfl (nb rfl) (nb rfl) ?_
      exact sq_id Ag.rf (sI (by unfold m_ofBoat; rw [if_neg q'])) hs
theorem two_N : ∀ f, f < 5 → (2 : Int32) * nI f + 100 = nI f + 100 + nI f := by decide
theorem s_tell (hs : Sim h u) (b : Int32) : Con M_X11_tell [.ref 0, .int b] h (SQ h (RfE (.int (m_tell u b).1) (m_tell u b).2)) := by
  obtain ⟨wy, nw, wt, sp, isl, bp, L, wn, nr, rb, rh, rc, ln, sz, g, p⟩ := id hs
  have hM := p.2.1
  have hL := p.1.2.1.1
  have h3 := hL.2.2.1
  have ht := p.1.2.2.2.2.2.2.1
  unfold PT at ht
  obtain ⟨l1, l2, F, l3, l4⟩ := p.1.2.1.2.1
  refine Con.of rfl (nb rfl) ?_
  by_cases q : 0 ≤ b ∧ b < nI (L_n L)
  · obtain ⟨i, hi, rfl⟩ := bt_N h3 q
    have hB := hM.2.2.2.1 i hi
    have hq := hL.2.2.2.1 i hi
    have hb := (l4 i hi).2
    unfold bCL at hb
    have q' : 0 ≤ nI i ∧ nI i < u.1 7 := by rw [hM.2.2.1]; exact q
    have ei : (nI i).toNatClampNeg = i := nI_clamp (by omega)
    have hk2 := hB.2.1
    rcases k3 hq.2.1 with e | e | e
    · rw [e] at hb hk2
      have er : m_tell u (nI i) = (nI (L_fs L i), m_leave u 1) := by unfold m_tell; rw [if_pos q', ei, hB.2.2, hk2, if_neg (by decide), if_neg (by decide)]
      rw [er]
      refine T_aload_n dX11_tell_0 rfl ?_
      refine T_iload_n dX11_tell_1 rfl ?_
      refine T_v1e (cu2 := 0) (su2 := 0) dX11_tell_2 lv_X11_135 rfl p.1.1.1 rfl (c_X11_isBoat p.1.1.1 l1 _) (nb rfl) (nb rfl) (nb rfl) (nb rfl) (nb rfl) ?_
      refine T_if_eqB (tgt := 27) dX11_tell_5 (by decide) (fun c5 => ?_) (fun c5 => ?_)
      · exact absurd q c5
      · refine T_aload_n dX11_tell_8 rfl ?_
        refine T_get dX11_tell_9 fl_X11_65_11 p.1.1.1 rfl ?_
        refine T_get dX11_tell_12 fl_X11_138_1 l1 rfl ?_
        refine T_iload_n dX11_tell_15 rfl ?_
        refine T_aald4 dX11_tell_16 l3 (nI_in3 h3 hi) (by rw [ei]; exact (l4 i hi).1) ?_
        refine T_aload_n dX11_tell_17 rfl ?_
        refine T_get dX11_tell_18 fl_X11_48_11 p.1.1.1 rfl ?_
        refine T_v1e (cu2 := 0) (su2 := 0) dX11_tell_21 lv_X11_301 rfl hb rfl (c_X0_telling_0 hb ht) (nb rfl) (nb rfl) (nb rfl) (nb rfl) (nb rfl) ?_
        refine T_goto (tgt := 28) dX11_tell_24 (by decide) ?_
        refine T_iret dX11_tell_28 rfl (nb rfl) (nb rfl) ?_
        exact sq_id (Ag.rf.set (by decide)) rfl (p.tr _).sim
    · rw [e] at hb hk2
      have er : m_tell u (nI i) = (nI (L_fs L i) + 100, m_leave (m_leave u 2) 1) := by unfold m_tell; rw [if_pos q', ei, hB.2.2, hk2, if_pos (by decide)]
      rw [er]
      refine T_aload_n dX11_tell_0 rfl ?_
      refine T_iload_n dX11_tell_1 rfl ?_
      refine T_v1e (cu2 := 0) (su2 := 0) dX11_tell_2 lv_X11_135 rfl p.1.1.1 rfl (c_X11_isBoat p.1.1.1 l1 _) (nb rfl) (nb rfl) (nb rfl) (nb rfl) (nb rfl) ?_
      refine T_if_eqB (tgt := 27) dX11_tell_5 (by decide) (fun c5 => ?_) (fun c5 => ?_)
      · exact absurd q c5
      · refine T_aload_n dX11_tell_8 rfl ?_
        refine T_get dX11_tell_9 fl_X11_65_11 p.1.1.1 rfl ?_
        refine T_get dX11_tell_12 fl_X11_138_1 l1 rfl ?_
        refine T_iload_n dX11_tell_15 rfl ?_
        refine T_aald4 dX11_tell_16 l3 (nI_in3 h3 hi) (by rw [ei]; exact (l4 i hi).1) ?_
        refine T_aload_n dX11_tell_17 rfl ?_
        refine T_get dX11_tell_18 fl_X11_48_11 p.1.1.1 rfl ?_
        refine T_u1e (cu2 := 0) (su2 := 0) dX11_tell_21 lu_X11_301_X2 rfl hb rfl (c_X2_telling_2 hb ht) (nb rfl) (nb rfl) (nb rfl) (nb rfl) (nb rfl) ?_
        refine T_goto (tgt := 28) dX11_tell_24 (by decide) ?_
        refine T_iret dX11_tell_28 rfl (nb rfl) (nb rfl) ?_
        exact sq_id (Ag.rf.set (by decide)) rfl (p.tr _).sim
    · rw [e] at hb hk2
      have er : m_tell u (nI i) = (2 * nI (L_fs L i) + 100, m_leave (m_leave (m_leave (m_leave u 3) 2) 1) 1) := by unfold m_tell; rw [if_pos q', ei, hB.2.2, hk2, if_neg (by decide), if_pos (by decide)]
      rw [er]
      refine T_aload_n dX11_tell_0 rfl ?_
      refine T_iload_n dX11_tell_1 rfl ?_
      refine T_v1e (cu2 := 0) (su2 := 0) dX11_tell_2 lv_X11_135 rfl p.1.1.1 rfl (c_X11_isBoat p.1.1.1 l1 _) (nb rfl) (nb rfl) (nb rfl) (nb rfl) (nb rfl) ?_
      refine T_if_eqB (tgt := 27) dX11_tell_5 (by decide) (fun c5 => ?_) (fun c5 => ?_)
      · exact absurd q c5
      · refine T_aload_n dX11_tell_8 rfl ?_
        refine T_get dX11_tell_9 fl_X11_65_11 p.1.1.1 rfl ?_
        refine T_get dX11_tell_12 fl_X11_138_1 l1 rfl ?_
        refine T_iload_n dX11_tell_15 rfl ?_
        refine T_aald4 dX11_tell_16 l3 (nI_in3 h3 hi) (by rw [ei]; exact (l4 i hi).1) ?_
        refine T_aload_n dX11_tell_17 rfl ?_
        refine T_get dX11_tell_18 fl_X11_48_11 p.1.1.1 rfl ?_
        refine T_u1e (cu2 := 0) (su2 := 0) dX11_tell_21 lu_X11_301_X8 rfl hb rfl (c_X8_telling hb ht) (nb rfl) (nb rfl) (nb rfl) (nb rfl) (nb rfl) ?_
        refine T_goto (tgt := 28) dX11_tell_24 (by decide) ?_
        refine T_iret dX11_tell_28 rfl (nb rfl) (nb rfl) ?_
        exact sq_id (Ag.rf.set (by decide)) (sI (two_N _ (by omega))) (p.tr _).sim
  · have q' : ¬ (0 ≤ b ∧ b < u.1 7) := by rw [hM.2.2.1]; exact q
    have er : m_tell u b = (-1, u) := by unfold m_tell; rw [if_neg q']
    rw [er]
    refine T_aload_n dX11_tell_0 rfl ?_
    refine T_iload_n dX11_tell_1 rfl ?_
    refine T_v1e (cu2 := 0) (su2 := 0) dX11_tell_2 lv_X11_135 rfl p.1.1.1 rfl (c_X11_isBoat p.1.1.1 l1 _) (nb rfl) (nb rfl) (nb rfl) (nb rfl) (nb rfl) ?_
    refine T_if_eqB (tgt := 27) dX11_tell_5 (by decide) (fun c5 => ?_) (fun c5 => ?_)
    · refine T_iconst (v := (-1)) dX11_tell_27 (by decide) ?_
      refine T_iret dX11_tell_28 rfl (nb rfl) (nb rfl) ?_
      exact sq_id Ag.rf rfl hs
    · exact absurd c5 q
theorem s_hail (hs : Sim h u) (b : Int32) : Con M_X11_hail [.ref 0, .int b] h (SQ h (RfE (.int (m_hail u b).1) (m_hail u b).2)) := by
  obtain ⟨wy, nw, wt, sp, isl, bp, L, wn, nr, rb, rh, rc, ln, sz, g, p⟩ := id hs
  have hM := p.2.1
  have hL := p.1.2.1.1
  have h3 := hL.2.2.1
  have ht := p.1.2.2.2.2.2.2.1
  unfold PT at ht
  obtain ⟨l1, l2, F, l3, l4⟩ := p.1.2.1.2.1
  refine Con.of rfl (nb rfl) ?_
  by_cases q : 0 ≤ b ∧ b < nI (L_n L)
  · obtain ⟨i, hi, rfl⟩ := bt_N h3 q
    have hB := hM.2.2.2.1 i hi
    have hq := hL.2.2.2.1 i hi
    have hb := (l4 i hi).2
    unfold bCL at hb
    have q' : 0 ≤ nI i ∧ nI i < u.1 7 := by rw [hM.2.2.1]; exact q
    have ei : (nI i).toNatClampNeg = i := nI_clamp (by omega)
    have hk2 := hB.2.1
    rcases k3 hq.2.1 with e | e | e
    · rw [e] at hb hk2
      have er : m_hail u (nI i) = (nI i, m_leave u 4) := by unfold m_hail; rw [if_pos q', ei, hk2, if_neg (by decide), if_neg (by decide)]
      rw [er]
      refine T_aload_n dX11_hail_0 rfl ?_
      refine T_iload_n dX11_hail_1 rfl ?_
      refine T_v1e (cu2 := 0) (su2 := 0) dX11_hail_2 lv_X11_135 rfl p.1.1.1 rfl (c_X11_isBoat p.1.1.1 l1 _) (nb rfl) (nb rfl) (nb rfl) (nb rfl) (nb rfl) ?_
      refine T_if_eqB (tgt := 27) dX11_hail_5 (by decide) (fun c5 => ?_) (fun c5 => ?_)
      · exact absurd q c5
      · refine T_aload_n dX11_hail_8 rfl ?_
        refine T_get dX11_hail_9 fl_X11_65_11 p.1.1.1 rfl ?_
        refine T_get dX11_hail_12 fl_X11_138_1 l1 rfl ?_
        refine T_iload_n dX11_hail_15 rfl ?_
        refine T_aald4 dX11_hail_16 l3 (nI_in3 h3 hi) (by rw [ei]; exact (l4 i hi).1) ?_
        refine T_aload_n dX11_hail_17 rfl ?_
        refine T_get dX11_hail_18 fl_X11_48_11 p.1.1.1 rfl ?_
        refine T_v1e (cu2 := 0) (su2 := 0) dX11_hail_21 lv_X11_305 rfl hb rfl (c_X0_hailing_0 hb ht) (nb rfl) (nb rfl) (nb rfl) (nb rfl) (nb rfl) ?_
        refine T_goto (tgt := 28) dX11_hail_24 (by decide) ?_
        refine T_iret dX11_hail_28 rfl (nb rfl) (nb rfl) ?_
        exact sq_id (Ag.rf.set (by decide)) rfl (p.tr _).sim
    · rw [e] at hb hk2
      have er : m_hail u (nI i) = (nI i, m_leave u 4) := by unfold m_hail; rw [if_pos q', ei, hk2, if_neg (by decide), if_neg (by decide)]
      rw [er]
      refine T_aload_n dX11_hail_0 rfl ?_
      refine T_iload_n dX11_hail_1 rfl ?_
      refine T_v1e (cu2 := 0) (su2 := 0) dX11_hail_2 lv_X11_135 rfl p.1.1.1 rfl (c_X11_isBoat p.1.1.1 l1 _) (nb rfl) (nb rfl) (nb rfl) (nb rfl) (nb rfl) ?_
      refine T_if_eqB (tgt := 27) dX11_hail_5 (by decide) (fun c5 => ?_) (fun c5 => ?_)
      · exact absurd q c5
      · refine T_aload_n dX11_hail_8 rfl ?_
        refine T_get dX11_hail_9 fl_X11_65_11 p.1.1.1 rfl ?_
        refine T_get dX11_hail_12 fl_X11_138_1 l1 rfl ?_
        refine T_iload_n dX11_hail_15 rfl ?_
        refine T_aald4 dX11_hail_16 l3 (nI_in3 h3 hi) (by rw [ei]; exact (l4 i hi).1) ?_
        refine T_aload_n dX11_hail_17 rfl ?_
        refine T_get dX11_hail_18 fl_X11_48_11 p.1.1.1 rfl ?_
        refine T_u1e (cu2 := 0) (su2 := 0) dX11_hail_21 lu_X11_305_X2 rfl hb rfl (c_X0_hailing_2 hb ht) (nb rfl) (nb rfl) (nb rfl) (nb rfl) (nb rfl) ?_
        refine T_goto (tgt := 28) dX11_hail_24 (by decide) ?_
        refine T_iret dX11_hail_28 rfl (nb rfl) (nb rfl) ?_
        exact sq_id (Ag.rf.set (by decide)) rfl (p.tr _).sim
    · rw [e] at hb hk2
      have er : m_hail u (nI i) = (70, m_leave u 5) := by unfold m_hail; rw [if_pos q', ei, hk2, if_pos (by decide), if_pos (by decide)]
      rw [er]
      refine T_aload_n dX11_hail_0 rfl ?_
      refine T_iload_n dX11_hail_1 rfl ?_
      refine T_v1e (cu2 := 0) (su2 := 0) dX11_hail_2 lv_X11_135 rfl p.1.1.1 rfl (c_X11_isBoat p.1.1.1 l1 _) (nb rfl) (nb rfl) (nb rfl) (nb rfl) (nb rfl) ?_
      refine T_if_eqB (tgt := 27) dX11_hail_5 (by decide) (fun c5 => ?_) (fun c5 => ?_)
      · exact absurd q c5
      · refine T_aload_n dX11_hail_8 rfl ?_
        refine T_get dX11_hail_9 fl_X11_65_11 p.1.1.1 rfl ?_
        refine T_get dX11_hail_12 fl_X11_138_1 l1 rfl ?_
        refine T_iload_n dX11_hail_15 rfl ?_
        refine T_aald4 dX11_hail_16 l3 (nI_in3 h3 hi) (by rw [ei]; exact (l4 i hi).1) ?_
        refine T_aload_n dX11_hail_17 rfl ?_
        refine T_get dX11_hail_18 fl_X11_48_11 p.1.1.1 rfl ?_
        refine T_u1e (cu2 := 0) (su2 := 0) dX11_hail_21 lu_X11_305_X8 rfl hb rfl (c_X8_hailing ht) (nb rfl) (nb rfl) (nb rfl) (nb rfl) (nb rfl) ?_
        refine T_goto (tgt := 28) dX11_hail_24 (by decide) ?_
        refine T_iret dX11_hail_28 rfl (nb rfl) (nb rfl) ?_
        exact sq_id (Ag.rf.set (by decide)) rfl (p.tr _).sim
  · have q' : ¬ (0 ≤ b ∧ b < u.1 7) := by rw [hM.2.2.1]; exact q
    have er : m_hail u b = (-1, u) := by unfold m_hail; rw [if_neg q']
    rw [er]
    refine T_aload_n dX11_hail_0 rfl ?_
    refine T_iload_n dX11_hail_1 rfl ?_
    refine T_v1e (cu2 := 0) (su2 := 0) dX11_hail_2 lv_X11_135 rfl p.1.1.1 rfl (c_X11_isBoat p.1.1.1 l1 _) (nb rfl) (nb rfl) (nb rfl) (nb rfl) (nb rfl) ?_
    refine T_if_eqB (tgt := 27) dX11_hail_5 (by decide) (fun c5 => ?_) (fun c5 => ?_)
    · refine T_iconst (v := (-1)) dX11_hail_27 (by decide) ?_
      refine T_iret dX11_hail_28 rfl (nb rfl) (nb rfl) ?_
      exact sq_id Ag.rf rfl hs
    · exact absurd c5 q
theorem s_as (hs : Sim h u) (b sort : Int32) : Con M_X11_as [.ref 0, .int b, .int sort] h (SQ h (RfE (.int (m_as0 (m0 u 0) b sort).1) (m_as0 (m0 u 0) b sort).2)) := by
  obtain ⟨wy, nw, wt, sp, isl, bp, L, wn, nr, rb, rh, rc, ln, sz, g, p0⟩ := id hs
  have p := p0.flt 0
  have hM := p.2.1
  have hL := p.1.2.1.1
  have h3 := hL.2.2.1
  obtain ⟨l1, l2, F, l3, l4⟩ := p.1.2.1.2.1
  have e3 : sort < 3 ↔ sort ≤ 2 := i32_s rfl
  have ag0 : ∀ x, Ag (fun k => k < 67) h (h.set 0 (cwO wy nw wt sp x)) := fun x => Ag.rf.set (by decide)
  refine Con.of rfl (nb rfl) ?_
  by_cases q : 0 ≤ b ∧ b < nI (L_n L)
  · obtain ⟨i, hi, rfl⟩ := bt_N h3 q
    have hB := hM.2.2.2.1 i hi
    have hq := hL.2.2.2.1 i hi
    have q' : 0 ≤ nI i ∧ nI i < (m0 u 0).1 7 := by rw [hM.2.2.1]; exact q
    have ei : (nI i).toNatClampNeg = i := nI_clamp (by omega)
    by_cases z : 0 ≤ sort ∧ sort ≤ 2
    · obtain ⟨s, hs2, rfl⟩ := setN (a := 2) (by decide) z
      have er : m_as0 (m0 u 0) (nI i) (nI s) = if L_kd L i < s then (-10 - 2, m0 u 2) else (1, m0 u 0) := by
        unfold m_as0
        rw [if_pos q', if_pos z, ei, hB.2.1]
        by_cases y : L_kd L i < s
        · rw [if_pos y, if_pos ((nI_ltI (by omega) (by omega)).mpr y)]
          congr 2
          funext j
          show va_up (va_up u.1 0 0) 0 2 j = va_up u.1 0 2 j
          unfold va_up
          split <;> rfl
        · rw [if_neg y, if_neg (fun y2 => y ((nI_ltI (by omega) (by omega)).mp y2))]
      rw [er]
      refine T_aload_n dX11_as_0 rfl ?_
      refine T_iconst (v := 0) dX11_as_1 (by decide) ?_
      refine T_put dX11_as_2 fp_X11_72_11 p0.1.1.1 (nb rfl) (fun _ => ⟨rfl, rfl⟩) ?_
      refine T_aload_n dX11_as_5 rfl ?_
      refine T_iload_n dX11_as_6 rfl ?_
      refine T_v1e (cu2 := 0) (su2 := 0) dX11_as_7 lv_X11_135 rfl p.1.1.1 rfl (c_X11_isBoat p.1.1.1 l1 _) (nb rfl) (nb rfl) (nb rfl) (nb rfl) (nb rfl) ?_
      refine T_if_neB (tgt := 15) dX11_as_10 (by decide) (fun c10 => ?_) (fun c10 => ?_)
      · refine T_iload_n dX11_as_15 rfl ?_
        refine T_if_ltN (tgt := 24) dX11_as_16 (by decide) (by omega) (fun c16 => ?_) (fun c16 => ?_)
        · exact c16.elim
        · refine T_iload_n dX11_as_19 rfl ?_
          refine T_iconst (v := nI 3) dX11_as_20 (by decide) ?_
          refine T_icmp_ltN (tgt := 27) dX11_as_21 (by decide) (by omega) (by omega) (fun c21 => ?_) (fun c21 => ?_)
          · refine T_aload_n dX11_as_27 rfl ?_
            refine T_get dX11_as_28 fl_X11_65_11 p.1.1.1 rfl ?_
            refine T_get dX11_as_31 fl_X11_138_1 l1 rfl ?_
            refine T_iload_n dX11_as_34 rfl ?_
            refine T_aald4 dX11_as_35 l3 (nI_in3 h3 hi) (by rw [ei]; exact (l4 i hi).1) ?_
            refine T_iload_n dX11_as_36 rfl ?_
            refine T_s2e (cu2 := 0) (su2 := 0) dX11_as_37 ls_X11_308 rfl (c_X11_isOfKind hq.2.1 hs2 (l4 i hi).2) (nb rfl) (nb rfl) (nb rfl) (nb rfl) (nb rfl) ?_
            refine T_if_eqB (tgt := 47) dX11_as_40 (by decide) (fun c40 => ?_) (fun c40 => ?_)
            · refine T_aload_n dX11_as_47 rfl ?_
              refine T_iconst (v := 2) dX11_as_48 (by decide) ?_
              refine T_v1e (cu2 := 0) (su2 := 0) dX11_as_49 lv_X11_88 rfl p.1.1.1 rfl (c_X11_faulted p.1.1.1 _) (nb rfl) (nb rfl) (nb rfl) (nb rfl) (nb rfl) ?_
              refine T_h (List.set_set ..) ?_
              refine T_iret dX11_as_52 rfl (nb rfl) (nb rfl) ?_
              first
                | (rw [if_neg (by omega)]; exact sq_id (ag0 _) rfl p.sim)
                | (rw [if_pos (by omega)]; exact sq_id (ag0 _) rfl (p0.flt 2).sim)
            · refine T_iconst (v := 1) dX11_as_43 (by decide) ?_
              refine T_goto (tgt := 52) dX11_as_44 (by decide) ?_
              refine T_iret dX11_as_52 rfl (nb rfl) (nb rfl) ?_
              first
                | (rw [if_neg (by omega)]; exact sq_id (ag0 _) rfl p.sim)
                | (rw [if_pos (by omega)]; exact sq_id (ag0 _) rfl (p0.flt 2).sim)
          · exact absurd c21 (by omega)
      · exact absurd q c10
    · have er : m_as0 (m0 u 0) (nI i) sort = (-2, m0 u 0) := by unfold m_as0; rw [if_pos q', if_neg z]
      rw [er]
      refine T_aload_n dX11_as_0 rfl ?_
      refine T_iconst (v := 0) dX11_as_1 (by decide) ?_
      refine T_put dX11_as_2 fp_X11_72_11 p0.1.1.1 (nb rfl) (fun _ => ⟨rfl, rfl⟩) ?_
      refine T_aload_n dX11_as_5 rfl ?_
      refine T_iload_n dX11_as_6 rfl ?_
      refine T_v1e (cu2 := 0) (su2 := 0) dX11_as_7 lv_X11_135 rfl p.1.1.1 rfl (c_X11_isBoat p.1.1.1 l1 _) (nb rfl) (nb rfl) (nb rfl) (nb rfl) (nb rfl) ?_
      refine T_if_neB (tgt := 15) dX11_as_10 (by decide) (fun c10 => ?_) (fun c10 => ?_)
      · refine T_iload_n dX11_as_15 rfl ?_
        refine T_if_lt (tgt := 24) dX11_as_16 (by decide) (fun c16 => ?_) (fun c16 => ?_)
        · refine T_bipush (v := (-2)) dX11_as_24 (by decide) ?_
          refine T_iret dX11_as_26 rfl (nb rfl) (nb rfl) ?_
          exact sq_id (ag0 _) rfl p.sim
        · refine T_iload_n dX11_as_19 rfl ?_
          refine T_iconst (v := 3) dX11_as_20 (by decide) ?_
          refine T_icmp_lt (tgt := 27) dX11_as_21 (by decide) (fun c21 => ?_) (fun c21 => ?_)
          · exact absurd ⟨Int32.not_lt.mp c16, e3.mp c21⟩ z
          · refine T_bipush (v := (-2)) dX11_as_24 (by decide) ?_
            refine T_iret dX11_as_26 rfl (nb rfl) (nb rfl) ?_
            exact sq_id (ag0 _) rfl p.sim
      · exact absurd q c10
  · have q' : ¬ (0 ≤ b ∧ b < (m0 u 0).1 7) := by rw [hM.2.2.1]; exact q
    have er : m_as0 (m0 u 0) b sort = (-1, m0 u 0) := by unfold m_as0; rw [if_neg q']
    rw [er]
    refine T_aload_n dX11_as_0 rfl ?_
    refine T_iconst (v := 0) dX11_as_1 (by decide) ?_
    refine T_put dX11_as_2 fp_X11_72_11 p0.1.1.1 (nb rfl) (fun _ => ⟨rfl, rfl⟩) ?_
    refine T_aload_n dX11_as_5 rfl ?_
    refine T_iload_n dX11_as_6 rfl ?_
    refine T_v1e (cu2 := 0) (su2 := 0) dX11_as_7 lv_X11_135 rfl p.1.1.1 rfl (c_X11_isBoat p.1.1.1 l1 _) (nb rfl) (nb rfl) (nb rfl) (nb rfl) (nb rfl) ?_
    refine T_if_neB (tgt := 15) dX11_as_10 (by decide) (fun c10 => ?_) (fun c10 => ?_)
    · exact absurd c10 q
    · refine T_iconst (v := (-1)) dX11_as_13 (by decide) ?_
      refine T_iret dX11_as_14 rfl (nb rfl) (nb rfl) ?_
      exact sq_id (ag0 _) rfl p.sim
end C68
