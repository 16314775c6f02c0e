/-! soonest, hats, rid beside the reference's -/
section C74
variable {h h1 : XH} {u : MSt} {L : LK} {wn : Nat → Nat} {wy nw wt sp isl nr : Nat} {bp rb rh rc : Nat → Nat} {ln sz : Nat → Int32} {g : Nat → Nat → Int32} {A R : XH} {s s2 : SSt}
theorem sH_ag (hA : A.length = 10) : Ag (fun k => 10 ≤ k ∧ k ≤ 42) (sH A s R) (sH A s2 R) := by
  refine ⟨by rw [sH_len, sH_len]; exact Nat.le_refl _, fun k h1 h2 => ?_⟩
  have hC : (sC s).length = 33 := rfl
  have hC2 : (sC s2).length = 33 := rfl
  unfold sH
  by_cases c1 : k < 10
  · rw [List.getElem?_append_left (by omega), List.getElem?_append_left (by omega)]
  · rw [List.getElem?_append_right (by omega), List.getElem?_append_right (by omega), List.getElem?_append_right (by omega), List.getElem?_append_right (by omega), hC, hC2]
theorem SimP.se (p : SimP (sH A s R) u wy nw wt sp isl bp L wn nr rb rh rc ln sz g) (hA : A.length = 10) (hG : GOk s2) (hT : s2.1 0 = 0 → TabOk L s2) : SimP (sH A s2 R) u wy nw wt sp isl bp L wn nr rb rh rc ln sz g := by
  obtain ⟨⟨p1, p2, p3, p4, p5, p6, p7, p8, p9, p10, p11⟩, q⟩ := p
  have hw := p1.2.1
  have hg := sH_ag (s := s) (s2 := s2) (R := R) hA
  exact ⟨⟨p1.ag hg (by omega), p2.ag hg (by omega) (fun k hk => by omega), p3.ag hg (by omega) (fun k hk => by omega), p4.ag hg (fun k k1 k2 => by omega), p5.ag hg (fun k k1 k2 => by omega), ⟨A, s2, R, hA, rfl, hG, hT⟩, p7.ag hg (by omega), p8.ag hg (by omega), p9.ag hg (fun k k1 k2 => by omega), p10.ag hg (by omega), p11.ag hg (fun k hk => by omega)⟩, q⟩
theorem SimP.lks (p : SimP (sH A s R) u wy nw wt sp isl bp L wn nr rb rh rc ln sz g) (hA : A.length = 10) : (∀ t, LkH (sH A t R) wt isl (wt + 1) (wt + 2) bp L) ∧ ∀ t, WnH (sH A t R) (wt + 1) L wn := by
  obtain ⟨⟨p1, p2, -⟩, -⟩ := p
  have hw := p1.2.1
  have hb := p2.2.2.2
  exact ⟨fun t => p2.2.1.ag (sH_ag hA) (by omega) (by omega) (fun i hi => by have := hb i hi; omega), fun t => p2.2.2.1.ag (sH_ag hA) (by omega)⟩
abbrev mmR (u : MSt) (u2 : MSt) : Prop := ∃ P cb th, u2 = mm u P cb th
theorem set_lt (hL : LOk L) {set : Int32} (q : 0 ≤ set ∧ set ≤ nI (allN L)) : ∃ j, j < 8 ∧ j ≤ allN L ∧ set = nI j := by
  have h8 := allN_lt hL
  obtain ⟨j, j1, j2⟩ := setN (by omega) q
  exact ⟨j, by omega, j1, j2⟩
theorem s_soonest (p : SimP h u wy nw wt sp isl bp L wn nr rb rh rc ln sz g) (set : Int32) : Con M_X11_soonest [.ref 0, .int set] h (SQ h (fun q2 u2 => (∃ v, q2 = some (.int v) ∧ SoA L wn set v) ∧ mmR u u2)) := by
  obtain ⟨A, s, R, hA, rfl, hG, hT⟩ := p.1.2.2.2.2.2.1
  have hL := p.1.2.1.1
  have h3 := hL.2.2.1
  have h8 := allN_lt hL
  have l1 := p.1.2.1.2.1.1
  obtain ⟨hlk, hwn⟩ := p.lks hA
  have fin : ∀ (v : Int32) (s2 : SSt), GOk s2 → (s2.1 0 = 0 → TabOk L s2) → (∀ v2, SoA L wn set v2 → v2 = v) → SQ (sH A s R) (fun q2 u2 => (∃ v, q2 = some (.int v) ∧ SoA L wn set v) ∧ mmR u u2) (some (.int v)) (sH A s2 R) := by
    intro v s2 g1 t1 e
    refine ⟨(sH_ag hA).mono (fun k hk => by omega), ?_⟩
    rintro q2 u2 ⟨⟨v2, rfl, hv⟩, P, cb, th, rfl⟩
    exact ⟨by rw [e v2 hv], ((p.se hA g1 t1).same (SameE.mm P cb th)).sim⟩
  refine Con.of rfl (nb rfl) ?_
  by_cases z0 : L_n L = 0
  · refine T_aload_n dX11_soonest_0 rfl ?_
    refine T_get dX11_soonest_1 fl_X11_65_11 p.1.1.1 rfl ?_
    refine T_v0e (cu2 := 0) (su2 := 0) dX11_soonest_4 lv_X11_157 rfl l1 rfl (c_X1_isThere l1 h3) (nb rfl) (nb rfl) (nb rfl) (nb rfl) (nb rfl) ?_
    refine T_if_neB (tgt := 13) dX11_soonest_7 (by decide) (fun c7 => ?_) (fun c7 => ?_)
    · exact absurd c7 (by omega)
    · refine T_bipush (v := (-3)) dX11_soonest_10 (by decide) ?_
      refine T_iret dX11_soonest_12 rfl (nb rfl) (nb rfl) ?_
      exact fin _ s hG hT (fun v2 q => by unfold SoA at q; rw [if_pos z0] at q; exact q)
  · by_cases q : 0 ≤ set ∧ set ≤ nI (allN L)
    · obtain ⟨j, j8, j1, rfl⟩ := set_lt hL q
      have ej : (nI j).toNatClampNeg = j := nI_clamp (by omega)
      refine T_aload_n dX11_soonest_0 rfl ?_
      refine T_get dX11_soonest_1 fl_X11_65_11 p.1.1.1 rfl ?_
      refine T_v0e (cu2 := 0) (su2 := 0) dX11_soonest_4 lv_X11_157 rfl l1 rfl (c_X1_isThere l1 h3) (nb rfl) (nb rfl) (nb rfl) (nb rfl) (nb rfl) ?_
      refine T_if_neB (tgt := 13) dX11_soonest_7 (by decide) (fun c7 => ?_) (fun c7 => ?_)
      · refine T_aload_n dX11_soonest_13 rfl ?_
        refine T_iload_n dX11_soonest_14 rfl ?_
        refine T_v1e (cu2 := 0) (su2 := 0) dX11_soonest_15 lv_X11_211 rfl p.1.1.1 rfl (c_X11_isSet p.1.1.1 l1 h3 _) (nb rfl) (nb rfl) (nb rfl) (nb rfl) (nb rfl) ?_
        refine T_if_eqB (tgt := 36) dX11_soonest_18 (by decide) (fun c18 => ?_) (fun c18 => ?_)
        · exact absurd q c18
        · refine T_aload_n dX11_soonest_21 rfl ?_
          refine T_get dX11_soonest_22 fl_X11_41_11 p.1.1.1 rfl ?_
          refine T_aload_n dX11_soonest_25 rfl ?_
          refine T_get dX11_soonest_26 fl_X11_65_11 p.1.1.1 rfl ?_
          refine T_iload_n dX11_soonest_29 rfl ?_
          refine T_v2q (cu2 := 0) (su2 := 0) dX11_soonest_30 lv_X11_214 rfl (sH_get (k := 0) hA rfl) rfl (c_X4_fewestHours hA hL hT hlk hwn j8) (nb rfl) (nb rfl) (nb rfl) (nb rfl) (nb rfl) (fun r30 h30 q30 => ?_)
          obtain ⟨⟨v, rfl, hv⟩, s2, rfl, t1, t2, t3⟩ := q30
          refine T_goto (tgt := 38) dX11_soonest_33 (by decide) ?_
          refine T_iret dX11_soonest_38 rfl (nb rfl) (nb rfl) ?_
          exact fin v s2 (by unfold GOk; rw [t3]; exact hG) (fun _ => t1) (fun v2 w => by unfold SoA at w; rw [if_neg z0, if_pos q, ej] at w; exact SoR_un w (SoC_R hL hv))
      · exact absurd c7 (by omega)
    · refine T_aload_n dX11_soonest_0 rfl ?_
      refine T_get dX11_soonest_1 fl_X11_65_11 p.1.1.1 rfl ?_
      refine T_v0e (cu2 := 0) (su2 := 0) dX11_soonest_4 lv_X11_157 rfl l1 rfl (c_X1_isThere l1 h3) (nb rfl) (nb rfl) (nb rfl) (nb rfl) (nb rfl) ?_
      refine T_if_neB (tgt := 13) dX11_soonest_7 (by decide) (fun c7 => ?_) (fun c7 => ?_)
      · refine T_aload_n dX11_soonest_13 rfl ?_
        refine T_iload_n dX11_soonest_14 rfl ?_
        refine T_v1e (cu2 := 0) (su2 := 0) dX11_soonest_15 lv_X11_211 rfl p.1.1.1 rfl (c_X11_isSet p.1.1.1 l1 h3 _) (nb rfl) (nb rfl) (nb rfl) (nb rfl) (nb rfl) ?_
        refine T_if_eqB (tgt := 36) dX11_soonest_18 (by decide) (fun c18 => ?_) (fun c18 => ?_)
        · refine T_bipush (v := (-2)) dX11_soonest_36 (by decide) ?_
          refine T_iret dX11_soonest_38 rfl (nb rfl) (nb rfl) ?_
          exact fin _ s hG hT (fun v2 w => by unfold SoA at w; rw [if_neg z0, if_neg q] at w; exact w)
        · exact absurd c18 q
      · exact absurd c7 (by omega)
theorem s_hats (p : SimP h u wy nw wt sp isl bp L wn nr rb rh rc ln sz g) (set n : Int32) : Con M_X11_hats [.ref 0, .int set, .int n] h (SQ h (fun q2 u2 => (∃ v, q2 = some (.int v) ∧ HtA L wn set n v) ∧ mmR u u2)) := by
  obtain ⟨A, s, R, hA, rfl, hG, hT⟩ := p.1.2.2.2.2.2.1
  have hL := p.1.2.1.1
  have h3 := hL.2.2.1
  have h10 := hL.2.1
  have h8 := allN_lt hL
  have l1 := p.1.2.1.2.1.1
  obtain ⟨hlk, hwn⟩ := p.lks hA
  have fin : ∀ (v : Int32) (s2 : SSt), GOk s2 → (s2.1 0 = 0 → TabOk L s2) → (∀ v2, HtA L wn set n v2 → v2 = v) → SQ (sH A s R) (fun q2 u2 => (∃ v, q2 = some (.int v) ∧ HtA L wn set n v) ∧ mmR u u2) (some (.int v)) (sH A s2 R) := by
    intro v s2 g1 t1 e
    refine ⟨(sH_ag hA).mono (fun k hk => by omega), ?_⟩
    rintro q2 u2 ⟨⟨v2, rfl, hv⟩, P, cb, th, rfl⟩
    exact ⟨by rw [e v2 hv], ((p.se hA g1 t1).same (SameE.mm P cb th)).sim⟩
  refine Con.of rfl (nb rfl) ?_
  by_cases z0 : L_n L = 0
  · refine T_aload_n dX11_hats_0 rfl ?_
    refine T_get dX11_hats_1 fl_X11_65_11 p.1.1.1 rfl ?_
    refine T_v0e (cu2 := 0) (su2 := 0) dX11_hats_4 lv_X11_157 rfl l1 rfl (c_X1_isThere l1 h3) (nb rfl) (nb rfl) (nb rfl) (nb rfl) (nb rfl) ?_
    refine T_if_neB (tgt := 13) dX11_hats_7 (by decide) (fun c7 => ?_) (fun c7 => ?_)
    · exact absurd c7 (by omega)
    · refine T_bipush (v := (-3)) dX11_hats_10 (by decide) ?_
      refine T_iret dX11_hats_12 rfl (nb rfl) (nb rfl) ?_
      exact fin _ s hG hT (fun v2 q => by unfold HtA at q; rw [if_pos z0] at q; exact q)
  · by_cases q : 0 ≤ set ∧ set ≤ nI (allN L)
    · by_cases y : 0 ≤ n ∧ n ≤ 10
      · obtain ⟨j, j8, j1, rfl⟩ := set_lt hL q
        obtain ⟨nn, n1, rfl⟩ := setN (a := 10) (by decide) y
        have ej : (nI j).toNatClampNeg = j := nI_clamp (by omega)
        have en : (nI nn).toNatClampNeg = nn := nI_clamp (by omega)
        refine T_aload_n dX11_hats_0 rfl ?_
        refine T_get dX11_hats_1 fl_X11_65_11 p.1.1.1 rfl ?_
        refine T_v0e (cu2 := 0) (su2 := 0) dX11_hats_4 lv_X11_157 rfl l1 rfl (c_X1_isThere l1 h3) (nb rfl) (nb rfl) (nb rfl) (nb rfl) (nb rfl) ?_
        refine T_if_neB (tgt := 13) dX11_hats_7 (by decide) (fun c7 => ?_) (fun c7 => ?_)
        · refine T_aload_n dX11_hats_13 rfl ?_
          refine T_iload_n dX11_hats_14 rfl ?_
          refine T_v1e (cu2 := 0) (su2 := 0) dX11_hats_15 lv_X11_211 rfl p.1.1.1 rfl (c_X11_isSet p.1.1.1 l1 h3 _) (nb rfl) (nb rfl) (nb rfl) (nb rfl) (nb rfl) ?_
          refine T_if_eqB (tgt := 31) dX11_hats_18 (by decide) (fun c18 => ?_) (fun c18 => ?_)
          · exact absurd q c18
          · refine T_iload_n dX11_hats_21 rfl ?_
            refine T_if_ltN (tgt := 31) dX11_hats_22 (by decide) (by omega) (fun c22 => ?_) (fun c22 => ?_)
            · exact c22.elim
            · refine T_iload_n dX11_hats_25 rfl ?_
              refine T_bipush (v := nI 10) dX11_hats_26 (by decide) ?_
              refine T_icmp_leN (tgt := 34) dX11_hats_28 (by decide) (by omega) (by omega) (fun c28 => ?_) (fun c28 => ?_)
              · refine T_aload_n dX11_hats_34 rfl ?_
                refine T_get dX11_hats_35 fl_X11_41_11 p.1.1.1 rfl ?_
                refine T_aload_n dX11_hats_38 rfl ?_
                refine T_get dX11_hats_39 fl_X11_65_11 p.1.1.1 rfl ?_
                refine T_iload_n dX11_hats_42 rfl ?_
                refine T_iload_n dX11_hats_43 rfl ?_
                refine T_aload_n dX11_hats_44 rfl ?_
                refine T_get dX11_hats_45 fl_X11_65_11 p.1.1.1 rfl ?_
                refine T_get dX11_hats_48 fl_X11_208_1 l1 rfl ?_
                refine T_min dX11_hats_51 jl_X11_218 jm_min_1 jm_0 jm_min_2 (nb rfl) (nb rfl) (nb rfl) (nb rfl) ?_
                refine T_top (min_N (by omega) (by omega)) ?_
                refine T_v3q (cu2 := 0) (su2 := 0) dX11_hats_54 lv_X11_224 rfl (sH_get (k := 0) hA rfl) rfl (c_X4_fewestHats hA hL hG hT hlk hwn j8 (by omega)) (nb rfl) (nb rfl) (nb rfl) (nb rfl) (nb rfl) (fun r54 h54 q54 => ?_)
                obtain ⟨⟨v, rfl, hv⟩, s2, rfl, t1, t2, t3⟩ := q54
                refine T_iret dX11_hats_57 rfl (nb rfl) (nb rfl) ?_
                exact fin v s2 (by unfold GOk; rw [t3]; exact hG) (fun _ => t1) (fun v2 w => by unfold HtA at w; rw [if_neg z0, if_pos q, if_pos y, ej, en] at w; exact HtR_un w (HtC_R hL hv))
              · exact absurd c28 (by omega)
        · exact absurd c7 (by omega)
      · refine T_aload_n dX11_hats_0 rfl ?_
        refine T_get dX11_hats_1 fl_X11_65_11 p.1.1.1 rfl ?_
        refine T_v0e (cu2 := 0) (su2 := 0) dX11_hats_4 lv_X11_157 rfl l1 rfl (c_X1_isThere l1 h3) (nb rfl) (nb rfl) (nb rfl) (nb rfl) (nb rfl) ?_
        refine T_if_neB (tgt := 13) dX11_hats_7 (by decide) (fun c7 => ?_) (fun c7 => ?_)
        · refine T_aload_n dX11_hats_13 rfl ?_
          refine T_iload_n dX11_hats_14 rfl ?_
          refine T_v1e (cu2 := 0) (su2 := 0) dX11_hats_15 lv_X11_211 rfl p.1.1.1 rfl (c_X11_isSet p.1.1.1 l1 h3 _) (nb rfl) (nb rfl) (nb rfl) (nb rfl) (nb rfl) ?_
          refine T_if_eqB (tgt := 31) dX11_hats_18 (by decide) (fun c18 => ?_) (fun c18 => ?_)
          · exact absurd q c18
          · refine T_iload_n dX11_hats_21 rfl ?_
            refine T_if_lt (tgt := 31) dX11_hats_22 (by decide) (fun c22 => ?_) (fun c22 => ?_)
            · refine T_bipush (v := (-2)) dX11_hats_31 (by decide) ?_
              refine T_iret dX11_hats_33 rfl (nb rfl) (nb rfl) ?_
              exact fin _ s hG hT (fun v2 w => by unfold HtA at w; rw [if_neg z0, if_pos q, if_neg y] at w; exact w)
            · refine T_iload_n dX11_hats_25 rfl ?_
              refine T_bipush (v := 10) dX11_hats_26 (by decide) ?_
              refine T_icmp_le (tgt := 34) dX11_hats_28 (by decide) (fun c28 => ?_) (fun c28 => ?_)
              · exact absurd ⟨Int32.not_lt.mp c22, c28⟩ y
              · refine T_bipush (v := (-2)) dX11_hats_31 (by decide) ?_
                refine T_iret dX11_hats_33 rfl (nb rfl) (nb rfl) ?_
                exact fin _ s hG hT (fun v2 w => by unfold HtA at w; rw [if_neg z0, if_pos q, if_neg y] at w; exact w)
        · exact absurd c7 (by omega)
    · refine T_aload_n dX11_hats_0 rfl ?_
      refine T_get dX11_hats_1 fl_X11_65_11 p.1.1.1 rfl ?_
      refine T_v0e (cu2 := 0) (su2 := 0) dX11_hats_4 lv_X11_157 rfl l1 rfl (c_X1_isThere l1 h3) (nb rfl) (nb rfl) (nb rfl) (nb rfl) (nb rfl) ?_
      refine T_if_neB (tgt := 13) dX11_hats_7 (by decide) (fun c7 => ?_) (fun c7 => ?_)
      · refine T_aload_n dX11_hats_13 rfl ?_
        refine T_iload_n dX11_hats_14 rfl ?_
        refine T_v1e (cu2 := 0) (su2 := 0) dX11_hats_15 lv_X11_211 rfl p.1.1.1 rfl (c_X11_isSet p.1.1.1 l1 h3 _) (nb rfl) (nb rfl) (nb rfl) (nb rfl) (nb rfl) ?_
        refine T_if_eqB (tgt := 31) dX11_hats_18 (by decide) (fun c18 => ?_) (fun c18 => ?_)
        · refine T_bipush (v := (-2)) dX11_hats_31 (by decide) ?_
          refine T_iret dX11_hats_33 rfl (nb rfl) (nb rfl) ?_
          exact fin _ s hG hT (fun v2 w => by unfold HtA at w; rw [if_neg z0, if_neg q] at w; exact w)
        · exact absurd c18 q
      · exact absurd c7 (by omega)
theorem s_rid (p : SimP h u wy nw wt sp isl bp L wn nr rb rh rc ln sz g) (b : Int32) : Con M_X11_rid [.ref 0, .int b] h (SQ h (fun q2 u2 => (∃ v, q2 = some (.int v) ∧ RdA L wn b v) ∧ mmR u u2)) := by
  obtain ⟨A, s, R, hA, rfl, hG, hT⟩ := p.1.2.2.2.2.2.1
  have hL := p.1.2.1.1
  have h3 := hL.2.2.1
  have h8 := allN_lt hL
  have l1 := p.1.2.1.2.1.1
  obtain ⟨hlk, hwn⟩ := p.lks hA
  have fin : ∀ (v : Int32) (s2 : SSt), GOk s2 → (s2.1 0 = 0 → TabOk L s2) → (∀ v2, RdA L wn b v2 → v2 = v) → SQ (sH A s R) (fun q2 u2 => (∃ v, q2 = some (.int v) ∧ RdA L wn b v) ∧ mmR u u2) (some (.int v)) (sH A s2 R) := by
    intro v s2 g1 t1 e
    refine ⟨(sH_ag hA).mono (fun k hk => by omega), ?_⟩
    rintro q2 u2 ⟨⟨v2, rfl, hv⟩, P, cb, th, rfl⟩
    exact ⟨by rw [e v2 hv], ((p.se hA g1 t1).same (SameE.mm P cb th)).sim⟩
  refine Con.of rfl (nb rfl) ?_
  by_cases q : 0 ≤ b ∧ b < nI (L_n L)
  · obtain ⟨i, hi, rfl⟩ := bt_N h3 q
    have ei : (nI i).toNatClampNeg = i := nI_clamp (by omega)
    have hlt : 2 ^ L_n L - 1 - 2 ^ i < 8 := Nat.lt_of_le_of_lt (Nat.sub_le _ _) h8
    refine T_aload_n dX11_rid_0 rfl ?_
    refine T_iload_n dX11_rid_1 rfl ?_
    refine T_v1e (cu2 := 0) (su2 := 0) dX11_rid_2 lv_X11_135 rfl p.1.1.1 rfl (c_X11_isBoat p.1.1.1 l1 _) (nb rfl) (nb rfl) (nb rfl) (nb rfl) (nb rfl) ?_
    refine T_if_neB (tgt := 10) dX11_rid_5 (by decide) (fun c5 => ?_) (fun c5 => ?_)
    · refine T_aload_n dX11_rid_10 rfl ?_
      refine T_get dX11_rid_11 fl_X11_41_11 p.1.1.1 rfl ?_
      refine T_aload_n dX11_rid_14 rfl ?_
      refine T_get dX11_rid_15 fl_X11_65_11 p.1.1.1 rfl ?_
      refine T_aload_n dX11_rid_18 rfl ?_
      refine T_get dX11_rid_19 fl_X11_65_11 p.1.1.1 rfl ?_
      refine T_v0e (cu2 := 0) (su2 := 0) dX11_rid_22 lv_X11_228 rfl l1 rfl (c_X1_allBoats l1 h3) (nb rfl) (nb rfl) (nb rfl) (nb rfl) (nb rfl) ?_
      refine T_v2q (cu2 := 0) (su2 := 0) dX11_rid_25 lv_X11_214 rfl (sH_get (k := 0) hA rfl) rfl (c_X4_fewestHours hA hL hT hlk hwn (by exact h8)) (nb rfl) (nb rfl) (nb rfl) (nb rfl) (nb rfl) (fun r25 h25 q25 => ?_)
      obtain ⟨⟨v, rfl, hv⟩, s2, rfl, t1, t2, t3⟩ := q25
      have p2 := p.se (s2 := s2) hA (by unfold GOk; rw [t3]; exact hG) (fun _ => t1)
      have hG2 : GOk s2 := by unfold GOk; rw [t3]; exact hG
      refine T_istore_n dX11_rid_28 (by decide) rfl ?_
      refine T_iload_n dX11_rid_29 rfl ?_
      refine T_bipush (v := (-9)) dX11_rid_30 (by decide) ?_
      refine T_icmp_ne (tgt := 38) dX11_rid_32 (by decide) (fun c32 => ?_) (fun c32 => ?_)
      · refine T_iload_n dX11_rid_38 rfl ?_
        refine T_aload_n dX11_rid_39 rfl ?_
        refine T_get dX11_rid_40 fl_X11_41_11 p2.1.1.1 rfl ?_
        refine T_aload_n dX11_rid_43 rfl ?_
        refine T_get dX11_rid_44 fl_X11_65_11 p2.1.1.1 rfl ?_
        refine T_aload_n dX11_rid_47 rfl ?_
        refine T_get dX11_rid_48 fl_X11_65_11 p2.1.1.1 rfl ?_
        refine T_v0e (cu2 := 0) (su2 := 0) dX11_rid_51 lv_X11_228 rfl p2.1.2.1.2.1.1 rfl (c_X1_allBoats p2.1.2.1.2.1.1 h3) (nb rfl) (nb rfl) (nb rfl) (nb rfl) (nb rfl) ?_
        refine T_iconst (v := 1) dX11_rid_54 (by decide) ?_
        refine T_iload_n dX11_rid_55 rfl ?_
        refine T_ishl dX11_rid_56 ?_
        refine T_iconst (v := (-1)) dX11_rid_57 (by decide) ?_
        refine T_ixor dX11_rid_58 ?_
        refine T_iand dX11_rid_59 ?_
        refine T_top (bitx_N _ h3 _ hi) ?_
        refine T_v2q (cu2 := 0) (su2 := 0) dX11_rid_60 lv_X11_214 rfl (sH_get (k := 0) hA rfl) rfl (c_X4_fewestHours hA hL (fun _ => t1) hlk hwn hlt) (nb rfl) (nb rfl) (nb rfl) (nb rfl) (nb rfl) (fun r60 h60 q60 => ?_)
        obtain ⟨⟨y, rfl, hy⟩, s3, rfl, y1, y2, y3⟩ := q60
        refine T_isub dX11_rid_63 ?_
        refine T_iret dX11_rid_64 rfl (nb rfl) (nb rfl) ?_
        refine fin _ s3 (by unfold GOk; rw [y3]; exact hG2) (fun _ => y1) (fun v2 w => ?_)
        unfold RdA at w
        rw [if_pos q, ei] at w
        obtain ⟨x, x1, x2⟩ := w
        have e := SoR_un x1 (SoC_R hL hv)
        rcases x2 with ⟨x3, -⟩ | ⟨-, y4, y5, y6⟩
        · exact absurd (e.symm.trans x3) c32
        · rw [y6, e, SoR_un y5 (SoC_R hL hy)]
      · refine T_bipush (v := (-9)) dX11_rid_35 (by decide) ?_
        refine T_iret dX11_rid_37 rfl (nb rfl) (nb rfl) ?_
        refine fin _ s2 hG2 (fun _ => t1) (fun v2 w => ?_)
        unfold RdA at w
        rw [if_pos q] at w
        obtain ⟨x, x1, x2⟩ := w
        have e := SoR_un x1 (SoC_R hL hv)
        rcases x2 with ⟨-, x3⟩ | ⟨x3, -⟩
        · exact x3
        · exact absurd (e.trans c32) x3
    · exact absurd q c5
  · refine T_aload_n dX11_rid_0 rfl ?_
    refine T_iload_n dX11_rid_1 rfl ?_
    refine T_v1e (cu2 := 0) (su2 := 0) dX11_rid_2 lv_X11_135 rfl p.1.1.1 rfl (c_X11_isBoat p.1.1.1 l1 _) (nb rfl) (nb rfl) (nb rfl) (nb rfl) (nb rfl) ?_
    refine T_if_neB (tgt := 10) dX11_rid_5 (by decide) (fun c5 => ?_) (fun c5 => ?_)
    · exact absurd c5 q
    · refine T_iconst (v := (-1)) dX11_rid_8 (by decide) ?_
      refine T_iret dX11_rid_9 rfl (nb rfl) (nb rfl) ?_
      exact fin _ s hG hT (fun v2 w => by unfold RdA at w; rw [if_neg q] at w; exact w)
end C74
