/-! Voyage: a whole plan -/
section C7
variable {h : XH} {L : LK} {Z : XZ} {wn st : Nat → Nat}
abbrev vH (h : XH) (v vc : Nat) (P : Nat → Int32) (a b c : Int32) : XH := (h.set v (voO vc a b c)).set vc (r3 P)
/-- what a plan leaves in a voyage -/
def VyQ (L : LK) (wn st : Nat → Nat) (nn : Nat) (h : XH) (v vc : Nat) (h' : XH) : Prop := ∃ P a b c, h' = vH h v vc P a b c ∧ PR L P (posN L wn st nn) ∧ a = nI (fsum L wn st nn) ∧ Fst (finP L wn st) nn b ∧ Fst (ovrP L wn st) nn c
theorem vH_v {v vc : Nat} {P P0 : Nat → Int32} {a b c a0 b0 c0 : Int32} (hv : h[v]? = some (voO vc a0 b0 c0)) (hc : h[vc]? = some (r3 P0)) : (vH h v vc P a b c)[v]? = some (voO vc a b c) := gs_tg (gs_tg hv hc rfl) (gs_eq hv) rfl
theorem vH_c {v vc : Nat} {P P0 : Nat → Int32} {a b c a0 b0 c0 : Int32} (hv : h[v]? = some (voO vc a0 b0 c0)) (hc : h[vc]? = some (r3 P0)) : (vH h v vc P a b c)[vc]? = some (r3 P) := gs_eq (gs_tg hv hc rfl)
theorem vH_sc {v vc : Nat} {P P2 : Nat → Int32} {a b c : Int32} : (vH h v vc P a b c).set vc (r3 P2) = vH h v vc P2 a b c := List.set_set ..
theorem vH_sv {v vc : Nat} {P : Nat → Int32} {a b c a2 b2 c2 : Int32} (hne : v ≠ vc) : (vH h v vc P a b c).set v (voO vc a2 b2 c2) = vH h v vc P a2 b2 c2 := by
  unfold vH
  rw [List.set_comm _ _ hne, List.set_set]
  exact (List.set_comm _ _ hne).symm
theorem lp_X10_sailAll {v vc lp isl wo fl od nn : Nat} {bp : Nat → Nat} {P0 O : Nat → Int32} {a0 b0 c0 : Int32} (hL : LOk L) (hl : LkH h lp isl wo fl bp L) (hW : WnH h wo L wn) (hv : h[v]? = some (voO vc a0 b0 c0)) (hc : h[vc]? = some (r3 P0)) (ho : h[od]? = some (.inl (0, 10, .inl O))) (hnn : nn ≤ L_h L) (hst : ∀ k, k < nn → O k = nI (st k) ∧ st k ≤ allN L) :
    ∀ r g, g + r = nn → ∀ (P : Nat → Int32) (a b c : Int32), PR L P (posN L wn st g) → a = nI (fsum L wn st g) → Fst (finP L wn st) g b → Fst (ovrP L wn st) g c →
    T M_X10_sailAll x_E (x_Z M_X10_sailAll (fun q h' => q = none ∧ VyQ L wn st nn h v vc h')) 0 0 25 [(0, .ref v), (1, .ref lp), (2, .ref od), (3, .int (nI nn)), (4, .int (nI g))] [] (vH h v vc P a b c) := by
  have h3 := hL.2.2.1
  have h4 := hL.1
  have h10 := hL.2.1
  have h8 := allN_lt hL
  have hne : v ≠ vc := fun e => by
    rw [← e, hv] at hc
    cases hc
  intro r
  induction r with
  | zero =>
    intro g hg P a b c hP ha hb hc2
    obtain rfl : g = nn := by omega
    refine T_iload dX10_sailAll_25 rfl ?_
    refine T_iload_n dX10_sailAll_27 rfl ?_
    refine T_icmp_geN (tgt := 113) dX10_sailAll_28 (by decide) (by omega) (by omega) (fun c28 => ?_) (fun c28 => ?_)
    · refine T_vret dX10_sailAll_113 rfl (nb rfl) (nb rfl) ?_
      exact ⟨rfl, P, a, b, c, rfl, hP, ha, hb, hc2⟩
    · exact absurd c28 (by omega)
  | succ r ih =>
    intro g hg P a b c hP ha hb hc2
    have hsh := hst g (by omega)
    have hlk : ∀ P a b c, LkH (vH h v vc P a b c) lp isl wo fl bp L := fun P a b c => (hl.set hv rfl).set (gs_tg hv hc rfl) rfl
    have hwn : ∀ P a b c, WnH (vH h v vc P a b c) wo L wn := fun P a b c => (hW.set hv (fun _ => rfl)).set (gs_tg hv hc rfl) (fun _ => rfl)
    have hod : ∀ P a b c, (vH h v vc P a b c)[od]? = some (.inl (0, 10, .inl O)) := fun P a b c => gs_tg (gs_tg hv hc rfl) (gs_tg hv ho rfl) rfl
    obtain ⟨W, w1, w2⟩ := hwn P a b c
    have hwg := w2 g (by omega)
    have hfl := finN_le hL (st g) (wn g) (posN L wn st g)
    have hol := Nat.lt_of_lt_of_le (ovrN_lt L (posN L wn st (g + 1)) (L_n L)) (Nat.pow_le_pow_right (n := 2) (by decide) h3)
    have K : ∀ P2 b2 c2, PR L P2 (posN L wn st (g + 1)) → Fst (finP L wn st) (g + 1) b2 → Fst (ovrP L wn st) (g + 1) c2 → T M_X10_sailAll x_E (x_Z M_X10_sailAll (fun q h' => q = none ∧ VyQ L wn st nn h v vc h')) 0 0 25 [(0, .ref v), (1, .ref lp), (2, .ref od), (3, .int (nI nn)), (4, .int (nI (g + 1)))] [] (vH h v vc P2 (a + nI (finN L (st g) (wn g) (posN L wn st g))) b2 c2) := fun P2 b2 c2 q1 q2 q3 => ih (g + 1) (by omega) P2 _ b2 c2 q1 (by rw [ha, nI_add]; rfl) q2 q3
    refine T_iload dX10_sailAll_25 rfl ?_
    refine T_iload_n dX10_sailAll_27 rfl ?_
    refine T_icmp_geN (tgt := 113) dX10_sailAll_28 (by decide) (by omega) (by omega) (fun c28 => ?_) (fun c28 => ?_)
    · exact absurd c28 (by omega)
    · refine T_aload_n dX10_sailAll_31 rfl ?_
      refine T_aload_n dX10_sailAll_32 rfl ?_
      refine T_aload_n dX10_sailAll_33 rfl ?_
      refine T_iload dX10_sailAll_34 rfl ?_
      refine T_ialdN dX10_sailAll_36 (hod _ _ _ _) (by omega) (by decide) ?_
      refine T_top hsh.1 ?_
      refine T_aload_n dX10_sailAll_37 rfl ?_
      refine T_get dX10_sailAll_38 fl_X10_53_1 (hlk _ _ _ _).1 rfl ?_
      refine T_iload dX10_sailAll_41 rfl ?_
      refine T_ialdN dX10_sailAll_43 w1 (by omega) (by decide) ?_
      refine T_top hwg.1 ?_
      refine T_v3q (cu2 := 0) (su2 := 0) dX10_sailAll_44 lv_X10_56 rfl (vH_v hv hc) rfl (c_X10_sail hL (hlk _ _ _ _) (vH_v hv hc) (vH_c hv hc) (by omega) hwg.2 hP) (nb rfl) (nb rfl) (nb rfl) (nb rfl) (nb rfl) (fun r44 h44 q44 => ?_)
      obtain ⟨rfl, P2, rfl, hP2⟩ := q44
      have hh2 : PR L P2 (posN L wn st (g + 1)) := hP2
      refine T_h vH_sc ?_
      refine T_istore dX10_sailAll_47 (by decide) rfl ?_
      refine T_aload_n dX10_sailAll_49 rfl ?_
      refine T_dup dX10_sailAll_50 rfl ?_
      refine T_get dX10_sailAll_51 fl_X10_15_10 (vH_v hv hc) rfl ?_
      refine T_iload dX10_sailAll_54 rfl ?_
      refine T_iadd dX10_sailAll_56 ?_
      refine T_put dX10_sailAll_57 fp_X10_15_10 (vH_v hv hc) (nb rfl) (fun _ => ⟨rfl, rfl⟩) ?_
      refine T_h (vH_sv hne) ?_
      refine T_iload dX10_sailAll_60 rfl ?_
      refine T_if_leN (tgt := 80) dX10_sailAll_62 (by decide) (by omega) (fun c62 => ?_) (fun c62 => ?_)
      · refine T_aload_n dX10_sailAll_80 rfl ?_
        refine T_get dX10_sailAll_81 fl_X10_22_10 (vH_v hv hc) rfl ?_
        refine T_bipush (v := (-9)) dX10_sailAll_84 (by decide) ?_
        refine T_icmp_ne (tgt := 107) dX10_sailAll_86 (by decide) (fun c86 => ?_) (fun c86 => ?_)
        · refine T_iincN dX10_sailAll_107 rfl (by decide) rfl ?_
          refine T_goto (tgt := 25) dX10_sailAll_110 (by decide) ?_
          refine T_pick [0, 1, 2, 3, 4] (K P2 _ _ hh2 ?_ ?_)
          · first | exact hb.keep (by omega) c71 | exact hb.no (fun q => q c62) | exact hb.yes (by omega) c71 (by unfold finP; omega)
          · first | exact hc2.keep (by omega) c86 | exact hc2.no c98 | exact hc2.yes (by omega) c86 c98
        · refine T_aload_n dX10_sailAll_89 rfl ?_
          refine T_aload_n dX10_sailAll_90 rfl ?_
          refine T_v1e (cu2 := 0) (su2 := 0) dX10_sailAll_91 lv_X10_60 rfl (vH_v hv hc) rfl (c_X10_overSet hL (hlk _ _ _ _) (vH_v hv hc) (vH_c hv hc) hh2) (nb rfl) (nb rfl) (nb rfl) (nb rfl) (nb rfl) ?_
          refine T_aload_n dX10_sailAll_94 rfl ?_
          refine T_v0e (cu2 := 0) (su2 := 0) dX10_sailAll_95 lv_X10_64 rfl (hlk _ _ _ _).1 rfl (c_X1_allBoats (hlk _ _ _ _).1 h3) (nb rfl) (nb rfl) (nb rfl) (nb rfl) (nb rfl) ?_
          refine T_top (y := nI (allN L)) rfl ?_
          refine T_icmp_neN (tgt := 107) dX10_sailAll_98 (by decide) (by omega) (by omega) (fun c98 => ?_) (fun c98 => ?_)
          · refine T_iincN dX10_sailAll_107 rfl (by decide) rfl ?_
            refine T_goto (tgt := 25) dX10_sailAll_110 (by decide) ?_
            refine T_pick [0, 1, 2, 3, 4] (K P2 _ _ hh2 ?_ ?_)
            · first | exact hb.keep (by omega) c71 | exact hb.no (fun q => q c62) | exact hb.yes (by omega) c71 (by unfold finP; omega)
            · first | exact hc2.keep (by omega) c86 | exact hc2.no c98 | exact hc2.yes (by omega) c86 c98
          · refine T_aload_n dX10_sailAll_101 rfl ?_
            refine T_iload dX10_sailAll_102 rfl ?_
            refine T_put dX10_sailAll_104 fp_X10_22_10 (vH_v hv hc) (nb rfl) (fun _ => ⟨rfl, rfl⟩) ?_
            refine T_h (vH_sv hne) ?_
            refine T_iincN dX10_sailAll_107 rfl (by decide) rfl ?_
            refine T_goto (tgt := 25) dX10_sailAll_110 (by decide) ?_
            refine T_pick [0, 1, 2, 3, 4] (K P2 _ _ hh2 ?_ ?_)
            · first | exact hb.keep (by omega) c71 | exact hb.no (fun q => q c62) | exact hb.yes (by omega) c71 (by unfold finP; omega)
            · first | exact hc2.keep (by omega) c86 | exact hc2.no c98 | exact hc2.yes (by omega) c86 c98
      · refine T_aload_n dX10_sailAll_65 rfl ?_
        refine T_get dX10_sailAll_66 fl_X10_19_10 (vH_v hv hc) rfl ?_
        refine T_bipush (v := (-9)) dX10_sailAll_69 (by decide) ?_
        refine T_icmp_ne (tgt := 80) dX10_sailAll_71 (by decide) (fun c71 => ?_) (fun c71 => ?_)
        · refine T_aload_n dX10_sailAll_80 rfl ?_
          refine T_get dX10_sailAll_81 fl_X10_22_10 (vH_v hv hc) rfl ?_
          refine T_bipush (v := (-9)) dX10_sailAll_84 (by decide) ?_
          refine T_icmp_ne (tgt := 107) dX10_sailAll_86 (by decide) (fun c86 => ?_) (fun c86 => ?_)
          · refine T_iincN dX10_sailAll_107 rfl (by decide) rfl ?_
            refine T_goto (tgt := 25) dX10_sailAll_110 (by decide) ?_
            refine T_pick [0, 1, 2, 3, 4] (K P2 _ _ hh2 ?_ ?_)
            · first | exact hb.keep (by omega) c71 | exact hb.no (fun q => q c62) | exact hb.yes (by omega) c71 (by unfold finP; omega)
            · first | exact hc2.keep (by omega) c86 | exact hc2.no c98 | exact hc2.yes (by omega) c86 c98
          · refine T_aload_n dX10_sailAll_89 rfl ?_
            refine T_aload_n dX10_sailAll_90 rfl ?_
            refine T_v1e (cu2 := 0) (su2 := 0) dX10_sailAll_91 lv_X10_60 rfl (vH_v hv hc) rfl (c_X10_overSet hL (hlk _ _ _ _) (vH_v hv hc) (vH_c hv hc) hh2) (nb rfl) (nb rfl) (nb rfl) (nb rfl) (nb rfl) ?_
            refine T_aload_n dX10_sailAll_94 rfl ?_
            refine T_v0e (cu2 := 0) (su2 := 0) dX10_sailAll_95 lv_X10_64 rfl (hlk _ _ _ _).1 rfl (c_X1_allBoats (hlk _ _ _ _).1 h3) (nb rfl) (nb rfl) (nb rfl) (nb rfl) (nb rfl) ?_
            refine T_top (y := nI (allN L)) rfl ?_
            refine T_icmp_neN (tgt := 107) dX10_sailAll_98 (by decide) (by omega) (by omega) (fun c98 => ?_) (fun c98 => ?_)
            · refine T_iincN dX10_sailAll_107 rfl (by decide) rfl ?_
              refine T_goto (tgt := 25) dX10_sailAll_110 (by decide) ?_
              refine T_pick [0, 1, 2, 3, 4] (K P2 _ _ hh2 ?_ ?_)
              · first | exact hb.keep (by omega) c71 | exact hb.no (fun q => q c62) | exact hb.yes (by omega) c71 (by unfold finP; omega)
              · first | exact hc2.keep (by omega) c86 | exact hc2.no c98 | exact hc2.yes (by omega) c86 c98
            · refine T_aload_n dX10_sailAll_101 rfl ?_
              refine T_iload dX10_sailAll_102 rfl ?_
              refine T_put dX10_sailAll_104 fp_X10_22_10 (vH_v hv hc) (nb rfl) (fun _ => ⟨rfl, rfl⟩) ?_
              refine T_h (vH_sv hne) ?_
              refine T_iincN dX10_sailAll_107 rfl (by decide) rfl ?_
              refine T_goto (tgt := 25) dX10_sailAll_110 (by decide) ?_
              refine T_pick [0, 1, 2, 3, 4] (K P2 _ _ hh2 ?_ ?_)
              · first | exact hb.keep (by omega) c71 | exact hb.no (fun q => q c62) | exact hb.yes (by omega) c71 (by unfold finP; omega)
              · first | exact hc2.keep (by omega) c86 | exact hc2.no c98 | exact hc2.yes (by omega) c86 c98
        · refine T_aload_n dX10_sailAll_74 rfl ?_
          refine T_iload dX10_sailAll_75 rfl ?_
          refine T_put dX10_sailAll_77 fp_X10_19_10 (vH_v hv hc) (nb rfl) (fun _ => ⟨rfl, rfl⟩) ?_
          refine T_h (vH_sv hne) ?_
          refine T_aload_n dX10_sailAll_80 rfl ?_
          refine T_get dX10_sailAll_81 fl_X10_22_10 (vH_v hv hc) rfl ?_
          refine T_bipush (v := (-9)) dX10_sailAll_84 (by decide) ?_
          refine T_icmp_ne (tgt := 107) dX10_sailAll_86 (by decide) (fun c86 => ?_) (fun c86 => ?_)
          · refine T_iincN dX10_sailAll_107 rfl (by decide) rfl ?_
            refine T_goto (tgt := 25) dX10_sailAll_110 (by decide) ?_
            refine T_pick [0, 1, 2, 3, 4] (K P2 _ _ hh2 ?_ ?_)
            · first | exact hb.keep (by omega) c71 | exact hb.no (fun q => q c62) | exact hb.yes (by omega) c71 (by unfold finP; omega)
            · first | exact hc2.keep (by omega) c86 | exact hc2.no c98 | exact hc2.yes (by omega) c86 c98
          · refine T_aload_n dX10_sailAll_89 rfl ?_
            refine T_aload_n dX10_sailAll_90 rfl ?_
            refine T_v1e (cu2 := 0) (su2 := 0) dX10_sailAll_91 lv_X10_60 rfl (vH_v hv hc) rfl (c_X10_overSet hL (hlk _ _ _ _) (vH_v hv hc) (vH_c hv hc) hh2) (nb rfl) (nb rfl) (nb rfl) (nb rfl) (nb rfl) ?_
            refine T_aload_n dX10_sailAll_94 rfl ?_
            refine T_v0e (cu2 := 0) (su2 := 0) dX10_sailAll_95 lv_X10_64 rfl (hlk _ _ _ _).1 rfl (c_X1_allBoats (hlk _ _ _ _).1 h3) (nb rfl) (nb rfl) (nb rfl) (nb rfl) (nb rfl) ?_
            refine T_top (y := nI (allN L)) rfl ?_
            refine T_icmp_neN (tgt := 107) dX10_sailAll_98 (by decide) (by omega) (by omega) (fun c98 => ?_) (fun c98 => ?_)
            · refine T_iincN dX10_sailAll_107 rfl (by decide) rfl ?_
              refine T_goto (tgt := 25) dX10_sailAll_110 (by decide) ?_
              refine T_pick [0, 1, 2, 3, 4] (K P2 _ _ hh2 ?_ ?_)
              · first | exact hb.keep (by omega) c71 | exact hb.no (fun q => q c62) | exact hb.yes (by omega) c71 (by unfold finP; omega)
              · first | exact hc2.keep (by omega) c86 | exact hc2.no c98 | exact hc2.yes (by omega) c86 c98
            · refine T_aload_n dX10_sailAll_101 rfl ?_
              refine T_iload dX10_sailAll_102 rfl ?_
              refine T_put dX10_sailAll_104 fp_X10_22_10 (vH_v hv hc) (nb rfl) (fun _ => ⟨rfl, rfl⟩) ?_
              refine T_h (vH_sv hne) ?_
              refine T_iincN dX10_sailAll_107 rfl (by decide) rfl ?_
              refine T_goto (tgt := 25) dX10_sailAll_110 (by decide) ?_
              refine T_pick [0, 1, 2, 3, 4] (K P2 _ _ hh2 ?_ ?_)
              · first | exact hb.keep (by omega) c71 | exact hb.no (fun q => q c62) | exact hb.yes (by omega) c71 (by unfold finP; omega)
              · first | exact hc2.keep (by omega) c86 | exact hc2.no c98 | exact hc2.yes (by omega) c86 c98
theorem c_X10_sailAll {v vc lp isl wo fl od nn : Nat} {bp : Nat → Nat} {P0 O : Nat → Int32} {a0 b0 c0 : Int32} (hL : LOk L) (hl : LkH h lp isl wo fl bp L) (hW : WnH h wo L wn) (hv : h[v]? = some (voO vc a0 b0 c0)) (hc : h[vc]? = some (r3 P0)) (ho : h[od]? = some (.inl (0, 10, .inl O))) (hnn : nn ≤ L_h L) (hst : ∀ k, k < nn → O k = nI (st k) ∧ st k ≤ allN L) :
    Con M_X10_sailAll [.ref v, .ref lp, .ref od, .int (nI nn)] h (fun q h' => q = none ∧ VyQ L wn st nn h v vc h') := by
  have hne : v ≠ vc := fun e => by
    rw [← e, hv] at hc
    cases hc
  have e0 : h = vH h v vc P0 a0 b0 c0 := by
    unfold vH
    rw [← gs_id hv]
    exact gs_id hc
  have hlk : ∀ P a b c, LkH (vH h v vc P a b c) lp isl wo fl bp L := fun P a b c => (hl.set hv rfl).set (gs_tg hv hc rfl) rfl
  refine Con.of rfl (nb rfl) ?_
  refine T_h e0 ?_
  refine T_aload_n dX10_sailAll_0 rfl ?_
  refine T_iconst (v := 0) dX10_sailAll_1 (by decide) ?_
  refine T_put dX10_sailAll_2 fp_X10_15_10 (vH_v hv hc) (nb rfl) (fun _ => ⟨rfl, rfl⟩) ?_
  refine T_h (vH_sv hne) ?_
  refine T_aload_n dX10_sailAll_5 rfl ?_
  refine T_bipush (v := (-9)) dX10_sailAll_6 (by decide) ?_
  refine T_put dX10_sailAll_8 fp_X10_19_10 (vH_v hv hc) (nb rfl) (fun _ => ⟨rfl, rfl⟩) ?_
  refine T_h (vH_sv hne) ?_
  refine T_aload_n dX10_sailAll_11 rfl ?_
  refine T_bipush (v := (-9)) dX10_sailAll_12 (by decide) ?_
  refine T_put dX10_sailAll_14 fp_X10_22_10 (vH_v hv hc) (nb rfl) (fun _ => ⟨rfl, rfl⟩) ?_
  refine T_h (vH_sv hne) ?_
  refine T_aload_n dX10_sailAll_17 rfl ?_
  refine T_aload_n dX10_sailAll_18 rfl ?_
  refine T_v1q (cu2 := 0) (su2 := 0) dX10_sailAll_19 lv_X10_49 rfl (vH_v hv hc) rfl (c_X10_begin hL (hlk _ _ _ _) (vH_v hv hc) (vH_c hv hc)) (nb rfl) (nb rfl) (nb rfl) (nb rfl) (nb rfl) (fun r19 h19 q19 => ?_)
  obtain ⟨rfl, P, rfl, hP⟩ := q19
  refine T_h vH_sc ?_
  refine T_iconst (v := nI 0) dX10_sailAll_22 (by decide) ?_
  refine T_istore dX10_sailAll_23 (by decide) rfl ?_
  exact lp_X10_sailAll hL hl hW hv hc ho hnn hst nn 0 (by omega) P 0 (-9) (-9) hP rfl (Or.inr ⟨fun g hg => absurd hg (by omega), rfl⟩) (Or.inr ⟨fun g hg => absurd hg (by omega), rfl⟩)
end C7
