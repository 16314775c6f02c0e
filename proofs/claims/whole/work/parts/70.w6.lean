/-! calls beside each other: reading, back; sheets -/
section C70
variable {h h1 : XH} {u u2 : MSt} {L L2 : LK} {wn wn2 : Nat → Nat} {wy nw wt sp isl nr nr2 : Nat} {bp rb rh rc rb2 rh2 rc2 : Nat → Nat} {ln sz ln2 sz2 : Nat → Int32} {g g2 : Nat → Nat → Int32}
/-- other readings -/
theorem SimP.rds (p : SimP h u wy nw wt sp isl bp L wn nr rb rh rc ln sz g) (hg : Ag (fun k => 4 ≤ k ∧ k ≤ 7) h h1) (hr : RdH h1 nr2 rb2 rh2 rc2) (hR : RdR u2 L nr2 rb2 rh2 rc2) (e1 : ∀ j, j ≠ 28 → u2.1 j = u.1 j) (e2 : ∀ j, ¬ (29 ≤ j ∧ j ≤ 31) → u2.2 j = u.2 j) : SimP h1 u2 wy nw wt sp isl bp L wn nr2 rb2 rh2 rc2 ln sz g := by
  obtain ⟨⟨p1, p2, p3, p4, p5, p6, p7, p8, p9, p10, p11⟩, q1, q2, q3, q4⟩ := p
  have hw := p1.2.1
  refine ⟨⟨?_, p2.ag hg (by omega) (fun k hk => by omega), p3.ag hg (by omega) (fun k hk => by omega), hr, p5.ag hg (fun k k1 k2 => by omega), p6.ag hg (fun k k1 k2 => by omega), ?_, p8.ag hg (by omega), p9.ag hg (fun k k1 k2 => by omega), p10.ag hg (by omega), p11.ag hg (fun k hk => by omega)⟩, ?_, ?_, hR, ?_⟩
  · rw [e1 0 (by decide)]; exact p1.ag hg (by omega)
  · rw [e1 1 (by decide)]; exact p7.ag hg (by omega)
  · unfold MR
    rw [e1 5 (by decide), e1 6 (by decide), e1 7 (by decide), e2 11 (by decide), e2 10 (by decide), e2 12 (by decide), e2 8 (by decide)]
    exact q1
  · unfold MW
    rw [e2 9 (by decide)]
    exact q2
  · unfold ShU
    rw [e2 2 (by decide), e2 3 (by decide), e2 4 (by decide)]
    exact q4
theorem s_reading (hs : Sim h u) (b hour c : Int32) : Con M_X11_reading [.ref 0, .int b, .int hour, .int c] h (SQ h (RfE (.int (m_reading u b hour c).1) (m_reading u b hour c).2)) := by
  obtain ⟨wy, nw, wt, sp, isl, bp, L, wn, nr, rb, rh, rc, ln, sz, g, p⟩ := id hs
  have hM := p.2.1
  have hL := p.1.2.1.1
  have h3 := hL.2.2.1
  have h4 := hL.1
  have l1 := p.1.2.1.2.1.1
  obtain ⟨d1, fb, fg, fc, d2, d3, d4, d5⟩ := p.1.2.2.2.1
  have hR := p.2.2.2.1
  have e10 : hour < 10 ↔ hour ≤ 9 := i32_s rfl
  refine Con.of rfl (nb rfl) ?_
  by_cases q : 0 ≤ b ∧ b < nI (L_n L)
  · have q' : 0 ≤ b ∧ b < u.1 7 := by rw [hM.2.2.1]; exact q
    by_cases y : (0 ≤ hour ∧ hour ≤ 9) ∧ 0 ≤ c ∧ c ≤ nI (L_w L)
    · have y' : 0 ≤ c ∧ c ≤ u.1 5 := by rw [hM.1]; exact y.2
      by_cases z : nr = 8
      · have er : m_reading u b hour c = (-4, u) := by
          unfold m_reading
          rw [if_pos q', if_pos y.1, if_pos y', if_pos (by rw [hR.1, z]; rfl)]
        rw [z] at d1
        rw [er]
        refine T_aload_n dX11_reading_0 rfl ?_
        refine T_iload_n dX11_reading_1 rfl ?_
        refine T_v1e (cu2 := 0) (su2 := 0) dX11_reading_2 lv_X11_135 rfl p.1.1.1 rfl (c_X11_isBoat p.1.1.1 l1 _) (nb rfl) (nb rfl) (nb rfl) (nb rfl) (nb rfl) ?_
        refine T_if_neB (tgt := 10) dX11_reading_5 (by decide) (fun c5 => ?_) (fun c5 => ?_)
        · refine T_iload_n dX11_reading_10 rfl ?_
          refine T_if_lt (tgt := 35) dX11_reading_11 (by decide) (fun c11 => ?_) (fun c11 => ?_)
          · exact absurd c11 (Int32.not_lt.mpr y.1.1)
          · refine T_iload_n dX11_reading_14 rfl ?_
            refine T_bipush (v := 10) dX11_reading_15 (by decide) ?_
            refine T_icmp_ge (tgt := 35) dX11_reading_17 (by decide) (fun c17 => ?_) (fun c17 => ?_)
            · exact absurd (e10.mpr y.1.2) (Int32.not_lt.mpr c17)
            · refine T_iload_n dX11_reading_20 rfl ?_
              refine T_if_lt (tgt := 35) dX11_reading_21 (by decide) (fun c21 => ?_) (fun c21 => ?_)
              · exact absurd c21 (Int32.not_lt.mpr y.2.1)
              · refine T_iload_n dX11_reading_24 rfl ?_
                refine T_aload_n dX11_reading_25 rfl ?_
                refine T_get dX11_reading_26 fl_X11_65_11 p.1.1.1 rfl ?_
                refine T_get dX11_reading_29 fl_X11_167_1 l1 rfl ?_
                refine T_icmp_le (tgt := 38) dX11_reading_32 (by decide) (fun c32 => ?_) (fun c32 => ?_)
                · refine T_aload_n dX11_reading_38 rfl ?_
                  refine T_get dX11_reading_39 fl_X11_27_11 p.1.1.1 rfl ?_
                  refine T_iload_n dX11_reading_42 rfl ?_
                  refine T_iload_n dX11_reading_43 rfl ?_
                  refine T_iload_n dX11_reading_44 rfl ?_
                  refine T_v3e (cu2 := 0) (su2 := 0) dX11_reading_45 lv_X11_231 rfl d1 rfl (c_X3_add_full d1 _ _ _) (nb rfl) (nb rfl) (nb rfl) (nb rfl) (nb rfl) ?_
                  refine T_iret dX11_reading_48 rfl (nb rfl) (nb rfl) ?_
                  exact sq_id Ag.rf rfl hs
                · exact absurd y.2.2 c32
        · exact absurd q c5
      · obtain ⟨i, hi, rfl⟩ := bt_N h3 q
        obtain ⟨hh, hh1, rfl⟩ := setN (a := 9) (by decide) y.1
        obtain ⟨cc, cc1, rfl⟩ := setN (by omega) y.2
        have hnr := hR.2.1
        have ec : (u.1 28).toNatClampNeg = nr := by rw [hR.1]; exact nI_clamp (by omega)
        have er : m_reading u (nI i) (nI hh) (nI cc) = (nI nr, (va_up u.1 28 (nI (nr + 1)), va_up (va_up (va_up u.2 29 (upd (u.2 29) nr (nI i))) 30 (upd (u.2 30) nr (nI hh))) 31 (upd (u.2 31) nr (nI cc)))) := by
          unfold m_reading
          rw [if_pos q', if_pos y.1, if_pos y', if_neg (by rw [hR.1]; exact fun e => z ((nI_e (b := 8) (by omega) (by omega)).mp e)), ec, hR.1, nI_1, nI_pred]
        have hsim : Sim ((((h.set 5 (r8 (upd fb nr (nI i)))).set 6 (r8 (upd fg nr (nI hh)))).set 7 (r8 (upd fc nr (nI cc)))).set 4 (rdO (nr + 1))) (va_up u.1 28 (nI (nr + 1)), va_up (va_up (va_up u.2 29 (upd (u.2 29) nr (nI i))) 30 (upd (u.2 30) nr (nI hh))) 31 (upd (u.2 31) nr (nI cc))) := by
          have b5 : ((((h.set 5 (r8 (upd fb nr (nI i)))).set 6 (r8 (upd fg nr (nI hh)))).set 7 (r8 (upd fc nr (nI cc)))).set 4 (rdO (nr + 1)))[5]? = some (r8 (upd fb nr (nI i))) := (gs_ne (by decide)).trans ((gs_ne (by decide)).trans ((gs_ne (by decide)).trans (gs_eq d2)))
          have b6 : ((((h.set 5 (r8 (upd fb nr (nI i)))).set 6 (r8 (upd fg nr (nI hh)))).set 7 (r8 (upd fc nr (nI cc)))).set 4 (rdO (nr + 1)))[6]? = some (r8 (upd fg nr (nI hh))) := (gs_ne (by decide)).trans ((gs_ne (by decide)).trans (gs_eq ((gs_ne (by decide)).trans d3)))
          have b7 : ((((h.set 5 (r8 (upd fb nr (nI i)))).set 6 (r8 (upd fg nr (nI hh)))).set 7 (r8 (upd fc nr (nI cc)))).set 4 (rdO (nr + 1)))[7]? = some (r8 (upd fc nr (nI cc))) := (gs_ne (by decide)).trans (gs_eq ((gs_ne (by decide)).trans ((gs_ne (by decide)).trans d4)))
          have b4 : ((((h.set 5 (r8 (upd fb nr (nI i)))).set 6 (r8 (upd fg nr (nI hh)))).set 7 (r8 (upd fc nr (nI cc)))).set 4 (rdO (nr + 1)))[4]? = some (rdO (nr + 1)) := gs_eq ((gs_ne (by decide)).trans ((gs_ne (by decide)).trans ((gs_ne (by decide)).trans d1)))
          refine (p.rds (nr2 := nr + 1) (rb2 := uw rb nr i) (rh2 := uw rh nr hh) (rc2 := uw rc nr cc) ((((Ag.rf.set (by decide)).set (by decide)).set (by decide)).set (by decide)) ⟨b4, _, _, _, b5, b6, b7, fun r hr => ?_⟩ ⟨rfl, by omega, fun r hr => ?_⟩ (fun j hj => va_up_ne _ _ hj) (fun j hj => ?_)).sim
          · unfold uw
            by_cases zz : r = nr
            · subst zz; rw [upd_s, upd_s, upd_s, if_pos rfl, if_pos rfl, if_pos rfl]; exact ⟨rfl, rfl, rfl⟩
            · rw [upd_n zz, upd_n zz, upd_n zz, if_neg zz, if_neg zz, if_neg zz]; exact d5 r (by omega)
          · show upd (u.2 29) nr (nI i) r = _ ∧ _ ∧ upd (u.2 30) nr (nI hh) r = _ ∧ _ ∧ upd (u.2 31) nr (nI cc) r = _ ∧ _
            unfold uw
            by_cases zz : r = nr
            · subst zz; rw [upd_s, upd_s, upd_s, if_pos rfl, if_pos rfl, if_pos rfl]; exact ⟨rfl, hi, rfl, by omega, rfl, cc1⟩
            · rw [upd_n zz, upd_n zz, upd_n zz, if_neg zz, if_neg zz, if_neg zz]; exact hR.2.2 r (by omega)
          · show va_up (va_up (va_up u.2 29 _) 30 _) 31 _ j = u.2 j
            rw [va_up_ne _ _ (by omega), va_up_ne _ _ (by omega), va_up_ne _ _ (by omega)]
        rw [er]
        refine T_aload_n dX11_reading_0 rfl ?_
        refine T_iload_n dX11_reading_1 rfl ?_
        refine T_v1e (cu2 := 0) (su2 := 0) dX11_reading_2 lv_X11_135 rfl p.1.1.1 rfl (c_X11_isBoat p.1.1.1 l1 _) (nb rfl) (nb rfl) (nb rfl) (nb rfl) (nb rfl) ?_
        refine T_if_neB (tgt := 10) dX11_reading_5 (by decide) (fun c5 => ?_) (fun c5 => ?_)
        · refine T_iload_n dX11_reading_10 rfl ?_
          refine T_if_ltN (tgt := 35) dX11_reading_11 (by decide) (by omega) (fun c11 => ?_) (fun c11 => ?_)
          · exact c11.elim
          · refine T_iload_n dX11_reading_14 rfl ?_
            refine T_bipush (v := nI 10) dX11_reading_15 (by decide) ?_
            refine T_icmp_geN (tgt := 35) dX11_reading_17 (by decide) (by omega) (by omega) (fun c17 => ?_) (fun c17 => ?_)
            · exact absurd c17 (by omega)
            · refine T_iload_n dX11_reading_20 rfl ?_
              refine T_if_ltN (tgt := 35) dX11_reading_21 (by decide) (by omega) (fun c21 => ?_) (fun c21 => ?_)
              · exact c21.elim
              · refine T_iload_n dX11_reading_24 rfl ?_
                refine T_aload_n dX11_reading_25 rfl ?_
                refine T_get dX11_reading_26 fl_X11_65_11 p.1.1.1 rfl ?_
                refine T_get dX11_reading_29 fl_X11_167_1 l1 rfl ?_
                refine T_icmp_leN (tgt := 38) dX11_reading_32 (by decide) (by omega) (by omega) (fun c32 => ?_) (fun c32 => ?_)
                · refine T_aload_n dX11_reading_38 rfl ?_
                  refine T_get dX11_reading_39 fl_X11_27_11 p.1.1.1 rfl ?_
                  refine T_iload_n dX11_reading_42 rfl ?_
                  refine T_iload_n dX11_reading_43 rfl ?_
                  refine T_iload_n dX11_reading_44 rfl ?_
                  refine T_v3e (cu2 := 0) (su2 := 0) dX11_reading_45 lv_X11_231 rfl d1 rfl (c_X3_add (by omega) d1 d2 d3 d4 _ _ _) (nb rfl) (nb rfl) (nb rfl) (nb rfl) (nb rfl) ?_
                  refine T_iret dX11_reading_48 rfl (nb rfl) (nb rfl) ?_
                  exact sq_id ((((Ag.rf.set (by decide)).set (by decide)).set (by decide)).set (by decide)) rfl hsim
                · exact absurd c32 (by omega)
        · exact absurd q c5
    · have er : m_reading u b hour c = (-2, u) := by
        unfold m_reading
        rw [if_pos q']
        by_cases y1 : 0 ≤ hour ∧ hour ≤ 9
        · rw [if_pos y1, if_neg (by rw [hM.1]; exact fun z => y ⟨y1, z⟩)]
        · rw [if_neg y1]
      rw [er]
      refine T_aload_n dX11_reading_0 rfl ?_
      refine T_iload_n dX11_reading_1 rfl ?_
      refine T_v1e (cu2 := 0) (su2 := 0) dX11_reading_2 lv_X11_135 rfl p.1.1.1 rfl (c_X11_isBoat p.1.1.1 l1 _) (nb rfl) (nb rfl) (nb rfl) (nb rfl) (nb rfl) ?_
      refine T_if_neB (tgt := 10) dX11_reading_5 (by decide) (fun c5 => ?_) (fun c5 => ?_)
      · refine T_iload_n dX11_reading_10 rfl ?_
        refine T_if_lt (tgt := 35) dX11_reading_11 (by decide) (fun c11 => ?_) (fun c11 => ?_)
        · refine T_bipush (v := (-2)) dX11_reading_35 (by decide) ?_
          refine T_iret dX11_reading_37 rfl (nb rfl) (nb rfl) ?_
          exact sq_id Ag.rf rfl hs
        · refine T_iload_n dX11_reading_14 rfl ?_
          refine T_bipush (v := 10) dX11_reading_15 (by decide) ?_
          refine T_icmp_ge (tgt := 35) dX11_reading_17 (by decide) (fun c17 => ?_) (fun c17 => ?_)
          · refine T_bipush (v := (-2)) dX11_reading_35 (by decide) ?_
            refine T_iret dX11_reading_37 rfl (nb rfl) (nb rfl) ?_
            exact sq_id Ag.rf rfl hs
          · refine T_iload_n dX11_reading_20 rfl ?_
            refine T_if_lt (tgt := 35) dX11_reading_21 (by decide) (fun c21 => ?_) (fun c21 => ?_)
            · refine T_bipush (v := (-2)) dX11_reading_35 (by decide) ?_
              refine T_iret dX11_reading_37 rfl (nb rfl) (nb rfl) ?_
              exact sq_id Ag.rf rfl hs
            · refine T_iload_n dX11_reading_24 rfl ?_
              refine T_aload_n dX11_reading_25 rfl ?_
              refine T_get dX11_reading_26 fl_X11_65_11 p.1.1.1 rfl ?_
              refine T_get dX11_reading_29 fl_X11_167_1 l1 rfl ?_
              refine T_icmp_le (tgt := 38) dX11_reading_32 (by decide) (fun c32 => ?_) (fun c32 => ?_)
              · exact absurd ⟨⟨Int32.not_lt.mp c11, e10.mp (Int32.not_le.mp c17)⟩, Int32.not_lt.mp c21, c32⟩ y
              · refine T_bipush (v := (-2)) dX11_reading_35 (by decide) ?_
                refine T_iret dX11_reading_37 rfl (nb rfl) (nb rfl) ?_
                exact sq_id Ag.rf rfl hs
      · exact absurd q c5
  · have q' : ¬ (0 ≤ b ∧ b < u.1 7) := by rw [hM.2.2.1]; exact q
    have er : m_reading u b hour c = (-1, u) := by unfold m_reading; rw [if_neg q']
    rw [er]
    refine T_aload_n dX11_reading_0 rfl ?_
    refine T_iload_n dX11_reading_1 rfl ?_
    refine T_v1e (cu2 := 0) (su2 := 0) dX11_reading_2 lv_X11_135 rfl p.1.1.1 rfl (c_X11_isBoat p.1.1.1 l1 _) (nb rfl) (nb rfl) (nb rfl) (nb rfl) (nb rfl) ?_
    refine T_if_neB (tgt := 10) dX11_reading_5 (by decide) (fun c5 => ?_) (fun c5 => ?_)
    · exact absurd c5 q
    · refine T_iconst (v := (-1)) dX11_reading_8 (by decide) ?_
      refine T_iret dX11_reading_9 rfl (nb rfl) (nb rfl) ?_
      exact sq_id Ag.rf rfl hs
theorem s_back (hs : Sim h u) (k : Int32) : Con M_X11_back [.ref 0, .int k] h (SQ h (RfE (.int (m_back u k).1) (m_back u k).2)) := by
  obtain ⟨wy, nw, wt, sp, isl, bp, L, wn, nr, rb, rh, rc, ln, sz, g, p⟩ := id hs
  obtain ⟨d1, fb, fg, fc, d2, d3, d4, d5⟩ := id p.1.2.2.2.1
  have hR := p.2.2.2.1
  have hnr := hR.2.1
  refine Con.of rfl (nb rfl) ?_
  by_cases q : 0 ≤ k ∧ k ≤ nI nr
  · obtain ⟨kk, k1, rfl⟩ := setN (by omega) q
    have er : m_back u (nI kk) = (nI (nr - kk), (va_up u.1 28 (nI (nr - kk)), u.2)) := by unfold m_back; rw [hR.1, if_pos q, pk_sub k1]
    rw [er]
    have hsim : Sim (h.set 4 (rdO (nr - kk))) (va_up u.1 28 (nI (nr - kk)), u.2) := by
      have hg : Ag (fun k => 4 ≤ k ∧ k ≤ 7) h (h.set 4 (rdO (nr - kk))) := Ag.rf.set (by decide)
      exact (p.rds (u2 := (va_up u.1 28 (nI (nr - kk)), u.2)) (nr2 := nr - kk) (rb2 := rb) (rh2 := rh) (rc2 := rc) hg ⟨gs_eq d1, fb, fg, fc, (gs_ne (by decide)).trans d2, (gs_ne (by decide)).trans d3, (gs_ne (by decide)).trans d4, fun r hr => d5 r (by omega)⟩ ⟨rfl, by omega, fun r hr => hR.2.2 r (by omega)⟩ (fun j hj => va_up_ne _ _ hj) (fun j _ => rfl)).sim
    refine T_iload_n dX11_back_0 rfl ?_
    refine T_if_ltN (tgt := 15) dX11_back_1 (by decide) (by omega) (fun c1 => ?_) (fun c1 => ?_)
    · exact c1.elim
    · refine T_iload_n dX11_back_4 rfl ?_
      refine T_aload_n dX11_back_5 rfl ?_
      refine T_get dX11_back_6 fl_X11_27_11 p.1.1.1 rfl ?_
      refine T_get dX11_back_9 fl_X11_128_3 d1 rfl ?_
      refine T_icmp_leN (tgt := 18) dX11_back_12 (by decide) (by omega) (by omega) (fun c12 => ?_) (fun c12 => ?_)
      · refine T_aload_n dX11_back_18 rfl ?_
        refine T_get dX11_back_19 fl_X11_27_11 p.1.1.1 rfl ?_
        refine T_dup dX11_back_22 rfl ?_
        refine T_get dX11_back_23 fl_X11_128_3 d1 rfl ?_
        refine T_iload_n dX11_back_26 rfl ?_
        refine T_isubN dX11_back_27 (by omega) ?_
        refine T_put dX11_back_28 fp_X11_128_3 d1 (nb rfl) (fun _ => ⟨rfl, rfl⟩) ?_
        refine T_aload_n dX11_back_31 rfl ?_
        refine T_get dX11_back_32 fl_X11_27_11 (gs_tg d1 p.1.1.1 rfl) rfl ?_
        refine T_get dX11_back_35 fl_X11_128_3 (gs_eq d1) rfl ?_
        refine T_iret dX11_back_38 rfl (nb rfl) (nb rfl) ?_
        exact sq_id (Ag.rf.set (by decide)) rfl hsim
      · exact absurd c12 (by omega)
  · have er : m_back u k = (-2, u) := by unfold m_back; rw [hR.1, if_neg q]
    rw [er]
    refine T_iload_n dX11_back_0 rfl ?_
    refine T_if_lt (tgt := 15) dX11_back_1 (by decide) (fun c1 => ?_) (fun c1 => ?_)
    · refine T_bipush (v := (-2)) dX11_back_15 (by decide) ?_
      refine T_iret dX11_back_17 rfl (nb rfl) (nb rfl) ?_
      exact sq_id Ag.rf rfl hs
    · refine T_iload_n dX11_back_4 rfl ?_
      refine T_aload_n dX11_back_5 rfl ?_
      refine T_get dX11_back_6 fl_X11_27_11 p.1.1.1 rfl ?_
      refine T_get dX11_back_9 fl_X11_128_3 d1 rfl ?_
      refine T_icmp_le (tgt := 18) dX11_back_12 (by decide) (fun c12 => ?_) (fun c12 => ?_)
      · exact absurd ⟨Int32.not_lt.mp c1, c12⟩ q
      · refine T_bipush (v := (-2)) dX11_back_15 (by decide) ?_
        refine T_iret dX11_back_17 rfl (nb rfl) (nb rfl) ?_
        exact sq_id Ag.rf rfl hs
/-! sheets -/
theorem SimP.shs (p : SimP h u wy nw wt sp isl bp L wn nr rb rh rc ln sz g) (hg : Ag (fun k => 59 ≤ k ∧ k ≤ 66) h h1) (hS : ShH h1 ln2 sz2 g2) (hU : ShU u2 ln2 sz2 g2) (e1 : u2.1 = u.1) (e2 : ∀ j, ¬ (2 ≤ j ∧ j ≤ 4) → u2.2 j = u.2 j) : SimP h1 u2 wy nw wt sp isl bp L wn nr rb rh rc ln2 sz2 g2 := by
  obtain ⟨⟨p1, p2, p3, p4, p5, p6, p7, p8, p9, p10, p11⟩, q1, q2, q3, q4⟩ := p
  have hw := p1.2.1
  refine ⟨⟨?_, p2.ag hg (by omega) (fun k hk => by omega), p3.ag hg (by omega) (fun k hk => by omega), p4.ag hg (fun k k1 k2 => by omega), p5.ag hg (fun k k1 k2 => by omega), p6.ag hg (fun k k1 k2 => by omega), ?_, p8.ag hg (by omega), p9.ag hg (fun k k1 k2 => by omega), p10.ag hg (by omega), hS⟩, ?_, ?_, ?_, hU⟩
  · rw [e1]; exact p1.ag hg (by omega)
  · rw [e1]; exact p7.ag hg (by omega)
  · unfold MR
    rw [e1, e2 11 (by decide), e2 10 (by decide), e2 12 (by decide), e2 8 (by decide)]
    exact q1
  · unfold MW
    rw [e2 9 (by decide)]
    exact q2
  · unfold RdR
    rw [e1, e2 29 (by decide), e2 30 (by decide), e2 31 (by decide)]
    exact q3
theorem ShH.s1 (p : ShH h ln sz g) {kk : Nat} (hk : kk < 4) (a b : Int32) : ShH (h.set (59 + 2 * kk) (shO a b (60 + 2 * kk))) (upd ln kk a) (upd sz kk b) g := by
  obtain ⟨sf, p1, p2⟩ := p
  refine ⟨sf, (gs_ne (by omega)).trans p1, fun k hk2 => ⟨(p2 k hk2).1, ?_, (gs_ne (by omega)).trans (p2 k hk2).2.2⟩⟩
  by_cases z : k = kk
  · subst z
    rw [upd_s, upd_s]
    exact gs_eq (p2 k hk2).2.1
  · rw [upd_n z, upd_n z]
    exact (gs_ne (by omega)).trans (p2 k hk2).2.1
theorem ShH.s2 (p : ShH h ln sz g) {kk : Nat} (hk : kk < 4) (f : Nat → Int32) : ShH (h.set (60 + 2 * kk) (r60 f)) ln sz (va_up g kk f) := by
  obtain ⟨sf, p1, p2⟩ := p
  refine ⟨sf, (gs_ne (by omega)).trans p1, fun k hk2 => ⟨(p2 k hk2).1, (gs_ne (by omega)).trans (p2 k hk2).2.1, ?_⟩⟩
  by_cases z : k = kk
  · subst z
    rw [va_up_self]
    exact gs_eq (p2 k hk2).2.2
  · rw [va_up_ne _ _ z]
    exact (gs_ne (by omega)).trans (p2 k hk2).2.2
theorem ln_no {s l : Int32} (h : (s = -9 ∧ l = -1) ∨ ∃ k, k ≤ 2 ∧ s = nI k ∧ l = nI k) : s = -9 ↔ l = -1 := by
  rcases h with ⟨a, b⟩ | ⟨k, k1, a, b⟩
  · exact ⟨fun _ => b, fun _ => a⟩
  · rw [a, b]
    rcases (show k = 0 ∨ k = 1 ∨ k = 2 by omega) with rfl | rfl | rfl <;> decide
theorem s_lose (hs : Sim h u) (k : Int32) : Con M_X11_lose [.ref 0, .int k] h (SQ h (RfE (.int (m_lose u k).1) (m_lose u k).2)) := by
  obtain ⟨wy, nw, wt, sp, isl, bp, L, wn, nr, rb, rh, rc, ln, sz, g, p⟩ := id hs
  have hS := p.1.2.2.2.2.2.2.2.2.2.2
  obtain ⟨sf, s1, s2⟩ := id hS
  have hU := p.2.2.2.2
  refine Con.of rfl (nb rfl) ?_
  by_cases q : 0 ≤ k ∧ k ≤ 3
  · obtain ⟨kk, hk, rfl⟩ := shN q
    obtain ⟨s3, s4, s5⟩ := s2 kk hk
    obtain ⟨u1, u2, u3⟩ := hU kk hk
    have e9 := ln_no u1
    have ec : (nI kk).toNatClampNeg = kk := nI_clamp (by omega)
    by_cases z : ln kk = -1
    · have er : m_lose u (nI kk) = (0, (u.1, va_up u.2 2 (upd (u.2 2) kk (-9)))) := by unfold m_lose; rw [if_pos q, ec, if_pos (e9.mpr z)]
      have e2 : va_up u.2 2 (upd (u.2 2) kk (-9)) = u.2 := by
        have : upd (u.2 2) kk (-9) = u.2 2 := by
          funext j
          by_cases y : j = kk
          · subst y; rw [upd_s]; exact (e9.mpr z).symm
          · rw [upd_n y]
        rw [this, ← va_upS]
      rw [er, e2]
      refine T_iload_n dX11_lose_0 rfl ?_
      refine T_s1e (cu2 := 0) (su2 := 0) dX11_lose_1 ls_X11_77 rfl (c_X11_isSheet _) (nb rfl) (nb rfl) (nb rfl) (nb rfl) (nb rfl) ?_
      refine T_if_neB (tgt := 9) dX11_lose_4 (by decide) (fun c4 => ?_) (fun c4 => ?_)
      · refine T_aload_n dX11_lose_9 rfl ?_
        refine T_get dX11_lose_10 fl_X11_13_11 p.1.1.1 rfl ?_
        refine T_iload_n dX11_lose_13 rfl ?_
        refine T_aald3 dX11_lose_14 s1 (nI_in (by omega) (by decide)) (by rw [ec]; exact s3) ?_
        refine T_v0e (cu2 := 0) (su2 := 0) dX11_lose_15 lv_X11_286 rfl s4 rfl (c_X5_hasRow s4) (nb rfl) (nb rfl) (nb rfl) (nb rfl) (nb rfl) ?_
        refine T_if_neB (tgt := 23) dX11_lose_18 (by decide) (fun c18 => ?_) (fun c18 => ?_)
        · exact absurd z c18
        · refine T_iconst (v := 0) dX11_lose_21 (by decide) ?_
          refine T_iret dX11_lose_22 rfl (nb rfl) (nb rfl) ?_
          exact sq_id Ag.rf rfl hs
      · exact absurd q c4
    · have er : m_lose u (nI kk) = (1, (u.1, va_up u.2 2 (upd (u.2 2) kk (-9)))) := by unfold m_lose; rw [if_pos q, ec, if_neg (fun y => z (e9.mp y))]
      have hsim : Sim (h.set (59 + 2 * kk) (shO (-1) (sz kk) (60 + 2 * kk))) (u.1, va_up u.2 2 (upd (u.2 2) kk (-9))) := by
        refine (p.shs (u2 := (u.1, va_up u.2 2 (upd (u.2 2) kk (-9)))) (Ag.rf.set (by omega)) (hS.s1 hk (-1) (sz kk)) (fun j hj => ?_) rfl (fun j hj => va_up_ne _ _ (by omega))).sim
        obtain ⟨v1, v2, v3⟩ := hU j hj
        show ((upd (u.2 2) kk (-9) j = -9 ∧ _) ∨ ∃ s, s ≤ 2 ∧ upd (u.2 2) kk (-9) j = nI s ∧ _) ∧ _
        by_cases y : j = kk
        · subst y
          rw [upd_s, upd_s, upd_s]
          exact ⟨Or.inl ⟨rfl, rfl⟩, v2, v3⟩
        · rw [upd_n y, upd_n y, upd_n y]
          exact ⟨v1, v2, v3⟩
      rw [er]
      refine T_iload_n dX11_lose_0 rfl ?_
      refine T_s1e (cu2 := 0) (su2 := 0) dX11_lose_1 ls_X11_77 rfl (c_X11_isSheet _) (nb rfl) (nb rfl) (nb rfl) (nb rfl) (nb rfl) ?_
      refine T_if_neB (tgt := 9) dX11_lose_4 (by decide) (fun c4 => ?_) (fun c4 => ?_)
      · refine T_aload_n dX11_lose_9 rfl ?_
        refine T_get dX11_lose_10 fl_X11_13_11 p.1.1.1 rfl ?_
        refine T_iload_n dX11_lose_13 rfl ?_
        refine T_aald3 dX11_lose_14 s1 (nI_in (by omega) (by decide)) (by rw [ec]; exact s3) ?_
        refine T_v0e (cu2 := 0) (su2 := 0) dX11_lose_15 lv_X11_286 rfl s4 rfl (c_X5_hasRow s4) (nb rfl) (nb rfl) (nb rfl) (nb rfl) (nb rfl) ?_
        refine T_if_neB (tgt := 23) dX11_lose_18 (by decide) (fun c18 => ?_) (fun c18 => ?_)
        · refine T_aload_n dX11_lose_23 rfl ?_
          refine T_get dX11_lose_24 fl_X11_13_11 p.1.1.1 rfl ?_
          refine T_iload_n dX11_lose_27 rfl ?_
          refine T_aald3 dX11_lose_28 s1 (nI_in (by omega) (by decide)) (by rw [ec]; exact s3) ?_
          refine T_iconst (v := (-1)) dX11_lose_29 (by decide) ?_
          refine T_put dX11_lose_30 fp_X11_289_5 s4 (nb rfl) (fun _ => ⟨rfl, rfl⟩) ?_
          refine T_iconst (v := 1) dX11_lose_33 (by decide) ?_
          refine T_iret dX11_lose_34 rfl (nb rfl) (nb rfl) ?_
          exact sq_id (Ag.rf.set (by omega)) rfl hsim
        · exact absurd z c18
      · exact absurd q c4
  · have er : m_lose u k = (-1, u) := by unfold m_lose; rw [if_neg q]
    rw [er]
    refine T_iload_n dX11_lose_0 rfl ?_
    refine T_s1e (cu2 := 0) (su2 := 0) dX11_lose_1 ls_X11_77 rfl (c_X11_isSheet _) (nb rfl) (nb rfl) (nb rfl) (nb rfl) (nb rfl) ?_
    refine T_if_neB (tgt := 9) dX11_lose_4 (by decide) (fun c4 => ?_) (fun c4 => ?_)
    · exact absurd c4 q
    · refine T_iconst (v := (-1)) dX11_lose_7 (by decide) ?_
      refine T_iret dX11_lose_8 rfl (nb rfl) (nb rfl) ?_
      exact sq_id Ag.rf rfl hs
end C70
