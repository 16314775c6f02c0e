/-! sheets beside each other: sheet, put, cell -/
section C72
variable {h h1 : XH} {u : MSt} {L : LK} {wn : Nat → Nat} {wy nw wt sp isl nr : Nat} {bp rb rh rc : Nat → Nat} {ln sz : Nat → Int32} {g : Nat → Nat → Int32}
theorem mZero_eq (f : Nat → Int32) (b : Nat) : ∀ m x, mZero f b m x = if b ≤ x ∧ x < b + m then 0 else f x
  | 0, x => by rw [mZero, if_neg (by omega)]
  | m + 1, x => by
    rw [mZero]
    by_cases e : x = b + m
    · subst e
      rw [upd_s, if_pos (by omega)]
    · rw [upd_n e, mZero_eq f b m x]
      by_cases c : b ≤ x ∧ x < b + m
      · rw [if_pos c, if_pos (by omega)]
      · rw [if_neg c, if_neg (by omega)]
theorem le_60 {n : Int32} : ¬ (60 < n) ↔ n ≤ 60 := Int32.not_lt
theorem s_sheet (hs : Sim h u) (k sort n : Int32) : Con M_X11_sheet [.ref 0, .int k, .int sort, .int n] h (SQ h (RfE (.int (m_sheet u k sort n).1) (m_sheet u k sort n).2)) := by
  obtain ⟨wy, nw, wt, sp, isl, bp, L, wn, nr, rb, rh, rc, ln, sz, g, p0⟩ := id hs
  have p := p0.flt 0
  have hS := p.1.2.2.2.2.2.2.2.2.2.2
  obtain ⟨sf, s1, s2⟩ := id hS
  have hU := p.2.2.2.2
  have ag0 : ∀ x, Ag (fun k => k < 67) h (h.set 0 (cwO wy nw wt sp x)) := fun x => Ag.rf.set (by decide)
  refine Con.of rfl (nb rfl) ?_
  by_cases q : 0 ≤ k ∧ k ≤ 3
  · by_cases y : (0 ≤ sort ∧ sort ≤ 2) ∧ n ≤ 60
    · by_cases z : 0 ≤ n
      · obtain ⟨kk, hk, rfl⟩ := shN q
        obtain ⟨ss, ss1, rfl⟩ := setN (a := 2) (by decide) y.1
        obtain ⟨nn, nn1, rfl⟩ := setN (a := 60) (by decide) ⟨z, y.2⟩
        obtain ⟨s3, s4, s5⟩ := s2 kk hk
        have ec : (nI kk).toNatClampNeg = kk := nI_clamp (by omega)
        have er : m_sheet u (nI kk) (nI ss) (nI nn) = (1, (va_up u.1 0 0, va_up (va_up (va_up u.2 2 (upd (u.2 2) kk (nI ss))) 3 (upd (u.2 3) kk (nI nn))) 4 (mZero (u.2 4) (60 * kk) 60))) := by
          unfold m_sheet
          rw [if_pos q, if_pos y, if_pos z, ec]
        have hsim : Sim (((h.set 0 (cwO wy nw wt sp 0)).set (59 + 2 * kk) (shO (nI ss) (nI nn) (60 + 2 * kk))).set (60 + 2 * kk) (r60 (fil (g kk) 0 60))) (va_up u.1 0 0, va_up (va_up (va_up u.2 2 (upd (u.2 2) kk (nI ss))) 3 (upd (u.2 3) kk (nI nn))) 4 (mZero (u.2 4) (60 * kk) 60)) := by
          refine (p.shs (u2 := (va_up u.1 0 0, va_up (va_up (va_up u.2 2 (upd (u.2 2) kk (nI ss))) 3 (upd (u.2 3) kk (nI nn))) 4 (mZero (u.2 4) (60 * kk) 60))) ((Ag.rf.set (by omega)).set (by omega)) ((hS.s1 hk (nI ss) (nI nn)).s2 hk (fil (g kk) 0 60)) (fun j hj => ?_) rfl (fun j hj => ?_)).sim
          · obtain ⟨v1, v2, v3⟩ := hU j hj
            show ((upd (u.2 2) kk (nI ss) j = -9 ∧ _) ∨ ∃ s, s ≤ 2 ∧ upd (u.2 2) kk (nI ss) j = nI s ∧ _) ∧ (∃ ll, ll ≤ 60 ∧ upd (u.2 3) kk (nI nn) j = nI ll ∧ _) ∧ ∀ i, i < 60 → mZero (u.2 4) (60 * kk) 60 (60 * j + i) = _
            by_cases w : j = kk
            · subst w
              rw [upd_s, upd_s, upd_s, upd_s, va_up_self]
              refine ⟨Or.inr ⟨ss, ss1, rfl, rfl⟩, ⟨nn, nn1, rfl, rfl⟩, fun i hi => ?_⟩
              rw [mZero_eq, if_pos (by omega), fil_in hi]
            · rw [upd_n w, upd_n w, upd_n w, upd_n w, va_up_ne _ _ w]
              refine ⟨v1, v2, fun i hi => ?_⟩
              rw [mZero_eq, if_neg (by omega)]
              exact v3 i hi
          · show va_up (va_up (va_up u.2 2 _) 3 _) 4 _ j = u.2 j
            rw [va_up_ne _ _ (by omega), va_up_ne _ _ (by omega), va_up_ne _ _ (by omega)]
        rw [er]
        refine T_aload_n dX11_sheet_0 rfl ?_
        refine T_iconst (v := 0) dX11_sheet_1 (by decide) ?_
        refine T_put dX11_sheet_2 fp_X11_72_11 p0.1.1.1 (nb rfl) (fun _ => ⟨rfl, rfl⟩) ?_
        refine T_iload_n dX11_sheet_5 rfl ?_
        refine T_s1e (cu2 := 0) (su2 := 0) dX11_sheet_6 ls_X11_77 rfl (c_X11_isSheet _) (nb rfl) (nb rfl) (nb rfl) (nb rfl) (nb rfl) ?_
        refine T_if_neB (tgt := 14) dX11_sheet_9 (by decide) (fun c9 => ?_) (fun c9 => ?_)
        · refine T_iload_n dX11_sheet_14 rfl ?_
          refine T_s1e (cu2 := 0) (su2 := 0) dX11_sheet_15 ls_X11_81 rfl (c_X11_isLane _) (nb rfl) (nb rfl) (nb rfl) (nb rfl) (nb rfl) ?_
          refine T_if_eqB (tgt := 27) dX11_sheet_18 (by decide) (fun c18 => ?_) (fun c18 => ?_)
          · exact absurd y.1 c18
          · refine T_iload_n dX11_sheet_21 rfl ?_
            refine T_bipush (v := nI 60) dX11_sheet_22 (by decide) ?_
            refine T_icmp_leN (tgt := 30) dX11_sheet_24 (by decide) (by omega) (by omega) (fun c24 => ?_) (fun c24 => ?_)
            · refine T_iload_n dX11_sheet_30 rfl ?_
              refine T_if_geN (tgt := 40) dX11_sheet_31 (by decide) (by omega) (fun c31 => ?_) (fun c31 => ?_)
              · refine T_aload_n dX11_sheet_40 rfl ?_
                refine T_get dX11_sheet_41 fl_X11_13_11 p.1.1.1 rfl ?_
                refine T_iload_n dX11_sheet_44 rfl ?_
                refine T_aald3 dX11_sheet_45 s1 (nI_in (by omega) (by decide)) (by rw [ec]; exact s3) ?_
                refine T_iload_n dX11_sheet_46 rfl ?_
                refine T_iload_n dX11_sheet_47 rfl ?_
                refine T_v2e (cu2 := 0) (su2 := 0) dX11_sheet_48 lv_X11_283 rfl s4 rfl (c_X5_renew s4 s5 _ _) (nb rfl) (nb rfl) (nb rfl) (nb rfl) (nb rfl) ?_
                refine T_iconst (v := 1) dX11_sheet_51 (by decide) ?_
                refine T_iret dX11_sheet_52 rfl (nb rfl) (nb rfl) ?_
                exact sq_id (((ag0 0).set (by omega)).set (by omega)) rfl hsim
              · exact c31.elim
            · exact absurd c24 (by omega)
        · exact absurd q c9
      · have er : m_sheet u k sort n = (-10 - 4, m0 u 4) := by unfold m_sheet; rw [if_pos q, if_pos y, if_neg z]
        rw [er]
        refine T_aload_n dX11_sheet_0 rfl ?_
        refine T_iconst (v := 0) dX11_sheet_1 (by decide) ?_
        refine T_put dX11_sheet_2 fp_X11_72_11 p0.1.1.1 (nb rfl) (fun _ => ⟨rfl, rfl⟩) ?_
        refine T_iload_n dX11_sheet_5 rfl ?_
        refine T_s1e (cu2 := 0) (su2 := 0) dX11_sheet_6 ls_X11_77 rfl (c_X11_isSheet _) (nb rfl) (nb rfl) (nb rfl) (nb rfl) (nb rfl) ?_
        refine T_if_neB (tgt := 14) dX11_sheet_9 (by decide) (fun c9 => ?_) (fun c9 => ?_)
        · refine T_iload_n dX11_sheet_14 rfl ?_
          refine T_s1e (cu2 := 0) (su2 := 0) dX11_sheet_15 ls_X11_81 rfl (c_X11_isLane _) (nb rfl) (nb rfl) (nb rfl) (nb rfl) (nb rfl) ?_
          refine T_if_eqB (tgt := 27) dX11_sheet_18 (by decide) (fun c18 => ?_) (fun c18 => ?_)
          · exact absurd y.1 c18
          · refine T_iload_n dX11_sheet_21 rfl ?_
            refine T_bipush (v := 60) dX11_sheet_22 (by decide) ?_
            refine T_icmp_le (tgt := 30) dX11_sheet_24 (by decide) (fun c24 => ?_) (fun c24 => ?_)
            · refine T_iload_n dX11_sheet_30 rfl ?_
              refine T_if_ge (tgt := 40) dX11_sheet_31 (by decide) (fun c31 => ?_) (fun c31 => ?_)
              · exact absurd c31 z
              · refine T_aload_n dX11_sheet_34 rfl ?_
                refine T_iconst (v := 4) dX11_sheet_35 (by decide) ?_
                refine T_v1e (cu2 := 0) (su2 := 0) dX11_sheet_36 lv_X11_88 rfl p.1.1.1 rfl (c_X11_faulted p.1.1.1 _) (nb rfl) (nb rfl) (nb rfl) (nb rfl) (nb rfl) ?_
                refine T_h (List.set_set ..) ?_
                refine T_iret dX11_sheet_39 rfl (nb rfl) (nb rfl) ?_
                exact sq_id (ag0 4) rfl (p0.flt 4).sim
            · exact absurd y.2 c24
        · exact absurd q c9
    · have er : m_sheet u k sort n = (-2, m0 u 0) := by unfold m_sheet; rw [if_pos q, if_neg y]
      rw [er]
      refine T_aload_n dX11_sheet_0 rfl ?_
      refine T_iconst (v := 0) dX11_sheet_1 (by decide) ?_
      refine T_put dX11_sheet_2 fp_X11_72_11 p0.1.1.1 (nb rfl) (fun _ => ⟨rfl, rfl⟩) ?_
      refine T_iload_n dX11_sheet_5 rfl ?_
      refine T_s1e (cu2 := 0) (su2 := 0) dX11_sheet_6 ls_X11_77 rfl (c_X11_isSheet _) (nb rfl) (nb rfl) (nb rfl) (nb rfl) (nb rfl) ?_
      refine T_if_neB (tgt := 14) dX11_sheet_9 (by decide) (fun c9 => ?_) (fun c9 => ?_)
      · refine T_iload_n dX11_sheet_14 rfl ?_
        refine T_s1e (cu2 := 0) (su2 := 0) dX11_sheet_15 ls_X11_81 rfl (c_X11_isLane _) (nb rfl) (nb rfl) (nb rfl) (nb rfl) (nb rfl) ?_
        refine T_if_eqB (tgt := 27) dX11_sheet_18 (by decide) (fun c18 => ?_) (fun c18 => ?_)
        · refine T_bipush (v := (-2)) dX11_sheet_27 (by decide) ?_
          refine T_iret dX11_sheet_29 rfl (nb rfl) (nb rfl) ?_
          exact sq_id (ag0 0) rfl p.sim
        · refine T_iload_n dX11_sheet_21 rfl ?_
          refine T_bipush (v := 60) dX11_sheet_22 (by decide) ?_
          refine T_icmp_le (tgt := 30) dX11_sheet_24 (by decide) (fun c24 => ?_) (fun c24 => ?_)
          · exact absurd ⟨c18, c24⟩ y
          · refine T_bipush (v := (-2)) dX11_sheet_27 (by decide) ?_
            refine T_iret dX11_sheet_29 rfl (nb rfl) (nb rfl) ?_
            exact sq_id (ag0 0) rfl p.sim
      · exact absurd q c9
  · have er : m_sheet u k sort n = (-1, m0 u 0) := by unfold m_sheet; rw [if_neg q]
    rw [er]
    refine T_aload_n dX11_sheet_0 rfl ?_
    refine T_iconst (v := 0) dX11_sheet_1 (by decide) ?_
    refine T_put dX11_sheet_2 fp_X11_72_11 p0.1.1.1 (nb rfl) (fun _ => ⟨rfl, rfl⟩) ?_
    refine T_iload_n dX11_sheet_5 rfl ?_
    refine T_s1e (cu2 := 0) (su2 := 0) dX11_sheet_6 ls_X11_77 rfl (c_X11_isSheet _) (nb rfl) (nb rfl) (nb rfl) (nb rfl) (nb rfl) ?_
    refine T_if_neB (tgt := 14) dX11_sheet_9 (by decide) (fun c9 => ?_) (fun c9 => ?_)
    · exact absurd c9 q
    · refine T_iconst (v := (-1)) dX11_sheet_12 (by decide) ?_
      refine T_iret dX11_sheet_13 rfl (nb rfl) (nb rfl) ?_
      exact sq_id (ag0 0) rfl p.sim
theorem ho_1 {ll : Nat} (hl : ll ≤ 60) {i : Int32} : shH (nI ll) i 1 ↔ (0 ≤ i ∧ i ≤ nI ll - 1) := by
  have e1 : (nI ll - 1).toInt = (ll : Int) - 1 := pk_sub_toInt (b := 1) (by omega) (by decide)
  constructor
  · rintro ⟨-, a, b, c⟩
    obtain ⟨j, j1, rfl⟩ := nI_of (Int32.not_lt.mpr a)
    rw [nI_leI j1 (by omega)] at b
    rw [pk_sub b, show (1 : Int32) = nI 1 from rfl, nI_leI (by omega) (by omega)] at c
    refine ⟨a, ?_⟩
    rw [Int32.le_iff_toInt_le, e1, nI_toInt j1]
    omega
  · rintro ⟨a, b⟩
    obtain ⟨j, j1, rfl⟩ := nI_of (Int32.not_lt.mpr a)
    rw [Int32.le_iff_toInt_le, e1, nI_toInt j1] at b
    refine ⟨by decide, a, (nI_leI j1 (by omega)).mpr (by omega), ?_⟩
    rw [pk_sub (by omega), show (1 : Int32) = nI 1 from rfl, nI_leI (by omega) (by omega)]
    omega
theorem ix_N {ll : Nat} (hl : ll ≤ 60) {i : Int32} (h : 0 ≤ i ∧ i ≤ nI ll - 1) : ∃ ii, ii < ll ∧ i = nI ii := by
  have e1 : (nI ll - 1).toInt = (ll : Int) - 1 := pk_sub_toInt (b := 1) (by omega) (by decide)
  obtain ⟨j, j1, rfl⟩ := nI_of (Int32.not_lt.mpr h.1)
  have := h.2
  rw [Int32.le_iff_toInt_le, e1, nI_toInt j1] at this
  exact ⟨j, by omega, rfl⟩
theorem s_put (hs : Sim h u) (k i v : Int32) : Con M_X11_put [.ref 0, .int k, .int i, .int v] h (SQ h (RfE (.int (m_put u k i v).1) (m_put u k i v).2)) := by
  obtain ⟨wy, nw, wt, sp, isl, bp, L, wn, nr, rb, rh, rc, ln, sz, g, p0⟩ := id hs
  have p := p0.flt 0
  have hS := p.1.2.2.2.2.2.2.2.2.2.2
  obtain ⟨sf, s1, s2⟩ := id hS
  have hU := p.2.2.2.2
  have ag0 : ∀ x, Ag (fun k => k < 67) h (h.set 0 (cwO wy nw wt sp x)) := fun x => Ag.rf.set (by decide)
  refine Con.of rfl (nb rfl) ?_
  by_cases q : 0 ≤ k ∧ k ≤ 3
  · obtain ⟨kk, hk, rfl⟩ := shN q
    obtain ⟨s3, s4, s5⟩ := s2 kk hk
    obtain ⟨u1, ⟨ll, l1, l2, l3⟩, u3⟩ := hU kk hk
    have l2 : u.2 3 kk = nI ll := l2
    have e9 : u.2 2 kk = -9 ↔ ln kk = -1 := ln_no u1
    have ec : (nI kk).toNatClampNeg = kk := nI_clamp (by omega)
    rw [l3] at s4
    by_cases z : ln kk = -1
    · have er : m_put u (nI kk) i v = (-10 - 1, m0 u 1) := by unfold m_put; rw [if_pos q, ec, if_pos (e9.mpr z)]
      rw [er]
      refine T_aload_n dX11_put_0 rfl ?_
      refine T_iconst (v := 0) dX11_put_1 (by decide) ?_
      refine T_put dX11_put_2 fp_X11_72_11 p0.1.1.1 (nb rfl) (fun _ => ⟨rfl, rfl⟩) ?_
      refine T_iload_n dX11_put_5 rfl ?_
      refine T_s1e (cu2 := 0) (su2 := 0) dX11_put_6 ls_X11_77 rfl (c_X11_isSheet _) (nb rfl) (nb rfl) (nb rfl) (nb rfl) (nb rfl) ?_
      refine T_if_neB (tgt := 14) dX11_put_9 (by decide) (fun c9 => ?_) (fun c9 => ?_)
      · refine T_aload_n dX11_put_14 rfl ?_
        refine T_get dX11_put_15 fl_X11_13_11 p.1.1.1 rfl ?_
        refine T_iload_n dX11_put_18 rfl ?_
        refine T_aald3 dX11_put_19 s1 (nI_in (by omega) (by decide)) (by rw [ec]; exact s3) ?_
        refine T_astore dX11_put_20 (by decide) rfl ?_
        refine T_aload dX11_put_22 rfl ?_
        refine T_v0e (cu2 := 0) (su2 := 0) dX11_put_24 lv_X11_286 rfl s4 rfl (c_X5_hasRow s4) (nb rfl) (nb rfl) (nb rfl) (nb rfl) (nb rfl) ?_
        refine T_if_neB (tgt := 36) dX11_put_27 (by decide) (fun c27 => ?_) (fun c27 => ?_)
        · exact absurd z c27
        · refine T_aload_n dX11_put_30 rfl ?_
          refine T_iconst (v := 1) dX11_put_31 (by decide) ?_
          refine T_v1e (cu2 := 0) (su2 := 0) dX11_put_32 lv_X11_88 rfl p.1.1.1 rfl (c_X11_faulted p.1.1.1 _) (nb rfl) (nb rfl) (nb rfl) (nb rfl) (nb rfl) ?_
          refine T_h (List.set_set ..) ?_
          refine T_iret dX11_put_35 rfl (nb rfl) (nb rfl) ?_
          exact sq_id (ag0 1) rfl (p0.flt 1).sim
      · exact absurd q c9
    · by_cases y : 0 ≤ i ∧ i ≤ nI ll - 1
      · obtain ⟨ii, i1, rfl⟩ := ix_N l1 y
        have e60 : ((60 : Int32) * nI kk + nI ii).toNatClampNeg = 60 * kk + ii := by rw [show (60 : Int32) * nI kk = nI (60 * kk) from pk_mul 60 kk, nI_add]; exact nI_clamp (by omega)
        have ecut : mCut (u.2 2 kk) v = shC (ln kk) v := by
          rcases u1 with ⟨a, b⟩ | ⟨s, a, b, c⟩
          · exact absurd b z
          · have b : u.2 2 kk = nI s := b
            rw [b, c]
            rfl
        have er : m_put u (nI kk) (nI ii) v = (1, (va_up u.1 0 0, va_up u.2 4 (upd (u.2 4) (60 * kk + ii) (shC (ln kk) v)))) := by
          unfold m_put
          rw [if_pos q, ec, if_neg (fun w => z (e9.mp w)), l2, if_pos y, e60, ecut]
        have hsim : Sim ((h.set 0 (cwO wy nw wt sp 0)).set (60 + 2 * kk) (r60 (upd (g kk) ii (shC (ln kk) v)))) (va_up u.1 0 0, va_up u.2 4 (upd (u.2 4) (60 * kk + ii) (shC (ln kk) v))) := by
          refine (p.shs (u2 := (va_up u.1 0 0, va_up u.2 4 (upd (u.2 4) (60 * kk + ii) (shC (ln kk) v)))) (Ag.rf.set (by omega)) (hS.s2 hk (upd (g kk) ii (shC (ln kk) v))) (fun j hj => ?_) rfl (fun j hj => va_up_ne _ _ (by omega))).sim
          obtain ⟨v1, v2, v3⟩ := hU j hj
          refine ⟨v1, v2, fun x hx => ?_⟩
          show upd (u.2 4) (60 * kk + ii) (shC (ln kk) v) (60 * j + x) = _
          by_cases w : j = kk
          · subst w
            rw [va_up_self]
            by_cases w2 : x = ii
            · subst w2; rw [upd_s, upd_s]
            · rw [upd_n w2, upd_n (by omega)]; exact v3 x hx
          · rw [va_up_ne _ _ w, upd_n (by omega)]; exact v3 x hx
        rw [er]
        refine T_aload_n dX11_put_0 rfl ?_
        refine T_iconst (v := 0) dX11_put_1 (by decide) ?_
        refine T_put dX11_put_2 fp_X11_72_11 p0.1.1.1 (nb rfl) (fun _ => ⟨rfl, rfl⟩) ?_
        refine T_iload_n dX11_put_5 rfl ?_
        refine T_s1e (cu2 := 0) (su2 := 0) dX11_put_6 ls_X11_77 rfl (c_X11_isSheet _) (nb rfl) (nb rfl) (nb rfl) (nb rfl) (nb rfl) ?_
        refine T_if_neB (tgt := 14) dX11_put_9 (by decide) (fun c9 => ?_) (fun c9 => ?_)
        · refine T_aload_n dX11_put_14 rfl ?_
          refine T_get dX11_put_15 fl_X11_13_11 p.1.1.1 rfl ?_
          refine T_iload_n dX11_put_18 rfl ?_
          refine T_aald3 dX11_put_19 s1 (nI_in (by omega) (by decide)) (by rw [ec]; exact s3) ?_
          refine T_astore dX11_put_20 (by decide) rfl ?_
          refine T_aload dX11_put_22 rfl ?_
          refine T_v0e (cu2 := 0) (su2 := 0) dX11_put_24 lv_X11_286 rfl s4 rfl (c_X5_hasRow s4) (nb rfl) (nb rfl) (nb rfl) (nb rfl) (nb rfl) ?_
          refine T_if_neB (tgt := 36) dX11_put_27 (by decide) (fun c27 => ?_) (fun c27 => ?_)
          · refine T_aload dX11_put_36 rfl ?_
            refine T_iload_n dX11_put_38 rfl ?_
            refine T_iconst (v := 1) dX11_put_39 (by decide) ?_
            refine T_v2e (cu2 := 0) (su2 := 0) dX11_put_40 lv_X11_124 rfl s4 rfl (c_X5_holds s4 _ _) (nb rfl) (nb rfl) (nb rfl) (nb rfl) (nb rfl) ?_
            refine T_if_neB (tgt := 52) dX11_put_43 (by decide) (fun c43 => ?_) (fun c43 => ?_)
            · refine T_aload dX11_put_52 rfl ?_
              refine T_get dX11_put_54 fl_X11_92_5 s4 rfl ?_
              refine T_iload_n dX11_put_57 rfl ?_
              refine T_aload dX11_put_58 rfl ?_
              refine T_iload_n dX11_put_60 rfl ?_
              refine T_v1e (cu2 := 0) (su2 := 0) dX11_put_61 lv_X11_292 rfl s4 rfl (c_X5_cut s4 _) (nb rfl) (nb rfl) (nb rfl) (nb rfl) (nb rfl) ?_
              refine T_iastN dX11_put_64 s5 (by omega) (by decide) ?_
              refine T_iconst (v := 1) dX11_put_65 (by decide) ?_
              refine T_iret dX11_put_66 rfl (nb rfl) (nb rfl) ?_
              exact sq_id ((ag0 0).set (by omega)) rfl hsim
            · exact absurd ((ho_1 l1).mpr y) c43
          · exact absurd z c27
        · exact absurd q c9
      · have er : m_put u (nI kk) i v = (-10 - 3, m0 u 3) := by unfold m_put; rw [if_pos q, ec, if_neg (fun w => z (e9.mp w)), l2, if_neg y]
        rw [er]
        refine T_aload_n dX11_put_0 rfl ?_
        refine T_iconst (v := 0) dX11_put_1 (by decide) ?_
        refine T_put dX11_put_2 fp_X11_72_11 p0.1.1.1 (nb rfl) (fun _ => ⟨rfl, rfl⟩) ?_
        refine T_iload_n dX11_put_5 rfl ?_
        refine T_s1e (cu2 := 0) (su2 := 0) dX11_put_6 ls_X11_77 rfl (c_X11_isSheet _) (nb rfl) (nb rfl) (nb rfl) (nb rfl) (nb rfl) ?_
        refine T_if_neB (tgt := 14) dX11_put_9 (by decide) (fun c9 => ?_) (fun c9 => ?_)
        · refine T_aload_n dX11_put_14 rfl ?_
          refine T_get dX11_put_15 fl_X11_13_11 p.1.1.1 rfl ?_
          refine T_iload_n dX11_put_18 rfl ?_
          refine T_aald3 dX11_put_19 s1 (nI_in (by omega) (by decide)) (by rw [ec]; exact s3) ?_
          refine T_astore dX11_put_20 (by decide) rfl ?_
          refine T_aload dX11_put_22 rfl ?_
          refine T_v0e (cu2 := 0) (su2 := 0) dX11_put_24 lv_X11_286 rfl s4 rfl (c_X5_hasRow s4) (nb rfl) (nb rfl) (nb rfl) (nb rfl) (nb rfl) ?_
          refine T_if_neB (tgt := 36) dX11_put_27 (by decide) (fun c27 => ?_) (fun c27 => ?_)
          · refine T_aload dX11_put_36 rfl ?_
            refine T_iload_n dX11_put_38 rfl ?_
            refine T_iconst (v := 1) dX11_put_39 (by decide) ?_
            refine T_v2e (cu2 := 0) (su2 := 0) dX11_put_40 lv_X11_124 rfl s4 rfl (c_X5_holds s4 _ _) (nb rfl) (nb rfl) (nb rfl) (nb rfl) (nb rfl) ?_
            refine T_if_neB (tgt := 52) dX11_put_43 (by decide) (fun c43 => ?_) (fun c43 => ?_)
            · exact absurd ((ho_1 l1).mp c43) y
            · refine T_aload_n dX11_put_46 rfl ?_
              refine T_iconst (v := 3) dX11_put_47 (by decide) ?_
              refine T_v1e (cu2 := 0) (su2 := 0) dX11_put_48 lv_X11_88 rfl p.1.1.1 rfl (c_X11_faulted p.1.1.1 _) (nb rfl) (nb rfl) (nb rfl) (nb rfl) (nb rfl) ?_
              refine T_h (List.set_set ..) ?_
              refine T_iret dX11_put_51 rfl (nb rfl) (nb rfl) ?_
              exact sq_id (ag0 3) rfl (p0.flt 3).sim
          · exact absurd z c27
        · exact absurd q c9
  · have er : m_put u k i v = (-1, m0 u 0) := by unfold m_put; rw [if_neg q]
    rw [er]
    refine T_aload_n dX11_put_0 rfl ?_
    refine T_iconst (v := 0) dX11_put_1 (by decide) ?_
    refine T_put dX11_put_2 fp_X11_72_11 p0.1.1.1 (nb rfl) (fun _ => ⟨rfl, rfl⟩) ?_
    refine T_iload_n dX11_put_5 rfl ?_
    refine T_s1e (cu2 := 0) (su2 := 0) dX11_put_6 ls_X11_77 rfl (c_X11_isSheet _) (nb rfl) (nb rfl) (nb rfl) (nb rfl) (nb rfl) ?_
    refine T_if_neB (tgt := 14) dX11_put_9 (by decide) (fun c9 => ?_) (fun c9 => ?_)
    · exact absurd c9 q
    · refine T_iconst (v := (-1)) dX11_put_12 (by decide) ?_
      refine T_iret dX11_put_13 rfl (nb rfl) (nb rfl) ?_
      exact sq_id (ag0 0) rfl p.sim
theorem s_cell (hs : Sim h u) (k i sort : Int32) : Con M_X11_cell [.ref 0, .int k, .int i, .int sort] h (SQ h (RfE (.long (m_cell u k i sort).1) (m_cell u k i sort).2)) := by
  obtain ⟨wy, nw, wt, sp, isl, bp, L, wn, nr, rb, rh, rc, ln, sz, g, p0⟩ := id hs
  have p := p0.flt 0
  have hS := p.1.2.2.2.2.2.2.2.2.2.2
  obtain ⟨sf, s1, s2⟩ := id hS
  have hU := p.2.2.2.2
  have ag0 : ∀ x, Ag (fun k => k < 67) h (h.set 0 (cwO wy nw wt sp x)) := fun x => Ag.rf.set (by decide)
  refine Con.of rfl (nb rfl) ?_
  by_cases q : (0 ≤ k ∧ k ≤ 3) ∧ 0 ≤ sort ∧ sort ≤ 2
  · obtain ⟨kk, hk, rfl⟩ := shN q.1
    obtain ⟨s3, s4, s5⟩ := s2 kk hk
    obtain ⟨u1, ⟨ll, l1, l2, l3⟩, u3⟩ := hU kk hk
    have l2 : u.2 3 kk = nI ll := l2
    have u3 : ∀ x, x < 60 → u.2 4 (60 * kk + x) = g kk x := u3
    have e9 : u.2 2 kk = -9 ↔ ln kk = -1 := ln_no u1
    have ec : (nI kk).toNatClampNeg = kk := nI_clamp (by omega)
    rw [l3] at s4
    -- the fault of both
    have hF : ∀ x : Int32, x = toF (ln kk) (nI ll) sort i 1 → m_cell u (nI kk) i sort = if x = 0 then ((g kk i.toNatClampNeg).toInt64, m0 u 0) else (-9223372036854775808, m0 u x) := by
      intro x hx
      have u1 : (u.2 2 kk = -9 ∧ ln kk = -1) ∨ ∃ s, s ≤ 2 ∧ u.2 2 kk = nI s ∧ ln kk = nI s := u1
      unfold m_cell
      rw [if_pos q, ec, l2]
      unfold toF shF at hx
      rcases u1 with ⟨a, b⟩ | ⟨s, a, b, c⟩
      · rw [if_neg (fun w => w.1 a), if_pos a]
        rw [if_pos b, if_neg (by decide)] at hx
        rw [hx, if_neg (by decide)]
      · have d : ¬ nI s = -1 := by rcases (show s = 0 ∨ s = 1 ∨ s = 2 by omega) with rfl | rfl | rfl <;> decide
        have d9 : ¬ nI s = -9 := nI_m9 (by omega)
        rw [b]
        rw [c, if_neg d] at hx
        by_cases y : nI s = sort
        · rw [if_neg (fun w => w.2 y), if_neg d9]
          rw [if_pos y, if_pos rfl] at hx
          by_cases w : 0 ≤ i ∧ i ≤ nI ll - 1
          · obtain ⟨ii, i1, rfl⟩ := ix_N l1 w
            rw [if_pos w]
            rw [if_pos ((ho_1 l1).mpr w)] at hx
            rw [hx, if_pos rfl]
            have e60 : ((60 : Int32) * nI kk + nI ii).toNatClampNeg = 60 * kk + ii := by rw [show (60 : Int32) * nI kk = nI (60 * kk) from pk_mul 60 kk, nI_add]; exact nI_clamp (by omega)
            rw [e60, nI_clamp (by omega), u3 ii (by omega)]
          · rw [if_neg w]
            rw [if_neg (fun y2 => w ((ho_1 l1).mp y2))] at hx
            rw [hx, if_neg (by decide)]
        · rw [if_pos ⟨d9, y⟩]
          rw [if_neg y, if_neg (by decide)] at hx
          rw [hx, if_neg (by decide)]
    have K57 : ∀ x : Int32, x = toF (ln kk) (nI ll) sort i 1 → T M_X11_cell x_E (x_Z M_X11_cell (SQ h (RfE (.long (m_cell u (nI kk) i sort).1) (m_cell u (nI kk) i sort).2))) 0 0 57 [(0, .ref 0), (1, .int (nI kk)), (2, .int i), (3, .int sort), (4, .ref (59 + 2 * kk)), (5, .int x)] [] (h.set 0 (cwO wy nw wt sp 0)) := by
      intro x hx
      rw [hF x hx]
      by_cases z : x = 0
      · have hh : shH (nI ll) i 1 := by
          rw [z] at hx
          unfold toF at hx
          by_cases w : shF (ln kk) sort = 0
          · rw [if_pos w] at hx
            by_cases y : shH (nI ll) i 1
            · exact y
            · rw [if_neg y] at hx; exact absurd hx (by decide)
          · rw [if_neg w] at hx; exact absurd hx.symm w
        obtain ⟨ii, i1, rfl⟩ := ix_N l1 ((ho_1 l1).mp hh)
        rw [if_pos z, nI_clamp (by omega)]
        refine T_iload dX11_cell_57 rfl ?_
        refine T_if_eq (tgt := 72) dX11_cell_59 (by decide) (fun c59 => ?_) (fun c59 => ?_)
        · refine T_aload dX11_cell_72 rfl ?_
          refine T_get dX11_cell_74 fl_X11_92_5 s4 rfl ?_
          refine T_iload_n dX11_cell_77 rfl ?_
          refine T_ialdN dX11_cell_78 s5 (by omega) (by decide) ?_
          refine T_i2l dX11_cell_79 ?_
          refine T_lret dX11_cell_80 rfl (nb rfl) (nb rfl) ?_
          exact sq_id (ag0 0) rfl p.sim
        · exact absurd z c59
      · rw [if_neg z]
        refine T_iload dX11_cell_57 rfl ?_
        refine T_if_eq (tgt := 72) dX11_cell_59 (by decide) (fun c59 => ?_) (fun c59 => ?_)
        · exact absurd c59 z
        · refine T_aload_n dX11_cell_62 rfl ?_
          refine T_iload dX11_cell_63 rfl ?_
          refine T_put dX11_cell_65 fp_X11_72_11 p.1.1.1 (nb rfl) (fun _ => ⟨rfl, rfl⟩) ?_
          refine T_h (List.set_set ..) ?_
          refine T_ldc2 dX11_cell_68 kl_X11_258 ?_
          refine T_lret dX11_cell_71 rfl (nb rfl) (nb rfl) ?_
          exact sq_id (ag0 x) rfl (p0.flt x).sim
    refine T_aload_n dX11_cell_0 rfl ?_
    refine T_iconst (v := 0) dX11_cell_1 (by decide) ?_
    refine T_put dX11_cell_2 fp_X11_72_11 p0.1.1.1 (nb rfl) (fun _ => ⟨rfl, rfl⟩) ?_
    refine T_iload_n dX11_cell_5 rfl ?_
    refine T_s1e (cu2 := 0) (su2 := 0) dX11_cell_6 ls_X11_77 rfl (c_X11_isSheet _) (nb rfl) (nb rfl) (nb rfl) (nb rfl) (nb rfl) ?_
    refine T_if_eqB (tgt := 19) dX11_cell_9 (by decide) (fun c9 => ?_) (fun c9 => ?_)
    · exact absurd q.1 c9
    · refine T_iload_n dX11_cell_12 rfl ?_
      refine T_s1e (cu2 := 0) (su2 := 0) dX11_cell_13 ls_X11_81 rfl (c_X11_isLane _) (nb rfl) (nb rfl) (nb rfl) (nb rfl) (nb rfl) ?_
      refine T_if_neB (tgt := 23) dX11_cell_16 (by decide) (fun c16 => ?_) (fun c16 => ?_)
      · refine T_aload_n dX11_cell_23 rfl ?_
        refine T_get dX11_cell_24 fl_X11_13_11 p.1.1.1 rfl ?_
        refine T_iload_n dX11_cell_27 rfl ?_
        refine T_aald3 dX11_cell_28 s1 (nI_in (by omega) (by decide)) (by rw [ec]; exact s3) ?_
        refine T_astore dX11_cell_29 (by decide) rfl ?_
        refine T_aload dX11_cell_31 rfl ?_
        refine T_iload_n dX11_cell_33 rfl ?_
        refine T_v1e (cu2 := 0) (su2 := 0) dX11_cell_34 lv_X11_121 rfl s4 rfl (c_X5_faultAs s4 _) (nb rfl) (nb rfl) (nb rfl) (nb rfl) (nb rfl) ?_
        refine T_istore dX11_cell_37 (by decide) rfl ?_
        refine T_iload dX11_cell_39 rfl ?_
        refine T_if_ne (tgt := 57) dX11_cell_41 (by decide) (fun c41 => ?_) (fun c41 => ?_)
        · refine K57 _ ?_
          unfold toF
          first
            | exact (if_neg c41).symm
            | (rw [if_pos c41]; exact (if_neg c51).symm)
            | (rw [if_pos c41, if_pos c51]; exact c41)
        · refine T_aload dX11_cell_44 rfl ?_
          refine T_iload_n dX11_cell_46 rfl ?_
          refine T_iconst (v := 1) dX11_cell_47 (by decide) ?_
          refine T_v2e (cu2 := 0) (su2 := 0) dX11_cell_48 lv_X11_124 rfl s4 rfl (c_X5_holds s4 _ _) (nb rfl) (nb rfl) (nb rfl) (nb rfl) (nb rfl) ?_
          refine T_if_neB (tgt := 57) dX11_cell_51 (by decide) (fun c51 => ?_) (fun c51 => ?_)
          · refine K57 _ ?_
            unfold toF
            first
              | exact (if_neg c41).symm
              | (rw [if_pos c41]; exact (if_neg c51).symm)
              | (rw [if_pos c41, if_pos c51]; exact c41)
          · refine T_iconst (v := 3) dX11_cell_54 (by decide) ?_
            refine T_istore dX11_cell_55 (by decide) rfl ?_
            refine K57 _ ?_
            unfold toF
            first
              | exact (if_neg c41).symm
              | (rw [if_pos c41]; exact (if_neg c51).symm)
              | (rw [if_pos c41, if_pos c51]; exact c41)
      · exact absurd q.2 c16
  · have er : m_cell u k i sort = (-9223372036854775808, m0 u 0) := by unfold m_cell; rw [if_neg q]
    rw [er]
    refine T_aload_n dX11_cell_0 rfl ?_
    refine T_iconst (v := 0) dX11_cell_1 (by decide) ?_
    refine T_put dX11_cell_2 fp_X11_72_11 p0.1.1.1 (nb rfl) (fun _ => ⟨rfl, rfl⟩) ?_
    refine T_iload_n dX11_cell_5 rfl ?_
    refine T_s1e (cu2 := 0) (su2 := 0) dX11_cell_6 ls_X11_77 rfl (c_X11_isSheet _) (nb rfl) (nb rfl) (nb rfl) (nb rfl) (nb rfl) ?_
    refine T_if_eqB (tgt := 19) dX11_cell_9 (by decide) (fun c9 => ?_) (fun c9 => ?_)
    · refine T_ldc2 dX11_cell_19 kl_X11_258 ?_
      refine T_lret dX11_cell_22 rfl (nb rfl) (nb rfl) ?_
      exact sq_id (ag0 0) rfl p.sim
    · refine T_iload_n dX11_cell_12 rfl ?_
      refine T_s1e (cu2 := 0) (su2 := 0) dX11_cell_13 ls_X11_81 rfl (c_X11_isLane _) (nb rfl) (nb rfl) (nb rfl) (nb rfl) (nb rfl) ?_
      refine T_if_neB (tgt := 23) dX11_cell_16 (by decide) (fun c16 => ?_) (fun c16 => ?_)
      · exact absurd ⟨c9, c16⟩ q
      · refine T_ldc2 dX11_cell_19 kl_X11_258 ?_
        refine T_lret dX11_cell_22 rfl (nb rfl) (nb rfl) ?_
        exact sq_id (ag0 0) rfl p.sim
end C72
