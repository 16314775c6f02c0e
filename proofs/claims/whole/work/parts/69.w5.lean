/-! calls beside each other: wind, isle, reading, back -/
section C69
variable {h h1 : XH} {u u2 : MSt} {L L2 : LK} {wn wn2 : Nat → Nat} {wy nw wt sp isl isl2 nr nr2 : Nat} {bp rb rh rc rb2 rh2 rc2 : Nat → Nat} {ln sz ln2 sz2 : Nat → Int32} {g g2 : Nat → Nat → Int32}
theorem SimP.wnd (p : SimP h u wy nw wt sp isl bp L wn nr rb rh rc ln sz g) {W : Nat → Int32} {g0 v : Nat} (hW : h[wt + 1]? = some (r10 W)) (hW2 : ∀ j, j < L_h L → W j = nI (wn j) ∧ wn j ≤ 2) (hv : v ≤ 2) : SimP (h.set (wt + 1) (r10 (upd W g0 (nI v)))) (u.1, va_up u.2 9 (upd (u.2 9) g0 (nI v))) wy nw wt sp isl bp L (uw wn g0 v) nr rb rh rc ln sz g := by
  obtain ⟨⟨p1, p2, p3, p4, p5, p6, p7, p8, p9, p10, p11⟩, q1, q2, q3, q4⟩ := p
  have hw := p1.2.1
  have hg : Ag (fun k => k = wt + 1) h (h.set (wt + 1) (r10 (upd W g0 (nI v)))) := Ag.rf.set rfl
  have p22 := p2.2.2.2
  refine ⟨⟨p1.ag hg (by omega), ⟨p2.1, p2.2.1.ag hg (by omega) (by omega) (fun i hi => by have := p22 i hi; omega), ⟨_, gs_eq hW, fun j hj => ?_⟩, p22⟩, ?_, p4.ag hg (fun k k1 k2 => by omega), p5.ag hg (fun k k1 k2 => by omega), p6.ag hg (fun k k1 k2 => by omega), p7.ag hg (by omega), p8.ag hg (by omega), p9.ag hg (fun k k1 k2 => by omega), p10.ag hg (by omega), p11.ag hg (fun k hk => by omega)⟩, q1, fun j hj => ?_, q3, q4⟩
  · unfold uw
    by_cases z : j = g0
    · subst z
      rw [upd_s, if_pos rfl]
      exact ⟨rfl, hv⟩
    · rw [upd_n z, if_neg z]
      exact hW2 j hj
  · obtain ⟨⟨a, b, c, d, z1⟩, ⟨W0, z2⟩, F, z3⟩ := p3
    exact ⟨⟨a, b, c, d, hg.at z1 (by omega)⟩, ⟨W0, hg.at z2 (by omega)⟩, F, hg.at z3 (by omega)⟩
  · show upd (u.2 9) g0 (nI v) j = _ ∧ _
    unfold uw
    by_cases z : j = g0
    · subst z
      rw [upd_s, if_pos rfl]
      exact ⟨rfl, hv⟩
    · rw [upd_n z, if_neg z]
      exact q2 j hj
theorem s_wind (hs : Sim h u) (hour v : Int32) : Con M_X11_wind [.ref 0, .int hour, .int v] h (SQ h (RfE (.int (m_wind u hour v).1) (m_wind u hour v).2)) := by
  obtain ⟨wy, nw, wt, sp, isl, bp, L, wn, nr, rb, rh, rc, ln, sz, g, p⟩ := id hs
  have hM := p.2.1
  have hL := p.1.2.1.1
  have h3 := hL.2.2.1
  have h10 := hL.2.1
  have hw := p.1.1.2.1
  have l1 := p.1.2.1.2.1.1
  obtain ⟨W, w1, w2⟩ := p.1.2.1.2.2.1
  have e3 : v < 3 ↔ v ≤ 2 := i32_s rfl
  refine Con.of rfl (nb rfl) ?_
  by_cases z0 : L_n L = 0
  · have er : m_wind u hour v = (-3, u) := by unfold m_wind; rw [if_pos (by rw [hM.2.2.1, z0]; rfl)]
    rw [er]
    refine T_aload_n dX11_wind_0 rfl ?_
    refine T_get dX11_wind_1 fl_X11_65_11 p.1.1.1 rfl ?_
    refine T_v0e (cu2 := 0) (su2 := 0) dX11_wind_4 lv_X11_157 rfl l1 rfl (c_X1_isThere l1 h3) (nb rfl) (nb rfl) (nb rfl) (nb rfl) (nb rfl) ?_
    refine T_if_neB (tgt := 13) dX11_wind_7 (by decide) (fun c7 => ?_) (fun c7 => ?_)
    · exact absurd c7 (by omega)
    · refine T_bipush (v := (-3)) dX11_wind_10 (by decide) ?_
      refine T_iret dX11_wind_12 rfl (nb rfl) (nb rfl) ?_
      exact sq_id Ag.rf rfl hs
  · have ez : ¬ u.1 7 = 0 := by rw [hM.2.2.1]; exact nI_ne0 (by omega) (by omega)
    by_cases q : 0 ≤ hour ∧ hour < nI (L_h L)
    · have q' : 0 ≤ hour ∧ hour < u.1 6 := by rw [hM.2.1]; exact q
      by_cases y : 0 ≤ v ∧ v ≤ 2
      · obtain ⟨vv, v2, rfl⟩ := setN (a := 2) (by decide) y
        obtain ⟨gg, g1, rfl⟩ := nI_of (Int32.not_lt.mpr q.1)
        have hgl : gg < L_h L := (nI_ltI g1 (by omega)).mp q.2
        have er : m_wind u (nI gg) (nI vv) = (nI (wn gg), (u.1, va_up u.2 9 (upd (u.2 9) gg (nI vv)))) := by
          unfold m_wind
          rw [if_neg ez, if_pos q', if_pos y, nI_clamp g1, (p.2.2.1 gg hgl).1]
        rw [er]
        refine T_aload_n dX11_wind_0 rfl ?_
        refine T_get dX11_wind_1 fl_X11_65_11 p.1.1.1 rfl ?_
        refine T_v0e (cu2 := 0) (su2 := 0) dX11_wind_4 lv_X11_157 rfl l1 rfl (c_X1_isThere l1 h3) (nb rfl) (nb rfl) (nb rfl) (nb rfl) (nb rfl) ?_
        refine T_if_neB (tgt := 13) dX11_wind_7 (by decide) (fun c7 => ?_) (fun c7 => ?_)
        · refine T_aload_n dX11_wind_13 rfl ?_
          refine T_iload_n dX11_wind_14 rfl ?_
          refine T_v1e (cu2 := 0) (su2 := 0) dX11_wind_15 lv_X11_161 rfl p.1.1.1 rfl (c_X11_isHour p.1.1.1 l1 _) (nb rfl) (nb rfl) (nb rfl) (nb rfl) (nb rfl) ?_
          refine T_if_eqB (tgt := 30) dX11_wind_18 (by decide) (fun c18 => ?_) (fun c18 => ?_)
          · exact absurd q c18
          · refine T_iload_n dX11_wind_21 rfl ?_
            refine T_if_ltN (tgt := 30) dX11_wind_22 (by decide) (by omega) (fun c22 => ?_) (fun c22 => ?_)
            · exact c22.elim
            · refine T_iload_n dX11_wind_25 rfl ?_
              refine T_iconst (v := nI 3) dX11_wind_26 (by decide) ?_
              refine T_icmp_ltN (tgt := 33) dX11_wind_27 (by decide) (by omega) (by omega) (fun c27 => ?_) (fun c27 => ?_)
              · refine T_aload_n dX11_wind_33 rfl ?_
                refine T_get dX11_wind_34 fl_X11_65_11 p.1.1.1 rfl ?_
                refine T_get dX11_wind_37 fl_X11_164_1 l1 rfl ?_
                refine T_iload_n dX11_wind_40 rfl ?_
                refine T_ialdN dX11_wind_41 w1 (by omega) (by decide) ?_
                refine T_top (w2 gg hgl).1 ?_
                refine T_istore_n dX11_wind_42 (by decide) rfl ?_
                refine T_aload_n dX11_wind_43 rfl ?_
                refine T_get dX11_wind_44 fl_X11_65_11 p.1.1.1 rfl ?_
                refine T_get dX11_wind_47 fl_X11_164_1 l1 rfl ?_
                refine T_iload_n dX11_wind_50 rfl ?_
                refine T_iload_n dX11_wind_51 rfl ?_
                refine T_iastN dX11_wind_52 w1 (by omega) (by decide) ?_
                refine T_iload_n dX11_wind_53 rfl ?_
                refine T_iret dX11_wind_54 rfl (nb rfl) (nb rfl) ?_
                exact sq_id (Ag.rf.set (by omega)) rfl (p.wnd w1 w2 v2).sim
              · exact absurd c27 (by omega)
        · exact absurd c7 (by omega)
      · have er : m_wind u hour v = (-2, u) := by unfold m_wind; rw [if_neg ez, if_pos q', if_neg y]
        rw [er]
        refine T_aload_n dX11_wind_0 rfl ?_
        refine T_get dX11_wind_1 fl_X11_65_11 p.1.1.1 rfl ?_
        refine T_v0e (cu2 := 0) (su2 := 0) dX11_wind_4 lv_X11_157 rfl l1 rfl (c_X1_isThere l1 h3) (nb rfl) (nb rfl) (nb rfl) (nb rfl) (nb rfl) ?_
        refine T_if_neB (tgt := 13) dX11_wind_7 (by decide) (fun c7 => ?_) (fun c7 => ?_)
        · refine T_aload_n dX11_wind_13 rfl ?_
          refine T_iload_n dX11_wind_14 rfl ?_
          refine T_v1e (cu2 := 0) (su2 := 0) dX11_wind_15 lv_X11_161 rfl p.1.1.1 rfl (c_X11_isHour p.1.1.1 l1 _) (nb rfl) (nb rfl) (nb rfl) (nb rfl) (nb rfl) ?_
          refine T_if_eqB (tgt := 30) dX11_wind_18 (by decide) (fun c18 => ?_) (fun c18 => ?_)
          · exact absurd q c18
          · refine T_iload_n dX11_wind_21 rfl ?_
            refine T_if_lt (tgt := 30) dX11_wind_22 (by decide) (fun c22 => ?_) (fun c22 => ?_)
            · refine T_bipush (v := (-2)) dX11_wind_30 (by decide) ?_
              refine T_iret dX11_wind_32 rfl (nb rfl) (nb rfl) ?_
              exact sq_id Ag.rf rfl hs
            · refine T_iload_n dX11_wind_25 rfl ?_
              refine T_iconst (v := 3) dX11_wind_26 (by decide) ?_
              refine T_icmp_lt (tgt := 33) dX11_wind_27 (by decide) (fun c27 => ?_) (fun c27 => ?_)
              · exact absurd ⟨Int32.not_lt.mp c22, e3.mp c27⟩ y
              · refine T_bipush (v := (-2)) dX11_wind_30 (by decide) ?_
                refine T_iret dX11_wind_32 rfl (nb rfl) (nb rfl) ?_
                exact sq_id Ag.rf rfl hs
        · exact absurd c7 (by omega)
    · have q' : ¬ (0 ≤ hour ∧ hour < u.1 6) := by rw [hM.2.1]; exact q
      have er : m_wind u hour v = (-2, u) := by unfold m_wind; rw [if_neg ez, if_neg q']
      rw [er]
      refine T_aload_n dX11_wind_0 rfl ?_
      refine T_get dX11_wind_1 fl_X11_65_11 p.1.1.1 rfl ?_
      refine T_v0e (cu2 := 0) (su2 := 0) dX11_wind_4 lv_X11_157 rfl l1 rfl (c_X1_isThere l1 h3) (nb rfl) (nb rfl) (nb rfl) (nb rfl) (nb rfl) ?_
      refine T_if_neB (tgt := 13) dX11_wind_7 (by decide) (fun c7 => ?_) (fun c7 => ?_)
      · refine T_aload_n dX11_wind_13 rfl ?_
        refine T_iload_n dX11_wind_14 rfl ?_
        refine T_v1e (cu2 := 0) (su2 := 0) dX11_wind_15 lv_X11_161 rfl p.1.1.1 rfl (c_X11_isHour p.1.1.1 l1 _) (nb rfl) (nb rfl) (nb rfl) (nb rfl) (nb rfl) ?_
        refine T_if_eqB (tgt := 30) dX11_wind_18 (by decide) (fun c18 => ?_) (fun c18 => ?_)
        · refine T_bipush (v := (-2)) dX11_wind_30 (by decide) ?_
          refine T_iret dX11_wind_32 rfl (nb rfl) (nb rfl) ?_
          exact sq_id Ag.rf rfl hs
        · exact absurd c18 q
      · exact absurd c7 (by omega)
/-! isle -/
def setIs (L : LK) (c v : Nat) : LK := (L.1, (L.2.1, (L.2.2.1, (L.2.2.2.1, uw L.2.2.2.2 c v))))
theorem isx_N : ∀ isl, isl < 32 → ∀ c, c < 5 → nI isl ^^^ ((1 : Int32) <<< (nI c &&& 31)) = nI (isl ^^^ 2 ^ c) := by decide
theorem isx_lt : ∀ isl, isl < 32 → ∀ c, c < 5 → isl ^^^ 2 ^ c < 32 := by decide
theorem isx_tb : ∀ isl, isl < 32 → ∀ c, c < 5 → ∀ d, d < 5 → ((isl ^^^ 2 ^ c).testBit d = (isl.testBit d != (d == c))) := by decide
theorem SimP.isl1 (p : SimP h u wy nw wt sp isl bp L wn nr rb rh rc ln sz g) {c b : Nat} {x0 : Int32} {rs : List Value} (hc : c < 5) (hb : b ≤ 1) (hx : ¬ L_is L c = b) (h10 : h[10]? = some (.inr (4, .int x0 :: rs))) :
    SimP ((h.set wt (lkO (L_w L) (isl ^^^ 2 ^ c) (L_h L) (L_n L) (wt + 1) (wt + 2))).set 10 (.inr (4, .int 1 :: rs))) (u.1, va_up u.2 8 (upd (u.2 8) c (nI b))) wy nw wt sp (isl ^^^ 2 ^ c) bp (setIs L c b) wn nr rb rh rc ln sz g := by
  obtain ⟨⟨p1, p2, p3, p4, p5, p6, p7, p8, p9, p10, p11⟩, q1, q2, q3, q4⟩ := p
  have hw := p1.2.1
  have p22 := p2.2.2.2
  obtain ⟨l1, l2, F, l3, l4⟩ := p2.2.1
  have hg : Ag (fun k => k = wt ∨ k = 10) h ((h.set wt (lkO (L_w L) (isl ^^^ 2 ^ c) (L_h L) (L_n L) (wt + 1) (wt + 2))).set 10 (.inr (4, .int 1 :: rs))) := (Ag.rf.set (Or.inl rfl)).set (Or.inr rfl)
  have hli := p2.1.2.2.2.2
  refine ⟨⟨p1.ag hg (by omega), ⟨?_, ⟨?_, ⟨isx_lt _ l2.1 _ hc, fun d hd => ?_⟩, F, hg.at l3 (by omega), fun i hi => ⟨(l4 i hi).1, hg.at (l4 i hi).2 (by have := p22 i hi; omega)⟩⟩, p2.2.2.1.ag hg (by omega), p22⟩, ?_, p4.ag hg (fun k k1 k2 => by omega), p5.ag hg (fun k k1 k2 => by omega), ?_, p7.ag hg (by omega), p8.ag hg (by omega), p9.ag hg (fun k k1 k2 => by omega), p10.ag hg (by omega), p11.ag hg (fun k hk => by omega)⟩, ?_, q2, q3, q4⟩
  · refine ⟨p2.1.1, p2.1.2.1, p2.1.2.2.1, p2.1.2.2.2.1, fun d hd => ?_⟩
    show uw L.2.2.2.2 c b d ≤ 1
    unfold uw
    split
    · exact hb
    · exact hli d hd
  · exact (gs_ne (by omega)).trans (gs_eq l1)
  · rw [isx_tb _ l2.1 _ hc _ hd]
    show _ ↔ uw L.2.2.2.2 c b d = 1
    unfold uw
    have e := l2.2 d hd
    have hd1 := hli d hd
    by_cases z : d = c
    · subst z
      rw [if_pos rfl]
      have hd2 : L_is L d ≤ 1 := hd1
      cases ht : isl.testBit d with
      | true =>
        have := e.mp ht
        simp
        omega
      | false =>
        have : ¬ L_is L d = 1 := fun q => by rw [e.mpr q] at ht; cases ht
        simp
        omega
    · rw [if_neg z, show (d == c) = false by simp [z]]
      simpa using e
  · obtain ⟨⟨a, b, c, d, z1⟩, ⟨W0, z2⟩, F, z3⟩ := p3
    exact ⟨⟨a, b, c, d, hg.at z1 (by omega)⟩, ⟨W0, hg.at z2 (by omega)⟩, F, hg.at z3 (by omega)⟩
  · have p6b : PE (h.set wt (lkO (L_w L) (isl ^^^ 2 ^ c) (L_h L) (L_n L) (wt + 1) (wt + 2))) L := p6.ag (Ag.rf.set (S := fun k => k = wt) rfl) (fun k k1 k2 => by omega)
    have h10b : (h.set wt (lkO (L_w L) (isl ^^^ 2 ^ c) (L_h L) (L_n L) (wt + 1) (wt + 2)))[10]? = some (.inr (4, .int x0 :: rs)) := (gs_ne (by omega)).trans h10
    obtain ⟨A, s, R, hA, e, p1, p2⟩ := p6b
    rw [e] at h10b ⊢
    have e2 : (sH A s R)[10]? = _ := sH_get (k := 0) hA rfl
    rw [e2] at h10b
    have e3 : (4, Value.int x0 :: rs) = (4, [Value.int (s.1 0), .int (s.1 1), .int (s.1 2), .ref 11, .ref 12, .ref 13, .ref 14, .ref 15, .ref 16, .ref 18, .ref 19, .ref 20, .ref 21]) := Sum.inr.inj (Option.some.inj h10b.symm)
    have e4 := (List.cons.inj (Prod.mk.inj e3).2).2
    rw [e4]
    refine ⟨A, sIt s 0 1, R, hA, sI_0 (v := 1) hA, p1, fun q => absurd (show (1 : Int32) = 0 from q) (by decide)⟩
  · refine ⟨q1.1, q1.2.1, q1.2.2.1, q1.2.2.2.1, fun d hd => ?_⟩
    show upd (u.2 8) c (nI b) d = nI (uw L.2.2.2.2 c b d)
    unfold uw
    by_cases z : d = c
    · subst z; rw [upd_s, if_pos rfl]
    · rw [upd_n z, if_neg z]; exact q1.2.2.2.2 d hd
theorem PE.h10 (p : PE h L) : ∃ x0 rs, h[10]? = some (.inr (4, .int x0 :: rs)) := by
  obtain ⟨A, s, R, hA, rfl, -⟩ := p
  exact ⟨_, _, sH_get (k := 0) hA rfl⟩
theorem bIn {b : Nat} {q : Prop} [Decidable q] (hb : b ≤ 1) : bI q = nI b ↔ (q ↔ b = 1) := by
  unfold bI
  rcases (show b = 0 ∨ b = 1 by omega) with rfl | rfl
  · by_cases c : q
    · rw [if_pos c]; exact ⟨fun e => absurd e (by decide), fun e => absurd (e.mp c) (by decide)⟩
    · rw [if_neg c]; exact ⟨fun _ => ⟨fun z => absurd z c, fun z => absurd z (by decide)⟩, fun _ => rfl⟩
  · by_cases c : q
    · rw [if_pos c]; exact ⟨fun _ => ⟨fun _ => rfl, fun _ => c⟩, fun _ => rfl⟩
    · rw [if_neg c]; exact ⟨fun e => absurd e (by decide), fun e => absurd (e.mpr rfl) c⟩
theorem s_isle (hs : Sim h u) (c : Int32) {b : Nat} (hb : b ≤ 1) : Con M_X11_isle [.ref 0, .int c, .int (nI b)] h (SQ h (RfE (.int (m_isle u c (nI b)).1) (m_isle u c (nI b)).2)) := by
  obtain ⟨wy, nw, wt, sp, isl, bp, L, wn, nr, rb, rh, rc, ln, sz, g, p⟩ := id hs
  have hM := p.2.1
  have hL := p.1.2.1.1
  have h3 := hL.2.2.1
  have h4 := hL.1
  have hw := p.1.1.2.1
  obtain ⟨l1, l2, -⟩ := p.1.2.1.2.1
  obtain ⟨x0, rs, h10⟩ := p.1.2.2.2.2.2.1.h10
  refine Con.of rfl (nb rfl) ?_
  by_cases z0 : L_n L = 0
  · have er : m_isle u c (nI b) = (-3, u) := by unfold m_isle; rw [if_pos (by rw [hM.2.2.1, z0]; rfl)]
    rw [er]
    refine T_aload_n dX11_isle_0 rfl ?_
    refine T_get dX11_isle_1 fl_X11_65_11 p.1.1.1 rfl ?_
    refine T_v0e (cu2 := 0) (su2 := 0) dX11_isle_4 lv_X11_157 rfl l1 rfl (c_X1_isThere l1 h3) (nb rfl) (nb rfl) (nb rfl) (nb rfl) (nb rfl) ?_
    refine T_if_neB (tgt := 13) dX11_isle_7 (by decide) (fun c7 => ?_) (fun c7 => ?_)
    · exact absurd c7 (by omega)
    · refine T_bipush (v := (-3)) dX11_isle_10 (by decide) ?_
      refine T_iret dX11_isle_12 rfl (nb rfl) (nb rfl) ?_
      exact sq_id Ag.rf rfl hs
  · have ez : ¬ u.1 7 = 0 := by rw [hM.2.2.1]; exact nI_ne0 (by omega) (by omega)
    have ew : (nI (L_w L) - 1).toInt = (L_w L : Int) - 1 := pk_sub_toInt (b := 1) (by omega) (by decide)
    by_cases q : 1 ≤ c ∧ c ≤ nI (L_w L) - 1
    · have q' : 1 ≤ c ∧ c ≤ u.1 5 - 1 := by rw [hM.1]; exact q
      obtain ⟨cc, c1, rfl⟩ := nI_of (Int32.not_lt.mpr (Int32.le_trans (show (0 : Int32) ≤ 1 by decide) q.1))
      have hc1 : 1 ≤ cc := (nI_leI (a := 1) (by decide) c1).mp q.1
      have hc2 : cc < L_w L := by
        have := q.2
        rw [Int32.le_iff_toInt_le, ew, nI_toInt c1] at this
        omega
      have hx : u.2 8 cc = nI (L_is L cc) := hM.2.2.2.2 cc (by omega)
      have hxl : L_is L cc ≤ 1 := hL.2.2.2.2 cc (by omega)
      have etb := l2.2 cc (by omega)
      have ebb : bI (isl.testBit cc = true) = nI b ↔ L_is L cc = b := by
        rw [bIn hb, etb]
        omega
      by_cases y : L_is L cc = b
      · have er : m_isle u (nI cc) (nI b) = (0, (u.1, va_up u.2 8 (upd (u.2 8) cc (nI b)))) := by
          unfold m_isle
          rw [if_neg ez, if_pos q', nI_clamp c1, if_pos (by rw [hx, y])]
        have hs2 : Sim h (u.1, va_up u.2 8 (upd (u.2 8) cc (nI b))) := by
          have e8 : upd (u.2 8) cc (nI b) = u.2 8 := by
            funext j
            by_cases z : j = cc
            · subst z; rw [upd_s, hx, y]
            · rw [upd_n z]
          rw [e8, ← va_upS u.2 8]
          exact hs
        rw [er]
        refine T_aload_n dX11_isle_0 rfl ?_
        refine T_get dX11_isle_1 fl_X11_65_11 p.1.1.1 rfl ?_
        refine T_v0e (cu2 := 0) (su2 := 0) dX11_isle_4 lv_X11_157 rfl l1 rfl (c_X1_isThere l1 h3) (nb rfl) (nb rfl) (nb rfl) (nb rfl) (nb rfl) ?_
        refine T_if_neB (tgt := 13) dX11_isle_7 (by decide) (fun c7 => ?_) (fun c7 => ?_)
        · refine T_iload_n dX11_isle_13 rfl ?_
          refine T_if_leN (tgt := 28) dX11_isle_14 (by decide) (by omega) (fun c14 => ?_) (fun c14 => ?_)
          · exact absurd c14 (by omega)
          · refine T_iload_n dX11_isle_17 rfl ?_
            refine T_aload_n dX11_isle_18 rfl ?_
            refine T_get dX11_isle_19 fl_X11_65_11 p.1.1.1 rfl ?_
            refine T_get dX11_isle_22 fl_X11_167_1 l1 rfl ?_
            refine T_icmp_ltN (tgt := 31) dX11_isle_25 (by decide) (by omega) (by omega) (fun c25 => ?_) (fun c25 => ?_)
            · refine T_aload_n dX11_isle_31 rfl ?_
              refine T_get dX11_isle_32 fl_X11_65_11 p.1.1.1 rfl ?_
              refine T_iload_n dX11_isle_35 rfl ?_
              refine T_v1e (cu2 := 0) (su2 := 0) dX11_isle_36 lv_X11_170 rfl l1 rfl (c_X1_hasIsle l1 l2.1 (by omega)) (nb rfl) (nb rfl) (nb rfl) (nb rfl) (nb rfl) ?_
              refine T_iload_n dX11_isle_39 rfl ?_
              refine T_icmp_ne (tgt := 45) dX11_isle_40 (by decide) (fun c40 => ?_) (fun c40 => ?_)
              · exact absurd (ebb.mpr y) c40
              · refine T_iconst (v := 0) dX11_isle_43 (by decide) ?_
                refine T_iret dX11_isle_44 rfl (nb rfl) (nb rfl) ?_
                exact sq_id Ag.rf rfl hs2
            · exact absurd c25 (by omega)
        · exact absurd c7 (by omega)
      · have er : m_isle u (nI cc) (nI b) = (1, (u.1, va_up u.2 8 (upd (u.2 8) cc (nI b)))) := by
          unfold m_isle
          rw [if_neg ez, if_pos q', nI_clamp c1, if_neg (by rw [hx]; exact fun z => y ((nI_e (by omega) (by omega)).mp z))]
        rw [er]
        refine T_aload_n dX11_isle_0 rfl ?_
        refine T_get dX11_isle_1 fl_X11_65_11 p.1.1.1 rfl ?_
        refine T_v0e (cu2 := 0) (su2 := 0) dX11_isle_4 lv_X11_157 rfl l1 rfl (c_X1_isThere l1 h3) (nb rfl) (nb rfl) (nb rfl) (nb rfl) (nb rfl) ?_
        refine T_if_neB (tgt := 13) dX11_isle_7 (by decide) (fun c7 => ?_) (fun c7 => ?_)
        · refine T_iload_n dX11_isle_13 rfl ?_
          refine T_if_leN (tgt := 28) dX11_isle_14 (by decide) (by omega) (fun c14 => ?_) (fun c14 => ?_)
          · exact absurd c14 (by omega)
          · refine T_iload_n dX11_isle_17 rfl ?_
            refine T_aload_n dX11_isle_18 rfl ?_
            refine T_get dX11_isle_19 fl_X11_65_11 p.1.1.1 rfl ?_
            refine T_get dX11_isle_22 fl_X11_167_1 l1 rfl ?_
            refine T_icmp_ltN (tgt := 31) dX11_isle_25 (by decide) (by omega) (by omega) (fun c25 => ?_) (fun c25 => ?_)
            · refine T_aload_n dX11_isle_31 rfl ?_
              refine T_get dX11_isle_32 fl_X11_65_11 p.1.1.1 rfl ?_
              refine T_iload_n dX11_isle_35 rfl ?_
              refine T_v1e (cu2 := 0) (su2 := 0) dX11_isle_36 lv_X11_170 rfl l1 rfl (c_X1_hasIsle l1 l2.1 (by omega)) (nb rfl) (nb rfl) (nb rfl) (nb rfl) (nb rfl) ?_
              refine T_iload_n dX11_isle_39 rfl ?_
              refine T_icmp_ne (tgt := 45) dX11_isle_40 (by decide) (fun c40 => ?_) (fun c40 => ?_)
              · refine T_aload_n dX11_isle_45 rfl ?_
                refine T_get dX11_isle_46 fl_X11_65_11 p.1.1.1 rfl ?_
                refine T_dup dX11_isle_49 rfl ?_
                refine T_get dX11_isle_50 fl_X11_173_1 l1 rfl ?_
                refine T_iconst (v := 1) dX11_isle_53 (by decide) ?_
                refine T_iload_n dX11_isle_54 rfl ?_
                refine T_ishl dX11_isle_55 ?_
                refine T_ixor dX11_isle_56 ?_
                refine T_top (isx_N _ l2.1 _ (by omega)) ?_
                refine T_put dX11_isle_57 fp_X11_173_1 l1 (nb rfl) (fun _ => ⟨rfl, rfl⟩) ?_
                refine T_aload_n dX11_isle_60 rfl ?_
                refine T_get dX11_isle_61 fl_X11_41_11 (gs_tg l1 p.1.1.1 rfl) rfl ?_
                refine T_iconst (v := 1) dX11_isle_64 (by decide) ?_
                refine T_put dX11_isle_65 fp_X11_131_4 ((gs_ne (by omega)).trans h10) (nb rfl) (fun _ => ⟨rfl, rfl⟩) ?_
                refine T_iconst (v := 1) dX11_isle_68 (by decide) ?_
                refine T_iret dX11_isle_69 rfl (nb rfl) (nb rfl) ?_
                exact sq_id ((Ag.rf.set (by omega)).set (by decide)) rfl (p.isl1 (by omega) hb y h10).sim
              · exact absurd (ebb.mp c40) y
            · exact absurd c25 (by omega)
        · exact absurd c7 (by omega)
    · have q' : ¬ (1 ≤ c ∧ c ≤ u.1 5 - 1) := by rw [hM.1]; exact q
      have er : m_isle u c (nI b) = (-2, u) := by unfold m_isle; rw [if_neg ez, if_neg q']
      rw [er]
      refine T_aload_n dX11_isle_0 rfl ?_
      refine T_get dX11_isle_1 fl_X11_65_11 p.1.1.1 rfl ?_
      refine T_v0e (cu2 := 0) (su2 := 0) dX11_isle_4 lv_X11_157 rfl l1 rfl (c_X1_isThere l1 h3) (nb rfl) (nb rfl) (nb rfl) (nb rfl) (nb rfl) ?_
      refine T_if_neB (tgt := 13) dX11_isle_7 (by decide) (fun c7 => ?_) (fun c7 => ?_)
      · refine T_iload_n dX11_isle_13 rfl ?_
        refine T_if_le (tgt := 28) dX11_isle_14 (by decide) (fun c14 => ?_) (fun c14 => ?_)
        · refine T_bipush (v := (-2)) dX11_isle_28 (by decide) ?_
          refine T_iret dX11_isle_30 rfl (nb rfl) (nb rfl) ?_
          exact sq_id Ag.rf rfl hs
        · refine T_iload_n dX11_isle_17 rfl ?_
          refine T_aload_n dX11_isle_18 rfl ?_
          refine T_get dX11_isle_19 fl_X11_65_11 p.1.1.1 rfl ?_
          refine T_get dX11_isle_22 fl_X11_167_1 l1 rfl ?_
          refine T_icmp_lt (tgt := 31) dX11_isle_25 (by decide) (fun c25 => ?_) (fun c25 => ?_)
          · exact absurd ⟨i32_p.mp (Int32.not_le.mp c14), by rw [Int32.lt_iff_toInt_lt, nI_toInt (by omega)] at c25; rw [Int32.le_iff_toInt_le, ew]; omega⟩ q
          · refine T_bipush (v := (-2)) dX11_isle_28 (by decide) ?_
            refine T_iret dX11_isle_30 rfl (nb rfl) (nb rfl) ?_
            exact sq_id Ag.rf rfl hs
      · exact absurd c7 (by omega)
end C69
