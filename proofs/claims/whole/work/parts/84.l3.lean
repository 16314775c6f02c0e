/-! lake -/
section L3
variable {f g : Nat → Int32} {b e : Nat}
theorem rw_lt {s : Nat} (h : (rwP g e s).2 = true) : s + 1 < e := by
  unfold rwP at h
  by_cases c1 : sgP g e s 119
  · rw [if_pos c1] at h
    by_cases c2 : dgP g e (s + 1) 2 4
    · exact c2.1
    · rw [if_neg c2] at h; cases h
  · rw [if_neg c1] at h; cases h
theorem lake_sh (hf : ∀ x, x < 60 → f (b + x) = g x) (he : e ≤ 60) (s : Nat) : lakeP f (b + e) (b + s) = ((b + (lakeP g e s).1.1, (lakeP g e s).1.2), (lakeP g e s).2) := by
  rw [lake_rw f, lake_rw g, rw_sh hf he s]
  by_cases c1 : (rwP g e s).2 = true
  · have ew : wdP f (b + s + 1) = wdP g (s + 1) := by unfold wdP; rw [Nat.add_assoc, hf (s + 1) (by have := rw_lt c1; omega)]
    rw [if_pos c1, if_pos c1, ew, show b + s + 2 + wdP g (s + 1) = b + (s + 2 + wdP g (s + 1)) by omega, wnd_sh hf he]
    by_cases c2 : wndP g e 10 (s + 2 + wdP g (s + 1)) = 0
    · rw [if_pos c2, if_pos c2]
    · rw [if_neg c2, if_neg c2, Nat.add_assoc b, bts_sh hf he]
  · rw [if_neg c1, if_neg c1]
end L3
section L4
variable {h h1 : XH} {u u2 : MSt} {L : LK} {wn : Nat → Nat} {wy nw wt sp isl nr : Nat} {bp rb rh rc : Nat → Nat} {ln sz : Nat → Int32} {g : Nat → Nat → Int32} {G : Nat → Int32} {kk ii nn x w hh m : Nat} {v : Int32}
theorem lk_bad (hf : ∀ x, x < 60 → u.2 4 (60 * kk + x) = G x) (he : ii + nn ≤ 60) (hl : (lakeP G (ii + nn) ii).1 = (x, false)) (hx : ii ≤ x) (h : LkT u (60 * kk + ii) nn v u2) : v = -100 - nI (x - ii) ∧ SameE u u2 := by
  have e1 : lakeP (u.2 4) (60 * kk + ii + nn) (60 * kk + ii) = ((60 * kk + (lakeP G (ii + nn) ii).1.1, (lakeP G (ii + nn) ii).1.2), (lakeP G (ii + nn) ii).2) := by rw [Nat.add_assoc]; exact lake_sh hf he ii
  unfold LkT at h
  rw [e1, hl, if_neg (fun q => by cases q)] at h
  obtain ⟨h1, h2⟩ := h
  refine ⟨?_, h2⟩
  rw [h1]
  show -100 - (nI (60 * kk + x) - nI (60 * kk + ii)) = _
  rw [pk_sub (by omega), show 60 * kk + x - (60 * kk + ii) = x - ii by omega]
theorem lk_good (hf : ∀ x, x < 60 → u.2 4 (60 * kk + x) = G x) (he : ii + nn ≤ 60) (hl : lakeP G (ii + nn) ii = ((x, true), (w, (hh, m)))) (h : LkT u (60 * kk + ii) nn v u2) : v = nI m ∧ SameL u u2 ∧ TkD u2 (u.2 4) (60 * kk + ii + nn) (60 * kk + ii) w hh m := by
  have e1 : lakeP (u.2 4) (60 * kk + ii + nn) (60 * kk + ii) = ((60 * kk + (lakeP G (ii + nn) ii).1.1, (lakeP G (ii + nn) ii).1.2), (lakeP G (ii + nn) ii).2) := by rw [Nat.add_assoc]; exact lake_sh hf he ii
  unfold LkT at h
  rw [e1, hl, if_pos rfl] at h
  exact h
theorem tL_ag {bs : XH} {c f n a il : Nat} {W : Nat → Int32} {F : Nat → Option Nat} : Ag (fun k => k = 2 ∨ k = sp ∨ k = sp + 1 ∨ k = sp + 2) h (tL (h ++ bs) c f n sp (sp + 1) (sp + 2) a w il hh m W F) := ((((Ag.rf.push).set (Or.inl rfl)).set (Or.inr (Or.inl rfl))).set (Or.inr (Or.inr (Or.inl rfl)))).set (Or.inr (Or.inr (Or.inr rfl)))
theorem s_lake (p0 : SimP h u wy nw wt sp isl bp L wn nr rb rh rc ln sz g) (h86 : 86 ≤ h.length) (sh sort i n : Int32) : Con M_X11_lake [.ref 0, .int sh, .int sort, .int i, .int n] h (SQ h (fun q2 u2 => ∃ v, q2 = some (.int v) ∧ LkA u sh sort i n v u2)) := by
  have p := p0.flt 0
  have hU := p.2.2.2.2
  have hw := p.1.1.2.1
  have hS := p.1.2.2.2.2.2.2.2.2.2.2
  obtain ⟨sf, s1, s2⟩ := id hS
  have ag0 : ∀ x, Ag (fun k => k < 67) h (h.set 0 (cwO wy nw wt sp x)) := fun x => Ag.rf.set (by decide)
  have same1 : ∀ x v0 : Int32, (∀ v u2, LkA u sh sort i n v u2 → v = v0 ∧ u2 = m0 u x) → SQ h (fun q2 u2 => ∃ v, q2 = some (.int v) ∧ LkA u sh sort i n v u2) (some (.int v0)) (h.set 0 (cwO wy nw wt sp x)) := by
    intro x v0 e
    refine ⟨ag0 x, ?_⟩
    rintro q2 u2 ⟨v, rfl, hv⟩
    obtain ⟨rfl, rfl⟩ := e v u2 hv
    exact ⟨rfl, (p0.flt x).sim⟩
  refine Con.of rfl (nb rfl) ?_
  by_cases q1 : 0 ≤ sh ∧ sh ≤ 3
  · obtain ⟨kk, hk, rfl⟩ := shN q1
    have ek : (nI kk).toNatClampNeg = kk := nI_clamp (by omega)
    obtain ⟨s3, s4, s5⟩ := s2 kk hk
    obtain ⟨u1, ⟨ll, l1, l2, l3⟩, u3⟩ := hU kk hk
    have l2 : u.2 3 kk = nI ll := l2
    rw [l3] at s4
    have em : mAgainst (u.2 2 kk) (u.2 3 kk) sort i n = ftC (ln kk) (nI ll) sort i n := by rw [l2]; exact ag_ft u1
    by_cases q2 : 0 ≤ sort ∧ sort ≤ 2
    · by_cases q3 : ftC (ln kk) (nI ll) sort i n = 0
      · obtain ⟨ii, nn, rfl, rfl, hii⟩ := mAgainst_0n l1 (show mAgainst (u.2 2 kk) (nI ll) sort i n = 0 by rw [← l2, em]; exact q3)
        have he : ii + nn ≤ 60 := by omega
        have ei : (nI ii).toNatClampNeg = ii := nI_clamp (by omega)
        have en : (nI nn).toNatClampNeg = nn := nI_clamp (by omega)
        have eA : ∀ v u2, LkA u (nI kk) sort (nI ii) (nI nn) v u2 → LkT (m0 u 0) (60 * kk + ii) nn v u2 := fun v u2 hv => by
          unfold LkA at hv
          rw [if_pos q1, if_pos q2, ek, em, if_pos q3, ei, en] at hv
          exact hv
        have hf : ∀ x, x < 60 → (m0 u 0).2 4 (60 * kk + x) = g kk x := u3
        have hB : TxB (h.set 0 (cwO wy nw wt sp 0)) (60 + 2 * kk) sp (sp + 1) (sp + 2) (g kk) := ⟨p.1.2.2.2.2.2.2.2.2.2.1, p.1.2.2.1.1, p.1.2.2.1.2.1, p.1.2.2.1.2.2, s5⟩
        have hl0 : 86 ≤ (h.set 0 (cwO wy nw wt sp 0)).length := by rw [List.length_set]; exact h86
        have K119 : ∀ (cu su a w il hh m : Nat) (bs : XH) (W : Nat → Int32) (F : Nat → Option Nat), cu ≤ M_X11_lake.2.2.2.2.cells → su ≤ M_X11_lake.2.2.2.2.slots → (∀ v u2, LkT (m0 u 0) (60 * kk + ii) nn v u2 → v = -100 - nI a ∧ SameE (m0 u 0) u2) →
            T M_X11_lake x_E (x_Z M_X11_lake (SQ h (fun q2 u2 => ∃ v, q2 = some (.int v) ∧ LkA u (nI kk) sort (nI ii) (nI nn) v u2))) cu su 119 [(0, .ref 0), (1, .int (nI kk)), (2, .int sort), (3, .int (nI ii)), (4, .int (nI nn)), (5, .ref (59 + 2 * kk)), (6, .int 0)] [] (tL (h.set 0 (cwO wy nw wt sp 0) ++ bs) (60 + 2 * kk) ii nn sp (sp + 1) (sp + 2) a w il hh m W F) := by
          intro cu su a w il hh m bs W F hcu hsu H
          have hgT := tL_ag (h := h.set 0 (cwO wy nw wt sp 0)) (bs := bs) (c := 60 + 2 * kk) (f := ii) (n := nn) (sp := sp) (a := a) (w := w) (il := il) (hh := hh) (m := m) (W := W) (F := F)
          obtain ⟨t2, ts, tw, tf, tc⟩ := tL_all (f := ii) (n := nn) (a := a) (w := w) (il := il) (hh := hh) (nb := m) (W := W) (F := F) (hB.push bs)
          have t0 := hgT.at p.1.1.1 (by omega)
          refine T_bipush (v := (-100)) dX11_lake_119 (by decide) ?_
          refine T_aload_n dX11_lake_121 rfl ?_
          refine T_get dX11_lake_122 fl_X11_20_11 t0 rfl ?_
          refine T_get dX11_lake_125 fl_X11_112_7 t2 rfl ?_
          refine T_isub dX11_lake_128 ?_
          refine T_iret dX11_lake_129 rfl hcu hsu ?_
          refine ⟨(ag0 0).trans (hgT.mono (fun k hk => by omega)), ?_⟩
          rintro q2 u2 ⟨v, rfl, hv⟩
          obtain ⟨rfl, e2⟩ := H v u2 (eA v u2 hv)
          exact ⟨rfl, ((p.spr hgT ⟨_, _, _, _, t2⟩ ⟨⟨_, _, _, _, ts⟩, ⟨W, tw⟩, F, tf⟩).same e2).sim⟩
        obtain ⟨⟨x1, x2, x3, x4, hx0⟩, ⟨y1, y2, y3, y4, hsp⟩, ⟨W0, hW0⟩, ⟨F0, hF0⟩, -⟩ := id hB
        have e1 : ((h.set 0 (cwO wy nw wt sp 0)).set 2 (txO 0 (60 + 2 * kk) ii nn)).set sp (lkO 0 0 0 0 (sp + 1) (sp + 2)) = tL (h.set 0 (cwO wy nw wt sp 0)) (60 + 2 * kk) ii nn sp (sp + 1) (sp + 2) 0 0 0 0 0 W0 F0 := by
          have a1 : (((h.set 0 (cwO wy nw wt sp 0)).set 2 (txO 0 (60 + 2 * kk) ii nn)).set sp (lkO 0 0 0 0 (sp + 1) (sp + 2)))[sp + 1]? = some (r10 W0) := (gs_ne (by omega)).trans ((gs_ne (by omega)).trans hW0)
          have a2 : (((h.set 0 (cwO wy nw wt sp 0)).set 2 (txO 0 (60 + 2 * kk) ii nn)).set sp (lkO 0 0 0 0 (sp + 1) (sp + 2)))[sp + 2]? = some (flO F0) := (gs_ne (by omega)).trans ((gs_ne (by omega)).trans hF0)
          unfold tL
          rw [← gs_id a1]
          exact gs_id a2
        have tt : ∀ (a w il hh m : Nat) (W : Nat → Int32) (F : Nat → Option Nat), (tL (h.set 0 (cwO wy nw wt sp 0)) (60 + 2 * kk) ii nn sp (sp + 1) (sp + 2) a w il hh m W F)[0]? = some (cwO wy nw wt sp 0) ∧ (tL (h.set 0 (cwO wy nw wt sp 0)) (60 + 2 * kk) ii nn sp (sp + 1) (sp + 2) a w il hh m W F)[2]? = some (txO a (60 + 2 * kk) ii nn) := fun a w il hh m W F => by
          have hgT := tL_ag (h := h.set 0 (cwO wy nw wt sp 0)) (bs := []) (c := 60 + 2 * kk) (f := ii) (n := nn) (sp := sp) (a := a) (w := w) (il := il) (hh := hh) (m := m) (W := W) (F := F)
          rw [List.append_nil] at hgT
          exact ⟨hgT.at p.1.1.1 (by omega), (tL_all hB).1⟩
        refine T_aload_n dX11_lake_0 rfl ?_
        refine T_iconst (v := 0) dX11_lake_1 (by decide) ?_
        refine T_put dX11_lake_2 fp_X11_72_11 p0.1.1.1 (nb rfl) (fun _ => ⟨rfl, rfl⟩) ?_
        refine T_iload_n dX11_lake_5 rfl ?_
        refine T_s1e (cu2 := 0) (su2 := 0) dX11_lake_6 ls_X11_77 rfl (c_X11_isSheet _) (nb rfl) (nb rfl) (nb rfl) (nb rfl) (nb rfl) ?_
        refine T_if_neB (tgt := 14) dX11_lake_9 (by decide) (fun c9 => ?_) (fun c9 => ?_)
        · refine T_iload_n dX11_lake_14 rfl ?_
          refine T_s1e (cu2 := 0) (su2 := 0) dX11_lake_15 ls_X11_81 rfl (c_X11_isLane _) (nb rfl) (nb rfl) (nb rfl) (nb rfl) (nb rfl) ?_
          refine T_if_neB (tgt := 24) dX11_lake_18 (by decide) (fun c18 => ?_) (fun c18 => ?_)
          · refine T_aload_n dX11_lake_24 rfl ?_
            refine T_get dX11_lake_25 fl_X11_13_11 p.1.1.1 rfl ?_
            refine T_iload_n dX11_lake_28 rfl ?_
            refine T_aald3 dX11_lake_29 s1 (nI_in (by omega) (by decide)) (by rw [ek]; exact s3) ?_
            refine T_astore dX11_lake_30 (by decide) rfl ?_
            refine T_aload dX11_lake_32 rfl ?_
            refine T_iload_n dX11_lake_34 rfl ?_
            refine T_iload_n dX11_lake_35 rfl ?_
            refine T_iload dX11_lake_36 rfl ?_
            refine T_s4e (cu2 := 0) (su2 := 0) dX11_lake_38 ls_X11_84 rfl (c_X11_faultOfText s4 _ _ _) (nb rfl) (nb rfl) (nb rfl) (nb rfl) (nb rfl) ?_
            refine T_top q3 ?_
            refine T_istore dX11_lake_41 (by decide) rfl ?_
            refine T_iload dX11_lake_43 rfl ?_
            refine T_if_eq (tgt := 55) dX11_lake_45 (by decide) (fun c45 => ?_) (fun c45 => ?_)
            · refine T_aload_n dX11_lake_55 rfl ?_
              refine T_get dX11_lake_56 fl_X11_20_11 p.1.1.1 rfl ?_
              refine T_aload dX11_lake_59 rfl ?_
              refine T_get dX11_lake_61 fl_X11_92_5 s4 rfl ?_
              refine T_iload_n dX11_lake_64 rfl ?_
              refine T_iload dX11_lake_65 rfl ?_
              refine T_v3e (cu2 := 0) (su2 := 0) dX11_lake_67 lv_X11_95 rfl hx0 rfl (c_X7_begin hx0) (nb rfl) (nb rfl) (nb rfl) (nb rfl) (nb rfl) ?_
              refine T_aload_n dX11_lake_70 rfl ?_
              refine T_get dX11_lake_71 fl_X11_69_11 ((gs_ne (by decide)).trans p.1.1.1) rfl ?_
              refine T_v0e (cu2 := 0) (su2 := 0) dX11_lake_74 lv_X11_99 rfl ((gs_ne (by omega)).trans hsp) rfl (c_X1_drain ((gs_ne (by omega)).trans hsp)) (nb rfl) (nb rfl) (nb rfl) (nb rfl) (nb rfl) ?_
              refine T_h e1 ?_
              refine T_aload_n dX11_lake_77 rfl ?_
              refine T_get dX11_lake_78 fl_X11_20_11 (tt _ _ _ _ _ _ _).1 rfl ?_
              refine T_aload_n dX11_lake_81 rfl ?_
              refine T_get dX11_lake_82 fl_X11_69_11 (tt _ _ _ _ _ _ _).1 rfl ?_
              refine T_v1q (cu2 := 0) (su2 := 0) dX11_lake_85 lv_X11_102 rfl (tt _ _ _ _ _ _ _).2 rfl (c_X7_readWater hB he) (nb rfl) (nb rfl) (nb rfl) (nb rfl) (nb rfl) (fun r85 h85 q85 => ?_)
              obtain ⟨w, il, rfl, rfl, r1, r2⟩ := q85
              refine T_if_eqB (tgt := 119) dX11_lake_88 (by decide) (fun c88 => ?_) (fun c88 => ?_)
              · first
                  | (refine K119 3 9 (x - ii) w il hh mb bs W F (nb rfl) (nb rfl) (fun v u2 hv => ?_)
                     have c116 : ok = false := Bool.not_eq_true _ ▸ c116
                     exact lk_bad (x := x) hf he (by rw [elk, c116]) b1 hv)
                  | (refine T_h (h2 := tL (h.set 0 (cwO wy nw wt sp 0) ++ []) (60 + 2 * kk) ii nn sp (sp + 1) (sp + 2) (2 + w + hh) w il hh 0 W F0) (by rw [List.append_nil]) (K119 0 0 _ w il hh 0 [] W F0 (nb rfl) (nb rfl) (fun v u2 hv => ?_))
                     have hz : hh = 0 := Decidable.not_not.mp c102
                     have := lk_bad (x := ii + 2 + w) hf he (by rw [lake_rw, if_pos c88, if_pos (ehh2.trans hz), w1]) (by omega) hv
                     rw [show ii + 2 + w - ii = 2 + w + hh by omega] at this
                     exact this)
                  | (refine T_h (h2 := tL (h.set 0 (cwO wy nw wt sp 0) ++ []) (60 + 2 * kk) ii nn sp (sp + 1) (sp + 2) ((rwP (g kk) (ii + nn) ii).1 - ii) w il 0 0 W0 F0) (by rw [List.append_nil]) (K119 0 0 _ w il 0 0 [] W0 F0 (nb rfl) (nb rfl) (fun v u2 hv => ?_))
                     exact lk_bad hf he (by rw [lake_rw, if_neg c88]) (rwP_ge _ _ _) hv)
              · obtain ⟨w1, w2, w3, w4, hil⟩ := r2 c88
                have ea : (rwP (g kk) (ii + nn) ii).1 - ii = 2 + w := by omega
                refine T_h (h2 := tL (h.set 0 (cwO wy nw wt sp 0)) (60 + 2 * kk) ii nn sp (sp + 1) (sp + 2) (2 + w) w il 0 0 W0 F0) (by rw [ea]) ?_
                refine T_aload_n dX11_lake_91 rfl ?_
                refine T_get dX11_lake_92 fl_X11_20_11 (tt _ _ _ _ _ _ _).1 rfl ?_
                refine T_aload_n dX11_lake_95 rfl ?_
                refine T_get dX11_lake_96 fl_X11_69_11 (tt _ _ _ _ _ _ _).1 rfl ?_
                refine T_v1q (cu2 := 0) (su2 := 0) dX11_lake_99 lv_X11_106 rfl (tt _ _ _ _ _ _ _).2 rfl (c_X7_readWinds hB he (by omega)) (nb rfl) (nb rfl) (nb rfl) (nb rfl) (nb rfl) (fun r99 h99 q99 => ?_)
                obtain ⟨W, rfl, rfl, r3, r4, r5⟩ := q99
                generalize ehh : wndP (g kk) (ii + nn) 10 (ii + (2 + w)) = hh at r3 r4 r5 ⊢
                have ehh2 : wndP (g kk) (ii + nn) 10 (ii + 2 + wdP (g kk) (ii + 1)) = hh := by rw [← w1, ← ehh, Nat.add_assoc]
                refine T_if_eqB (tgt := 119) dX11_lake_102 (by decide) (fun c102 => ?_) (fun c102 => ?_)
                · first
                    | (refine K119 3 9 (x - ii) w il hh mb bs W F (nb rfl) (nb rfl) (fun v u2 hv => ?_)
                       have c116 : ok = false := Bool.not_eq_true _ ▸ c116
                       exact lk_bad (x := x) hf he (by rw [elk, c116]) b1 hv)
                    | (refine T_h (h2 := tL (h.set 0 (cwO wy nw wt sp 0) ++ []) (60 + 2 * kk) ii nn sp (sp + 1) (sp + 2) (2 + w + hh) w il hh 0 W F0) (by rw [List.append_nil]) (K119 0 0 _ w il hh 0 [] W F0 (nb rfl) (nb rfl) (fun v u2 hv => ?_))
                       have hz : hh = 0 := Decidable.not_not.mp c102
                       have := lk_bad (x := ii + 2 + w) hf he (by rw [lake_rw, if_pos c88, if_pos (ehh2.trans hz), w1]) (by omega) hv
                       rw [show ii + 2 + w - ii = 2 + w + hh by omega] at this
                       exact this)
                    | (refine T_h (h2 := tL (h.set 0 (cwO wy nw wt sp 0) ++ []) (60 + 2 * kk) ii nn sp (sp + 1) (sp + 2) ((rwP (g kk) (ii + nn) ii).1 - ii) w il 0 0 W0 F0) (by rw [List.append_nil]) (K119 0 0 _ w il 0 0 [] W0 F0 (nb rfl) (nb rfl) (fun v u2 hv => ?_))
                       exact lk_bad hf he (by rw [lake_rw, if_neg c88]) (rwP_ge _ _ _) hv)
                · refine T_aload_n dX11_lake_105 rfl ?_
                  refine T_get dX11_lake_106 fl_X11_20_11 (tt _ _ _ _ _ _ _).1 rfl ?_
                  refine T_aload_n dX11_lake_109 rfl ?_
                  refine T_get dX11_lake_110 fl_X11_69_11 (tt _ _ _ _ _ _ _).1 rfl ?_
                  refine T_v1q (cu2 := 3) (su2 := 9) dX11_lake_113 lv_X11_109 rfl (tt _ _ _ _ _ _ _).2 rfl (c_X7_readBoats hB he r3) (nb rfl) (nb rfl) (nb rfl) (nb rfl) (nb rfl) (fun r113 h113 q113 => ?_)
                  obtain ⟨bs, F, mb, rfl, rfl, b1, b2, b3⟩ := q113
                  generalize ebt : btsP (g kk) (ii + nn) 3 0 (ii + (2 + w + hh)) = bt at b1 b2 b3 ⊢
                  obtain ⟨m1, x, ok⟩ := bt
                  have ebt2 : btsP (g kk) (ii + nn) 3 0 (ii + 2 + wdP (g kk) (ii + 1) + hh) = (m1, (x, ok)) := by rw [← w1, ← ebt, Nat.add_assoc, Nat.add_assoc, Nat.add_assoc]
                  have elk : lakeP (g kk) (ii + nn) ii = ((x, ok), (w, (hh, m1))) := by rw [lake_rw, if_pos c88, ehh2, if_neg c102, ebt2, ← w1]
                  have hgT := tL_ag (h := h.set 0 (cwO wy nw wt sp 0)) (bs := bs) (c := 60 + 2 * kk) (f := ii) (n := nn) (sp := sp) (a := x - ii) (w := w) (il := il) (hh := hh) (m := mb) (W := W) (F := F)
                  obtain ⟨t2, ts, tw, tf, tc⟩ := tL_all (f := ii) (n := nn) (a := x - ii) (w := w) (il := il) (hh := hh) (nb := mb) (W := W) (F := F) (hB.push bs)
                  have t0 := hgT.at p.1.1.1 (by omega)
                  refine T_if_neB (tgt := 130) dX11_lake_116 (by decide) (fun c116 => ?_) (fun c116 => ?_)
                  · have c116 : ok = true := c116
                    subst c116
                    obtain ⟨z1, z2, z3, z4, z5⟩ := b3 rfl
                    have z1 : mb = m1 := z1
                    subst z1
                    rw [show ii + (2 + w + hh) = ii + 2 + w + hh by omega] at z4 z5
                    obtain ⟨y0, rs, h10⟩ : ∃ (y0 : Int32) (rs : List Value), (h.set 0 (cwO wy nw wt sp 0))[10]? = some (.inr (4, .int y0 :: rs)) := by
                      obtain ⟨A, sg, R, hA, e, -, -⟩ := p.1.2.2.2.2.2.1
                      rw [e]
                      exact ⟨_, _, sH_get (k := 0) hA rfl⟩
                    have h10b := hgT.at h10 (by omega)
                    have h4b := hgT.at p.1.2.2.2.1.1 (by omega)
                    refine T_aload_n dX11_lake_130 rfl ?_
                    refine T_v0e (cu2 := 3) (su2 := 9) dX11_lake_131 lv_X11_115 rfl t0 rfl (c_X11_takeSpareWater (x1 := 0) (x2 := 0) t0 h4b h10b) (nb rfl) (nb rfl) (nb rfl) (nb rfl) (nb rfl) ?_
                    refine T_aload_n dX11_lake_134 rfl ?_
                    refine T_get dX11_lake_135 fl_X11_65_11 ((gs_ne (by decide)).trans ((gs_ne (by decide)).trans (gs_eq t0))) rfl ?_
                    refine T_get dX11_lake_138 fl_X11_118_1 ((gs_ne (by omega)).trans ((gs_ne (by omega)).trans ((gs_ne (by omega)).trans ts))) rfl ?_
                    refine T_iret dX11_lake_141 rfl (nb rfl) (nb rfl) ?_
                    refine ⟨(ag0 0).trans ((hgT.mono (fun k hk => by omega)).trans (((Ag.rf.set (by decide)).set (by decide)).set (by decide))), ?_⟩
                    rintro q2 u2 ⟨v, rfl, hv⟩
                    obtain ⟨rfl, sl, td⟩ := lk_good hf he elk (eA v u2 hv)
                    exact ⟨rfl, (p.tak hl0 hB ⟨w2, w3⟩ r4 z3 he (by omega) hil (fun k hk => by rw [show ii + 2 + w = ii + (2 + w) by omega]; exact r5 k hk) z4 z5 hk hf td sl h10b rfl).sim⟩
                  · first
                      | (refine K119 3 9 (x - ii) w il hh mb bs W F (nb rfl) (nb rfl) (fun v u2 hv => ?_)
                         have c116 : ok = false := Bool.not_eq_true _ ▸ c116
                         exact lk_bad (x := x) hf he (by rw [elk, c116]) b1 hv)
                      | (refine T_h (h2 := tL (h.set 0 (cwO wy nw wt sp 0) ++ []) (60 + 2 * kk) ii nn sp (sp + 1) (sp + 2) (2 + w + hh) w il hh 0 W F0) (by rw [List.append_nil]) (K119 0 0 _ w il hh 0 [] W F0 (nb rfl) (nb rfl) (fun v u2 hv => ?_))
                         have hz : hh = 0 := Decidable.not_not.mp c102
                         have := lk_bad (x := ii + 2 + w) hf he (by rw [lake_rw, if_pos c88, if_pos (ehh2.trans hz), w1]) (by omega) hv
                         rw [show ii + 2 + w - ii = 2 + w + hh by omega] at this
                         exact this)
                      | (refine T_h (h2 := tL (h.set 0 (cwO wy nw wt sp 0) ++ []) (60 + 2 * kk) ii nn sp (sp + 1) (sp + 2) ((rwP (g kk) (ii + nn) ii).1 - ii) w il 0 0 W0 F0) (by rw [List.append_nil]) (K119 0 0 _ w il 0 0 [] W0 F0 (nb rfl) (nb rfl) (fun v u2 hv => ?_))
                         exact lk_bad hf he (by rw [lake_rw, if_neg c88]) (rwP_ge _ _ _) hv)
            · exact absurd rfl c45
          · exact absurd q2 c18
        · exact absurd q1 c9
      · refine T_aload_n dX11_lake_0 rfl ?_
        refine T_iconst (v := 0) dX11_lake_1 (by decide) ?_
        refine T_put dX11_lake_2 fp_X11_72_11 p0.1.1.1 (nb rfl) (fun _ => ⟨rfl, rfl⟩) ?_
        refine T_iload_n dX11_lake_5 rfl ?_
        refine T_s1e (cu2 := 0) (su2 := 0) dX11_lake_6 ls_X11_77 rfl (c_X11_isSheet _) (nb rfl) (nb rfl) (nb rfl) (nb rfl) (nb rfl) ?_
        refine T_if_neB (tgt := 14) dX11_lake_9 (by decide) (fun c9 => ?_) (fun c9 => ?_)
        · refine T_iload_n dX11_lake_14 rfl ?_
          refine T_s1e (cu2 := 0) (su2 := 0) dX11_lake_15 ls_X11_81 rfl (c_X11_isLane _) (nb rfl) (nb rfl) (nb rfl) (nb rfl) (nb rfl) ?_
          refine T_if_neB (tgt := 24) dX11_lake_18 (by decide) (fun c18 => ?_) (fun c18 => ?_)
          · refine T_aload_n dX11_lake_24 rfl ?_
            refine T_get dX11_lake_25 fl_X11_13_11 p.1.1.1 rfl ?_
            refine T_iload_n dX11_lake_28 rfl ?_
            refine T_aald3 dX11_lake_29 s1 (nI_in (by omega) (by decide)) (by rw [ek]; exact s3) ?_
            refine T_astore dX11_lake_30 (by decide) rfl ?_
            refine T_aload dX11_lake_32 rfl ?_
            refine T_iload_n dX11_lake_34 rfl ?_
            refine T_iload_n dX11_lake_35 rfl ?_
            refine T_iload dX11_lake_36 rfl ?_
            refine T_s4e (cu2 := 0) (su2 := 0) dX11_lake_38 ls_X11_84 rfl (c_X11_faultOfText s4 _ _ _) (nb rfl) (nb rfl) (nb rfl) (nb rfl) (nb rfl) ?_
            refine T_istore dX11_lake_41 (by decide) rfl ?_
            refine T_iload dX11_lake_43 rfl ?_
            refine T_if_eq (tgt := 55) dX11_lake_45 (by decide) (fun c45 => ?_) (fun c45 => ?_)
            · exact absurd c45 q3
            · refine T_aload_n dX11_lake_48 rfl ?_
              refine T_iload dX11_lake_49 rfl ?_
              refine T_v1e (cu2 := 0) (su2 := 0) dX11_lake_51 lv_X11_88 rfl p.1.1.1 rfl (c_X11_faulted p.1.1.1 _) (nb rfl) (nb rfl) (nb rfl) (nb rfl) (nb rfl) ?_
              refine T_h (List.set_set ..) ?_
              refine T_iret dX11_lake_54 rfl (nb rfl) (nb rfl) ?_
              exact same1 _ _ (fun v u2 hv => by unfold LkA at hv; rw [if_pos q1, if_pos q2, ek, em, if_neg q3] at hv; exact hv)
          · exact absurd q2 c18
        · exact absurd q1 c9
    · refine T_aload_n dX11_lake_0 rfl ?_
      refine T_iconst (v := 0) dX11_lake_1 (by decide) ?_
      refine T_put dX11_lake_2 fp_X11_72_11 p0.1.1.1 (nb rfl) (fun _ => ⟨rfl, rfl⟩) ?_
      refine T_iload_n dX11_lake_5 rfl ?_
      refine T_s1e (cu2 := 0) (su2 := 0) dX11_lake_6 ls_X11_77 rfl (c_X11_isSheet _) (nb rfl) (nb rfl) (nb rfl) (nb rfl) (nb rfl) ?_
      refine T_if_neB (tgt := 14) dX11_lake_9 (by decide) (fun c9 => ?_) (fun c9 => ?_)
      · refine T_iload_n dX11_lake_14 rfl ?_
        refine T_s1e (cu2 := 0) (su2 := 0) dX11_lake_15 ls_X11_81 rfl (c_X11_isLane _) (nb rfl) (nb rfl) (nb rfl) (nb rfl) (nb rfl) ?_
        refine T_if_neB (tgt := 24) dX11_lake_18 (by decide) (fun c18 => ?_) (fun c18 => ?_)
        · exact absurd c18 q2
        · refine T_bipush (v := (-2)) dX11_lake_21 (by decide) ?_
          refine T_iret dX11_lake_23 rfl (nb rfl) (nb rfl) ?_
          exact same1 _ _ (fun v u2 hv => by unfold LkA at hv; rw [if_pos q1, if_neg q2] at hv; exact hv)
      · exact absurd q1 c9
  · refine T_aload_n dX11_lake_0 rfl ?_
    refine T_iconst (v := 0) dX11_lake_1 (by decide) ?_
    refine T_put dX11_lake_2 fp_X11_72_11 p0.1.1.1 (nb rfl) (fun _ => ⟨rfl, rfl⟩) ?_
    refine T_iload_n dX11_lake_5 rfl ?_
    refine T_s1e (cu2 := 0) (su2 := 0) dX11_lake_6 ls_X11_77 rfl (c_X11_isSheet _) (nb rfl) (nb rfl) (nb rfl) (nb rfl) (nb rfl) ?_
    refine T_if_neB (tgt := 14) dX11_lake_9 (by decide) (fun c9 => ?_) (fun c9 => ?_)
    · exact absurd c9 q1
    · refine T_iconst (v := (-1)) dX11_lake_12 (by decide) ?_
      refine T_iret dX11_lake_13 rfl (nb rfl) (nb rfl) ?_
      exact same1 _ _ (fun v u2 hv => by unfold LkA at hv; rw [if_neg q1] at hv; exact hv)
end L4
