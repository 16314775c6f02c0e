/-! plans beside the reference's -/
section C75
variable {h h1 : XH} {u : MSt} {L : LK} {wn : Nat → Nat} {wy nw wt sp isl nr : Nat} {bp rb rh rc : Nat → Nat} {ln sz : Nat → Int32} {g : Nat → Nat → Int32}
theorem ag_ft {s lane len sort i n : Int32} (hu : (s = -9 ∧ lane = -1) ∨ ∃ k, k ≤ 2 ∧ s = nI k ∧ lane = nI k) : mAgainst s len sort i n = ftC lane len sort i n := by
  unfold mAgainst ftC shF
  rcases hu with ⟨a, b⟩ | ⟨k, k1, a, b⟩
  · rw [if_neg (fun q => q.1 a), if_pos a, if_pos b, if_neg (by decide)]
  · have d : ¬ nI k = -1 := by rcases (show k = 0 ∨ k = 1 ∨ k = 2 by omega) with rfl | rfl | rfl <;> decide
    have d9 : ¬ nI k = -9 := nI_m9 (by omega)
    rw [a, b, if_neg d]
    by_cases y : nI k = sort
    · rw [if_neg (fun q => q.2 y), if_neg d9, if_pos y, if_pos rfl]
      by_cases z : n < 0
      · rw [if_pos z, if_pos z]
      · rw [if_neg z, if_neg z]
        by_cases w : shH len i n
        · rw [if_pos w, if_neg]
          rintro (q | q | q)
          · exact Int32.not_lt.mpr w.2.1 q
          · exact Int32.not_lt.mpr w.2.2.1 q
          · exact Int32.not_lt.mpr w.2.2.2 q
        · rw [if_neg w, if_pos]
          by_cases q1 : i < 0
          · exact Or.inl q1
          by_cases q2 : len < i
          · exact Or.inr (Or.inl q2)
          by_cases q3 : len - i < n
          · exact Or.inr (Or.inr q3)
          exact absurd ⟨Int32.not_lt.mp z, Int32.not_lt.mp q1, Int32.not_lt.mp q2, Int32.not_lt.mp q3⟩ w
    · rw [if_pos ⟨d9, y⟩, if_neg y, if_neg (by decide)]
theorem ft_to {lane len sort i : Int32} {nn : Nat} (hn : nn < 2 ^ 31) : ftC lane len sort i (nI nn) = toF lane len sort i (nI nn) := by
  unfold ftC toF
  rw [if_neg (nI_pos hn)]
theorem m0_id (u : MSt) : m0 u (u.1 0) = u := by
  show (va_up u.1 0 (u.1 0), u.2) = u
  rw [← va_upS]
/-- orders that are taken beside a plan that is laid -/
theorem Tk_Ly {kk nn : Nat} {sort i v lf2 x : Int32} {O2 : Nat → Int32} {u2 : MSt} (hU : ShU u ln sz g) (hk : kk < 4) (hn : nn ≤ 10) (hT : TkR L (ln kk) (sz kk) (g kk) sort i nn v (u.1 0) lf2 O2) (hL : LyQ L u kk sort i nn x u2) : x = v ∧ SameE (m0 u lf2) u2 := by
  obtain ⟨u1, ⟨ll, l1, l2, l3⟩, u3⟩ := hU kk hk
  have e : mAgainst (u.2 2 kk) (u.2 3 kk) sort i (nI nn) = toF (ln kk) (sz kk) sort i (nI nn) := by rw [l2, l3, ag_ft u1, ft_to (by omega)]
  unfold LyQ at hL
  unfold TkR at hT
  rw [e] at hL
  by_cases c : toF (ln kk) (sz kk) sort i (nI nn) = 0
  · rw [if_pos c] at hL hT
    obtain ⟨hT0, hT⟩ := hT
    rw [hT0, m0_id]
    have hh : shH (nI ll) i (nI nn) := by
      rw [l3] at c
      unfold toF at c
      by_cases w : shF (ln kk) sort = 0
      · rw [if_pos w] at c
        by_cases y : shH (nI ll) i (nI nn)
        · exact y
        · rw [if_neg y] at c; exact absurd c (by decide)
      · rw [if_neg w] at c; exact absurd c w
    obtain ⟨ii, rfl, hii⟩ := shH_N l1 hh (by omega)
    have ei : (nI ii).toNatClampNeg = ii := nI_clamp (by omega)
    rw [ei] at hL hT
    have ein : ∀ k, k < nn → (inAll L (u.2 4) (60 * kk + ii) k ↔ inAll L (g kk) ii k) := fun k hk2 => by
      unfold inAll
      rw [Nat.add_assoc, u3 (ii + k) (by omega)]
    unfold LyR at hL
    by_cases z0 : L_n L = 0
    · rw [if_pos z0] at hL hT
      rw [hL.1, hL.2, hT]
      exact ⟨rfl, SameE.rf⟩
    · rw [if_neg z0] at hL hT
      by_cases z1 : L_h L < nn
      · rw [if_pos z1] at hL hT
        rw [hL.1, hL.2, hT]
        exact ⟨rfl, SameE.rf⟩
      · rw [if_neg z1] at hL hT
        rcases hL with ⟨a1, a2, S, a3, a4⟩ | ⟨a1, ⟨k, a2, a3⟩, S, a4⟩
        · rcases hT with ⟨b1, b2, b3⟩ | ⟨b1, k, b2, b3⟩
          · rw [a1, b1, a3]
            exact ⟨rfl, lay_same S nn⟩
          · exact absurd ((ein k b2).mp (a2 k b2)) b3
        · rcases hT with ⟨b1, b2, b3⟩ | ⟨b1, -⟩
          · exact absurd ((ein k a2).mpr (b2 k a2)) a3
          · rw [a1, b1, a4]
            refine ⟨rfl, fun j hj => ⟨rfl, va_up_ne _ _ (by omega)⟩⟩
  · rw [if_neg c] at hL hT
    rw [hL.1, hL.2, hT.1, hT.2]
    exact ⟨rfl, SameE.rf⟩
theorem SimP.tk (p : SimP h u wy nw wt sp isl bp L wn nr rb rh rc ln sz g) (lf2 : Int32) (O2 : Nat → Int32) : SimP (aH h wy nw wt sp lf2 O2) (m0 u lf2) wy nw wt sp isl bp L wn nr rb rh rc ln sz g := by
  have p2 := p.flt lf2
  obtain ⟨O, o1⟩ := p2.1.2.2.2.2.2.2.2.1
  have hg : Ag (fun k => k = 8 ∨ k = 9 ∨ k = 44) (h.set 0 (cwO wy nw wt sp lf2)) (aH h wy nw wt sp lf2 O2) := Ag.rf.set (Or.inr (Or.inr rfl))
  refine p2.scr hg ?_ ⟨O2, gs_eq o1⟩
  obtain ⟨a, b, c, P, v1, v2⟩ := p2.1.2.2.2.2.1
  exact ⟨a, b, c, P, (gs_ne (by decide)).trans v1, (gs_ne (by decide)).trans v2⟩
theorem Fst_un {p : Nat → Prop} {m : Nat} {a b : Int32} (h1 : Fst p m a) (h2 : Fst p m b) : a = b := by
  rcases h1 with ⟨g, a1, a2, a3, a4⟩ | ⟨a1, a2⟩ <;> rcases h2 with ⟨j, b1, b2, b3, b4⟩ | ⟨b1, b2⟩
  · have : g = j := by
      rcases Nat.lt_trichotomy g j with q | q | q
      · exact absurd a2 (b3 g q)
      · exact q
      · exact absurd b2 (a3 j q)
    rw [a4, b4, this]
  · exact absurd a2 (b1 g a1)
  · exact absurd b2 (a1 j b1)
  · rw [a2, b2]
theorem PnR_un {st : Nat → Nat} {nn : Nat} {what a b : Int32} (h1 : PnR L wn st nn what a) (h2 : PnR L wn st nn what b) : a = b := by
  unfold PnR at h1 h2
  by_cases c0 : what = 0
  · rw [if_pos c0] at h1 h2; rw [h1, h2]
  rw [if_neg c0] at h1 h2
  by_cases c1 : what = 1
  · rw [if_pos c1] at h1 h2; rw [h1, h2]
  rw [if_neg c1] at h1 h2
  by_cases c2 : what = 2
  · rw [if_pos c2] at h1 h2; exact Fst_un h1 h2
  rw [if_neg c2] at h1 h2
  by_cases c3 : what = 3
  · rw [if_pos c3] at h1 h2; exact Fst_un h1 h2
  rw [if_neg c3] at h1 h2
  by_cases c4 : 0 ≤ what - 10 ∧ what - 10 < nI (L_n L)
  · rw [if_pos c4] at h1 h2; rw [h1, h2]
  · rw [if_neg c4] at h1 h2; rw [h1, h2]
/-- the sets of a plan that stands in a sheet -/
abbrev stU (u : MSt) (kk ii : Nat) : Nat → Nat := fun k => (u.2 4 (60 * kk + ii + k)).toNatClampNeg
theorem Tk_0 {kk nn : Nat} {sort i lf2 : Int32} {O2 : Nat → Int32} (hL : LOk L) (hU : ShU u ln sz g) (hk : kk < 4) (hn : nn ≤ 10) (hT : TkR L (ln kk) (sz kk) (g kk) sort i nn 0 (u.1 0) lf2 O2) : lf2 = u.1 0 ∧ ¬ L_n L = 0 ∧ nn ≤ L_h L ∧ ∀ k, k < nn → O2 k = nI (stU u kk i.toNatClampNeg k) ∧ stU u kk i.toNatClampNeg k ≤ allN L := by
  obtain ⟨u1, ⟨ll, l1, l2, l3⟩, u3⟩ := hU kk hk
  unfold TkR at hT
  by_cases c : toF (ln kk) (sz kk) sort i (nI nn) = 0
  · rw [if_pos c] at hT
    obtain ⟨hT0, hT⟩ := hT
    have hh : shH (nI ll) i (nI nn) := by
      rw [l3] at c
      unfold toF at c
      by_cases w : shF (ln kk) sort = 0
      · rw [if_pos w] at c
        by_cases y : shH (nI ll) i (nI nn)
        · exact y
        · rw [if_neg y] at c; exact absurd c (by decide)
      · rw [if_neg w] at c; exact absurd c w
    obtain ⟨ii, rfl, hii⟩ := shH_N l1 hh (by omega)
    have ei : (nI ii).toNatClampNeg = ii := nI_clamp (by omega)
    rw [ei] at hT ⊢
    by_cases z0 : L_n L = 0
    · rw [if_pos z0] at hT; exact absurd hT (by decide)
    · rw [if_neg z0] at hT
      by_cases z1 : L_h L < nn
      · rw [if_pos z1] at hT; exact absurd hT (by decide)
      · rw [if_neg z1] at hT
        rcases hT with ⟨-, b2, b3⟩ | ⟨b1, -⟩
        · refine ⟨hT0, z0, by omega, fun k hk2 => ?_⟩
          have := st_of hL b2 b3 k hk2
          show O2 k = nI ((u.2 4 (60 * kk + ii + k)).toNatClampNeg) ∧ (u.2 4 (60 * kk + ii + k)).toNatClampNeg ≤ _
          rw [Nat.add_assoc, u3 (ii + k) (by omega)]
          exact this
        · exact absurd b1 (by decide)
  · rw [if_neg c] at hT
    have hx : toF (ln kk) (sz kk) sort i (nI nn) = 1 ∨ toF (ln kk) (sz kk) sort i (nI nn) = 2 ∨ toF (ln kk) (sz kk) sort i (nI nn) = 3 := by
      unfold toF shF at c ⊢
      by_cases w : ln kk = -1
      · rw [if_pos w, if_neg (by decide)]; exact Or.inl rfl
      · rw [if_neg w] at c ⊢
        by_cases w2 : ln kk = sort
        · rw [if_pos w2, if_pos rfl] at c ⊢
          by_cases w3 : shH (sz kk) i (nI nn)
          · rw [if_pos w3] at c; exact absurd rfl c
          · rw [if_neg w3]; exact Or.inr (Or.inr rfl)
        · rw [if_neg w2, if_neg (by decide)]; exact Or.inr (Or.inl rfl)
    have h0 := hT.1
    rcases hx with x | x | x <;> rw [x] at h0 <;> exact absurd h0 (by decide)
theorem rr_0 {sh sort n : Int32} (hq : 0 ≤ sh ∧ sh ≤ 3) (hy : (0 ≤ sort ∧ sort ≤ 2) ∧ 0 ≤ n ∧ n ≤ 10) : rrC sh sort n = 0 := by unfold rrC; rw [if_pos hq, if_pos hy]
theorem s_plan (p0 : SimP h u wy nw wt sp isl bp L wn nr rb rh rc ln sz g) (sh sort i n what : Int32) : Con M_X11_plan [.ref 0, .int sh, .int sort, .int i, .int n, .int what] h (SQ h (fun q2 u2 => ∃ v, q2 = some (.int v) ∧ PlA L wn (m0 u 0) sh sort i n what v u2)) := by
  have p := p0.flt 0
  have hL := p.1.2.1.1
  have h3 := hL.2.2.1
  have hU := p.2.2.2.2
  have hS := p.1.2.2.2.2.2.2.2.2.2.2
  obtain ⟨O, o1⟩ := p.1.2.2.2.2.2.2.2.1
  have ag0 : ∀ x, Ag (fun k => k < 67) h (h.set 0 (cwO wy nw wt sp x)) := fun x => Ag.rf.set (by decide)
  have same1 : ∀ v2 : Int32, (∀ v u2, PlA L wn (m0 u 0) sh sort i n what v u2 → v = v2 ∧ u2 = m0 u 0) → SQ h (fun q2 u2 => ∃ v, q2 = some (.int v) ∧ PlA L wn (m0 u 0) sh sort i n what v u2) (some (.int v2)) (h.set 0 (cwO wy nw wt sp 0)) := by
    intro v2 e
    refine ⟨ag0 0, ?_⟩
    rintro q2 u2 ⟨v, rfl, hv⟩
    obtain ⟨rfl, rfl⟩ := e v u2 hv
    exact ⟨rfl, p.sim⟩
  refine Con.of rfl (nb rfl) ?_
  by_cases q : 0 ≤ sh ∧ sh ≤ 3
  · by_cases y : (0 ≤ sort ∧ sort ≤ 2) ∧ 0 ≤ n ∧ n ≤ 10
    · by_cases w : whatOk what
      · obtain ⟨kk, hk, rfl⟩ := shN q
        obtain ⟨nn, hn, rfl⟩ := setN (a := 10) (by decide) y.2
        have ek : (nI kk).toNatClampNeg = kk := nI_clamp (by omega)
        have en : (nI nn).toNatClampNeg = nn := nI_clamp (by omega)
        obtain ⟨-, ⟨ll, l1, -, l3⟩, -⟩ := hU kk hk
        have ePl : ∀ v u2, PlA L wn (m0 u 0) (nI kk) sort i (nI nn) what v u2 → ∃ x u3, LyQ L (m0 u 0) kk sort i nn x u3 ∧ ((¬ x = 0 ∧ v = x ∧ u2 = u3) ∨ (x = 0 ∧ SameE u3 u2 ∧ PnR L wn (stU (m0 u 0) kk i.toNatClampNeg) nn what v)) := fun v u2 hv => by
          unfold PlA at hv
          rw [if_pos q, if_pos ⟨y, w⟩, ek, en] at hv
          exact hv
        refine T_aload_n dX11_plan_0 rfl ?_
        refine T_iconst (v := 0) dX11_plan_1 (by decide) ?_
        refine T_put dX11_plan_2 fp_X11_72_11 p0.1.1.1 (nb rfl) (fun _ => ⟨rfl, rfl⟩) ?_
        refine T_aload_n dX11_plan_5 rfl ?_
        refine T_iload_n dX11_plan_6 rfl ?_
        refine T_iload_n dX11_plan_7 rfl ?_
        refine T_iload dX11_plan_8 rfl ?_
        refine T_v3e (cu2 := 0) (su2 := 0) dX11_plan_10 lv_X11_176 rfl p.1.1.1 rfl (c_X11_refusalOfRow _ _ _) (nb rfl) (nb rfl) (nb rfl) (nb rfl) (nb rfl) ?_
        refine T_top (rr_0 q y) ?_
        refine T_istore dX11_plan_13 (by decide) rfl ?_
        refine T_iload dX11_plan_15 rfl ?_
        refine T_if_eq (tgt := 23) dX11_plan_17 (by decide) (fun c17 => ?_) (fun c17 => ?_)
        · refine T_iload dX11_plan_23 rfl ?_
          refine T_s1e (cu2 := 0) (su2 := 0) dX11_plan_25 ls_X11_180 rfl (c_X11_isQuestion _) (nb rfl) (nb rfl) (nb rfl) (nb rfl) (nb rfl) ?_
          refine T_if_neB (tgt := 34) dX11_plan_28 (by decide) (fun c28 => ?_) (fun c28 => ?_)
          · refine T_aload_n dX11_plan_34 rfl ?_
            refine T_iload_n dX11_plan_35 rfl ?_
            refine T_iload_n dX11_plan_36 rfl ?_
            refine T_iload_n dX11_plan_37 rfl ?_
            refine T_iload dX11_plan_38 rfl ?_
            refine T_v4q (cu2 := 0) (su2 := 0) dX11_plan_40 lv_X11_183 rfl p.1.1.1 rfl (c_X11_takeOrders hL p.1.1.1 p.1.2.1.2.1.1 o1 hS hk l3 l1 hn sort i) (nb rfl) (nb rfl) (nb rfl) (nb rfl) (nb rfl) (fun r40 h40 q40 => ?_)
            obtain ⟨v, lf2, O2, rfl, rfl, hT⟩ := q40
            have pt := p.tk lf2 O2
            refine T_istore dX11_plan_43 (by decide) rfl ?_
            refine T_iload dX11_plan_45 rfl ?_
            refine T_if_eq (tgt := 53) dX11_plan_47 (by decide) (fun c47 => ?_) (fun c47 => ?_)
            · subst c47
              obtain ⟨t1, t2, t3, t4⟩ := Tk_0 (u := m0 u 0) hL hU hk hn hT
              obtain ⟨a0, b0, c0, P0, v1, v2⟩ := pt.1.2.2.2.2.1
              obtain ⟨O3, o3⟩ := id pt.1.2.2.2.2.2.2.2.1
              have o2 : (aH (h.set 0 (cwO wy nw wt sp 0)) wy nw wt sp lf2 O2)[44]? = some (r10 O2) := gs_eq ((gs_ne (by decide)).trans o1)
              have h4 := hL.1
              refine T_aload_n dX11_plan_53 rfl ?_
              refine T_get dX11_plan_54 fl_X11_34_11 pt.1.1.1 rfl ?_
              refine T_aload_n dX11_plan_57 rfl ?_
              refine T_get dX11_plan_58 fl_X11_65_11 pt.1.1.1 rfl ?_
              refine T_aload_n dX11_plan_61 rfl ?_
              refine T_get dX11_plan_62 fl_X11_52_11 pt.1.1.1 rfl ?_
              refine T_iload dX11_plan_65 rfl ?_
              refine T_v3q (cu2 := 0) (su2 := 0) dX11_plan_67 lv_X11_187 rfl v1 rfl (c_X10_sailAll hL pt.1.2.1.2.1 pt.1.2.1.2.2.1 v1 v2 o2 t3 t4) (nb rfl) (nb rfl) (nb rfl) (nb rfl) (nb rfl) (fun r67 h67 q67 => ?_)
              obtain ⟨rfl, P, a, b, c, rfl, r1, r2, r3, r4⟩ := q67
              have hgv : Ag (fun k => k = 8 ∨ k = 9 ∨ k = 44) (aH (h.set 0 (cwO wy nw wt sp 0)) wy nw wt sp lf2 O2) (vH (aH (h.set 0 (cwO wy nw wt sp 0)) wy nw wt sp lf2 O2) 8 9 P a b c) := (Ag.rf.set (Or.inl rfl)).set (Or.inr (Or.inl rfl))
              have pv := pt.scr hgv ⟨a, b, c, P, vH_v v1 v2, vH_c v1 v2⟩ ⟨O2, (gs_ne (by decide)).trans ((gs_ne (by decide)).trans o2)⟩
              refine T_aload_n dX11_plan_70 rfl ?_
              refine T_iload dX11_plan_71 rfl ?_
              refine T_v1q (cu2 := 0) (su2 := 0) dX11_plan_73 lv_X11_191 rfl pv.1.1.1 rfl (PnR_vo hL pv.1.2.1.2.1 pv.1.1.1 (vH_v v1 v2) (vH_c v1 v2) r1 r2 r3 r4) (nb rfl) (nb rfl) (nb rfl) (nb rfl) (nb rfl) (fun r73 h73 q73 => ?_)
              obtain ⟨⟨z, rfl, hz⟩, rfl⟩ := q73
              refine T_iret dX11_plan_76 rfl (nb rfl) (nb rfl) ?_
              refine ⟨(((((ag0 0).set (by decide)).set (by decide)).set (by decide)).set (by decide)), ?_⟩
              rintro q2 u2 ⟨v9, rfl, hv⟩
              obtain ⟨x, u3, a1, a2⟩ := ePl v9 u2 hv
              obtain ⟨rfl, b2⟩ := Tk_Ly (u := m0 u 0) hU hk hn hT a1
              rcases a2 with ⟨a3, -⟩ | ⟨-, a4, a5⟩
              · exact absurd rfl a3
              · exact ⟨by rw [PnR_un a5 hz], ((pv.same b2).same a4).sim⟩
            · refine T_iload dX11_plan_50 rfl ?_
              refine T_iret dX11_plan_52 rfl (nb rfl) (nb rfl) ?_
              refine ⟨((ag0 0).set (by decide)).set (by decide), ?_⟩
              rintro q2 u2 ⟨v2, rfl, hv⟩
              obtain ⟨x, u3, a1, a2⟩ := ePl v2 u2 hv
              obtain ⟨rfl, b2⟩ := Tk_Ly (u := m0 u 0) hU hk hn hT a1
              rcases a2 with ⟨-, rfl, rfl⟩ | ⟨a3, -⟩
              · exact ⟨rfl, (pt.same b2).sim⟩
              · exact absurd a3 c47
          · exact absurd w c28
        · exact absurd rfl c17
      · refine T_aload_n dX11_plan_0 rfl ?_
        refine T_iconst (v := 0) dX11_plan_1 (by decide) ?_
        refine T_put dX11_plan_2 fp_X11_72_11 p0.1.1.1 (nb rfl) (fun _ => ⟨rfl, rfl⟩) ?_
        refine T_aload_n dX11_plan_5 rfl ?_
        refine T_iload_n dX11_plan_6 rfl ?_
        refine T_iload_n dX11_plan_7 rfl ?_
        refine T_iload dX11_plan_8 rfl ?_
        refine T_v3e (cu2 := 0) (su2 := 0) dX11_plan_10 lv_X11_176 rfl p.1.1.1 rfl (c_X11_refusalOfRow _ _ _) (nb rfl) (nb rfl) (nb rfl) (nb rfl) (nb rfl) ?_
        refine T_top (rr_0 q y) ?_
        refine T_istore dX11_plan_13 (by decide) rfl ?_
        refine T_iload dX11_plan_15 rfl ?_
        refine T_if_eq (tgt := 23) dX11_plan_17 (by decide) (fun c17 => ?_) (fun c17 => ?_)
        · refine T_iload dX11_plan_23 rfl ?_
          refine T_s1e (cu2 := 0) (su2 := 0) dX11_plan_25 ls_X11_180 rfl (c_X11_isQuestion _) (nb rfl) (nb rfl) (nb rfl) (nb rfl) (nb rfl) ?_
          refine T_if_neB (tgt := 34) dX11_plan_28 (by decide) (fun c28 => ?_) (fun c28 => ?_)
          · exact absurd c28 w
          · refine T_bipush (v := (-2)) dX11_plan_31 (by decide) ?_
            refine T_iret dX11_plan_33 rfl (nb rfl) (nb rfl) ?_
            exact same1 _ (fun v u2 hv => by unfold PlA at hv; rw [if_pos q, if_neg (fun z => w z.2)] at hv; exact hv)
        · exact absurd rfl c17
    · have er : rrC sh sort n = -2 := by unfold rrC; rw [if_pos q, if_neg y]
      refine T_aload_n dX11_plan_0 rfl ?_
      refine T_iconst (v := 0) dX11_plan_1 (by decide) ?_
      refine T_put dX11_plan_2 fp_X11_72_11 p0.1.1.1 (nb rfl) (fun _ => ⟨rfl, rfl⟩) ?_
      refine T_aload_n dX11_plan_5 rfl ?_
      refine T_iload_n dX11_plan_6 rfl ?_
      refine T_iload_n dX11_plan_7 rfl ?_
      refine T_iload dX11_plan_8 rfl ?_
      refine T_v3e (cu2 := 0) (su2 := 0) dX11_plan_10 lv_X11_176 rfl p.1.1.1 rfl (c_X11_refusalOfRow _ _ _) (nb rfl) (nb rfl) (nb rfl) (nb rfl) (nb rfl) ?_
      refine T_top er ?_
      refine T_istore dX11_plan_13 (by decide) rfl ?_
      refine T_iload dX11_plan_15 rfl ?_
      refine T_if_eq (tgt := 23) dX11_plan_17 (by decide) (fun c17 => ?_) (fun c17 => ?_)
      · exact absurd c17 (by decide)
      · refine T_iload dX11_plan_20 rfl ?_
        refine T_iret dX11_plan_22 rfl (nb rfl) (nb rfl) ?_
        exact same1 _ (fun v u2 hv => by unfold PlA at hv; rw [if_pos q, if_neg (fun z => y z.1)] at hv; exact hv)
  · have er : rrC sh sort n = -1 := by unfold rrC; rw [if_neg q]
    refine T_aload_n dX11_plan_0 rfl ?_
    refine T_iconst (v := 0) dX11_plan_1 (by decide) ?_
    refine T_put dX11_plan_2 fp_X11_72_11 p0.1.1.1 (nb rfl) (fun _ => ⟨rfl, rfl⟩) ?_
    refine T_aload_n dX11_plan_5 rfl ?_
    refine T_iload_n dX11_plan_6 rfl ?_
    refine T_iload_n dX11_plan_7 rfl ?_
    refine T_iload dX11_plan_8 rfl ?_
    refine T_v3e (cu2 := 0) (su2 := 0) dX11_plan_10 lv_X11_176 rfl p.1.1.1 rfl (c_X11_refusalOfRow _ _ _) (nb rfl) (nb rfl) (nb rfl) (nb rfl) (nb rfl) ?_
    refine T_top er ?_
    refine T_istore dX11_plan_13 (by decide) rfl ?_
    refine T_iload dX11_plan_15 rfl ?_
    refine T_if_eq (tgt := 23) dX11_plan_17 (by decide) (fun c17 => ?_) (fun c17 => ?_)
    · exact absurd c17 (by decide)
    · refine T_iload dX11_plan_20 rfl ?_
      refine T_iret dX11_plan_22 rfl (nb rfl) (nb rfl) ?_
      exact same1 _ (fun v u2 hv => by unfold PlA at hv; rw [if_neg q] at hv; exact hv)
end C75
