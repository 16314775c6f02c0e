/-! odds beside the reference's -/
section O4
variable {h : XH} {u : MSt} {L : LK} {wn st : Nat → Nat} {wy nw wt sp isl nr nn : Nat} {bp rb rh rc : Nat → Nat} {lf : Int32} {ln sz : Nat → Int32} {g : Nat → Nat → Int32}
/-- halved while it is even -/
def HvI (m n k a b : Nat) : Prop := ∃ j, j ≤ k ∧ a * 2 ^ j = m ∧ b = 2 ^ (n - j) ∧ (j = k ∨ a % 2 = 1)
theorem HvI.yes {m n k a b : Nat} (h : HvI m n k a b) (hk : k < n) (he : a % 2 = 0) : HvI m n (k + 1) (a / 2) (b / 2) := by
  obtain ⟨j, j1, j2, j3, j4⟩ := h
  have jk : j = k := j4.elim id (fun q => by omega)
  subst jk
  refine ⟨j + 1, Nat.le_refl _, ?_, ?_, Or.inl rfl⟩
  · rw [← j2, Nat.pow_succ, Nat.mul_comm (2 ^ j) 2, ← Nat.mul_assoc]
    congr 1
    omega
  · rw [j3, show n - j = n - (j + 1) + 1 by omega, Nat.pow_succ]
    omega
theorem HvI.no {m n k a b : Nat} (h : HvI m n k a b) (he : ¬ a % 2 = 0) : HvI m n (k + 1) a b := by
  obtain ⟨j, j1, j2, j3, -⟩ := h
  exact ⟨j, by omega, j2, j3, Or.inr (by omega)⟩
theorem HvI.fin {m n a b : Nat} (h : HvI m n n a b) (w : Int32) : leastN w m (2 ^ n) = if w = 0 then a else b := by
  obtain ⟨j, j1, j2, j3, j4⟩ := h
  have hg : Nat.gcd a b = 1 := by
    rcases j4 with rfl | j4
    · rw [j3, Nat.sub_self, Nat.pow_zero, Nat.gcd_one_right]
    · rw [j3]; exact gcd_odd j4 _
  obtain ⟨e1, e2⟩ := half_g j2 (show b * 2 ^ j = 2 ^ n by rw [j3, ← Nat.pow_add]; congr 1; omega) hg
  unfold leastN
  by_cases c : w = 0
  · rw [if_pos c, if_pos c, e1]
  · rw [if_neg c, if_neg c, e2]
theorem lp_X11_odds_64 {m : Nat} {x1 x2 x3 w : Int32} (hnn : nn ≤ 10) (hm : m ≤ 2 ^ nn) {Qa : Option Value → XH → Prop} (hQ : Qa (some (.long (lN (leastN w m (2 ^ nn))))) h) :
    ∀ r k, k + r = nn → ∀ a b, HvI m nn k a b → T M_X11_odds x_E (x_Z M_X11_odds Qa) 0 0 64 [(0, .ref 0), (1, .int x1), (2, .int x2), (3, .int x3), (4, .int (nI nn)), (5, .int w), (6, .int (nI a)), (7, .int (nI b)), (8, .int (nI k))] [] h := by
  have h2 : 2 ^ nn ≤ 2 ^ 10 := Nat.pow_le_pow_right (by decide) hnn
  rw [show 2 ^ 10 = 1024 from rfl] at h2
  have hbd : ∀ {k a b}, HvI m nn k a b → a < 2 ^ 31 ∧ b < 2 ^ 31 := by
    rintro k a b ⟨j, j1, j2, j3, j4⟩
    have h1 : a ≤ a * 2 ^ j := Nat.le_mul_of_pos_right a (Nat.two_pow_pos j)
    have h3 : 2 ^ (nn - j) ≤ 2 ^ nn := Nat.pow_le_pow_right (by decide) (by omega)
    rw [← j3] at h3
    omega
  intro r
  induction r with
  | zero =>
    intro k hk a b hI
    obtain rfl : k = nn := by omega
    obtain ⟨b1, b2⟩ := hbd hI
    have e := hI.fin w
    rw [e] at hQ
    refine T_iload dX11_odds_64 rfl ?_
    refine T_iload dX11_odds_66 rfl ?_
    refine T_icmp_geN (tgt := 96) dX11_odds_68 (by decide) (by omega) (by omega) (fun c68 => ?_) (fun c68 => ?_)
    · refine T_iload dX11_odds_96 rfl ?_
      refine T_if_ne (tgt := 107) dX11_odds_98 (by decide) (fun c98 => ?_) (fun c98 => ?_)
      · refine T_iload dX11_odds_107 rfl ?_
        refine T_i2l dX11_odds_109 (T_topl (nI_l b2) ?_)
        refine T_lret dX11_odds_110 rfl (nb rfl) (nb rfl) ?_
        first
          | (rw [if_pos c98] at hQ; exact hQ)
          | (rw [if_neg c98] at hQ; exact hQ)
      · refine T_iload dX11_odds_101 rfl ?_
        refine T_i2l dX11_odds_103 (T_topl (nI_l b1) ?_)
        refine T_goto (tgt := 110) dX11_odds_104 (by decide) ?_
        refine T_lret dX11_odds_110 rfl (nb rfl) (nb rfl) ?_
        first
          | (rw [if_pos c98] at hQ; exact hQ)
          | (rw [if_neg c98] at hQ; exact hQ)
    · exact absurd c68 (by omega)
  | succ r ih =>
    intro k hk a b hI
    obtain ⟨b1, b2⟩ := hbd hI
    refine T_iload dX11_odds_64 rfl ?_
    refine T_iload dX11_odds_66 rfl ?_
    refine T_icmp_geN (tgt := 96) dX11_odds_68 (by decide) (by omega) (by omega) (fun c68 => ?_) (fun c68 => ?_)
    · exact absurd c68 (by omega)
    · refine T_iload dX11_odds_71 rfl ?_
      refine T_iconst (v := nI 2) dX11_odds_73 (by decide) ?_
      refine T_iremN dX11_odds_74 (by omega) (by omega) (by omega) ?_
      refine T_if_neN (tgt := 90) dX11_odds_75 (by decide) (by omega) (fun c75 => ?_) (fun c75 => ?_)
      · refine T_iincN dX11_odds_90 rfl (by decide) rfl ?_
        refine T_goto (tgt := 64) dX11_odds_93 (by decide) ?_
        first
          | exact ih (k + 1) (by omega) _ _ (hI.no c75)
          | exact ih (k + 1) (by omega) _ _ (hI.yes (by omega) c75)
      · refine T_iload dX11_odds_78 rfl ?_
        refine T_iconst (v := nI 2) dX11_odds_80 (by decide) ?_
        refine T_idivN dX11_odds_81 (by omega) (by omega) (by omega) ?_
        refine T_istore dX11_odds_82 (by decide) rfl ?_
        refine T_iload dX11_odds_84 rfl ?_
        refine T_iconst (v := nI 2) dX11_odds_86 (by decide) ?_
        refine T_idivN dX11_odds_87 (by omega) (by omega) (by omega) ?_
        refine T_istore dX11_odds_88 (by decide) rfl ?_
        refine T_iincN dX11_odds_90 rfl (by decide) rfl ?_
        refine T_goto (tgt := 64) dX11_odds_93 (by decide) ?_
        first
          | exact ih (k + 1) (by omega) _ _ (hI.no c75)
          | exact ih (k + 1) (by omega) _ _ (hI.yes (by omega) c75)
theorem Cnt_2 {p : Nat → Prop} {n m m2 : Nat} (h1 : Cnt p n m) (h2 : Cnt p n m2) : m = m2 := Cnt_un n (fun _ _ => Iff.rfl) m m2 h1 h2
theorem SimP.way {O : Nat → Int32} {wy2 nw2 : Nat} {F : Nat → Nat → Int32} {P : Nat → Int32} (p : SimP h u wy nw wt sp isl bp L wn nr rb rh rc ln sz g) (h2 : is2 wy2 nw2) (hB : OdB h wt sp isl bp L O) : SimP (oH h wy2 nw2 wt sp (u.1 0) F P) u wy2 nw2 wt sp isl bp L wn nr rb rh rc ln sz g := by
  obtain ⟨⟨p1, p2, p3, p4, p5, p6, p7, p8, p9, p10, p11⟩, q⟩ := p
  have hw := p1.2.1
  have hg : Ag (fun k => k = 0 ∨ k = 45 ∨ k = 46 ∨ k = 9) h (oH h wy2 nw2 wt sp (u.1 0) F P) := (((Ag.rf.set (Or.inl rfl)).set (Or.inr (Or.inl rfl))).set (Or.inr (Or.inr (Or.inl rfl)))).set (Or.inr (Or.inr (Or.inr rfl)))
  obtain ⟨a0, a1, a2, a3, ⟨x, y, z, a4⟩, -, -⟩ := oH_all (wy := wy2) (nw := nw2) (lf := u.1 0) (F := F) (P := P) hB
  exact ⟨⟨⟨a0, p1.2.1, h2⟩, p2.ag hg (by omega) (fun k hk => by omega), p3.ag hg (by omega) (fun k hk => by omega), p4.ag hg (fun k k1 k2 => by omega), ⟨x, y, z, P, a4, a3⟩, p6.ag hg (fun k k1 k2 => by omega), p7.ag hg (by omega), p8.ag hg (by omega), ⟨⟨_, a1⟩, _, a2⟩, p10.ag hg (by omega), p11.ag hg (fun k hk => by omega)⟩, q⟩
theorem s_odds (p0 : SimP h u wy nw wt sp isl bp L wn nr rb rh rc ln sz g) (sh sort i n w : Int32) : Con M_X11_odds [.ref 0, .int sh, .int sort, .int i, .int n, .int w] h (SQ h (fun q2 u2 => ∃ v, q2 = some (.long v) ∧ OdA L (m0 u 0) sh sort i n w v u2)) := by
  have p := p0.flt 0
  have hL := p.1.2.1.1
  have h3 := hL.2.2.1
  have h10 := hL.2.1
  have hU := p.2.2.2.2
  have hw := p.1.1.2.1
  have hwy := p.1.1.2.2
  have hS := p.1.2.2.2.2.2.2.2.2.2.2
  obtain ⟨O, o1⟩ := p.1.2.2.2.2.2.2.2.1
  have ag0 : ∀ x, Ag (fun k => k < 67) h (h.set 0 (cwO wy nw wt sp x)) := fun x => Ag.rf.set (by decide)
  have same1 : (∀ v u2, OdA L (m0 u 0) sh sort i n w v u2 → v = -9223372036854775808 ∧ u2 = m0 u 0) → SQ h (fun q2 u2 => ∃ v, q2 = some (.long v) ∧ OdA L (m0 u 0) sh sort i n w v u2) (some (.long (-9223372036854775808))) (h.set 0 (cwO wy nw wt sp 0)) := by
    intro e
    refine ⟨ag0 0, ?_⟩
    rintro q2 u2 ⟨v, rfl, hv⟩
    obtain ⟨rfl, rfl⟩ := e v u2 hv
    exact ⟨rfl, p.sim⟩
  refine Con.of rfl (nb rfl) ?_
  by_cases q : (0 ≤ sh ∧ sh ≤ 3) ∧ ((0 ≤ sort ∧ sort ≤ 2) ∧ 0 ≤ n ∧ n ≤ 10) ∧ (0 ≤ w ∧ w ≤ 1)
  · have er : rrC sh sort n = 0 := rr_0 q.1 q.2.1
    obtain ⟨kk, hk, rfl⟩ := shN q.1
    obtain ⟨nn, hn, rfl⟩ := setN (a := 10) (by decide) q.2.1.2
    have ek : (nI kk).toNatClampNeg = kk := nI_clamp (by omega)
    have en : (nI nn).toNatClampNeg = nn := nI_clamp (by omega)
    have h2n : 2 ^ nn ≤ 2 ^ 10 := Nat.pow_le_pow_right (by decide) hn
    rw [show 2 ^ 10 = 1024 from rfl] at h2n
    obtain ⟨-, ⟨ll, l1, -, l3⟩, -⟩ := hU kk hk
    have ePl : ∀ v u2, OdA L (m0 u 0) (nI kk) sort i (nI nn) w v u2 → ∃ x u3, LyQ L (m0 u 0) kk sort i nn x u3 ∧ ((¬ x = 0 ∧ v = -9223372036854775808 ∧ u2 = u3) ∨ (x = 0 ∧ SameE u3 u2 ∧ ∃ m, v = lN (leastN w m (2 ^ nn)) ∧ Cnt (fun z => FreeN L z (stU (m0 u 0) kk i.toNatClampNeg) nn) (2 ^ nn) m)) := fun v u2 hv => by
      unfold OdA at hv
      rw [if_pos q, ek, en] at hv
      exact hv
    refine T_aload_n dX11_odds_0 rfl ?_
    refine T_iconst (v := 0) dX11_odds_1 (by decide) ?_
    refine T_put dX11_odds_2 fp_X11_72_11 p0.1.1.1 (nb rfl) (fun _ => ⟨rfl, rfl⟩) ?_
    refine T_aload_n dX11_odds_5 rfl ?_
    refine T_iload_n dX11_odds_6 rfl ?_
    refine T_iload_n dX11_odds_7 rfl ?_
    refine T_iload dX11_odds_8 rfl ?_
    refine T_v3e (cu2 := 0) (su2 := 0) dX11_odds_10 lv_X11_176 rfl p.1.1.1 rfl (c_X11_refusalOfRow _ _ _) (nb rfl) (nb rfl) (nb rfl) (nb rfl) (nb rfl) ?_
    refine T_top er ?_
    refine T_if_ne (tgt := 27) dX11_odds_13 (by decide) (fun c13 => ?_) (fun c13 => ?_)
    · exact absurd rfl c13
    · refine T_iload dX11_odds_16 rfl ?_
      refine T_if_lt (tgt := 27) dX11_odds_18 (by decide) (fun c18 => ?_) (fun c18 => ?_)
      · exact absurd c18 (Int32.not_lt.mpr q.2.2.1)
      · refine T_iload dX11_odds_21 rfl ?_
        refine T_iconst (v := 1) dX11_odds_23 (by decide) ?_
        refine T_icmp_le (tgt := 31) dX11_odds_24 (by decide) (fun c24 => ?_) (fun c24 => ?_)
        · refine T_aload_n dX11_odds_31 rfl ?_
          refine T_iload_n dX11_odds_32 rfl ?_
          refine T_iload_n dX11_odds_33 rfl ?_
          refine T_iload_n dX11_odds_34 rfl ?_
          refine T_iload dX11_odds_35 rfl ?_
          refine T_v4q (cu2 := 0) (su2 := 0) dX11_odds_37 lv_X11_183 rfl p.1.1.1 rfl (c_X11_takeOrders hL p.1.1.1 p.1.2.1.2.1.1 o1 hS hk l3 l1 hn sort i) (nb rfl) (nb rfl) (nb rfl) (nb rfl) (nb rfl) (fun r37 h37 q37 => ?_)
          obtain ⟨v, lf2, O2, rfl, rfl, hT⟩ := q37
          have pt := p.tk lf2 O2
          refine T_if_eq (tgt := 47) dX11_odds_40 (by decide) (fun c40 => ?_) (fun c40 => ?_)
          · subst c40
            obtain ⟨t1, t2, t3, t4⟩ := Tk_0 (u := m0 u 0) hL hU hk hn hT
            have ha := allN_lt hL
            obtain ⟨a0, b0, c0, P0, v1, v2⟩ := pt.1.2.2.2.2.1
            obtain ⟨⟨f45, w45⟩, f46, w46⟩ := pt.1.2.2.2.2.2.2.2.2.1
            have o2 : (aH (h.set 0 (cwO wy nw wt sp 0)) wy nw wt sp lf2 O2)[44]? = some (r10 O2) := gs_eq ((gs_ne (by decide)).trans o1)
            have hB : OdB (aH (h.set 0 (cwO wy nw wt sp 0)) wy nw wt sp lf2 O2) wt sp isl bp L O2 := ⟨⟨_, _, _, pt.1.1.1⟩, ⟨_, w45⟩, ⟨_, w46⟩, ⟨_, v2⟩, ⟨_, _, _, v1⟩, o2, pt.1.2.1.2.1⟩
            have e0 : aH (h.set 0 (cwO wy nw wt sp 0)) wy nw wt sp lf2 O2 = oH (aH (h.set 0 (cwO wy nw wt sp 0)) wy nw wt sp lf2 O2) wy nw wt sp lf2 (fun k => if k = 45 then f45 else f46) P0 := by
              unfold oH
              rw [← gs_id (show (aH (h.set 0 (cwO wy nw wt sp 0)) wy nw wt sp lf2 O2)[0]? = some (cwO wy nw wt sp lf2) from pt.1.1.1)]
              rw [show (fun k => if k = 45 then f45 else f46) 45 = f45 from rfl, show (fun k => if k = 45 then f45 else f46) 46 = f46 from rfl, ← gs_id w45, ← gs_id w46]
              exact gs_id v2
            refine T_h e0 ?_
            refine T_aload_n dX11_odds_47 rfl ?_
            refine T_iload dX11_odds_48 rfl ?_
            refine T_v1q (cu2 := 0) (su2 := 0) dX11_odds_50 lv_X11_260 rfl (oH_all hB).1 rfl (c_X11_waysWithoutFine (st := stU (m0 u 0) kk i.toNatClampNeg) hL hB hwy (by omega) (fun k hk2 => ⟨(t4 k hk2).1, by have := (t4 k hk2).2; omega⟩)) (nb rfl) (nb rfl) (nb rfl) (nb rfl) (nb rfl) (fun r50 h50 q50 => ?_)
            obtain ⟨m, wy2, nw2, F2, P2, i2, rfl, rfl, hC⟩ := q50
            have pv := pt.way (wy2 := wy2) (nw2 := nw2) (F := F2) (P := P2) i2 hB
            refine T_istore dX11_odds_53 (by decide) rfl ?_
            refine T_iconst (v := 1) dX11_odds_55 (by decide) ?_
            refine T_iload dX11_odds_56 rfl ?_
            refine T_ishl dX11_odds_58 (T_top (sl31 nn (by omega)) ?_)
            refine T_istore dX11_odds_59 (by decide) rfl ?_
            refine T_iconst (v := nI 0) dX11_odds_61 (by decide) ?_
            refine T_istore dX11_odds_62 (by decide) rfl ?_
            refine lp_X11_odds_64 hn (Cnt_le _ _ hC) ?_ nn 0 (by omega) m (2 ^ nn) ⟨0, Nat.le_refl _, Nat.mul_one _, rfl, Or.inl rfl⟩
            refine ⟨((((((ag0 0).set (by decide)).set (by decide)).set (by decide)).set (by decide)).set (by decide)).set (by decide), ?_⟩
            rintro q2 u2 ⟨v9, rfl, hv⟩
            obtain ⟨x, u3, a1, a2⟩ := ePl v9 u2 hv
            obtain ⟨rfl, b2⟩ := Tk_Ly (u := m0 u 0) hU hk hn hT a1
            rcases a2 with ⟨a3, -⟩ | ⟨-, a4, m2, rfl, a6⟩
            · exact absurd rfl a3
            · exact ⟨by rw [Cnt_2 a6 hC], ((pv.same b2).same a4).sim⟩
          · refine T_ldc2 dX11_odds_43 kl_X11_258 ?_
            refine T_lret dX11_odds_46 rfl (nb rfl) (nb rfl) ?_
            refine ⟨((ag0 0).set (by decide)).set (by decide), ?_⟩
            rintro q2 u2 ⟨v2, rfl, hv⟩
            obtain ⟨x, u3, a1, a2⟩ := ePl v2 u2 hv
            obtain ⟨rfl, b2⟩ := Tk_Ly (u := m0 u 0) hU hk hn hT a1
            rcases a2 with ⟨-, rfl, rfl⟩ | ⟨a3, -⟩
            · exact ⟨rfl, (pt.same b2).sim⟩
            · exact absurd a3 c40
        · exact absurd q.2.2.2 c24
  · by_cases y : (0 ≤ sh ∧ sh ≤ 3) ∧ ((0 ≤ sort ∧ sort ≤ 2) ∧ 0 ≤ n ∧ n ≤ 10)
    · refine T_aload_n dX11_odds_0 rfl ?_
      refine T_iconst (v := 0) dX11_odds_1 (by decide) ?_
      refine T_put dX11_odds_2 fp_X11_72_11 p0.1.1.1 (nb rfl) (fun _ => ⟨rfl, rfl⟩) ?_
      refine T_aload_n dX11_odds_5 rfl ?_
      refine T_iload_n dX11_odds_6 rfl ?_
      refine T_iload_n dX11_odds_7 rfl ?_
      refine T_iload dX11_odds_8 rfl ?_
      refine T_v3e (cu2 := 0) (su2 := 0) dX11_odds_10 lv_X11_176 rfl p.1.1.1 rfl (c_X11_refusalOfRow _ _ _) (nb rfl) (nb rfl) (nb rfl) (nb rfl) (nb rfl) ?_
      refine T_top (rr_0 y.1 y.2) ?_
      refine T_if_ne (tgt := 27) dX11_odds_13 (by decide) (fun c13 => ?_) (fun c13 => ?_)
      · exact absurd rfl c13
      · refine T_iload dX11_odds_16 rfl ?_
        refine T_if_lt (tgt := 27) dX11_odds_18 (by decide) (fun c18 => ?_) (fun c18 => ?_)
        · refine T_ldc2 dX11_odds_27 kl_X11_258 ?_
          refine T_lret dX11_odds_30 rfl (nb rfl) (nb rfl) ?_
          exact same1 (fun v u2 hv => by unfold OdA at hv; rw [if_neg q] at hv; exact hv)
        · refine T_iload dX11_odds_21 rfl ?_
          refine T_iconst (v := 1) dX11_odds_23 (by decide) ?_
          refine T_icmp_le (tgt := 31) dX11_odds_24 (by decide) (fun c24 => ?_) (fun c24 => ?_)
          · exact absurd ⟨y.1, y.2, Int32.not_lt.mp c18, c24⟩ q
          · refine T_ldc2 dX11_odds_27 kl_X11_258 ?_
            refine T_lret dX11_odds_30 rfl (nb rfl) (nb rfl) ?_
            exact same1 (fun v u2 hv => by unfold OdA at hv; rw [if_neg q] at hv; exact hv)
    · have er : ¬ rrC sh sort n = 0 := by
        unfold rrC
        by_cases a : 0 ≤ sh ∧ sh ≤ 3
        · rw [if_pos a, if_neg (fun z => y ⟨a, z⟩)]; decide
        · rw [if_neg a]; decide
      refine T_aload_n dX11_odds_0 rfl ?_
      refine T_iconst (v := 0) dX11_odds_1 (by decide) ?_
      refine T_put dX11_odds_2 fp_X11_72_11 p0.1.1.1 (nb rfl) (fun _ => ⟨rfl, rfl⟩) ?_
      refine T_aload_n dX11_odds_5 rfl ?_
      refine T_iload_n dX11_odds_6 rfl ?_
      refine T_iload_n dX11_odds_7 rfl ?_
      refine T_iload dX11_odds_8 rfl ?_
      refine T_v3e (cu2 := 0) (su2 := 0) dX11_odds_10 lv_X11_176 rfl p.1.1.1 rfl (c_X11_refusalOfRow _ _ _) (nb rfl) (nb rfl) (nb rfl) (nb rfl) (nb rfl) ?_
      refine T_if_ne (tgt := 27) dX11_odds_13 (by decide) (fun c13 => ?_) (fun c13 => ?_)
      · refine T_ldc2 dX11_odds_27 kl_X11_258 ?_
        refine T_lret dX11_odds_30 rfl (nb rfl) (nb rfl) ?_
        exact same1 (fun v u2 hv => by unfold OdA at hv; rw [if_neg q] at hv; exact hv)
      · exact absurd c13 er
end O4
