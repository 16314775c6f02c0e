/-! as readings say: bitIfAsRead; winds beside the reference's -/
section C76
variable {h h1 : XH} {u : MSt} {L : LK} {wn st : Nat → Nat} {wy nw wt sp isl wo fl nr nn : Nat} {bp rb rh rc : Nat → Nat} {lf : Int32} {ln sz : Nat → Int32} {g : Nat → Nat → Int32}
abbrev BitQ (L : LK) (wn st : Nat → Nat) (nn nr : Nat) (rb rh rc : Nat → Nat) (k : Nat) (h : XH) : Option Value → XH → Prop := fun q h' => (∃ v, q = some (.int v) ∧ ((v = (1 : Int32) <<< (nI k &&& 31) ∧ SoN L wn st nn nr rb rh rc) ∨ (v = 0 ∧ ¬ SoN L wn st nn nr rb rh rc))) ∧ ∃ P, h' = h.set 9 (r3 P)
theorem c_X11_bitIfAsRead {O : Nat → Int32} {a b c : Int32} {P0 : Nat → Int32} (hL : LOk L) (h0 : h[0]? = some (cwO wy nw wt sp lf)) (hl : LkH h wt isl wo fl bp L) (hW : WnH h wo L wn) (hR : RdH h nr rb rh rc) (hR2 : nr ≤ 8 ∧ ∀ r, r < nr → rb r < L_n L ∧ rh r < 10 ∧ rc r ≤ L_w L) (h8 : h[8]? = some (voO 9 a b c)) (h9 : h[9]? = some (r3 P0)) (ho : h[44]? = some (r10 O)) (hnn : nn ≤ L_h L) (hst : ∀ k, k < nn → O k = nI (st k) ∧ st k ≤ allN L) (k : Nat) :
    Con M_X11_bitIfAsRead [.ref 0, .int (nI k), .int (nI nn)] h (BitQ L wn st nn nr rb rh rc k h) := by
  have h3 := hL.2.2.1
  have h4 := hL.1
  have h10 := hL.2.1
  have ha := allN_lt hL
  obtain ⟨d1, fb, fg, fc, d2, d3, d4, d5⟩ := hR
  have f0 : ∀ P, (h.set 9 (r3 P))[0]? = some (cwO wy nw wt sp lf) := fun P => gs_tg h9 h0 rfl
  have fl1 : ∀ P, LkH (h.set 9 (r3 P)) wt isl wo fl bp L := fun P => hl.set h9 rfl
  have fw : ∀ P, WnH (h.set 9 (r3 P)) wo L wn := fun P => hW.set h9 (fun _ => rfl)
  have f4 : ∀ P, (h.set 9 (r3 P))[4]? = some (rdO nr) := fun P => gs_tg h9 d1 rfl
  have f5 : ∀ P, (h.set 9 (r3 P))[5]? = some (r8 fb) := fun P => gs_tg h9 d2 rfl
  have f6 : ∀ P, (h.set 9 (r3 P))[6]? = some (r8 fg) := fun P => gs_tg h9 d3 rfl
  have f7 : ∀ P, (h.set 9 (r3 P))[7]? = some (r8 fc) := fun P => gs_tg h9 d4 rfl
  have f8 : ∀ P, (h.set 9 (r3 P))[8]? = some (voO 9 a b c) := fun P => gs_tg h9 h8 rfl
  have fo : ∀ P, (h.set 9 (r3 P))[44]? = some (r10 O) := fun P => gs_tg h9 ho rfl
  have key : (∀ r, r < nr → rh r < nn) → ∀ m j, j + m = nn → (∀ r, r < nr → rh r < j → posN L wn st (rh r + 1) (rb r) = rc r) → ∀ P, PR L P (posN L wn st j) → T M_X11_bitIfAsRead x_E (x_Z M_X11_bitIfAsRead (BitQ L wn st nn nr rb rh rc k h)) 0 0 26 [(0, .ref 0), (1, .int (nI k)), (2, .int (nI nn)), (3, .int (nI j))] [] (h.set 9 (r3 P)) := by
    intro hwi m
    induction m with
    | zero =>
      intro j hj hso P hP
      obtain rfl : j = nn := by omega
      refine T_iload_n dX11_bitIfAsRead_26 rfl ?_
      refine T_iload_n dX11_bitIfAsRead_27 rfl ?_
      refine T_icmp_geN (tgt := 84) dX11_bitIfAsRead_28 (by decide) (by omega) (by omega) (fun c28 => ?_) (fun c28 => ?_)
      · refine T_iconst (v := 1) dX11_bitIfAsRead_84 (by decide) ?_
        refine T_iload_n dX11_bitIfAsRead_85 rfl ?_
        refine T_ishl dX11_bitIfAsRead_86 ?_
        refine T_iret dX11_bitIfAsRead_87 rfl (nb rfl) (nb rfl) ?_
        exact ⟨⟨_, rfl, Or.inl ⟨rfl, fun r hr => ⟨hwi r hr, hso r hr (hwi r hr)⟩⟩⟩, P, rfl⟩
      · exact absurd c28 (by omega)
    | succ m ih =>
      intro j hj hso P hP
      obtain ⟨W, w1, w2⟩ := fw P
      have hwj := w2 j (by omega)
      have hsj := hst j (by omega)
      refine T_iload_n dX11_bitIfAsRead_26 rfl ?_
      refine T_iload_n dX11_bitIfAsRead_27 rfl ?_
      refine T_icmp_geN (tgt := 84) dX11_bitIfAsRead_28 (by decide) (by omega) (by omega) (fun c28 => ?_) (fun c28 => ?_)
      · exact absurd c28 (by omega)
      · refine T_aload_n dX11_bitIfAsRead_31 rfl ?_
        refine T_get dX11_bitIfAsRead_32 fl_X11_34_11 (f0 _) rfl ?_
        refine T_aload_n dX11_bitIfAsRead_35 rfl ?_
        refine T_get dX11_bitIfAsRead_36 fl_X11_65_11 (f0 _) rfl ?_
        refine T_aload_n dX11_bitIfAsRead_39 rfl ?_
        refine T_get dX11_bitIfAsRead_40 fl_X11_52_11 (f0 _) rfl ?_
        refine T_iload_n dX11_bitIfAsRead_43 rfl ?_
        refine T_ialdN dX11_bitIfAsRead_44 (fo _) (by omega) (by decide) ?_
        refine T_top hsj.1 ?_
        refine T_aload_n dX11_bitIfAsRead_45 rfl ?_
        refine T_get dX11_bitIfAsRead_46 fl_X11_65_11 (f0 _) rfl ?_
        refine T_get dX11_bitIfAsRead_49 fl_X11_164_1 (fl1 _).1 rfl ?_
        refine T_iload_n dX11_bitIfAsRead_52 rfl ?_
        refine T_ialdN dX11_bitIfAsRead_53 w1 (by omega) (by decide) ?_
        refine T_top hwj.1 ?_
        refine T_v3q (cu2 := 0) (su2 := 0) dX11_bitIfAsRead_54 lv_X11_251 rfl (f8 _) rfl (c_X10_sail hL (fl1 _) (f8 _) (gs_eq h9) (by omega) hwj.2 hP) (nb rfl) (nb rfl) (nb rfl) (nb rfl) (nb rfl) (fun r54 h54 q54 => ?_)
        obtain ⟨rfl, P2, rfl, hP2⟩ := q54
        refine T_h (List.set_set ..) ?_
        have hh2 : PR L P2 (posN L wn st (j + 1)) := hP2
        refine T_pop dX11_bitIfAsRead_57 rfl ?_
        refine T_aload_n dX11_bitIfAsRead_58 rfl ?_
        refine T_get dX11_bitIfAsRead_59 fl_X11_27_11 (f0 _) rfl ?_
        refine T_iload_n dX11_bitIfAsRead_62 rfl ?_
        refine T_aload_n dX11_bitIfAsRead_63 rfl ?_
        refine T_get dX11_bitIfAsRead_64 fl_X11_34_11 (f0 _) rfl ?_
        refine T_get dX11_bitIfAsRead_67 fl_X11_207_10 (f8 _) rfl ?_
        refine T_v2q (cu2 := 0) (su2 := 0) dX11_bitIfAsRead_70 lv_X11_254 rfl (f4 _) rfl (c_X3_areSo (rb := rb) (rh := rh) (rc := rc) (p := posN L wn st (j + 1)) hR2.1 (by omega) (f4 _) (f5 _) (f6 _) (f7 _) (gs_eq h9) (fun r hr => ⟨(d5 r hr).1, by have := (hR2.2 r hr).1; omega, (d5 r hr).2.1, (hR2.2 r hr).2.1, (d5 r hr).2.2, by have := (hR2.2 r hr).2.2; omega, (hh2 _ (hR2.2 r hr).1).1, Nat.le_trans (hh2 _ (hR2.2 r hr).1).2 h4⟩)) (nb rfl) (nb rfl) (nb rfl) (nb rfl) (nb rfl) (fun r70 h70 q70 => ?_)
        obtain ⟨⟨v, rfl, hv⟩, rfl⟩ := q70
        refine T_if_ne (tgt := 78) dX11_bitIfAsRead_73 (by decide) (fun c73 => ?_) (fun c73 => ?_)
        · refine T_iincN dX11_bitIfAsRead_78 rfl (by decide) rfl ?_
          refine T_goto (tgt := 26) dX11_bitIfAsRead_81 (by decide) ?_
          refine ih (j + 1) (by omega) (fun r hr hlt => ?_) P2 hh2
          by_cases z : rh r = j
          · rcases hv with ⟨-, e⟩ | ⟨e, -⟩
            · rw [z]; exact e r hr z
            · exact absurd e c73
          · exact hso r hr (by omega)
        · refine T_iconst (v := 0) dX11_bitIfAsRead_76 (by decide) ?_
          refine T_iret dX11_bitIfAsRead_77 rfl (nb rfl) (nb rfl) ?_
          refine ⟨⟨_, rfl, Or.inr ⟨rfl, fun q => ?_⟩⟩, P2, rfl⟩
          rcases hv with ⟨e, -⟩ | ⟨-, e⟩
          · exact absurd (e.symm.trans c73) (by decide)
          · exact e (fun r hr z => by have := (q r hr).2; rw [z] at this; exact this)
  refine Con.of rfl (nb rfl) ?_
  refine T_aload_n dX11_bitIfAsRead_0 rfl ?_
  refine T_get dX11_bitIfAsRead_1 fl_X11_27_11 h0 rfl ?_
  refine T_iload_n dX11_bitIfAsRead_4 rfl ?_
  refine T_v1q (cu2 := 0) (su2 := 0) dX11_bitIfAsRead_5 lv_X11_245 rfl d1 rfl (c_X3_areWithin (rh := rh) hR2.1 (by omega) d1 d3 (fun r hr => ⟨(d5 r hr).2.1, (hR2.2 r hr).2.1⟩)) (nb rfl) (nb rfl) (nb rfl) (nb rfl) (nb rfl) (fun r5 h5 q5 => ?_)
  obtain ⟨⟨v, rfl, hv⟩, rfl⟩ := q5
  refine T_if_ne (tgt := 13) dX11_bitIfAsRead_8 (by decide) (fun c8 => ?_) (fun c8 => ?_)
  · refine T_aload_n dX11_bitIfAsRead_13 rfl ?_
    refine T_get dX11_bitIfAsRead_14 fl_X11_34_11 h0 rfl ?_
    refine T_aload_n dX11_bitIfAsRead_17 rfl ?_
    refine T_get dX11_bitIfAsRead_18 fl_X11_65_11 h0 rfl ?_
    refine T_v1q (cu2 := 0) (su2 := 0) dX11_bitIfAsRead_21 lv_X11_248 rfl h8 rfl (c_X10_begin hL hl h8 h9) (nb rfl) (nb rfl) (nb rfl) (nb rfl) (nb rfl) (fun r21 h21 q21 => ?_)
    obtain ⟨rfl, P, rfl, hP⟩ := q21
    refine T_iconst (v := nI 0) dX11_bitIfAsRead_24 (by decide) ?_
    refine T_istore_n dX11_bitIfAsRead_25 (by decide) rfl ?_
    refine key ?_ nn 0 (by omega) (fun r hr z => absurd z (by omega)) P hP
    rcases hv with ⟨-, e⟩ | ⟨e, -⟩
    · exact e
    · exact absurd e c8
  · refine T_iconst (v := 0) dX11_bitIfAsRead_11 (by decide) ?_
    refine T_iret dX11_bitIfAsRead_12 rfl (nb rfl) (nb rfl) ?_
    refine ⟨⟨_, rfl, Or.inr ⟨rfl, fun q => ?_⟩⟩, P0, gs_id h9⟩
    rcases hv with ⟨e, -⟩ | ⟨-, e⟩
    · exact absurd (e.symm.trans c8) (by decide)
    · exact e (fun r hr => (q r hr).1)
theorem Bts_un {p q : Nat → Prop} {lo hi m m2 : Nat} (hpq : ∀ v, v < 4 → (p v ↔ q v)) (h1 : Bts p lo hi m) (h2 : Bts q lo hi m2) : m = m2 := by
  refine Nat.eq_of_testBit_eq fun i => ?_
  rcases Nat.lt_or_ge i 4 with c | c
  · have e1 := h1.2.2 i c
    have e2 := h2.2.2 i c
    rw [← hpq i c] at e2
    have : m.testBit i = true ↔ m2.testBit i = true := e1.trans e2.symm
    cases a : m.testBit i <;> cases b : m2.testBit i <;> simp_all
  · have c2 : 16 ≤ 2 ^ i := Nat.le_trans (by decide) (Nat.pow_le_pow_right (n := 2) (by decide) c)
    rw [Nat.testBit_lt_two_pow (Nat.lt_of_lt_of_le h1.1 c2), Nat.testBit_lt_two_pow (Nat.lt_of_lt_of_le h2.1 c2)]
theorem bit_or {p : Nat → Prop} {lo v m : Nat} {x : Int32} (h : Bts p lo v m) (hlo : lo ≤ v) (hv : v < 4) (hx : (x = (1 : Int32) <<< (nI v &&& 31) ∧ p v) ∨ (x = 0 ∧ ¬ p v)) : ∃ m2, nI m ||| x = nI m2 ∧ Bts p lo (v + 1) m2 := by
  rcases hx with ⟨rfl, hp⟩ | ⟨rfl, hp⟩
  · exact ⟨m + 2 ^ v, or4_N v hv m h.1 h.2.1, h.yes hlo hv hp⟩
  · exact ⟨m, by simp, h.no hv hp⟩
theorem lp_X11_winds {O : Nat → Int32} {a b c : Int32} {W : Nat → Int32} {P0 : Nat → Int32} {gg : Nat} {x2 x3 x4 x6 : Int32} (hL : LOk L) (h0 : h[0]? = some (cwO wy nw wt sp lf)) (hl : LkH h wt isl wo fl bp L) (hW : h[wo]? = some (r10 W)) (hW2 : ∀ j, j < L_h L → W j = nI (wn j) ∧ wn j ≤ 2) (hR : RdH h nr rb rh rc) (hR2 : nr ≤ 8 ∧ ∀ r, r < nr → rb r < L_n L ∧ rh r < 10 ∧ rc r ≤ L_w L) (h8 : h[8]? = some (voO 9 a b c)) (h9 : h[9]? = some (r3 P0)) (ho : h[44]? = some (r10 O)) (hwo : wo ≠ 44) (hnn : nn ≤ L_h L) (hst : ∀ k, k < nn → O k = nI (st k) ∧ st k ≤ allN L) (hgg : gg < L_h L)
    {Qa : Option Value → XH → Prop} (hQ : ∀ m P, Bts (fun v => SoN L (uw wn gg v) st nn nr rb rh rc) 0 3 m → Qa (some (.int (nI m))) (h.set 9 (r3 P))) :
    ∀ r v, v + r = 3 → ∀ m P W2, Bts (fun v => SoN L (uw wn gg v) st nn nr rb rh rc) 0 v m → (∀ j, j ≠ gg → W2 j = W j) → T M_X11_winds x_E (x_Z M_X11_winds Qa) 0 0 68 [(0, .ref 0), (1, .int (nI gg)), (2, .int x2), (3, .int x3), (4, .int x4), (5, .int (nI nn)), (6, .int x6), (7, .int (W gg)), (8, .int (nI m)), (9, .int (nI v))] [] ((h.set wo (r10 W2)).set 9 (r3 P)) := by
  have h10 := hL.2.1
  have e9 : ∀ W2, (h.set wo (r10 W2))[9]? = some (r3 P0) := fun W2 => gs_tg hW h9 rfl
  have f0 : ∀ W2 P, ((h.set wo (r10 W2)).set 9 (r3 P))[0]? = some (cwO wy nw wt sp lf) := fun W2 P => gs_tg (e9 W2) (gs_tg hW h0 rfl) rfl
  have fl1 : ∀ W2 P, LkH ((h.set wo (r10 W2)).set 9 (r3 P)) wt isl wo fl bp L := fun W2 P => (hl.set hW rfl).set (e9 W2) rfl
  have fw : ∀ W2 P, ((h.set wo (r10 W2)).set 9 (r3 P))[wo]? = some (r10 W2) := fun W2 P => gs_tg (e9 W2) (gs_eq hW) rfl
  have sw : ∀ (W2 W3 P : Nat → Int32), ((h.set wo (r10 W2)).set 9 (r3 P)).set wo (r10 W3) = (h.set wo (r10 W3)).set 9 (r3 P) := fun W2 W3 P => by
    have n1 : wo ≠ 9 := ne_tg hW h9 rfl
    rw [List.set_comm _ _ n1.symm, List.set_set]
  intro r
  induction r with
  | zero =>
    intro v hv m P W2 hB hW3
    obtain rfl : v = 3 := by omega
    refine T_iload dX11_winds_68 rfl ?_
    refine T_iconst (v := nI 3) dX11_winds_70 (by decide) ?_
    refine T_icmp_geN (tgt := 104) dX11_winds_71 (by decide) (by omega) (by omega) (fun c71 => ?_) (fun c71 => ?_)
    · refine T_aload_n dX11_winds_104 rfl ?_
      refine T_get dX11_winds_105 fl_X11_65_11 (f0 _ _) rfl ?_
      refine T_get dX11_winds_108 fl_X11_164_1 (fl1 _ _).1 rfl ?_
      refine T_iload_n dX11_winds_111 rfl ?_
      refine T_iload dX11_winds_112 rfl ?_
      refine T_iastN dX11_winds_114 (fw _ _) (by omega) (by decide) ?_
      refine T_h (sw _ _ _) ?_
      refine T_iload dX11_winds_115 rfl ?_
      refine T_iret dX11_winds_117 rfl (nb rfl) (nb rfl) ?_
      have e : upd W2 gg (W gg) = W := by
        funext j
        by_cases z : j = gg
        · subst z; exact upd_s
        · rw [upd_n z]; exact hW3 j z
      rw [e, ← gs_id hW]
      exact hQ m P hB
    · exact absurd c71 (by omega)
  | succ r ih =>
    intro v hv m P W2 hB hW3
    have hR9 : RdH ((h.set wo (r10 (upd W2 gg (nI v)))).set 9 (r3 P)) nr rb rh rc := by
      obtain ⟨d1, fb, fg, fc, d2, d3, d4, d5⟩ := hR
      exact ⟨gs_tg (e9 _) (gs_tg hW d1 rfl) rfl, fb, fg, fc, gs_tg (e9 _) (gs_tg hW d2 rfl) rfl, gs_tg (e9 _) (gs_tg hW d3 rfl) rfl, gs_tg (e9 _) (gs_tg hW d4 rfl) rfl, d5⟩
    have hwn : WnH ((h.set wo (r10 (upd W2 gg (nI v)))).set 9 (r3 P)) wo L (uw wn gg v) := ⟨_, fw _ _, fun j hj => by
      unfold uw
      by_cases z : j = gg
      · subst z; rw [upd_s, if_pos rfl]; exact ⟨rfl, by omega⟩
      · rw [upd_n z, if_neg z, hW3 j z]; exact hW2 j hj⟩
    refine T_iload dX11_winds_68 rfl ?_
    refine T_iconst (v := nI 3) dX11_winds_70 (by decide) ?_
    refine T_icmp_geN (tgt := 104) dX11_winds_71 (by decide) (by omega) (by omega) (fun c71 => ?_) (fun c71 => ?_)
    · exact absurd c71 (by omega)
    · refine T_aload_n dX11_winds_74 rfl ?_
      refine T_get dX11_winds_75 fl_X11_65_11 (f0 _ _) rfl ?_
      refine T_get dX11_winds_78 fl_X11_164_1 (fl1 _ _).1 rfl ?_
      refine T_iload_n dX11_winds_81 rfl ?_
      refine T_iload dX11_winds_82 rfl ?_
      refine T_iastN dX11_winds_84 (fw _ _) (by omega) (by decide) ?_
      refine T_h (sw _ _ _) ?_
      refine T_iload dX11_winds_85 rfl ?_
      refine T_aload_n dX11_winds_87 rfl ?_
      refine T_iload dX11_winds_88 rfl ?_
      refine T_iload dX11_winds_90 rfl ?_
      refine T_v2q (cu2 := 0) (su2 := 0) dX11_winds_92 lv_X11_234 rfl (f0 _ _) rfl (c_X11_bitIfAsRead hL (f0 _ _) (fl1 _ _) hwn hR9 hR2 (gs_tg (e9 _) (gs_tg hW h8 rfl) rfl) (gs_eq (e9 _)) (gs_tg (e9 _) ((gs_ne hwo).trans ho) rfl) hnn hst v) (nb rfl) (nb rfl) (nb rfl) (nb rfl) (nb rfl) (fun r92 h92 q92 => ?_)
      obtain ⟨⟨x, rfl, hx⟩, P2, rfl⟩ := q92
      refine T_h (List.set_set ..) ?_
      obtain ⟨m2, em, hB2⟩ := bit_or (p := fun v => SoN L (uw wn gg v) st nn nr rb rh rc) hB (by omega) (by omega) hx
      refine T_ior dX11_winds_95 ?_
      refine T_top em ?_
      refine T_istore dX11_winds_96 (by decide) rfl ?_
      refine T_iincN dX11_winds_98 rfl (by decide) rfl ?_
      refine T_goto (tgt := 68) dX11_winds_101 (by decide) ?_
      refine ih (v + 1) (by omega) m2 P2 _ hB2 (fun j hj => ?_)
      rw [upd_n hj]; exact hW3 j hj
theorem s_winds (p0 : SimP h u wy nw wt sp isl bp L wn nr rb rh rc ln sz g) (b sh sort i n : Int32) : Con M_X11_winds [.ref 0, .int b, .int sh, .int sort, .int i, .int n] h (SQ h (fun q2 u2 => ∃ v, q2 = some (.int v) ∧ ByA L (m0 u 0) (fun st nn v => SoN L (uw wn b.toNatClampNeg v) st nn nr rb rh rc) 0 3 (if 0 ≤ b ∧ b < nI (L_h L) then 0 else -2) sh sort i n v u2)) := by
  have p := p0.flt 0
  have hL := p.1.2.1.1
  have h3 := hL.2.2.1
  have h10 := hL.2.1
  have hU := p.2.2.2.2
  have hRd := p.2.2.2.1
  have hw := p.1.1.2.1
  have hS := p.1.2.2.2.2.2.2.2.2.2.2
  obtain ⟨O, o1⟩ := p.1.2.2.2.2.2.2.2.1
  have ag0 : ∀ x, Ag (fun k => k < 67) h (h.set 0 (cwO wy nw wt sp x)) := fun x => Ag.rf.set (by decide)
  have same1 : ∀ v2 : Int32, (∀ v u2, ByA L (m0 u 0) (fun st nn v => SoN L (uw wn b.toNatClampNeg v) st nn nr rb rh rc) 0 3 (if 0 ≤ b ∧ b < nI (L_h L) then 0 else -2) sh sort i n v u2 → v = v2 ∧ u2 = m0 u 0) → SQ h (fun q2 u2 => ∃ v, q2 = some (.int v) ∧ ByA L (m0 u 0) (fun st nn v => SoN L (uw wn b.toNatClampNeg v) st nn nr rb rh rc) 0 3 (if 0 ≤ b ∧ b < nI (L_h L) then 0 else -2) sh sort i n v u2) (some (.int v2)) (h.set 0 (cwO wy nw wt sp 0)) := by
    intro v2 e
    refine ⟨ag0 0, ?_⟩
    rintro q2 u2 ⟨v, rfl, hv⟩
    obtain ⟨rfl, rfl⟩ := e v u2 hv
    exact ⟨rfl, p.sim⟩
  have ex : ∀ (x0 : Int32), ¬ x0 = 0 → (∀ x u3, LaA L (m0 u 0) (if 0 ≤ b ∧ b < nI (L_h L) then 0 else -2) sh sort i n x u3 → x = x0 ∧ u3 = m0 u 0) → ∀ v u2, ByA L (m0 u 0) (fun st nn v => SoN L (uw wn b.toNatClampNeg v) st nn nr rb rh rc) 0 3 (if 0 ≤ b ∧ b < nI (L_h L) then 0 else -2) sh sort i n v u2 → v = x0 ∧ u2 = m0 u 0 := by
    rintro x0 hx0 e v u2 ⟨x, u3, a1, a2⟩
    obtain ⟨rfl, rfl⟩ := e x u3 a1
    rcases a2 with ⟨-, a3, a4⟩ | ⟨a3, -⟩
    · exact ⟨a3, a4⟩
    · exact absurd a3 hx0
  refine Con.of rfl (nb rfl) ?_
  by_cases qb : 0 ≤ b ∧ b < nI (L_h L)
  · by_cases q : 0 ≤ sh ∧ sh ≤ 3
    · by_cases y : (0 ≤ sort ∧ sort ≤ 2) ∧ 0 ≤ n ∧ n ≤ 10
      · obtain ⟨kk, hk, rfl⟩ := shN q
        obtain ⟨nn, hn, rfl⟩ := setN (a := 10) (by decide) y.2
        obtain ⟨gg, g1, rfl⟩ := nI_of (Int32.not_lt.mpr qb.1)
        have hgl : gg < L_h L := (nI_ltI g1 (by omega)).mp qb.2
        have ek : (nI kk).toNatClampNeg = kk := nI_clamp (by omega)
        have en : (nI nn).toNatClampNeg = nn := nI_clamp (by omega)
        have eg : (nI gg).toNatClampNeg = gg := nI_clamp (by omega)
        obtain ⟨-, ⟨ll, l1, -, l3⟩, -⟩ := hU kk hk
        have ePl : ∀ v u2, ByA L (m0 u 0) (fun st nn v => SoN L (uw wn (nI gg).toNatClampNeg v) st nn nr rb rh rc) 0 3 (if 0 ≤ nI gg ∧ nI gg < nI (L_h L) then 0 else -2) (nI kk) sort i (nI nn) v u2 → ∃ x u3, LyQ L (m0 u 0) kk sort i nn x u3 ∧ ((¬ x = 0 ∧ v = x ∧ u2 = u3) ∨ (x = 0 ∧ SameE u3 u2 ∧ ∃ m, v = nI m ∧ Bts (fun v => SoN L (uw wn gg v) (stU (m0 u 0) kk i.toNatClampNeg) nn nr rb rh rc) 0 3 m)) := by
          rintro v u2 ⟨x, u3, a1, a2⟩
          unfold LaA at a1
          rw [if_pos (if_pos qb), if_pos q, if_pos y, ek, en] at a1
          rw [ek, en, eg] at a2
          exact ⟨x, u3, a1, a2⟩
        refine T_aload_n dX11_winds_0 rfl ?_
        refine T_iconst (v := 0) dX11_winds_1 (by decide) ?_
        refine T_put dX11_winds_2 fp_X11_72_11 p0.1.1.1 (nb rfl) (fun _ => ⟨rfl, rfl⟩) ?_
        refine T_aload_n dX11_winds_5 rfl ?_
        refine T_iload_n dX11_winds_6 rfl ?_
        refine T_v1e (cu2 := 0) (su2 := 0) dX11_winds_7 lv_X11_161 rfl p.1.1.1 rfl (c_X11_isHour p.1.1.1 p.1.2.1.2.1.1 _) (nb rfl) (nb rfl) (nb rfl) (nb rfl) (nb rfl) ?_
        refine T_if_neB (tgt := 16) dX11_winds_10 (by decide) (fun c10 => ?_) (fun c10 => ?_)
        · refine T_aload_n dX11_winds_16 rfl ?_
          refine T_iload_n dX11_winds_17 rfl ?_
          refine T_iload_n dX11_winds_18 rfl ?_
          refine T_iload dX11_winds_19 rfl ?_
          refine T_v3e (cu2 := 0) (su2 := 0) dX11_winds_21 lv_X11_176 rfl p.1.1.1 rfl (c_X11_refusalOfRow _ _ _) (nb rfl) (nb rfl) (nb rfl) (nb rfl) (nb rfl) ?_
          refine T_top (rr_0 q y) ?_
          refine T_istore dX11_winds_24 (by decide) rfl ?_
          refine T_iload dX11_winds_26 rfl ?_
          refine T_if_ne (tgt := 43) dX11_winds_28 (by decide) (fun c28 => ?_) (fun c28 => ?_)
          · exact absurd rfl c28
          · refine T_aload_n dX11_winds_31 rfl ?_
            refine T_iload_n dX11_winds_32 rfl ?_
            refine T_iload_n dX11_winds_33 rfl ?_
            refine T_iload dX11_winds_34 rfl ?_
            refine T_iload dX11_winds_36 rfl ?_
            refine T_v4q (cu2 := 0) (su2 := 0) dX11_winds_38 lv_X11_183 rfl p.1.1.1 rfl (c_X11_takeOrders hL p.1.1.1 p.1.2.1.2.1.1 o1 hS hk l3 l1 hn sort i) (nb rfl) (nb rfl) (nb rfl) (nb rfl) (nb rfl) (fun r38 h38 q38 => ?_)
            obtain ⟨v, lf2, O2, rfl, rfl, hT⟩ := q38
            have pt := p.tk lf2 O2
            refine T_istore dX11_winds_41 (by decide) rfl ?_
            refine T_iload dX11_winds_43 rfl ?_
            refine T_if_eq (tgt := 51) dX11_winds_45 (by decide) (fun c45 => ?_) (fun c45 => ?_)
            · subst c45
              obtain ⟨t1, t2, t3, t4⟩ := Tk_0 (u := m0 u 0) hL hU hk hn hT
              obtain ⟨a0, b0, c0, P0, v1, v2⟩ := pt.1.2.2.2.2.1
              obtain ⟨W, w1, w2⟩ := pt.1.2.1.2.2.1
              have o2 : (aH (h.set 0 (cwO wy nw wt sp 0)) wy nw wt sp lf2 O2)[44]? = some (r10 O2) := gs_eq ((gs_ne (by decide)).trans o1)
              refine T_aload_n dX11_winds_51 rfl ?_
              refine T_get dX11_winds_52 fl_X11_65_11 pt.1.1.1 rfl ?_
              refine T_get dX11_winds_55 fl_X11_164_1 pt.1.2.1.2.1.1 rfl ?_
              refine T_iload_n dX11_winds_58 rfl ?_
              refine T_ialdN dX11_winds_59 w1 (by omega) (by decide) ?_
              refine T_istore dX11_winds_60 (by decide) rfl ?_
              refine T_iconst (v := nI 0) dX11_winds_62 (by decide) ?_
              refine T_istore dX11_winds_63 (by decide) rfl ?_
              refine T_iconst (v := nI 0) dX11_winds_65 (by decide) ?_
              refine T_istore dX11_winds_66 (by decide) rfl ?_
              refine T_h ((gs_id v2).trans (congrArg (fun z => z.set 9 (r3 P0)) (gs_id w1))) (lp_X11_winds (wn := wn) (x2 := nI kk) hL pt.1.1.1 pt.1.2.1.2.1 w1 w2 pt.1.2.2.2.1 ⟨hRd.2.1, fun r hr => ⟨(hRd.2.2 r hr).2.1, (hRd.2.2 r hr).2.2.2.1, (hRd.2.2 r hr).2.2.2.2.2⟩⟩ v1 v2 o2 (by omega) t3 t4 hgl (fun m P hB => ?_) 3 0 (by omega) 0 P0 W ⟨by decide, by decide, fun j hj => ⟨fun q => absurd q (by simp), fun q => absurd q.2.1 (by omega)⟩⟩ (fun j _ => rfl))
              have hgv : Ag (fun k => k = 8 ∨ k = 9 ∨ k = 44) (aH (h.set 0 (cwO wy nw wt sp 0)) wy nw wt sp lf2 O2) ((aH (h.set 0 (cwO wy nw wt sp 0)) wy nw wt sp lf2 O2).set 9 (r3 P)) := Ag.rf.set (Or.inr (Or.inl rfl))
              have pv := pt.scr hgv ⟨a0, b0, c0, P, (gs_ne (by decide)).trans v1, gs_eq v2⟩ ⟨O2, (gs_ne (by decide)).trans o2⟩
              refine ⟨((((ag0 0).set (by decide)).set (by decide)).set (by decide)), ?_⟩
              rintro q2 u2 ⟨v9, rfl, hv⟩
              obtain ⟨x, u3, a1, a2⟩ := ePl v9 u2 hv
              obtain ⟨rfl, b2⟩ := Tk_Ly (u := m0 u 0) hU hk hn hT a1
              rcases a2 with ⟨a3, -⟩ | ⟨-, a4, m2, rfl, a6⟩
              · exact absurd rfl a3
              · exact ⟨by rw [Bts_un (fun _ _ => Iff.rfl) a6 hB], ((pv.same b2).same a4).sim⟩
            · refine T_iload dX11_winds_48 rfl ?_
              refine T_iret dX11_winds_50 rfl (nb rfl) (nb rfl) ?_
              refine ⟨((ag0 0).set (by decide)).set (by decide), ?_⟩
              rintro q2 u2 ⟨v2, rfl, hv⟩
              obtain ⟨x, u3, a1, a2⟩ := ePl v2 u2 hv
              obtain ⟨rfl, b2⟩ := Tk_Ly (u := m0 u 0) hU hk hn hT a1
              rcases a2 with ⟨-, rfl, rfl⟩ | ⟨a3, -⟩
              · exact ⟨rfl, (pt.same b2).sim⟩
              · exact absurd a3 c45
        · exact absurd qb c10
      · have er : rrC sh sort n = -2 := by unfold rrC; rw [if_pos q, if_neg y]
        refine T_aload_n dX11_winds_0 rfl ?_
        refine T_iconst (v := 0) dX11_winds_1 (by decide) ?_
        refine T_put dX11_winds_2 fp_X11_72_11 p0.1.1.1 (nb rfl) (fun _ => ⟨rfl, rfl⟩) ?_
        refine T_aload_n dX11_winds_5 rfl ?_
        refine T_iload_n dX11_winds_6 rfl ?_
        refine T_v1e (cu2 := 0) (su2 := 0) dX11_winds_7 lv_X11_161 rfl p.1.1.1 rfl (c_X11_isHour p.1.1.1 p.1.2.1.2.1.1 _) (nb rfl) (nb rfl) (nb rfl) (nb rfl) (nb rfl) ?_
        refine T_if_neB (tgt := 16) dX11_winds_10 (by decide) (fun c10 => ?_) (fun c10 => ?_)
        · refine T_aload_n dX11_winds_16 rfl ?_
          refine T_iload_n dX11_winds_17 rfl ?_
          refine T_iload_n dX11_winds_18 rfl ?_
          refine T_iload dX11_winds_19 rfl ?_
          refine T_v3e (cu2 := 0) (su2 := 0) dX11_winds_21 lv_X11_176 rfl p.1.1.1 rfl (c_X11_refusalOfRow _ _ _) (nb rfl) (nb rfl) (nb rfl) (nb rfl) (nb rfl) ?_
          refine T_top er ?_
          refine T_istore dX11_winds_24 (by decide) rfl ?_
          refine T_iload dX11_winds_26 rfl ?_
          refine T_if_ne (tgt := 43) dX11_winds_28 (by decide) (fun c28 => ?_) (fun c28 => ?_)
          · refine T_iload dX11_winds_43 rfl ?_
            refine T_if_eq (tgt := 51) dX11_winds_45 (by decide) (fun c45 => ?_) (fun c45 => ?_)
            · exact absurd c45 (by decide)
            · refine T_iload dX11_winds_48 rfl ?_
              refine T_iret dX11_winds_50 rfl (nb rfl) (nb rfl) ?_
              exact same1 _ (ex _ (by decide) (fun x u3 a1 => by unfold LaA at a1; rw [if_pos (if_pos qb), if_pos q, if_neg y] at a1; exact a1))
          · exact absurd c28 (by decide)
        · exact absurd qb c10
    · have er : rrC sh sort n = -1 := by unfold rrC; rw [if_neg q]
      refine T_aload_n dX11_winds_0 rfl ?_
      refine T_iconst (v := 0) dX11_winds_1 (by decide) ?_
      refine T_put dX11_winds_2 fp_X11_72_11 p0.1.1.1 (nb rfl) (fun _ => ⟨rfl, rfl⟩) ?_
      refine T_aload_n dX11_winds_5 rfl ?_
      refine T_iload_n dX11_winds_6 rfl ?_
      refine T_v1e (cu2 := 0) (su2 := 0) dX11_winds_7 lv_X11_161 rfl p.1.1.1 rfl (c_X11_isHour p.1.1.1 p.1.2.1.2.1.1 _) (nb rfl) (nb rfl) (nb rfl) (nb rfl) (nb rfl) ?_
      refine T_if_neB (tgt := 16) dX11_winds_10 (by decide) (fun c10 => ?_) (fun c10 => ?_)
      · refine T_aload_n dX11_winds_16 rfl ?_
        refine T_iload_n dX11_winds_17 rfl ?_
        refine T_iload_n dX11_winds_18 rfl ?_
        refine T_iload dX11_winds_19 rfl ?_
        refine T_v3e (cu2 := 0) (su2 := 0) dX11_winds_21 lv_X11_176 rfl p.1.1.1 rfl (c_X11_refusalOfRow _ _ _) (nb rfl) (nb rfl) (nb rfl) (nb rfl) (nb rfl) ?_
        refine T_top er ?_
        refine T_istore dX11_winds_24 (by decide) rfl ?_
        refine T_iload dX11_winds_26 rfl ?_
        refine T_if_ne (tgt := 43) dX11_winds_28 (by decide) (fun c28 => ?_) (fun c28 => ?_)
        · refine T_iload dX11_winds_43 rfl ?_
          refine T_if_eq (tgt := 51) dX11_winds_45 (by decide) (fun c45 => ?_) (fun c45 => ?_)
          · exact absurd c45 (by decide)
          · refine T_iload dX11_winds_48 rfl ?_
            refine T_iret dX11_winds_50 rfl (nb rfl) (nb rfl) ?_
            exact same1 _ (ex _ (by decide) (fun x u3 a1 => by unfold LaA at a1; rw [if_pos (if_pos qb), if_neg q] at a1; exact a1))
        · exact absurd c28 (by decide)
      · exact absurd qb c10
  · refine T_aload_n dX11_winds_0 rfl ?_
    refine T_iconst (v := 0) dX11_winds_1 (by decide) ?_
    refine T_put dX11_winds_2 fp_X11_72_11 p0.1.1.1 (nb rfl) (fun _ => ⟨rfl, rfl⟩) ?_
    refine T_aload_n dX11_winds_5 rfl ?_
    refine T_iload_n dX11_winds_6 rfl ?_
    refine T_v1e (cu2 := 0) (su2 := 0) dX11_winds_7 lv_X11_161 rfl p.1.1.1 rfl (c_X11_isHour p.1.1.1 p.1.2.1.2.1.1 _) (nb rfl) (nb rfl) (nb rfl) (nb rfl) (nb rfl) ?_
    refine T_if_neB (tgt := 16) dX11_winds_10 (by decide) (fun c10 => ?_) (fun c10 => ?_)
    · exact absurd c10 qb
    · refine T_bipush (v := (-2)) dX11_winds_13 (by decide) ?_
      refine T_iret dX11_winds_15 rfl (nb rfl) (nb rfl) ?_
      exact same1 _ (ex _ (by decide) (fun x u3 a1 => by rw [if_neg qb] at a1; unfold LaA at a1; rw [if_neg (by decide)] at a1; exact a1))
end C76
