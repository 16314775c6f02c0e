/-! the search: fillAfter, prepare; the fewest hours, the fewest hats -/
section S8
variable {A R : XH} {s : SSt} {L : LK} {Z : XZ} {wn : Nat → Nat} {lp isl wo fl : Nat} {bp : Nat → Nat}
/-- the state of the search behind fillAfter -/
def FaR (L : LK) (w u : Nat) (s s2 : SSt) : Prop := s2.1 = s.1 ∧ s2.2.1 13 = s.2.1 13 ∧ s2.2.1 17 = s.2.1 17 ∧ s2.2.2.2.2 = s.2.2.2.2 ∧ TbR L w u (s2.2.2.1 11 (rowN w + u)) (s2.2.2.1 12 (rowN w + u)) ∧ ∀ j, j ≠ rowN w + u → s2.2.2.1 11 j = s.2.2.1 11 j ∧ s2.2.2.1 12 j = s.2.2.1 12 j
theorem vpL_s {f : Nat → Int64} {k : Nat} {x : Int64} : vp_updL f k x k = x := pk_uLs
theorem vpL_n {f : Nat → Int64} {k j : Nat} {x : Int64} (h : j ≠ k) : vp_updL f k x j = f j := pk_uLn h
theorem c_X4_fillAfter {w u : Nat} (hA : A.length = 10) (hL : LOk L) (hlk : ∀ s, LkH (sH A s R) lp isl wo fl bp L) (hw : w = 1 ∨ w = 2) (hu : u < nSt L) (hp : PR L (s.2.1 17) (dB L u)) :
    Con M_X4_fillAfter [.ref 10, .ref lp, .int (nI u), .int (nI w)] (sH A s R) (fun q h' => q = none ∧ ∃ s2, h' = sH A s2 R ∧ FaR L w u s s2) := by
  have hn := nSt_le hL
  have hr : rowN w ≤ 125 := rowN_le w
  have key : ∀ (m : Nat) (E C : Nat → Int32), m ≤ 8 → FeO L w (dB L u) (L_n L) m E C → ∀ r k, k + r = m → ∀ X, X < 2 ^ 128 → (∀ t, t < 128 → (bt X t ↔ ∃ j, j < k ∧ E j = nI t)) →
      T M_X4_fillAfter x_E (x_Z M_X4_fillAfter (fun q h' => q = none ∧ ∃ s2, h' = sH A s2 R ∧ FaR L w u s s2)) 0 0 18 [(0, .ref 10), (1, .ref lp), (2, .int (nI u)), (3, .int (nI w)), (4, .int (nI m)), (5, .int (nI k))] [] (sH A (sSt (feS s E C) 19 X) R) := by
    intro m E C hm8 hF
    have hO := Aft_O hL hF
    intro r
    induction r with
    | zero =>
      intro k hk X hX hI
      obtain rfl : k = m := by omega
      have hX2 : ∀ t, t < 128 → (bt X t ↔ Aft L w u t) := fun t ht => by
        rw [hI t ht]
        constructor
        · rintro ⟨j, j1, j2⟩
          obtain ⟨t2, a, b, c⟩ := hO.1 j j1
          have : t = t2 := (nI_eq (by omega) (by omega)).mp (j2.symm.trans a)
          rw [this]; exact b
        · exact fun q => hO.2 t q
      refine T_iload dX4_fillAfter_18 rfl ?_
      refine T_iload dX4_fillAfter_20 rfl ?_
      refine T_icmp_geN (tgt := 45) dX4_fillAfter_22 (by decide) (by omega) (by omega) (fun c22 => ?_) (fun c22 => ?_)
      · refine T_aload_n dX4_fillAfter_45 rfl ?_
        refine T_get dX4_fillAfter_46 fl_X4_22_4 (sH_get hA rfl) rfl ?_
        refine T_iload_n dX4_fillAfter_49 rfl ?_
        refine T_s1e (cu2 := 0) (su2 := 0) dX4_fillAfter_50 ls_X4_130 rfl (c_X4_rowOf (by omega)) (nb rfl) (nb rfl) (nb rfl) (nb rfl) (nb rfl) ?_
        refine T_iload_n dX4_fillAfter_53 rfl ?_
        refine T_iaddN dX4_fillAfter_54 ?_
        refine T_aload_n dX4_fillAfter_55 rfl ?_
        refine T_get dX4_fillAfter_56 fl_X4_53_4 (sH_get hA rfl) rfl ?_
        refine T_get dX4_fillAfter_59 fl_X4_105_6 (sH_get hA rfl) rfl ?_
        refine T_lastN dX4_fillAfter_62 (sH_get hA rfl) (by omega) (by decide) ?_
        refine T_h (sD_11 hA) ?_
        refine T_aload_n dX4_fillAfter_63 rfl ?_
        refine T_get dX4_fillAfter_64 fl_X4_26_4 (sH_get hA rfl) rfl ?_
        refine T_iload_n dX4_fillAfter_67 rfl ?_
        refine T_s1e (cu2 := 0) (su2 := 0) dX4_fillAfter_68 ls_X4_130 rfl (c_X4_rowOf (by omega)) (nb rfl) (nb rfl) (nb rfl) (nb rfl) (nb rfl) ?_
        refine T_iload_n dX4_fillAfter_71 rfl ?_
        refine T_iaddN dX4_fillAfter_72 ?_
        refine T_aload_n dX4_fillAfter_73 rfl ?_
        refine T_get dX4_fillAfter_74 fl_X4_53_4 (sH_get hA rfl) rfl ?_
        refine T_get dX4_fillAfter_77 fl_X4_109_6 (sH_get hA rfl) rfl ?_
        refine T_lastN dX4_fillAfter_80 (sH_get hA rfl) (by omega) (by decide) ?_
        refine T_h (sD_12 hA) ?_
        refine T_vret dX4_fillAfter_81 rfl (nb rfl) (nb rfl) ?_
        refine ⟨rfl, _, rfl, rfl, rfl, rfl, rfl, ⟨X, hX, vpL_s, vpL_s, hX2⟩, fun j hj => ⟨?_, ?_⟩⟩
        · exact vpL_n hj
        · exact vpL_n hj
      · exact absurd c22 (by omega)
    | succ r ih =>
      intro k hk X hX hI
      obtain ⟨t0, a0, b0, c0⟩ := hO.1 k (by omega)
      refine T_iload dX4_fillAfter_18 rfl ?_
      refine T_iload dX4_fillAfter_20 rfl ?_
      refine T_icmp_geN (tgt := 45) dX4_fillAfter_22 (by decide) (by omega) (by omega) (fun c22 => ?_) (fun c22 => ?_)
      · exact absurd c22 (by omega)
      · refine T_aload_n dX4_fillAfter_25 rfl ?_
        refine T_get dX4_fillAfter_26 fl_X4_53_4 (sH_get hA rfl) rfl ?_
        refine T_aload_n dX4_fillAfter_29 rfl ?_
        refine T_get dX4_fillAfter_30 fl_X4_33_4 (sH_get hA rfl) rfl ?_
        refine T_iload dX4_fillAfter_33 rfl ?_
        refine T_ialdN dX4_fillAfter_35 (sH_get hA rfl) (by omega) (by decide) ?_
        refine T_top a0 ?_
        refine T_v1e (cu2 := 0) (su2 := 0) dX4_fillAfter_36 lv_X4_119 rfl (sH_get hA rfl) rfl (c_X6_add (S := X) (sH_get (k := 9) hA rfl) hX (by omega)) (nb rfl) (nb rfl) (nb rfl) (nb rfl) (nb rfl) ?_
        refine T_h (sH_sst (k := 19) hA (by decide)) ?_
        refine T_h (congrArg (fun z => sH A z R) sSt2) ?_
        refine T_iincN dX4_fillAfter_39 rfl (by decide) rfl ?_
        refine T_goto (tgt := 18) dX4_fillAfter_42 (by decide) ?_
        refine ih (k + 1) (by omega) _ (or_lt hX (pw_lt128 (by omega))) (fun t ht => ?_)
        rw [bt_or, bt_pw, hI t ht]
        constructor
        · rintro (⟨j, j1, j2⟩ | q)
          · exact ⟨j, by omega, j2⟩
          · subst q; exact ⟨k, by omega, a0⟩
        · rintro ⟨j, j1, j2⟩
          by_cases e : j = k
          · subst e; exact Or.inr ((nI_eq (by omega) (by omega)).mp (a0.symm.trans j2))
          · exact Or.inl ⟨j, by omega, j2⟩
  refine Con.of rfl (nb rfl) ?_
  refine T_aload_n dX4_fillAfter_0 rfl ?_
  refine T_aload_n dX4_fillAfter_1 rfl ?_
  refine T_iload_n dX4_fillAfter_2 rfl ?_
  refine T_v2q (cu2 := 0) (su2 := 0) dX4_fillAfter_3 lv_X4_161 rfl (sH_get hA rfl) rfl (c_X4_findEnds hA hL hlk (by omega) hp) (nb rfl) (nb rfl) (nb rfl) (nb rfl) (nb rfl) (fun r3 h3 q3 => ?_)
  obtain ⟨m, E, C, rfl, rfl, hF⟩ := q3
  refine T_istore dX4_fillAfter_6 (by decide) rfl ?_
  refine T_aload_n dX4_fillAfter_8 rfl ?_
  refine T_get dX4_fillAfter_9 fl_X4_53_4 (sH_get hA rfl) rfl ?_
  refine T_v0e (cu2 := 0) (su2 := 0) dX4_fillAfter_12 lv_X4_116 rfl (sH_get hA rfl) rfl (c_X6_clear (sH_get (k := 9) hA rfl)) (nb rfl) (nb rfl) (nb rfl) (nb rfl) (nb rfl) ?_
  refine T_h (sH_sst (k := 19) hA (by decide)) ?_
  refine T_iconst (v := nI 0) dX4_fillAfter_15 (by decide) ?_
  refine T_istore dX4_fillAfter_16 (by decide) rfl ?_
  exact key m E C (Nat.le_trans hF.2.1 (Nat.le_trans (Nat.pow_le_pow_right (by decide) hL.2.2.1) (by decide))) hF m 0 (by omega) 0 (by decide) (fun t ht => ⟨fun q => absurd q bt_0, fun ⟨j, q, _⟩ => absurd q (by omega)⟩)
/-- what prepare has done for the states below i -/
def PrI (L : LK) (i : Nat) (s0 s : SSt) : Prop := s.1 0 = 0 ∧ s.1 1 = nI (nSt L) ∧ s.1 2 = nI (cdB L (start L)) ∧ s.2.2.2.2 = s0.2.2.2.2 ∧ (∀ u, u < i → s.2.1 13 u = nI (ovS L u)) ∧ ∀ u, u < i → TbR L 1 u (s.2.2.1 11 u) (s.2.2.1 12 u) ∧ TbR L 2 u (s.2.2.1 11 (125 + u)) (s.2.2.1 12 (125 + u))
abbrev PrQ (L : LK) (A R : XH) (s : SSt) : Option Value → XH → Prop := fun q h' => q = none ∧ ∃ s2, h' = sH A s2 R ∧ TabOk L s2 ∧ s2.1 0 = 0 ∧ s2.2.2.2.2 = s.2.2.2.2
theorem PrI.next (hL : LOk L) {i : Nat} {s0 s s1 s2 s3 : SSt} (hi : i < nSt L) (h : PrI L i s0 s) (f1 : FaR L 1 i s1 s2) (f2 : FaR L 2 i s2 s3) (e1 : s1.2.1 13 = upd (s.2.1 13) i (nI (ovS L i))) (e2 : s1.1 = s.1) (e3 : s1.2.2 = s.2.2) : PrI L (i + 1) s0 s3 := by
  have hn := nSt_le hL
  obtain ⟨a1, a2, a3, a4, a5, a6⟩ := h
  obtain ⟨b1, b2, b3, b4, b5, b6⟩ := f1
  obtain ⟨c1, c2, c3, c4, c5, c6⟩ := f2
  have r1 : rowN 1 = 0 := rfl
  have r2 : rowN 2 = 125 := rfl
  rw [r1, Nat.zero_add] at b5 b6
  rw [r2] at c5 c6
  refine ⟨by rw [c1, b1, e2]; exact a1, by rw [c1, b1, e2]; exact a2, by rw [c1, b1, e2]; exact a3, by rw [c4, b4, e3]; exact a4, fun u hu => ?_, fun u hu => ⟨?_, ?_⟩⟩
  · rw [c2, b2, e1]
    by_cases z : u = i
    · subst z; exact upd_s
    · rw [upd_n z]; exact a5 u (by omega)
  · rw [(c6 u (by omega)).1, (c6 u (by omega)).2]
    by_cases z : u = i
    · subst z; exact b5
    · rw [(b6 u z).1, (b6 u z).2, e3]; exact (a6 u (by omega)).1
  · by_cases z : u = i
    · subst z; exact c5
    · rw [(c6 (125 + u) (by omega)).1, (c6 (125 + u) (by omega)).2, (b6 (125 + u) (by omega)).1, (b6 (125 + u) (by omega)).2, e3]; exact (a6 u (by omega)).2
theorem lp_X4_prepare (hA : A.length = 10) (hL : LOk L) (hlk : ∀ s, LkH (sH A s R) lp isl wo fl bp L) (s0 : SSt) :
    ∀ r i, i + r = nSt L → ∀ s, PrI L i s0 s → T M_X4_prepare x_E (x_Z M_X4_prepare (PrQ L A R s0)) 0 0 43 [(0, .ref 10), (1, .ref lp), (2, .int (nI i))] [] (sH A s R) := by
  have hn := nSt_le hL
  intro r
  induction r with
  | zero =>
    intro i hi s hI
    obtain rfl : i = nSt L := by omega
    refine T_iload_n dX4_prepare_43 rfl ?_
    refine T_aload_n dX4_prepare_44 rfl ?_
    refine T_get dX4_prepare_45 fl_X4_15_4 (sH_get hA rfl) rfl ?_
    refine T_top hI.2.1 ?_
    refine T_icmp_geN (tgt := 94) dX4_prepare_48 (by decide) (by omega) (by omega) (fun c48 => ?_) (fun c48 => ?_)
    · refine T_vret dX4_prepare_94 rfl (nb rfl) (nb rfl) ?_
      exact ⟨rfl, s, rfl, ⟨hI.2.1, hI.2.2.1, hI.2.2.2.2.1, hI.2.2.2.2.2⟩, hI.1, hI.2.2.2.1⟩
    · exact absurd c48 (by omega)
  | succ r ih =>
    intro i hi s hI
    refine T_iload_n dX4_prepare_43 rfl ?_
    refine T_aload_n dX4_prepare_44 rfl ?_
    refine T_get dX4_prepare_45 fl_X4_15_4 (sH_get hA rfl) rfl ?_
    refine T_top hI.2.1 ?_
    refine T_icmp_geN (tgt := 94) dX4_prepare_48 (by decide) (by omega) (by omega) (fun c48 => ?_) (fun c48 => ?_)
    · exact absurd c48 (by omega)
    · refine T_aload_n dX4_prepare_51 rfl ?_
      refine T_get dX4_prepare_52 fl_X4_42_4 (sH_get hA rfl) rfl ?_
      refine T_aload_n dX4_prepare_55 rfl ?_
      refine T_iload_n dX4_prepare_56 rfl ?_
      refine T_v2q (cu2 := 0) (su2 := 0) dX4_prepare_57 lv_X4_151 rfl (sH_get hA rfl) rfl (c_X10_place hL (hlk _) (sH_get (k := 6) hA rfl) (sH_get (k := 7) hA rfl) (by omega)) (nb rfl) (nb rfl) (nb rfl) (nb rfl) (nb rfl) (fun r57 h57 q57 => ?_)
      obtain ⟨rfl, P, rfl, hP⟩ := q57
      refine T_h (sF_17 hA) ?_
      refine T_aload_n dX4_prepare_60 rfl ?_
      refine T_get dX4_prepare_61 fl_X4_29_4 (sH_get hA rfl) rfl ?_
      refine T_iload_n dX4_prepare_64 rfl ?_
      refine T_aload_n dX4_prepare_65 rfl ?_
      refine T_get dX4_prepare_66 fl_X4_42_4 (sH_get hA rfl) rfl ?_
      refine T_aload_n dX4_prepare_69 rfl ?_
      refine T_v1e (cu2 := 0) (su2 := 0) dX4_prepare_70 lv_X4_155 rfl (sH_get hA rfl) rfl (c_X10_overSet hL (hlk _) (sH_get (k := 6) hA rfl) (sH_get (k := 7) hA rfl) hP) (nb rfl) (nb rfl) (nb rfl) (nb rfl) (nb rfl) ?_
      refine T_iastN dX4_prepare_73 (sH_get hA rfl) (by omega) (by decide) ?_
      refine T_h (sF_13 hA) ?_
      refine T_aload_n dX4_prepare_74 rfl ?_
      refine T_aload_n dX4_prepare_75 rfl ?_
      refine T_iload_n dX4_prepare_76 rfl ?_
      refine T_iconst (v := nI 1) dX4_prepare_77 (by decide) ?_
      refine T_v3q (cu2 := 0) (su2 := 0) dX4_prepare_78 lv_X4_158 rfl (sH_get hA rfl) rfl (c_X4_fillAfter hA hL hlk (Or.inl rfl) (by omega) hP) (nb rfl) (nb rfl) (nb rfl) (nb rfl) (nb rfl) (fun r78 h78 q78 => ?_)
      obtain ⟨rfl, s2, rfl, hs2⟩ := q78
      refine T_aload_n dX4_prepare_81 rfl ?_
      refine T_aload_n dX4_prepare_82 rfl ?_
      refine T_iload_n dX4_prepare_83 rfl ?_
      refine T_iconst (v := nI 2) dX4_prepare_84 (by decide) ?_
      refine T_v3q (cu2 := 0) (su2 := 0) dX4_prepare_85 lv_X4_158 rfl (sH_get hA rfl) rfl (c_X4_fillAfter hA hL hlk (Or.inr rfl) (by omega) (by rw [hs2.2.2.1]; exact hP)) (nb rfl) (nb rfl) (nb rfl) (nb rfl) (nb rfl) (fun r85 h85 q85 => ?_)
      obtain ⟨rfl, s3, rfl, hs3⟩ := q85
      refine T_iincN dX4_prepare_88 rfl (by decide) rfl ?_
      refine T_goto (tgt := 43) dX4_prepare_91 (by decide) ?_
      exact ih (i + 1) (by omega) s3 (hI.next hL (by omega) hs2 hs3 rfl rfl rfl)
theorem c_X4_prepare (hA : A.length = 10) (hL : LOk L) (hlk : ∀ s, LkH (sH A s R) lp isl wo fl bp L) (hS : s.1 0 = 0 → TabOk L s) : Con M_X4_prepare [.ref 10, .ref lp] (sH A s R) (PrQ L A R s) := by
  have hn := nSt_le hL
  refine Con.of rfl (nb rfl) ?_
  refine T_aload_n dX4_prepare_0 rfl ?_
  refine T_get dX4_prepare_1 fl_X4_9_4 (sH_get hA rfl) rfl ?_
  refine T_if_ne (tgt := 8) dX4_prepare_4 (by decide) (fun c4 => ?_) (fun c4 => ?_)
  · refine T_aload_n dX4_prepare_8 rfl ?_
    refine T_iconst (v := 0) dX4_prepare_9 (by decide) ?_
    refine T_put dX4_prepare_10 fp_X4_9_4 (sH_get hA rfl) (nb rfl) (fun _ => ⟨rfl, rfl⟩) ?_
    refine T_h (sI_0 hA) ?_
    refine T_aload_n dX4_prepare_13 rfl ?_
    refine T_aload_n dX4_prepare_14 rfl ?_
    refine T_v0e (cu2 := 0) (su2 := 0) dX4_prepare_15 lv_X4_141 rfl (hlk _).1 rfl (c_X1_states hL (hlk _).1) (nb rfl) (nb rfl) (nb rfl) (nb rfl) (nb rfl) ?_
    refine T_put dX4_prepare_18 fp_X4_15_4 (sH_get hA rfl) (nb rfl) (fun _ => ⟨rfl, rfl⟩) ?_
    refine T_h (sI_1 hA) ?_
    refine T_aload_n dX4_prepare_21 rfl ?_
    refine T_get dX4_prepare_22 fl_X4_42_4 (sH_get hA rfl) rfl ?_
    refine T_aload_n dX4_prepare_25 rfl ?_
    refine T_v1q (cu2 := 0) (su2 := 0) dX4_prepare_26 lv_X4_144 rfl (sH_get hA rfl) rfl (c_X10_begin hL (hlk _) (sH_get (k := 6) hA rfl) (sH_get (k := 7) hA rfl)) (nb rfl) (nb rfl) (nb rfl) (nb rfl) (nb rfl) (fun r26 h26 q26 => ?_)
    obtain ⟨rfl, P, rfl, hP⟩ := q26
    refine T_h (sF_17 hA) ?_
    refine T_aload_n dX4_prepare_29 rfl ?_
    refine T_aload_n dX4_prepare_30 rfl ?_
    refine T_get dX4_prepare_31 fl_X4_42_4 (sH_get hA rfl) rfl ?_
    refine T_aload_n dX4_prepare_34 rfl ?_
    refine T_v1e (cu2 := 0) (su2 := 0) dX4_prepare_35 lv_X4_147 rfl (sH_get hA rfl) rfl (c_X10_stateNumber hL (hlk _) (sH_get (k := 6) hA rfl) (sH_get (k := 7) hA rfl) hP) (nb rfl) (nb rfl) (nb rfl) (nb rfl) (nb rfl) ?_
    refine T_put dX4_prepare_38 fp_X4_19_4 (sH_get hA rfl) (nb rfl) (fun _ => ⟨rfl, rfl⟩) ?_
    refine T_h (sI_2 hA) ?_
    refine T_iconst (v := nI 0) dX4_prepare_41 (by decide) ?_
    refine T_istore_n dX4_prepare_42 (by decide) rfl ?_
    exact lp_X4_prepare hA hL hlk s (nSt L) 0 (by omega) _ ⟨rfl, rfl, rfl, rfl, fun u hu => absurd hu (by omega), fun u hu => absurd hu (by omega)⟩
  · refine T_vret dX4_prepare_7 rfl (nb rfl) (nb rfl) ?_
    exact ⟨rfl, s, rfl, hS c4, c4, rfl⟩
theorem c_X4_fewestHours {set : Nat} (hA : A.length = 10) (hL : LOk L) (hS : s.1 0 = 0 → TabOk L s) (hlk : ∀ s, LkH (sH A s R) lp isl wo fl bp L) (hwn : ∀ s, WnH (sH A s R) wo L wn) (hs : set < 8) :
    Con M_X4_fewestHours [.ref 10, .ref lp, .int (nI set)] (sH A s R) (fun q h' => (∃ v, q = some (.int v) ∧ SoC L wn set (L_h L) v) ∧ ∃ s2, h' = sH A s2 R ∧ TabOk L s2 ∧ s2.1 0 = 0 ∧ s2.2.2.2.2 = s.2.2.2.2) := by
  have hn := nSt_le hL
  have h1 := cdB_lt hL (fun i _ => start_le L i)
  refine Con.of rfl (nb rfl) ?_
  refine T_aload_n dX4_fewestHours_0 rfl ?_
  refine T_aload_n dX4_fewestHours_1 rfl ?_
  refine T_v1q (cu2 := 0) (su2 := 0) dX4_fewestHours_2 lv_X4_63 rfl (sH_get hA rfl) rfl (c_X4_prepare hA hL hlk hS) (nb rfl) (nb rfl) (nb rfl) (nb rfl) (nb rfl) (fun r2 h2 q2 => ?_)
  obtain ⟨rfl, s2, rfl, hT, h0, hG⟩ := q2
  refine T_aload_n dX4_fewestHours_5 rfl ?_
  refine T_v0e (cu2 := 0) (su2 := 0) dX4_fewestHours_6 lv_X4_67 rfl (sH_get hA rfl) rfl (c_X4_startNow hA hT.2.1 (by omega)) (nb rfl) (nb rfl) (nb rfl) (nb rfl) (nb rfl) ?_
  refine T_iconst (v := nI 0) dX4_fewestHours_9 (by decide) ?_
  refine T_istore_n dX4_fewestHours_10 (by decide) rfl ?_
  refine T_Q ?_ (lp_X4_fewestHours (s := s2) hA hL hT hlk hwn hs (L_h L) 0 (by omega) (va_up s2.2.2.2.1 18 (2 ^ cdB L (start L))) ?_ (fun g hg => absurd hg (by omega)))
  · rintro q h' ⟨a, S, rfl⟩
    exact ⟨a, _, rfl, hT, h0, hG⟩
  · rw [va_up_self]; exact RC_0 hL
/-- the answer of fewestHats -/
def HtC (L : LK) (wn : Nat → Nat) (set n : Nat) (a : Int32) : Prop := (GdP L wn set n n (cdB L (start L)) ∧ a = 0) ∨ (¬ GdP L wn set n n (cdB L (start L)) ∧ ∃ x, OnR (OneC L wn set n) n x ∧ ((¬ x = -9 ∧ a = x) ∨ (x = -9 ∧ TwR (TwoC L wn set n) n a)))
theorem c_X4_fewestHats {set n : Nat} (hA : A.length = 10) (hL : LOk L) (hG : GOk s) (hS : s.1 0 = 0 → TabOk L s) (hlk : ∀ s, LkH (sH A s R) lp isl wo fl bp L) (hwn : ∀ s, WnH (sH A s R) wo L wn) (hs : set < 8) (hnn : n ≤ L_h L) :
    Con M_X4_fewestHats [.ref 10, .ref lp, .int (nI set), .int (nI n)] (sH A s R) (fun q h' => (∃ v, q = some (.int v) ∧ HtC L wn set n v) ∧ ∃ s2, h' = sH A s2 R ∧ TabOk L s2 ∧ s2.1 0 = 0 ∧ s2.2.2.2.2 = s.2.2.2.2) := by
  have hn := nSt_le hL
  have h1 := cdB_lt hL (fun i _ => start_le L i)
  refine Con.of rfl (nb rfl) ?_
  refine T_aload_n dX4_fewestHats_0 rfl ?_
  refine T_aload_n dX4_fewestHats_1 rfl ?_
  refine T_v1q (cu2 := 0) (su2 := 0) dX4_fewestHats_2 lv_X4_63 rfl (sH_get hA rfl) rfl (c_X4_prepare hA hL hlk hS) (nb rfl) (nb rfl) (nb rfl) (nb rfl) (nb rfl) (fun r2 h2 q2 => ?_)
  obtain ⟨rfl, s2, rfl, hT, h0, hG2⟩ := q2
  have hG3 : GOk s2 := by unfold GOk; rw [hG2]; exact hG
  refine T_aload_n dX4_fewestHats_5 rfl ?_
  refine T_aload_n dX4_fewestHats_6 rfl ?_
  refine T_iload_n dX4_fewestHats_7 rfl ?_
  refine T_iload_n dX4_fewestHats_8 rfl ?_
  refine T_v3q (cu2 := 0) (su2 := 0) dX4_fewestHats_9 lv_X4_86 rfl (sH_get hA rfl) rfl (c_X4_fillGood hA hL hT hG3 hlk hwn hs hnn) (nb rfl) (nb rfl) (nb rfl) (nb rfl) (nb rfl) (fun r9 h9 q9 => ?_)
  obtain ⟨rfl, S, rfl, hGd⟩ := q9
  have hg0 := hGd 0 (Nat.le_refl _) (by omega)
  have hk0 : (sH A (sS s2 S) R)[22]? = some (stN (S 22)) := sH_get (k := 12) hA rfl
  refine T_aload_n dX4_fewestHats_12 rfl ?_
  refine T_get dX4_fewestHats_13 fl_X4_56_4 (sH_get hA rfl) rfl ?_
  refine T_iconst (v := nI 0) dX4_fewestHats_16 (by decide) ?_
  refine T_aald5 dX4_fewestHats_17 (sH_get hA rfl) (nI_in11 (by decide)) (by rw [nI_clamp (by decide)]; exact hG3.1 0 (by decide)) ?_
  refine T_aload_n dX4_fewestHats_18 rfl ?_
  refine T_get dX4_fewestHats_19 fl_X4_19_4 (sH_get hA rfl) rfl ?_
  refine T_top hT.2.1 ?_
  refine T_v1e (cu2 := 0) (su2 := 0) dX4_fewestHats_22 lv_X4_90 rfl hk0 rfl (c_X6_has hk0 hg0.1 (by omega)) (nb rfl) (nb rfl) (nb rfl) (nb rfl) (nb rfl) ?_
  refine T_if_eqB (tgt := 30) dX4_fewestHats_25 (by decide) (fun c25 => ?_) (fun c25 => ?_)
  · refine T_aload_n dX4_fewestHats_30 rfl ?_
    refine T_aload_n dX4_fewestHats_31 rfl ?_
    refine T_iload_n dX4_fewestHats_32 rfl ?_
    refine T_v2q (cu2 := 0) (su2 := 0) dX4_fewestHats_33 lv_X4_94 rfl (sH_get hA rfl) rfl (c_X4_leastHat (s := sS s2 S) hA hL hT hG3 hlk hwn hnn hGd) (nb rfl) (nb rfl) (nb rfl) (nb rfl) (nb rfl) (fun r33 h33 q33 => ?_)
    obtain ⟨⟨x, rfl, hx⟩, S2, rfl, hSG⟩ := q33
    have hGd2 : GdS L wn set n 0 S2 := fun g h1 h2 => by rw [hSG g (by have := hL.2.1; omega)]; exact hGd g h1 h2
    have hno : ¬ GdP L wn set n n (cdB L (start L)) := fun q => c25 ((hg0.2 _ (by omega)).mpr q)
    refine T_istore dX4_fewestHats_36 (by decide) rfl ?_
    refine T_iload dX4_fewestHats_38 rfl ?_
    refine T_bipush (v := (-9)) dX4_fewestHats_40 (by decide) ?_
    refine T_icmp_eq (tgt := 50) dX4_fewestHats_42 (by decide) (fun c42 => ?_) (fun c42 => ?_)
    · refine T_aload_n dX4_fewestHats_50 rfl ?_
      refine T_aload_n dX4_fewestHats_51 rfl ?_
      refine T_iload_n dX4_fewestHats_52 rfl ?_
      refine T_v2q (cu2 := 0) (su2 := 0) dX4_fewestHats_53 lv_X4_98 rfl (sH_get hA rfl) rfl (c_X4_leastTwoHats (s := sS s2 S2) hA hL hT hG3 hlk hwn hnn hGd2) (nb rfl) (nb rfl) (nb rfl) (nb rfl) (nb rfl) (fun r53 h53 q53 => ?_)
      obtain ⟨⟨y, rfl, hy⟩, S3, rfl⟩ := q53
      refine T_iret dX4_fewestHats_56 rfl (nb rfl) (nb rfl) ?_
      first
        | exact ⟨⟨_, rfl, Or.inr ⟨hno, x, hx, Or.inl ⟨c42, rfl⟩⟩⟩, _, rfl, hT, h0, hG2⟩
        | exact ⟨⟨_, rfl, Or.inr ⟨hno, x, hx, Or.inr ⟨c42, hy⟩⟩⟩, _, rfl, hT, h0, hG2⟩
    · refine T_iload dX4_fewestHats_45 rfl ?_
      refine T_goto (tgt := 56) dX4_fewestHats_47 (by decide) ?_
      refine T_iret dX4_fewestHats_56 rfl (nb rfl) (nb rfl) ?_
      first
        | exact ⟨⟨_, rfl, Or.inr ⟨hno, x, hx, Or.inl ⟨c42, rfl⟩⟩⟩, _, rfl, hT, h0, hG2⟩
        | exact ⟨⟨_, rfl, Or.inr ⟨hno, x, hx, Or.inr ⟨c42, hy⟩⟩⟩, _, rfl, hT, h0, hG2⟩
  · refine T_iconst (v := 0) dX4_fewestHats_28 (by decide) ?_
    refine T_iret dX4_fewestHats_29 rfl (nb rfl) (nb rfl) ?_
    exact ⟨⟨_, rfl, Or.inl ⟨(hg0.2 _ (by omega)).mp c25, rfl⟩⟩, _, rfl, hT, h0, hG2⟩
end S8
