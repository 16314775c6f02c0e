/-! the search: startNow, advance, throwHat, isOverInSome, fillGoodAhead -/
section S3
variable {A R : XH} {s : SSt} {L : LK} {Z : XZ}
theorem c_X4_startNow {st : Nat} (hA : A.length = 10) (h2 : s.1 2 = nI st) (hst : st < 128) : ConE M_X4_startNow [.ref 10] (sH A s R) none (sH A (sSt s 18 (2 ^ st)) R) := by
  refine Con.of rfl (nb rfl) ?_
  refine T_aload_n dX4_startNow_0 rfl ?_
  refine T_get dX4_startNow_1 fl_X4_49_4 (sH_get hA rfl) rfl ?_
  refine T_v0e (cu2 := 0) (su2 := 0) dX4_startNow_4 lv_X4_116 rfl (sH_get hA rfl) rfl (c_X6_clear (sH_get (k := 8) hA rfl)) (nb rfl) (nb rfl) (nb rfl) (nb rfl) (nb rfl) ?_
  refine T_h (sH_sst (k := 18) hA (by decide)) ?_
  refine T_aload_n dX4_startNow_7 rfl ?_
  refine T_get dX4_startNow_8 fl_X4_49_4 (sH_get hA rfl) rfl ?_
  refine T_aload_n dX4_startNow_11 rfl ?_
  refine T_get dX4_startNow_12 fl_X4_19_4 (sH_get hA rfl) rfl ?_
  refine T_top h2 ?_
  refine T_v1e (cu2 := 0) (su2 := 0) dX4_startNow_15 lv_X4_119 rfl (sH_get hA rfl) rfl (c_X6_add (S := 0) (sH_get (k := 8) hA rfl) (by decide) hst) (nb rfl) (nb rfl) (nb rfl) (nb rfl) (nb rfl) ?_
  refine T_h (sH_sst (k := 18) hA (by decide)) ?_
  refine T_h (congrArg (fun z => sH A z R) sSt2) ?_
  rw [Nat.zero_or]
  refine T_vret dX4_startNow_18 rfl (nb rfl) (nb rfl) ?_
  exact ⟨rfl, rfl⟩
theorem c_X4_advance {ka w X : Nat} (hA : A.length = 10) (hL : LOk L) (hT : TabOk L s) (ha : isSt ka) (h19 : ka ≠ 19) (hw : w ≤ 2) (hX : s.2.2.2.1 ka = X) (hX2 : X < 2 ^ 128) : Con M_X4_advance [.ref 10, .ref ka, .int (nI w)] (sH A s R) (fun q h' => q = none ∧ ∃ Y, h' = sH A (sSt (sSt s 19 Y) ka Y) R ∧ Y < 2 ^ 128 ∧ ∀ t, t < 128 → (bt Y t ↔ AftS L w (bt X) t)) := by
  refine Con.of rfl (nb rfl) ?_
  refine T_aload_n dX4_advance_0 rfl ?_
  refine T_get dX4_advance_1 fl_X4_53_4 (sH_get hA rfl) rfl ?_
  refine T_v0e (cu2 := 0) (su2 := 0) dX4_advance_4 lv_X4_116 rfl (sH_get hA rfl) rfl (c_X6_clear (sH_get (k := 9) hA rfl)) (nb rfl) (nb rfl) (nb rfl) (nb rfl) (nb rfl) ?_
  refine T_h (sH_sst (k := 19) hA (by decide)) ?_
  refine T_aload_n dX4_advance_7 rfl ?_
  refine T_aload_n dX4_advance_8 rfl ?_
  refine T_iload_n dX4_advance_9 rfl ?_
  refine T_aload_n dX4_advance_10 rfl ?_
  refine T_get dX4_advance_11 fl_X4_53_4 (sH_get hA rfl) rfl ?_
  refine T_v3q (cu2 := 0) (su2 := 0) dX4_advance_14 lv_X4_134 rfl (sH_get hA rfl) rfl (c_X4_addAfter (s := sSt s 19 0) (kb := 19) (Y := 0) hA hL hT ha (by decide) h19 hw ((sSt_n h19).trans hX) hX2 rfl (by decide)) (nb rfl) (nb rfl) (nb rfl) (nb rfl) (nb rfl) (fun r14 h14 q14 => ?_)
  obtain ⟨rfl, Y, rfl, hY⟩ := q14
  refine T_h (congrArg (fun z => sH A z R) sSt2) ?_
  refine T_aload_n dX4_advance_17 rfl ?_
  refine T_aload_n dX4_advance_18 rfl ?_
  refine T_get dX4_advance_19 fl_X4_53_4 (sH_get hA rfl) rfl ?_
  refine T_v1e (cu2 := 0) (su2 := 0) dX4_advance_22 lv_X4_126 rfl (sH_st hA ha) rfl (c_X6_become (sH_st hA ha) (sH_get (k := 9) hA rfl) h19) (nb rfl) (nb rfl) (nb rfl) (nb rfl) (nb rfl) ?_
  refine T_h (sH_sst hA ha) ?_
  refine T_vret dX4_advance_25 rfl (nb rfl) (nb rfl) ?_
  exact ⟨rfl, Y, rfl, hY.1, fun t ht => by rw [hY.2 t ht]; exact ⟨fun q => q.elim (fun z => absurd z bt_0) id, Or.inr⟩⟩
theorem c_X4_throwHat {ka kb w X : Nat} (hA : A.length = 10) (hL : LOk L) (hT : TabOk L s) (ha : isSt ka) (hb : isSt kb) (hab : ka ≠ kb) (hw : w ≤ 2) (hX : s.2.2.2.1 ka = X) (hX2 : X < 2 ^ 128) : Con M_X4_throwHat [.ref 10, .ref ka, .int (nI w), .ref kb] (sH A s R) (fun q h' => q = none ∧ ∃ Y, h' = sH A (sSt s kb Y) R ∧ Y < 2 ^ 128 ∧ ∀ t, t < 128 → (bt Y t ↔ ∃ v, v < 3 ∧ v ≠ w ∧ AftS L v (bt X) t)) := by
  have key : ∀ m i, i + m = 3 → ∀ Y, Y < 2 ^ 128 → (∀ t, t < 128 → (bt Y t ↔ ∃ v, v < i ∧ v ≠ w ∧ AftS L v (bt X) t)) → T M_X4_throwHat x_E (x_Z M_X4_throwHat (fun q h' => q = none ∧ ∃ Y, h' = sH A (sSt s kb Y) R ∧ Y < 2 ^ 128 ∧ ∀ t, t < 128 → (bt Y t ↔ ∃ v, v < 3 ∧ v ≠ w ∧ AftS L v (bt X) t))) 0 0 7 [(0, .ref 10), (1, .ref ka), (2, .int (nI w)), (3, .ref kb), (4, .int (nI i))] [] (sH A (sSt s kb Y) R) := by
    intro m
    induction m with
    | zero =>
      intro i hi Y hY hI
      obtain rfl : i = 3 := by omega
      refine T_iload dX4_throwHat_7 rfl ?_
      refine T_iconst (v := nI 3) dX4_throwHat_9 (by decide) ?_
      refine T_icmp_geN (tgt := 33) dX4_throwHat_10 (by decide) (by omega) (by omega) (fun c10 => ?_) (fun c10 => ?_)
      · refine T_vret dX4_throwHat_33 rfl (nb rfl) (nb rfl) ?_
        exact ⟨rfl, Y, rfl, hY, hI⟩
      · exact absurd c10 (by omega)
    | succ m ih =>
      intro i hi Y hY hI
      refine T_iload dX4_throwHat_7 rfl ?_
      refine T_iconst (v := nI 3) dX4_throwHat_9 (by decide) ?_
      refine T_icmp_geN (tgt := 33) dX4_throwHat_10 (by decide) (by omega) (by omega) (fun c10 => ?_) (fun c10 => ?_)
      · exact absurd c10 (by omega)
      · refine T_iload dX4_throwHat_13 rfl ?_
        refine T_iload_n dX4_throwHat_15 rfl ?_
        refine T_icmp_eqN (tgt := 27) dX4_throwHat_16 (by decide) (by omega) (by omega) (fun c16 => ?_) (fun c16 => ?_)
        · refine T_iincN dX4_throwHat_27 rfl (by decide) rfl ?_
          refine T_goto (tgt := 7) dX4_throwHat_30 (by decide) ?_
          first
            | (refine ih (i + 1) (by omega) Y2 hY2.1 (fun t ht => ?_)
               rw [hY2.2 t ht, hI t ht]
               constructor
               · rintro (⟨v, q1, q2, q3⟩ | q)
                 · exact ⟨v, by omega, q2, q3⟩
                 · exact ⟨i, by omega, c16, q⟩
               · rintro ⟨v, q1, q2, q3⟩
                 by_cases e : v = i
                 · subst e; exact Or.inr q3
                 · exact Or.inl ⟨v, by omega, q2, q3⟩)
            | (refine ih (i + 1) (by omega) Y hY (fun t ht => ?_)
               rw [hI t ht]
               constructor
               · rintro ⟨v, q1, q2, q3⟩
                 exact ⟨v, by omega, q2, q3⟩
               · rintro ⟨v, q1, q2, q3⟩
                 exact ⟨v, by omega, q2, q3⟩)
        · refine T_aload_n dX4_throwHat_19 rfl ?_
          refine T_aload_n dX4_throwHat_20 rfl ?_
          refine T_iload dX4_throwHat_21 rfl ?_
          refine T_aload_n dX4_throwHat_23 rfl ?_
          refine T_v3q (cu2 := 0) (su2 := 0) dX4_throwHat_24 lv_X4_134 rfl (sH_get hA rfl) rfl (c_X4_addAfter (s := sSt s kb Y) (Y := Y) hA hL hT ha hb hab (by omega) ((sSt_n hab).trans hX) hX2 sSt_k hY) (nb rfl) (nb rfl) (nb rfl) (nb rfl) (nb rfl) (fun r24 h24 q24 => ?_)
          obtain ⟨rfl, Y2, rfl, hY2⟩ := q24
          refine T_h (congrArg (fun z => sH A z R) sSt2) ?_
          refine T_iincN dX4_throwHat_27 rfl (by decide) rfl ?_
          refine T_goto (tgt := 7) dX4_throwHat_30 (by decide) ?_
          first
            | (refine ih (i + 1) (by omega) Y2 hY2.1 (fun t ht => ?_)
               rw [hY2.2 t ht, hI t ht]
               constructor
               · rintro (⟨v, q1, q2, q3⟩ | q)
                 · exact ⟨v, by omega, q2, q3⟩
                 · exact ⟨i, by omega, c16, q⟩
               · rintro ⟨v, q1, q2, q3⟩
                 by_cases e : v = i
                 · subst e; exact Or.inr q3
                 · exact Or.inl ⟨v, by omega, q2, q3⟩)
            | (refine ih (i + 1) (by omega) Y hY (fun t ht => ?_)
               rw [hI t ht]
               constructor
               · rintro ⟨v, q1, q2, q3⟩
                 exact ⟨v, by omega, q2, q3⟩
               · rintro ⟨v, q1, q2, q3⟩
                 exact ⟨v, by omega, q2, q3⟩)
  refine Con.of rfl (nb rfl) ?_
  refine T_aload_n dX4_throwHat_0 rfl ?_
  refine T_v0e (cu2 := 0) (su2 := 0) dX4_throwHat_1 lv_X4_116 rfl (sH_st hA hb) rfl (c_X6_clear (sH_st hA hb)) (nb rfl) (nb rfl) (nb rfl) (nb rfl) (nb rfl) ?_
  refine T_h (sH_sst hA hb) ?_
  refine T_iconst (v := nI 0) dX4_throwHat_4 (by decide) ?_
  refine T_istore dX4_throwHat_5 (by decide) rfl ?_
  exact key 3 0 (by omega) 0 (by decide) (fun t ht => ⟨fun q => absurd q bt_0, fun ⟨v, q1, _⟩ => absurd q1 (by omega)⟩)
theorem ovS_lt (hL : LOk L) (t : Nat) : ovS L t < 8 := Nat.lt_of_lt_of_le (ovrN_lt L (dB L t) (L_n L)) (Nat.pow_le_pow_right (n := 2) (by decide) hL.2.2.1)
theorem c_X4_isOverInSome {ka set X : Nat} (hA : A.length = 10) (hL : LOk L) (hT : TabOk L s) (ha : isSt ka) (hs : set < 8) (hX : s.2.2.2.1 ka = X) (hX2 : X < 2 ^ 128) : Con M_X4_isOverInSome [.ref 10, .ref ka, .int (nI set)] (sH A s R) (fun q h' => (∃ v, q = some (.int v) ∧ yn (∃ u, u < nSt L ∧ (ovS L u &&& set) = set ∧ bt X u) v) ∧ h' = sH A s R) := by
  have hn := nSt_le hL
  have hka : (sH A s R)[ka]? = some (stN X) := by rw [sH_st hA ha, hX]
  have key : ∀ m i, i + m = nSt L → (∀ u, u < i → ¬ ((ovS L u &&& set) = set ∧ bt X u)) → T M_X4_isOverInSome x_E (x_Z M_X4_isOverInSome (fun q h' => (∃ v, q = some (.int v) ∧ yn (∃ u, u < nSt L ∧ (ovS L u &&& set) = set ∧ bt X u) v) ∧ h' = sH A s R)) 0 0 2 [(0, .ref 10), (1, .ref ka), (2, .int (nI set)), (3, .int (nI i))] [] (sH A s R) := by
    intro m
    induction m with
    | zero =>
      intro i hi hI
      obtain rfl : i = nSt L := by omega
      refine T_iload_n dX4_isOverInSome_2 rfl ?_
      refine T_aload_n dX4_isOverInSome_3 rfl ?_
      refine T_get dX4_isOverInSome_4 fl_X4_15_4 (sH_get hA rfl) rfl ?_
      refine T_top hT.1 ?_
      refine T_icmp_geN (tgt := 38) dX4_isOverInSome_7 (by decide) (by omega) (by omega) (fun c7 => ?_) (fun c7 => ?_)
      · refine T_iconst (v := 0) dX4_isOverInSome_38 (by decide) ?_
        refine T_zret dX4_isOverInSome_39 rfl rfl (nb rfl) (nb rfl) ?_
        exact ⟨⟨_, rfl, Or.inr ⟨rfl, fun ⟨u, q1, q2⟩ => hI u q1 q2⟩⟩, rfl⟩
      · exact absurd c7 (by omega)
    | succ m ih =>
      intro i hi hI
      have ho := ovS_lt hL i
      have e := and_N _ ho set hs
      rw [beq_iff_eq] at e
      refine T_iload_n dX4_isOverInSome_2 rfl ?_
      refine T_aload_n dX4_isOverInSome_3 rfl ?_
      refine T_get dX4_isOverInSome_4 fl_X4_15_4 (sH_get hA rfl) rfl ?_
      refine T_top hT.1 ?_
      refine T_icmp_geN (tgt := 38) dX4_isOverInSome_7 (by decide) (by omega) (by omega) (fun c7 => ?_) (fun c7 => ?_)
      · exact absurd c7 (by omega)
      · refine T_aload_n dX4_isOverInSome_10 rfl ?_
        refine T_get dX4_isOverInSome_11 fl_X4_29_4 (sH_get hA rfl) rfl ?_
        refine T_iload_n dX4_isOverInSome_14 rfl ?_
        refine T_ialdN dX4_isOverInSome_15 (sH_get hA rfl) (by omega) (by decide) ?_
        refine T_top (hT.2.2.1 i (by omega)) ?_
        refine T_iload_n dX4_isOverInSome_16 rfl ?_
        refine T_iand dX4_isOverInSome_17 ?_
        refine T_iload_n dX4_isOverInSome_18 rfl ?_
        refine T_icmp_ne (tgt := 32) dX4_isOverInSome_19 (by decide) (fun c19 => ?_) (fun c19 => ?_)
        · refine T_iincN dX4_isOverInSome_32 rfl (by decide) rfl ?_
          refine T_goto (tgt := 2) dX4_isOverInSome_35 (by decide) ?_
          refine ih (i + 1) (by omega) (fun u hu q => ?_)
          by_cases e2 : u = i
          · subst e2; first | exact c19 (e.mpr q.1) | exact c27 q.2
          · exact hI u (by omega) q
        · refine T_aload_n dX4_isOverInSome_22 rfl ?_
          refine T_iload_n dX4_isOverInSome_23 rfl ?_
          refine T_v1e (cu2 := 0) (su2 := 0) dX4_isOverInSome_24 lv_X4_90 rfl hka rfl (c_X6_has hka hX2 (by omega)) (nb rfl) (nb rfl) (nb rfl) (nb rfl) (nb rfl) ?_
          refine T_if_eqB (tgt := 32) dX4_isOverInSome_27 (by decide) (fun c27 => ?_) (fun c27 => ?_)
          · refine T_iincN dX4_isOverInSome_32 rfl (by decide) rfl ?_
            refine T_goto (tgt := 2) dX4_isOverInSome_35 (by decide) ?_
            refine ih (i + 1) (by omega) (fun u hu q => ?_)
            by_cases e2 : u = i
            · subst e2; first | exact c19 (e.mpr q.1) | exact c27 q.2
            · exact hI u (by omega) q
          · refine T_iconst (v := 1) dX4_isOverInSome_30 (by decide) ?_
            refine T_zret dX4_isOverInSome_31 rfl rfl (nb rfl) (nb rfl) ?_
            exact ⟨⟨_, rfl, Or.inl ⟨rfl, i, by omega, e.mp c19, c27⟩⟩, rfl⟩
  refine Con.of rfl (nb rfl) ?_
  refine T_iconst (v := nI 0) dX4_isOverInSome_0 (by decide) ?_
  refine T_istore_n dX4_isOverInSome_1 (by decide) rfl ?_
  exact key (nSt L) 0 (by omega) (fun u hu => absurd hu (by omega))
theorem and_ne {X Y : Nat} (hX : X < 2 ^ 128) : ¬ X &&& Y = 0 ↔ ∃ u, u < 128 ∧ bt X u ∧ bt Y u := by
  constructor
  · intro h
    obtain ⟨u, hu⟩ := Nat.exists_testBit_of_ne_zero h
    rw [Nat.testBit_and, Bool.and_eq_true] at hu
    refine ⟨u, ?_, hu.1, hu.2⟩
    rcases Nat.lt_or_ge u 128 with q | q
    · exact q
    · have := Nat.testBit_lt_two_pow (x := X) (i := u) (Nat.lt_of_lt_of_le hX (Nat.pow_le_pow_right (by decide) q))
      rw [hu.1] at this
      cases this
  · rintro ⟨u, -, h1, h2⟩ h
    have h3 : (X &&& Y).testBit u = true := by rw [Nat.testBit_and, h1, h2]; rfl
    rw [h, Nat.zero_testBit] at h3
    cases h3
/-- the states from which those of Y can follow -/
def PreP (L : LK) (w : Nat) (Y : Nat → Prop) (t : Nat) : Prop := if w = 0 then Y t else t < nSt L ∧ ∃ u, u < 128 ∧ Aft L w t u ∧ Y u
theorem c_X4_fillGoodAhead {ka kb w Y : Nat} (hA : A.length = 10) (hL : LOk L) (hT : TabOk L s) (ha : isSt ka) (hb : isSt kb) (hab : ka ≠ kb) (hw : w ≤ 2) (hY : s.2.2.2.1 kb = Y) (hY2 : Y < 2 ^ 128) : Con M_X4_fillGoodAhead [.ref 10, .ref ka, .int (nI w), .ref kb] (sH A s R) (fun q h' => q = none ∧ ∃ X, h' = sH A (sSt s ka X) R ∧ X < 2 ^ 128 ∧ ∀ t, t < 128 → (bt X t ↔ PreP L w (bt Y) t)) := by
  have hn := nSt_le hL
  have hr := rowN_le w
  have key : ¬ w = 0 → ∀ m i, i + m = nSt L → ∀ X, X < 2 ^ 128 → (∀ t, t < 128 → (bt X t ↔ (t < i ∧ ∃ u, u < 128 ∧ Aft L w t u ∧ bt Y u))) → T M_X4_fillGoodAhead x_E (x_Z M_X4_fillGoodAhead (fun q h' => q = none ∧ ∃ X, h' = sH A (sSt s ka X) R ∧ X < 2 ^ 128 ∧ ∀ t, t < 128 → (bt X t ↔ PreP L w (bt Y) t))) 0 0 23 [(0, .ref 10), (1, .ref ka), (2, .int (nI w)), (3, .ref kb), (4, .int (nI (rowN w))), (5, .int (nI i))] [] (sH A (sSt s ka X) R) := by
    intro hw0 m
    induction m with
    | zero =>
      intro i hi X hX hI
      obtain rfl : i = nSt L := by omega
      refine T_iload dX4_fillGoodAhead_23 rfl ?_
      refine T_aload_n dX4_fillGoodAhead_25 rfl ?_
      refine T_get dX4_fillGoodAhead_26 fl_X4_15_4 (sH_get hA rfl) rfl ?_
      refine T_top hT.1 ?_
      refine T_icmp_geN (tgt := 71) dX4_fillGoodAhead_29 (by decide) (by omega) (by omega) (fun c29 => ?_) (fun c29 => ?_)
      · refine T_vret dX4_fillGoodAhead_71 rfl (nb rfl) (nb rfl) ?_
        exact ⟨rfl, X, rfl, hX, fun t ht => by rw [hI t ht]; unfold PreP; rw [if_neg hw0]⟩
      · exact absurd c29 (by omega)
    | succ m ih =>
      intro i hi X hX hI
      obtain ⟨TA, t1, t2, t3, t4⟩ := hT.tb (w := w) (by omega) (show i < nSt L by omega)
      have hkb : (sH A (sSt s ka X) R)[kb]? = some (stN Y) := by rw [sH_st hA hb, sSt_n (Ne.symm hab), hY]
      have hka : (sH A (sSt s ka X) R)[ka]? = some (stN X) := by rw [sH_st hA ha, sSt_k]
      have em : ¬ Y &&& TA = 0 ↔ ∃ u, u < 128 ∧ Aft L w i u ∧ bt Y u := by
        rw [and_ne hY2]
        exact ⟨fun ⟨u, q1, q2, q3⟩ => ⟨u, q1, (t4 u q1).mp q3, q2⟩, fun ⟨u, q1, q2, q3⟩ => ⟨u, q1, q3, (t4 u q1).mpr q2⟩⟩
      refine T_iload dX4_fillGoodAhead_23 rfl ?_
      refine T_aload_n dX4_fillGoodAhead_25 rfl ?_
      refine T_get dX4_fillGoodAhead_26 fl_X4_15_4 (sH_get hA rfl) rfl ?_
      refine T_top hT.1 ?_
      refine T_icmp_geN (tgt := 71) dX4_fillGoodAhead_29 (by decide) (by omega) (by omega) (fun c29 => ?_) (fun c29 => ?_)
      · exact absurd c29 (by omega)
      · refine T_aload_n dX4_fillGoodAhead_32 rfl ?_
        refine T_aload_n dX4_fillGoodAhead_33 rfl ?_
        refine T_get dX4_fillGoodAhead_34 fl_X4_22_4 (sH_get hA rfl) rfl ?_
        refine T_iload dX4_fillGoodAhead_37 rfl ?_
        refine T_iload dX4_fillGoodAhead_39 rfl ?_
        refine T_iaddN dX4_fillGoodAhead_41 ?_
        refine T_laldN dX4_fillGoodAhead_42 (sH_get hA rfl) (by omega) (by decide) ?_
        refine T_topl t2 ?_
        refine T_aload_n dX4_fillGoodAhead_43 rfl ?_
        refine T_get dX4_fillGoodAhead_44 fl_X4_26_4 (sH_get hA rfl) rfl ?_
        refine T_iload dX4_fillGoodAhead_47 rfl ?_
        refine T_iload dX4_fillGoodAhead_49 rfl ?_
        refine T_iaddN dX4_fillGoodAhead_51 ?_
        refine T_laldN dX4_fillGoodAhead_52 (sH_get hA rfl) (by omega) (by decide) ?_
        refine T_topl t3 ?_
        refine T_v2e (cu2 := 0) (su2 := 0) dX4_fillGoodAhead_53 lv_X4_112 rfl hkb rfl (c_X6_meets hkb hY2 t1) (nb rfl) (nb rfl) (nb rfl) (nb rfl) (nb rfl) ?_
        refine T_if_eqB (tgt := 65) dX4_fillGoodAhead_56 (by decide) (fun c56 => ?_) (fun c56 => ?_)
        · refine T_iincN dX4_fillGoodAhead_65 rfl (by decide) rfl ?_
          refine T_goto (tgt := 23) dX4_fillGoodAhead_68 (by decide) ?_
          first
            | (refine ih (i + 1) (by omega) _ (or_lt hX (pw_lt128 (by omega))) (fun t ht => ?_)
               rw [bt_or, bt_pw, hI t ht]
               constructor
               · rintro (q | q)
                 · exact ⟨by omega, q.2⟩
                 · subst q; exact ⟨by omega, em.mp c56⟩
               · intro q
                 by_cases e : i = t
                 · exact Or.inr e
                 · exact Or.inl ⟨by omega, q.2⟩)
            | (refine ih (i + 1) (by omega) _ hX (fun t ht => ?_)
               rw [hI t ht]
               constructor
               · intro q; exact ⟨by omega, q.2⟩
               · intro q
                 by_cases e : i = t
                 · subst e; exact absurd (em.mpr q.2) c56
                 · exact ⟨by omega, q.2⟩)
        · refine T_aload_n dX4_fillGoodAhead_59 rfl ?_
          refine T_iload dX4_fillGoodAhead_60 rfl ?_
          refine T_v1e (cu2 := 0) (su2 := 0) dX4_fillGoodAhead_62 lv_X4_119 rfl hka rfl (c_X6_add hka hX (by omega)) (nb rfl) (nb rfl) (nb rfl) (nb rfl) (nb rfl) ?_
          refine T_h (sH_sst hA ha) ?_
          refine T_h (congrArg (fun z => sH A z R) sSt2) ?_
          refine T_iincN dX4_fillGoodAhead_65 rfl (by decide) rfl ?_
          refine T_goto (tgt := 23) dX4_fillGoodAhead_68 (by decide) ?_
          first
            | (refine ih (i + 1) (by omega) _ (or_lt hX (pw_lt128 (by omega))) (fun t ht => ?_)
               rw [bt_or, bt_pw, hI t ht]
               constructor
               · rintro (q | q)
                 · exact ⟨by omega, q.2⟩
                 · subst q; exact ⟨by omega, em.mp c56⟩
               · intro q
                 by_cases e : i = t
                 · exact Or.inr e
                 · exact Or.inl ⟨by omega, q.2⟩)
            | (refine ih (i + 1) (by omega) _ hX (fun t ht => ?_)
               rw [hI t ht]
               constructor
               · intro q; exact ⟨by omega, q.2⟩
               · intro q
                 by_cases e : i = t
                 · subst e; exact absurd (em.mpr q.2) c56
                 · exact ⟨by omega, q.2⟩)
  have hka : (sH A s R)[ka]? = some (stN (s.2.2.2.1 ka)) := sH_st hA ha
  have hkb : (sH A s R)[kb]? = some (stN Y) := by rw [sH_st hA hb, hY]
  refine Con.of rfl (nb rfl) ?_
  refine T_iload_n dX4_fillGoodAhead_0 rfl ?_
  refine T_if_neN (tgt := 10) dX4_fillGoodAhead_1 (by decide) (by omega) (fun c1 => ?_) (fun c1 => ?_)
  · refine T_aload_n dX4_fillGoodAhead_10 rfl ?_
    refine T_v0e (cu2 := 0) (su2 := 0) dX4_fillGoodAhead_11 lv_X4_116 rfl hka rfl (c_X6_clear hka) (nb rfl) (nb rfl) (nb rfl) (nb rfl) (nb rfl) ?_
    refine T_h (sH_sst hA ha) ?_
    refine T_iload_n dX4_fillGoodAhead_14 rfl ?_
    refine T_s1e (cu2 := 0) (su2 := 0) dX4_fillGoodAhead_15 ls_X4_130 rfl (c_X4_rowOf hw) (nb rfl) (nb rfl) (nb rfl) (nb rfl) (nb rfl) ?_
    refine T_istore dX4_fillGoodAhead_18 (by decide) rfl ?_
    refine T_iconst (v := nI 0) dX4_fillGoodAhead_20 (by decide) ?_
    refine T_istore dX4_fillGoodAhead_21 (by decide) rfl ?_
    exact key c1 (nSt L) 0 (by omega) 0 (by decide) (fun t ht => ⟨fun q => absurd q bt_0, fun q => absurd q.1 (by omega)⟩)
  · refine T_aload_n dX4_fillGoodAhead_4 rfl ?_
    refine T_aload_n dX4_fillGoodAhead_5 rfl ?_
    refine T_v1e (cu2 := 0) (su2 := 0) dX4_fillGoodAhead_6 lv_X4_126 rfl hka rfl (c_X6_become hka hkb hab) (nb rfl) (nb rfl) (nb rfl) (nb rfl) (nb rfl) ?_
    refine T_h (sH_sst hA ha) ?_
    refine T_vret dX4_fillGoodAhead_9 rfl (nb rfl) (nb rfl) ?_
    exact ⟨rfl, Y, rfl, hY2, fun t ht => by unfold PreP; rw [if_pos c1]⟩
end S3
