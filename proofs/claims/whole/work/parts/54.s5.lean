/-! the search: one hat, two hats -/
section S5
variable {A R : XH} {s : SSt} {L : LK} {Z : XZ} {wn : Nat → Nat} {lp isl wo fl : Nat} {bp : Nat → Nat}
/-- what follows X by another wind than that of hour h -/
def HtS (L : LK) (wn : Nat → Nat) (h : Nat) (X : Nat → Prop) (t : Nat) : Prop := ∃ v, v < 3 ∧ v ≠ wn h ∧ AftS L v X t
theorem HtS_c (hL : LOk L) {h t : Nat} {P Q : Nat → Prop} (e : ∀ u, u < 128 → (P u ↔ Q u)) (ht : t < 128) : HtS L wn h P t ↔ HtS L wn h Q t :=
  ⟨fun ⟨v, a, b, c⟩ => ⟨v, a, b, (AftS_c hL e ht).mp c⟩, fun ⟨v, a, b, c⟩ => ⟨v, a, b, (AftS_c hL e ht).mpr c⟩⟩
def OneC (L : LK) (wn : Nat → Nat) (set n h : Nat) : Prop := ∃ t, t < 128 ∧ HtS L wn h (RC L wn h) t ∧ GdP L wn set n (n - (h + 1)) t
abbrev SGd (s : SSt) (S : Nat → Nat) : Prop := ∀ g, g ≤ 10 → S (22 + 2 * g) = s.2.2.2.1 (22 + 2 * g)
theorem meet_X {X Y : Nat} {P Q : Nat → Prop} (hX : SetR X P) (hY : SetR Y Q) : ¬ X &&& Y = 0 ↔ ∃ t, t < 128 ∧ P t ∧ Q t := by
  rw [and_ne hX.1]
  exact ⟨fun ⟨t, a, b, c⟩ => ⟨t, a, (hX.2 t a).mp b, (hY.2 t a).mp c⟩, fun ⟨t, a, b, c⟩ => ⟨t, a, (hX.2 t a).mpr b, (hY.2 t a).mpr c⟩⟩
/-- the first hour below n of which p holds, as a set -/
def OnR (p : Nat → Prop) (n : Nat) (a : Int32) : Prop := (∃ h, h < n ∧ p h ∧ (∀ g, g < h → ¬ p g) ∧ a = nI (2 ^ h)) ∨ ((∀ g, g < n → ¬ p g) ∧ a = -9)
theorem lp_X4_leastHat {set n : Nat} (hA : A.length = 10) (hL : LOk L) (hT : TabOk L s) (hG : GOk s) (hlk : ∀ s, LkH (sH A s R) lp isl wo fl bp L) (hwn : ∀ s, WnH (sH A s R) wo L wn) (hn : n ≤ L_h L) (hGd : GdS L wn set n 0 s.2.2.2.1) : ∀ m i, i + m = n → ∀ S, SGd s S → SetR (S 18) (RC L wn i) → (∀ g, g < i → ¬ OneC L wn set n g) →
    T M_X4_leastHat x_E (x_Z M_X4_leastHat (fun q h' => (∃ v, q = some (.int v) ∧ OnR (OneC L wn set n) n v) ∧ ∃ S, h' = sH A (sS s S) R ∧ SGd s S)) 0 0 6 [(0, .ref 10), (1, .ref lp), (2, .int (nI n)), (3, .int (nI i))] [] (sH A (sS s S) R) := by
  have h10 := hL.2.1
  intro m
  induction m with
  | zero =>
    intro i hi S hSG hS hno
    obtain rfl : i = n := by omega
    refine T_iload_n dX4_leastHat_6 rfl ?_
    refine T_iload_n dX4_leastHat_7 rfl ?_
    refine T_icmp_geN (tgt := 85) dX4_leastHat_8 (by decide) (by omega) (by omega) (fun c8 => ?_) (fun c8 => ?_)
    · refine T_bipush (v := (-9)) dX4_leastHat_85 (by decide) ?_
      refine T_iret dX4_leastHat_87 rfl (nb rfl) (nb rfl) ?_
      exact ⟨⟨_, rfl, Or.inr ⟨hno, rfl⟩⟩, S, rfl, hSG⟩
    · exact absurd c8 (by omega)
  | succ m ih =>
    intro i hi S hSG hS hno
    obtain ⟨W, w1, w2⟩ := hwn (sS s S)
    have hwg := w2 i (by omega)
    have hg1 : SetR (S (22 + 2 * (i + 1))) (GdP L wn set n (n - (i + 1))) := by
      rw [hSG (i + 1) (by omega)]
      exact hGd (i + 1) (by omega) (by omega)
    refine T_iload_n dX4_leastHat_6 rfl ?_
    refine T_iload_n dX4_leastHat_7 rfl ?_
    refine T_icmp_geN (tgt := 85) dX4_leastHat_8 (by decide) (by omega) (by omega) (fun c8 => ?_) (fun c8 => ?_)
    · exact absurd c8 (by omega)
    · refine T_aload_n dX4_leastHat_11 rfl ?_
      refine T_aload_n dX4_leastHat_12 rfl ?_
      refine T_get dX4_leastHat_13 fl_X4_49_4 (sH_get hA rfl) rfl ?_
      refine T_aload_n dX4_leastHat_16 rfl ?_
      refine T_get dX4_leastHat_17 fl_X4_79_1 (hlk _).1 rfl ?_
      refine T_iload_n dX4_leastHat_20 rfl ?_
      refine T_ialdN dX4_leastHat_21 w1 (by omega) (by decide) ?_
      refine T_top hwg.1 ?_
      refine T_aload_n dX4_leastHat_22 rfl ?_
      refine T_get dX4_leastHat_23 fl_X4_53_4 (sH_get hA rfl) rfl ?_
      refine T_v3q (cu2 := 0) (su2 := 0) dX4_leastHat_26 lv_X4_101 rfl (sH_get hA rfl) rfl (c_X4_throwHat (s := sS s S) (ka := 18) (kb := 19) hA hL hT (by decide) (by decide) (by decide) hwg.2 rfl hS.1) (nb rfl) (nb rfl) (nb rfl) (nb rfl) (nb rfl) (fun r26 h26 q26 => ?_)
      obtain ⟨rfl, Y, rfl, hY1, hY2⟩ := q26
      have hYr : SetR Y (HtS L wn i (RC L wn i)) := ⟨hY1, fun t ht => (hY2 t ht).trans (HtS_c hL (fun u hu => hS.2 u hu) ht)⟩
      have hk9 : (sH A (sS s (va_up S 19 Y)) R)[22 + 2 * (i + 1)]? = some (stN (S (22 + 2 * (i + 1)))) := by
        rw [sH_st hA (isSt_g (by omega))]
        show some (stN (va_up S 19 Y (22 + 2 * (i + 1)))) = _
        rw [va_up_ne _ _ (by omega)]
      refine T_h (h2 := sH A (sS s (va_up S 19 Y)) R) rfl ?_
      refine T_aload_n dX4_leastHat_29 rfl ?_
      refine T_get dX4_leastHat_30 fl_X4_53_4 (sH_get hA rfl) rfl ?_
      refine T_aload_n dX4_leastHat_33 rfl ?_
      refine T_get dX4_leastHat_34 fl_X4_56_4 (sH_get hA rfl) rfl ?_
      refine T_iload_n dX4_leastHat_37 rfl ?_
      refine T_iconst (v := nI 1) dX4_leastHat_38 (by decide) ?_
      refine T_iaddN dX4_leastHat_39 ?_
      refine T_aald5 dX4_leastHat_40 (sH_get hA rfl) (nI_in11 (by omega)) (by rw [nI_clamp (by omega)]; exact hG.1 (i + 1) (by omega)) ?_
      refine T_get dX4_leastHat_41 fl_X4_105_6 hk9 rfl ?_
      refine T_aload_n dX4_leastHat_44 rfl ?_
      refine T_get dX4_leastHat_45 fl_X4_56_4 (sH_get hA rfl) rfl ?_
      refine T_iload_n dX4_leastHat_48 rfl ?_
      refine T_iconst (v := nI 1) dX4_leastHat_49 (by decide) ?_
      refine T_iaddN dX4_leastHat_50 ?_
      refine T_aald5 dX4_leastHat_51 (sH_get hA rfl) (nI_in11 (by omega)) (by rw [nI_clamp (by omega)]; exact hG.1 (i + 1) (by omega)) ?_
      refine T_get dX4_leastHat_52 fl_X4_109_6 hk9 rfl ?_
      refine T_v2e (cu2 := 0) (su2 := 0) dX4_leastHat_55 lv_X4_112 rfl (sH_get hA rfl) rfl (c_X6_meets (S := Y) (sH_get (k := 9) hA rfl) hY1 hg1.1) (nb rfl) (nb rfl) (nb rfl) (nb rfl) (nb rfl) ?_
      refine T_if_eqB (tgt := 65) dX4_leastHat_58 (by decide) (fun c58 => ?_) (fun c58 => ?_)
      · refine T_aload_n dX4_leastHat_65 rfl ?_
        refine T_aload_n dX4_leastHat_66 rfl ?_
        refine T_get dX4_leastHat_67 fl_X4_49_4 (sH_get hA rfl) rfl ?_
        refine T_aload_n dX4_leastHat_70 rfl ?_
        refine T_get dX4_leastHat_71 fl_X4_79_1 (hlk _).1 rfl ?_
        obtain ⟨W2, w3, w4⟩ := hwn (sS s (va_up S 19 Y))
        refine T_iload_n dX4_leastHat_74 rfl ?_
        refine T_ialdN dX4_leastHat_75 w3 (by omega) (by decide) ?_
        refine T_top (w4 i (by omega)).1 ?_
        refine T_v2q (cu2 := 0) (su2 := 0) dX4_leastHat_76 lv_X4_82 rfl (sH_get hA rfl) rfl (c_X4_advance (s := sS s (va_up S 19 Y)) (ka := 18) hA hL hT (by decide) (by decide) hwg.2 rfl hS.1) (nb rfl) (nb rfl) (nb rfl) (nb rfl) (nb rfl) (fun r76 h76 q76 => ?_)
        obtain ⟨rfl, X, rfl, hX1, hX2⟩ := q76
        refine T_iincN dX4_leastHat_79 rfl (by decide) rfl ?_
        refine T_goto (tgt := 6) dX4_leastHat_82 (by decide) ?_
        refine ih (i + 1) (by omega) (va_up (va_up (va_up S 19 Y) 19 X) 18 X) (fun g hg => ?_) ?_ (fun g hg => ?_)
        · rw [va_up_ne _ _ (by omega), va_up_ne _ _ (by omega), va_up_ne _ _ (by omega)]; exact hSG g hg
        · rw [va_up_self]; exact RC_s hL hS hX1 hX2
        · by_cases e : g = i
          · subst e; exact fun q => c58 ((meet_X hYr hg1).mpr q)
          · exact hno g (by omega)
      · refine T_iconst (v := 1) dX4_leastHat_61 (by decide) ?_
        refine T_iload_n dX4_leastHat_62 rfl ?_
        refine T_ishl dX4_leastHat_63 ?_
        refine T_iret dX4_leastHat_64 rfl (nb rfl) (nb rfl) ?_
        refine ⟨⟨_, rfl, Or.inl ⟨i, by omega, (meet_X hYr hg1).mp c58, hno, sh_N i (by omega)⟩⟩, _, rfl, fun g hg => ?_⟩
        rw [va_up_ne _ _ (by omega)]; exact hSG g hg
theorem c_X4_leastHat {set n : Nat} (hA : A.length = 10) (hL : LOk L) (hT : TabOk L s) (hG : GOk s) (hlk : ∀ s, LkH (sH A s R) lp isl wo fl bp L) (hwn : ∀ s, WnH (sH A s R) wo L wn) (hn : n ≤ L_h L) (hGd : GdS L wn set n 0 s.2.2.2.1) :
    Con M_X4_leastHat [.ref 10, .ref lp, .int (nI n)] (sH A s R) (fun q h' => (∃ v, q = some (.int v) ∧ OnR (OneC L wn set n) n v) ∧ ∃ S, h' = sH A (sS s S) R ∧ SGd s S) := by
  have h1 := cdB_lt hL (fun i _ => start_le L i)
  have h2 := nSt_le hL
  refine Con.of rfl (nb rfl) ?_
  refine T_aload_n dX4_leastHat_0 rfl ?_
  refine T_v0e (cu2 := 0) (su2 := 0) dX4_leastHat_1 lv_X4_67 rfl (sH_get hA rfl) rfl (c_X4_startNow hA hT.2.1 (by omega)) (nb rfl) (nb rfl) (nb rfl) (nb rfl) (nb rfl) ?_
  refine T_iconst (v := nI 0) dX4_leastHat_4 (by decide) ?_
  refine T_istore_n dX4_leastHat_5 (by decide) rfl ?_
  refine lp_X4_leastHat hA hL hT hG hlk hwn hn hGd n 0 (by omega) (va_up s.2.2.2.1 18 (2 ^ cdB L (start L))) (fun g hg => ?_) ?_ (fun g hg => absurd hg (by omega))
  · rw [va_up_ne _ _ (by omega)]
  · rw [va_up_self]; exact RC_0 hL
/-- the states ahead of hour h, a hat thrown up in hour e ahead of it -/
def HC (L : LK) (wn : Nat → Nat) (e : Nat) : Nat → Nat → Prop
  | 0, _ => False
  | h + 1, t => if h = e then HtS L wn e (RC L wn e) t else AftS L (wn h) (HC L wn e h) t
def TwoC (L : LK) (wn : Nat → Nat) (set n e h : Nat) : Prop := ∃ t, t < 128 ∧ HtS L wn h (HC L wn e h) t ∧ GdP L wn set n (n - (h + 1)) t
abbrev ltP (e h e2 h2 : Nat) : Prop := h < h2 ∨ (h = h2 ∧ e < e2)
/-- the first pair of hours, by the later one first -/
def TwR (p : Nat → Nat → Prop) (n : Nat) (a : Int32) : Prop := (∃ e h, e < h ∧ h < n ∧ p e h ∧ (∀ e2 h2, e2 < h2 → h2 < n → ltP e2 h2 e h → ¬ p e2 h2) ∧ a = nI (2 ^ e + 2 ^ h)) ∨ ((∀ e h, e < h → h < n → ¬ p e h) ∧ a = -9)
/-- the sets of leastTwoHats, those of early hours below j advanced -/
def TwI (L : LK) (wn : Nat → Nat) (i j : Nat) (S : Nat → Nat) : Prop := SetR (S 18) (RC L wn i) ∧ (∀ e, e < j → SetR (S (23 + 2 * e)) (HC L wn e (i + 1))) ∧ ∀ e, j ≤ e → e < i → SetR (S (23 + 2 * e)) (HC L wn e i)
theorem or3_N : ∀ h, h < 10 → ∀ e, e < 10 → e < h → ((1 : Int32) <<< (nI h &&& 31)) ||| ((1 : Int32) <<< (nI e &&& 31)) = nI (2 ^ e + 2 ^ h) := by decide
theorem lp_X4_leastTwoHats_in {set n i : Nat} (hA : A.length = 10) (hL : LOk L) (hT : TabOk L s) (hG : GOk s) (hlk : ∀ s, LkH (sH A s R) lp isl wo fl bp L) (hwn : wn i ≤ 2) (hn : n ≤ L_h L) (hi : i < n) (hGd : GdS L wn set n 0 s.2.2.2.1)
    {Qa : Option Value → XH → Prop} (hQ : ∀ e S, e < i → TwoC L wn set n e i → (∀ e2, e2 < e → ¬ TwoC L wn set n e2 i) → Qa (some (.int (nI (2 ^ e + 2 ^ i)))) (sH A (sS s S) R))
    (K : ∀ S, SGd s S → TwI L wn i i S → (∀ e, e < i → ¬ TwoC L wn set n e i) → T M_X4_leastTwoHats x_E (x_Z M_X4_leastTwoHats Qa) 0 0 105 [(0, .ref 10), (1, .ref lp), (2, .int (nI n)), (3, .int (nI i)), (4, .int (nI (wn i)))] [] (sH A (sS s S) R)) :
    ∀ m j, j + m = i → ∀ S, SGd s S → TwI L wn i j S → (∀ e, e < j → ¬ TwoC L wn set n e i) → T M_X4_leastTwoHats x_E (x_Z M_X4_leastTwoHats Qa) 0 0 22 [(0, .ref 10), (1, .ref lp), (2, .int (nI n)), (3, .int (nI i)), (4, .int (nI (wn i))), (5, .int (nI j))] [] (sH A (sS s S) R) := by
  have h10 := hL.2.1
  intro m
  induction m with
  | zero =>
    intro j hj S hSG hS hno
    obtain rfl : j = i := by omega
    refine T_iload dX4_leastTwoHats_22 rfl ?_
    refine T_iload_n dX4_leastTwoHats_24 rfl ?_
    refine T_icmp_geN (tgt := 105) dX4_leastTwoHats_25 (by decide) (by omega) (by omega) (fun c25 => ?_) (fun c25 => ?_)
    · exact T_pick [0, 1, 2, 3, 4] (K S hSG hS hno)
    · exact absurd c25 (by omega)
  | succ m ih =>
    intro j hj S hSG hS hno
    have hg1 : SetR (S (22 + 2 * (i + 1))) (GdP L wn set n (n - (i + 1))) := by
      rw [hSG (i + 1) (by omega)]
      exact hGd (i + 1) (by omega) (by omega)
    have hSj := hS.2.2 j (Nat.le_refl _) (by omega)
    refine T_iload dX4_leastTwoHats_22 rfl ?_
    refine T_iload_n dX4_leastTwoHats_24 rfl ?_
    refine T_icmp_geN (tgt := 105) dX4_leastTwoHats_25 (by decide) (by omega) (by omega) (fun c25 => ?_) (fun c25 => ?_)
    · exact absurd c25 (by omega)
    · refine T_aload_n dX4_leastTwoHats_28 rfl ?_
      refine T_aload_n dX4_leastTwoHats_29 rfl ?_
      refine T_get dX4_leastTwoHats_30 fl_X4_60_4 (sH_get hA rfl) rfl ?_
      refine T_iload dX4_leastTwoHats_33 rfl ?_
      refine T_aald5 dX4_leastTwoHats_35 (sH_get hA rfl) (nI_in10 (by omega)) (by rw [nI_clamp (by omega)]; exact hG.2 j (by omega)) ?_
      refine T_iload dX4_leastTwoHats_36 rfl ?_
      refine T_aload_n dX4_leastTwoHats_38 rfl ?_
      refine T_get dX4_leastTwoHats_39 fl_X4_53_4 (sH_get hA rfl) rfl ?_
      refine T_v3q (cu2 := 0) (su2 := 0) dX4_leastTwoHats_42 lv_X4_101 rfl (sH_get hA rfl) rfl (c_X4_throwHat (s := sS s S) (kb := 19) hA hL hT (isSt_h (by omega)) (by decide) (by omega) hwn rfl hSj.1) (nb rfl) (nb rfl) (nb rfl) (nb rfl) (nb rfl) (fun r42 h42 q42 => ?_)
      obtain ⟨rfl, Y, rfl, hY1, hY2⟩ := q42
      have hYr : SetR Y (HtS L wn i (HC L wn j i)) := ⟨hY1, fun t ht => (hY2 t ht).trans (HtS_c hL (fun u hu => hSj.2 u hu) ht)⟩
      have hk9 : (sH A (sS s (va_up S 19 Y)) R)[22 + 2 * (i + 1)]? = some (stN (S (22 + 2 * (i + 1)))) := by
        rw [sH_st hA (isSt_g (by omega))]
        show some (stN (va_up S 19 Y (22 + 2 * (i + 1)))) = _
        rw [va_up_ne _ _ (by omega)]
      refine T_h (h2 := sH A (sS s (va_up S 19 Y)) R) rfl ?_
      refine T_aload_n dX4_leastTwoHats_45 rfl ?_
      refine T_get dX4_leastTwoHats_46 fl_X4_53_4 (sH_get hA rfl) rfl ?_
      refine T_aload_n dX4_leastTwoHats_49 rfl ?_
      refine T_get dX4_leastTwoHats_50 fl_X4_56_4 (sH_get hA rfl) rfl ?_
      refine T_iload_n dX4_leastTwoHats_53 rfl ?_
      refine T_iconst (v := nI 1) dX4_leastTwoHats_54 (by decide) ?_
      refine T_iaddN dX4_leastTwoHats_55 ?_
      refine T_aald5 dX4_leastTwoHats_56 (sH_get hA rfl) (nI_in11 (by omega)) (by rw [nI_clamp (by omega)]; exact hG.1 (i + 1) (by omega)) ?_
      refine T_get dX4_leastTwoHats_57 fl_X4_105_6 hk9 rfl ?_
      refine T_aload_n dX4_leastTwoHats_60 rfl ?_
      refine T_get dX4_leastTwoHats_61 fl_X4_56_4 (sH_get hA rfl) rfl ?_
      refine T_iload_n dX4_leastTwoHats_64 rfl ?_
      refine T_iconst (v := nI 1) dX4_leastTwoHats_65 (by decide) ?_
      refine T_iaddN dX4_leastTwoHats_66 ?_
      refine T_aald5 dX4_leastTwoHats_67 (sH_get hA rfl) (nI_in11 (by omega)) (by rw [nI_clamp (by omega)]; exact hG.1 (i + 1) (by omega)) ?_
      refine T_get dX4_leastTwoHats_68 fl_X4_109_6 hk9 rfl ?_
      refine T_v2e (cu2 := 0) (su2 := 0) dX4_leastTwoHats_71 lv_X4_112 rfl (sH_get hA rfl) rfl (c_X6_meets (S := Y) (sH_get (k := 9) hA rfl) hY1 hg1.1) (nb rfl) (nb rfl) (nb rfl) (nb rfl) (nb rfl) ?_
      refine T_if_eqB (tgt := 86) dX4_leastTwoHats_74 (by decide) (fun c74 => ?_) (fun c74 => ?_)
      · refine T_aload_n dX4_leastTwoHats_86 rfl ?_
        refine T_aload_n dX4_leastTwoHats_87 rfl ?_
        refine T_get dX4_leastTwoHats_88 fl_X4_60_4 (sH_get hA rfl) rfl ?_
        refine T_iload dX4_leastTwoHats_91 rfl ?_
        refine T_aald5 dX4_leastTwoHats_93 (sH_get hA rfl) (nI_in10 (by omega)) (by rw [nI_clamp (by omega)]; exact hG.2 j (by omega)) ?_
        refine T_iload dX4_leastTwoHats_94 rfl ?_
        refine T_v2q (cu2 := 0) (su2 := 0) dX4_leastTwoHats_96 lv_X4_82 rfl (sH_get hA rfl) rfl (c_X4_advance (s := sS s (va_up S 19 Y)) (ka := 23 + 2 * j) hA hL hT (isSt_h (by omega)) (by omega) hwn (va_up_ne _ _ (by omega)) hSj.1) (nb rfl) (nb rfl) (nb rfl) (nb rfl) (nb rfl) (fun r96 h96 q96 => ?_)
        obtain ⟨rfl, X, rfl, hX1, hX2⟩ := q96
        refine T_iincN dX4_leastTwoHats_99 rfl (by decide) rfl ?_
        refine T_goto (tgt := 22) dX4_leastTwoHats_102 (by decide) ?_
        refine ih (j + 1) (by omega) (va_up (va_up (va_up S 19 Y) 19 X) (23 + 2 * j) X) (fun g hg => ?_) ⟨?_, fun e he => ?_, fun e h1 h2 => ?_⟩ (fun e he => ?_)
        · rw [va_up_ne _ _ (by omega), va_up_ne _ _ (by omega), va_up_ne _ _ (by omega)]; exact hSG g hg
        · rw [va_up_ne _ _ (by omega), va_up_ne _ _ (by omega), va_up_ne _ _ (by omega)]; exact hS.1
        · by_cases q : e = j
          · subst q
            rw [va_up_self]
            refine ⟨hX1, fun t ht => ?_⟩
            rw [hX2 t ht, HC, if_neg (by omega)]
            exact AftS_c hL (fun u hu => hSj.2 u hu) ht
          · rw [va_up_ne _ _ (by omega), va_up_ne _ _ (by omega), va_up_ne _ _ (by omega)]; exact hS.2.1 e (by omega)
        · rw [va_up_ne _ _ (by omega), va_up_ne _ _ (by omega), va_up_ne _ _ (by omega)]; exact hS.2.2 e (by omega) h2
        · by_cases q : e = j
          · subst q; exact fun z => c74 ((meet_X hYr hg1).mpr z)
          · exact hno e (by omega)
      · refine T_iconst (v := 1) dX4_leastTwoHats_77 (by decide) ?_
        refine T_iload_n dX4_leastTwoHats_78 rfl ?_
        refine T_ishl dX4_leastTwoHats_79 ?_
        refine T_iconst (v := 1) dX4_leastTwoHats_80 (by decide) ?_
        refine T_iload dX4_leastTwoHats_81 rfl ?_
        refine T_ishl dX4_leastTwoHats_83 ?_
        refine T_ior dX4_leastTwoHats_84 ?_
        refine T_iret dX4_leastTwoHats_85 rfl (nb rfl) (nb rfl) ?_
        rw [or3_N i (by omega) j (by omega) (by omega)]
        exact hQ j _ (by omega) ((meet_X hYr hg1).mp c74) hno
theorem lp_X4_leastTwoHats {set n : Nat} (hA : A.length = 10) (hL : LOk L) (hT : TabOk L s) (hG : GOk s) (hlk : ∀ s, LkH (sH A s R) lp isl wo fl bp L) (hwn : ∀ s, WnH (sH A s R) wo L wn) (hn : n ≤ L_h L) (hGd : GdS L wn set n 0 s.2.2.2.1) : ∀ m i, i + m = n → ∀ S, SGd s S → TwI L wn i 0 S → (∀ e h, e < h → h < i → ¬ TwoC L wn set n e h) →
    T M_X4_leastTwoHats x_E (x_Z M_X4_leastTwoHats (fun q h' => (∃ v, q = some (.int v) ∧ TwR (TwoC L wn set n) n v) ∧ ∃ S, h' = sH A (sS s S) R)) 0 0 6 [(0, .ref 10), (1, .ref lp), (2, .int (nI n)), (3, .int (nI i))] [] (sH A (sS s S) R) := by
  have h10 := hL.2.1
  intro m
  induction m with
  | zero =>
    intro i hi S hSG hS hno
    obtain rfl : i = n := by omega
    refine T_iload_n dX4_leastTwoHats_6 rfl ?_
    refine T_iload_n dX4_leastTwoHats_7 rfl ?_
    refine T_icmp_geN (tgt := 137) dX4_leastTwoHats_8 (by decide) (by omega) (by omega) (fun c8 => ?_) (fun c8 => ?_)
    · refine T_bipush (v := (-9)) dX4_leastTwoHats_137 (by decide) ?_
      refine T_iret dX4_leastTwoHats_139 rfl (nb rfl) (nb rfl) ?_
      exact ⟨⟨_, rfl, Or.inr ⟨hno, rfl⟩⟩, S, rfl⟩
    · exact absurd c8 (by omega)
  | succ m ih =>
    intro i hi S hSG hS hno
    obtain ⟨W, w1, w2⟩ := hwn (sS s S)
    have hwg := w2 i (by omega)
    have hQ1 : ∀ e S2, e < i → TwoC L wn set n e i → (∀ e2, e2 < e → ¬ TwoC L wn set n e2 i) → (fun (q : Option Value) (h' : XH) => (∃ v, q = some (Value.int v) ∧ TwR (TwoC L wn set n) n v) ∧ ∃ S, h' = sH A (sS s S) R) (some (Value.int (nI (2 ^ e + 2 ^ i)))) (sH A (sS s S2) R) := by
      intro e S2 he h1 h2
      refine ⟨⟨_, rfl, Or.inl ⟨e, i, he, by omega, h1, fun e2 j2 a b c => ?_, rfl⟩⟩, S2, rfl⟩
      rcases c with c | ⟨c, d⟩
      · exact hno e2 j2 a c
      · subst c; exact h2 e2 d
    have K105 : ∀ S2, SGd s S2 → TwI L wn i i S2 → (∀ e, e < i → ¬ TwoC L wn set n e i) → T M_X4_leastTwoHats x_E (x_Z M_X4_leastTwoHats (fun q h' => (∃ v, q = some (.int v) ∧ TwR (TwoC L wn set n) n v) ∧ ∃ S, h' = sH A (sS s S) R)) 0 0 105 [(0, .ref 10), (1, .ref lp), (2, .int (nI n)), (3, .int (nI i)), (4, .int (nI (wn i)))] [] (sH A (sS s S2) R) := by
      intro S2 hSG2 hS2 hno2
      refine T_aload_n dX4_leastTwoHats_105 rfl ?_
      refine T_aload_n dX4_leastTwoHats_106 rfl ?_
      refine T_get dX4_leastTwoHats_107 fl_X4_49_4 (sH_get hA rfl) rfl ?_
      refine T_iload dX4_leastTwoHats_110 rfl ?_
      refine T_aload_n dX4_leastTwoHats_112 rfl ?_
      refine T_get dX4_leastTwoHats_113 fl_X4_60_4 (sH_get hA rfl) rfl ?_
      refine T_iload_n dX4_leastTwoHats_116 rfl ?_
      refine T_aald5 dX4_leastTwoHats_117 (sH_get hA rfl) (nI_in10 (by omega)) (by rw [nI_clamp (by omega)]; exact hG.2 i (by omega)) ?_
      refine T_v3q (cu2 := 0) (su2 := 0) dX4_leastTwoHats_118 lv_X4_101 rfl (sH_get hA rfl) rfl (c_X4_throwHat (s := sS s S2) (ka := 18) hA hL hT (by decide) (isSt_h (by omega)) (by omega) hwg.2 rfl hS2.1.1) (nb rfl) (nb rfl) (nb rfl) (nb rfl) (nb rfl) (fun r118 h118 q118 => ?_)
      obtain ⟨rfl, Y, rfl, hY1, hY2⟩ := q118
      refine T_h (h2 := sH A (sS s (va_up S2 (23 + 2 * i) Y)) R) rfl ?_
      refine T_aload_n dX4_leastTwoHats_121 rfl ?_
      refine T_aload_n dX4_leastTwoHats_122 rfl ?_
      refine T_get dX4_leastTwoHats_123 fl_X4_49_4 (sH_get hA rfl) rfl ?_
      refine T_iload dX4_leastTwoHats_126 rfl ?_
      refine T_v2q (cu2 := 0) (su2 := 0) dX4_leastTwoHats_128 lv_X4_82 rfl (sH_get hA rfl) rfl (c_X4_advance (s := sS s (va_up S2 (23 + 2 * i) Y)) (ka := 18) hA hL hT (by decide) (by decide) hwg.2 (va_up_ne _ _ (by omega)) hS2.1.1) (nb rfl) (nb rfl) (nb rfl) (nb rfl) (nb rfl) (fun r128 h128 q128 => ?_)
      obtain ⟨rfl, X, rfl, hX1, hX2⟩ := q128
      refine T_iincN dX4_leastTwoHats_131 rfl (by decide) rfl ?_
      refine T_goto (tgt := 6) dX4_leastTwoHats_134 (by decide) ?_
      refine T_pick [0, 1, 2, 3] (ih (i + 1) (by omega) (va_up (va_up (va_up S2 (23 + 2 * i) Y) 19 X) 18 X) (fun g hg => ?_) ⟨?_, fun e he => absurd he (by omega), fun e _ he => ?_⟩ (fun e j h1 h2 => ?_))
      · rw [va_up_ne _ _ (by omega), va_up_ne _ _ (by omega), va_up_ne _ _ (by omega)]; exact hSG2 g hg
      · rw [va_up_self]; exact RC_s hL hS2.1 hX1 hX2
      · by_cases q : e = i
        · subst q
          rw [va_up_ne _ _ (by omega), va_up_ne _ _ (by omega), va_up_self]
          refine ⟨hY1, fun t ht => ?_⟩
          rw [hY2 t ht, HC, if_pos rfl]
          exact HtS_c hL (fun u hu => hS2.1.2 u hu) ht
        · rw [va_up_ne _ _ (by omega), va_up_ne _ _ (by omega), va_up_ne _ _ (by omega)]; exact hS2.2.1 e (by omega)
      · by_cases q : j = i
        · subst q; exact hno2 e h1
        · exact hno e j h1 (by omega)
    refine T_iload_n dX4_leastTwoHats_6 rfl ?_
    refine T_iload_n dX4_leastTwoHats_7 rfl ?_
    refine T_icmp_geN (tgt := 137) dX4_leastTwoHats_8 (by decide) (by omega) (by omega) (fun c8 => ?_) (fun c8 => ?_)
    · exact absurd c8 (by omega)
    · refine T_aload_n dX4_leastTwoHats_11 rfl ?_
      refine T_get dX4_leastTwoHats_12 fl_X4_79_1 (hlk _).1 rfl ?_
      refine T_iload_n dX4_leastTwoHats_15 rfl ?_
      refine T_ialdN dX4_leastTwoHats_16 w1 (by omega) (by decide) ?_
      refine T_top hwg.1 ?_
      refine T_istore dX4_leastTwoHats_17 (by decide) rfl ?_
      refine T_iconst (v := nI 0) dX4_leastTwoHats_19 (by decide) ?_
      refine T_istore dX4_leastTwoHats_20 (by decide) rfl ?_
      exact lp_X4_leastTwoHats_in hA hL hT hG hlk hwg.2 hn (by omega) hGd hQ1 K105 i 0 (by omega) S hSG hS (fun e he => absurd he (by omega))
theorem c_X4_leastTwoHats {set n : Nat} (hA : A.length = 10) (hL : LOk L) (hT : TabOk L s) (hG : GOk s) (hlk : ∀ s, LkH (sH A s R) lp isl wo fl bp L) (hwn : ∀ s, WnH (sH A s R) wo L wn) (hn : n ≤ L_h L) (hGd : GdS L wn set n 0 s.2.2.2.1) :
    Con M_X4_leastTwoHats [.ref 10, .ref lp, .int (nI n)] (sH A s R) (fun q h' => (∃ v, q = some (.int v) ∧ TwR (TwoC L wn set n) n v) ∧ ∃ S, h' = sH A (sS s S) R) := by
  have h1 := cdB_lt hL (fun i _ => start_le L i)
  have h2 := nSt_le hL
  refine Con.of rfl (nb rfl) ?_
  refine T_aload_n dX4_leastTwoHats_0 rfl ?_
  refine T_v0e (cu2 := 0) (su2 := 0) dX4_leastTwoHats_1 lv_X4_67 rfl (sH_get hA rfl) rfl (c_X4_startNow hA hT.2.1 (by omega)) (nb rfl) (nb rfl) (nb rfl) (nb rfl) (nb rfl) ?_
  refine T_iconst (v := nI 0) dX4_leastTwoHats_4 (by decide) ?_
  refine T_istore_n dX4_leastTwoHats_5 (by decide) rfl ?_
  refine lp_X4_leastTwoHats hA hL hT hG hlk hwn hn hGd n 0 (by omega) (va_up s.2.2.2.1 18 (2 ^ cdB L (start L))) (fun g hg => ?_) ⟨?_, fun e he => absurd he (by omega), fun e _ he => absurd he (by omega)⟩ (fun e h _ q => absurd q (by omega))
  · rw [va_up_ne _ _ (by omega)]
  · rw [va_up_self]; exact RC_0 hL
end S5
