/-! the search: fillGood, fewestHours behind prepare, leastHat -/
section S4
variable {A R : XH} {s : SSt} {L : LK} {Z : XZ} {wn : Nat → Nat} {lp isl wo fl : Nat} {bp : Nat → Nat}
abbrev sS (s : SSt) (S : Nat → Nat) : SSt := (s.1, (s.2.1, (s.2.2.1, (S, s.2.2.2.2))))
/-- from t, with k hours left up to hour n, the set is over behind hour n -/
def GdP (L : LK) (wn : Nat → Nat) (set n : Nat) : Nat → Nat → Prop
  | 0, t => t < nSt L ∧ (ovS L t &&& set) = set
  | k + 1, t => PreP L (wn (n - (k + 1))) (GdP L wn set n k) t
theorem PreP_c {w t : Nat} {P Q : Nat → Prop} (h : ∀ u, u < 128 → (P u ↔ Q u)) (ht : t < 128) : PreP L w P t ↔ PreP L w Q t := by
  unfold PreP
  by_cases e : w = 0
  · rw [if_pos e, if_pos e]; exact h t ht
  · rw [if_neg e, if_neg e]
    exact ⟨fun ⟨a, u, b, c, d⟩ => ⟨a, u, b, c, (h u b).mp d⟩, fun ⟨a, u, b, c, d⟩ => ⟨a, u, b, c, (h u b).mpr d⟩⟩
theorem AftS_c (hL : LOk L) {w t : Nat} {P Q : Nat → Prop} (h : ∀ u, u < 128 → (P u ↔ Q u)) (ht : t < 128) : AftS L w P t ↔ AftS L w Q t := by
  have hn := nSt_le hL
  unfold AftS
  by_cases e : w = 0
  · rw [if_pos e, if_pos e]; exact h t ht
  · rw [if_neg e, if_neg e]
    exact ⟨fun ⟨u, b, c, d⟩ => ⟨u, b, (h u (by omega)).mp c, d⟩, fun ⟨u, b, c, d⟩ => ⟨u, b, (h u (by omega)).mpr c, d⟩⟩
/-- the sets good[g] for g from g0 to n -/
def GdS (L : LK) (wn : Nat → Nat) (set n g0 : Nat) (S : Nat → Nat) : Prop := ∀ g, g0 ≤ g → g ≤ n → S (22 + 2 * g) < 2 ^ 128 ∧ ∀ t, t < 128 → (bt (S (22 + 2 * g)) t ↔ GdP L wn set n (n - g) t)
theorem isSt_g {g : Nat} (h : g ≤ 10) : isSt (22 + 2 * g) := by unfold isSt; omega
theorem isSt_h {g : Nat} (h : g < 10) : isSt (23 + 2 * g) := by unfold isSt; omega
theorem nI_in11 {g : Nat} (h : g ≤ 10) : vp_in (nI g) 11 := nI_in (by omega) (by decide)
theorem nI_in10 {g : Nat} (h : g < 10) : vp_in (nI g) 10 := nI_in (by omega) (by decide)
theorem lp_X4_fillGood_2 {set n : Nat} (hA : A.length = 10) (hL : LOk L) (hT : TabOk L s) (hG : GOk s) (hlk : ∀ s, LkH (sH A s R) lp isl wo fl bp L) (hwn : ∀ s, WnH (sH A s R) wo L wn) (hn : n ≤ L_h L) : ∀ g, g ≤ n → ∀ S, GdS L wn set n g S →
    T M_X4_fillGood x_E (x_Z M_X4_fillGood (fun q h' => q = none ∧ ∃ S, h' = sH A (sS s S) R ∧ GdS L wn set n 0 S)) 0 0 56 [(0, .ref 10), (1, .ref lp), (2, .int (nI set)), (3, .int (nI n)), (4, .int (nI g - 1))] [] (sH A (sS s S) R) := by
  have h10 := hL.2.1
  intro g
  induction g with
  | zero =>
    intro _ S hS
    refine T_iload dX4_fillGood_56 rfl ?_
    refine T_if_lt (tgt := 94) dX4_fillGood_58 (by decide) (fun c58 => ?_) (fun c58 => ?_)
    · refine T_vret dX4_fillGood_94 rfl (nb rfl) (nb rfl) ?_
      exact ⟨rfl, S, rfl, hS⟩
    · exact absurd nI_m1 c58
  | succ g ih =>
    intro hg S hS
    rw [nI_pred]
    obtain ⟨W, w1, w2⟩ := hwn (sS s S)
    have hwg := w2 g (by omega)
    have hb := hS (g + 1) (Nat.le_refl _) hg
    refine T_iload dX4_fillGood_56 rfl ?_
    refine T_if_ltN (tgt := 94) dX4_fillGood_58 (by decide) (by omega) (fun c58 => ?_) (fun c58 => ?_)
    · exact absurd c58 (by intro q; exact q)
    · refine T_aload_n dX4_fillGood_61 rfl ?_
      refine T_aload_n dX4_fillGood_62 rfl ?_
      refine T_get dX4_fillGood_63 fl_X4_56_4 (sH_get hA rfl) rfl ?_
      refine T_iload dX4_fillGood_66 rfl ?_
      refine T_aald5 dX4_fillGood_68 (sH_get hA rfl) (nI_in11 (by omega)) (by rw [nI_clamp (by omega)]; exact hG.1 g (by omega)) ?_
      refine T_aload_n dX4_fillGood_69 rfl ?_
      refine T_get dX4_fillGood_70 fl_X4_79_1 (hlk _).1 rfl ?_
      refine T_iload dX4_fillGood_73 rfl ?_
      refine T_ialdN dX4_fillGood_75 w1 (by omega) (by decide) ?_
      refine T_top hwg.1 ?_
      refine T_aload_n dX4_fillGood_76 rfl ?_
      refine T_get dX4_fillGood_77 fl_X4_56_4 (sH_get hA rfl) rfl ?_
      refine T_iload dX4_fillGood_80 rfl ?_
      refine T_iconst (v := nI 1) dX4_fillGood_82 (by decide) ?_
      refine T_iaddN dX4_fillGood_83 ?_
      refine T_aald5 dX4_fillGood_84 (sH_get hA rfl) (nI_in11 (by omega)) (by rw [nI_clamp (by omega)]; exact hG.1 (g + 1) (by omega)) ?_
      refine T_v3q (cu2 := 0) (su2 := 0) dX4_fillGood_85 lv_X4_123 rfl (sH_get hA rfl) rfl (c_X4_fillGoodAhead (s := sS s S) hA hL hT (isSt_g (by omega)) (isSt_g (by omega)) (by omega) hwg.2 rfl hb.1) (nb rfl) (nb rfl) (nb rfl) (nb rfl) (nb rfl) (fun r85 h85 q85 => ?_)
      obtain ⟨rfl, X, rfl, hX1, hX2⟩ := q85
      refine T_iinc dX4_fillGood_88 rfl (by decide) rfl ?_
      refine T_goto (tgt := 56) dX4_fillGood_91 (by decide) ?_
      refine T_ls ?_ (ih (by omega) (va_up S (22 + 2 * g) X) (fun j h1 h2 => ?_))
      · rw [nI_am1]; rfl
      · by_cases e : j = g
        · subst e
          rw [va_up_self]
          refine ⟨hX1, fun t ht => ?_⟩
          rw [hX2 t ht, show n - j = (n - (j + 1)) + 1 by omega, GdP, show n - (n - (j + 1) + 1) = j by omega]
          exact PreP_c (fun u hu => hb.2 u hu) ht
        · rw [va_up_ne _ _ (by omega)]
          exact hS j (by omega) h2
theorem c_X4_fillGood {set n : Nat} (hA : A.length = 10) (hL : LOk L) (hT : TabOk L s) (hG : GOk s) (hlk : ∀ s, LkH (sH A s R) lp isl wo fl bp L) (hwn : ∀ s, WnH (sH A s R) wo L wn) (hs : set < 8) (hn : n ≤ L_h L) : Con M_X4_fillGood [.ref 10, .ref lp, .int (nI set), .int (nI n)] (sH A s R) (fun q h' => q = none ∧ ∃ S, h' = sH A (sS s S) R ∧ GdS L wn set n 0 S) := by
  have h10 := hL.2.1
  have hN := nSt_le hL
  have key : ∀ m i, i + m = nSt L → ∀ X, X < 2 ^ 128 → (∀ t, t < 128 → (bt X t ↔ (t < i ∧ (ovS L t &&& set) = set))) → T M_X4_fillGood x_E (x_Z M_X4_fillGood (fun q h' => q = none ∧ ∃ S, h' = sH A (sS s S) R ∧ GdS L wn set n 0 S)) 0 0 12 [(0, .ref 10), (1, .ref lp), (2, .int (nI set)), (3, .int (nI n)), (4, .int (nI i))] [] (sH A (sSt s (22 + 2 * n) X) R) := by
    intro m
    induction m with
    | zero =>
      intro i hi X hX hI
      obtain rfl : i = nSt L := by omega
      refine T_iload dX4_fillGood_12 rfl ?_
      refine T_aload_n dX4_fillGood_14 rfl ?_
      refine T_get dX4_fillGood_15 fl_X4_15_4 (sH_get hA rfl) rfl ?_
      refine T_top hT.1 ?_
      refine T_icmp_geN (tgt := 51) dX4_fillGood_18 (by decide) (by omega) (by omega) (fun c18 => ?_) (fun c18 => ?_)
      · refine T_iload_n dX4_fillGood_51 rfl ?_
        refine T_iconst (v := 1) dX4_fillGood_52 (by decide) ?_
        refine T_isub dX4_fillGood_53 ?_
        refine T_istore dX4_fillGood_54 (by decide) rfl ?_
        refine lp_X4_fillGood_2 (s := s) hA hL hT hG hlk hwn hn n (Nat.le_refl _) _ (fun j h1 h2 => ?_)
        obtain rfl : j = n := by omega
        rw [va_up_self, Nat.sub_self]
        exact ⟨hX, hI⟩
      · exact absurd c18 (by omega)
    | succ m ih =>
      intro i hi X hX hI
      have ho := ovS_lt hL i
      have e := and_N _ ho set hs
      rw [beq_iff_eq] at e
      have hk : (sH A (sSt s (22 + 2 * n) X) R)[22 + 2 * n]? = some (stN X) := by rw [sH_st hA (isSt_g (by omega)), sSt_k]
      refine T_iload dX4_fillGood_12 rfl ?_
      refine T_aload_n dX4_fillGood_14 rfl ?_
      refine T_get dX4_fillGood_15 fl_X4_15_4 (sH_get hA rfl) rfl ?_
      refine T_top hT.1 ?_
      refine T_icmp_geN (tgt := 51) dX4_fillGood_18 (by decide) (by omega) (by omega) (fun c18 => ?_) (fun c18 => ?_)
      · exact absurd c18 (by omega)
      · refine T_aload_n dX4_fillGood_21 rfl ?_
        refine T_get dX4_fillGood_22 fl_X4_29_4 (sH_get hA rfl) rfl ?_
        refine T_iload dX4_fillGood_25 rfl ?_
        refine T_ialdN dX4_fillGood_27 (sH_get hA rfl) (by omega) (by decide) ?_
        refine T_top (hT.2.2.1 i (by omega)) ?_
        refine T_iload_n dX4_fillGood_28 rfl ?_
        refine T_iand dX4_fillGood_29 ?_
        refine T_iload_n dX4_fillGood_30 rfl ?_
        refine T_icmp_ne (tgt := 45) dX4_fillGood_31 (by decide) (fun c31 => ?_) (fun c31 => ?_)
        · refine T_iincN dX4_fillGood_45 rfl (by decide) rfl ?_
          refine T_goto (tgt := 12) dX4_fillGood_48 (by decide) ?_
          first
            | (refine ih (i + 1) (by omega) _ (or_lt hX (pw_lt128 (by omega))) (fun t ht => ?_)
               rw [bt_or, bt_pw, hI t ht]
               constructor
               · rintro (q | q)
                 · exact ⟨by omega, q.2⟩
                 · subst q; exact ⟨by omega, e.mp c31⟩
               · intro q
                 by_cases e2 : i = t
                 · exact Or.inr e2
                 · exact Or.inl ⟨by omega, q.2⟩)
            | (refine ih (i + 1) (by omega) _ hX (fun t ht => ?_)
               rw [hI t ht]
               constructor
               · intro q; exact ⟨by omega, q.2⟩
               · intro q
                 by_cases e2 : i = t
                 · subst e2; exact absurd (e.mpr q.2) c31
                 · exact ⟨by omega, q.2⟩)
        · refine T_aload_n dX4_fillGood_34 rfl ?_
          refine T_get dX4_fillGood_35 fl_X4_56_4 (sH_get hA rfl) rfl ?_
          refine T_iload_n dX4_fillGood_38 rfl ?_
          refine T_aald5 dX4_fillGood_39 (sH_get hA rfl) (nI_in11 (by omega)) (by rw [nI_clamp (by omega)]; exact hG.1 n (by omega)) ?_
          refine T_iload dX4_fillGood_40 rfl ?_
          refine T_v1e (cu2 := 0) (su2 := 0) dX4_fillGood_42 lv_X4_119 rfl hk rfl (c_X6_add hk hX (by omega)) (nb rfl) (nb rfl) (nb rfl) (nb rfl) (nb rfl) ?_
          refine T_h (sH_sst hA (isSt_g (by omega))) ?_
          refine T_h (congrArg (fun z => sH A z R) sSt2) ?_
          refine T_iincN dX4_fillGood_45 rfl (by decide) rfl ?_
          refine T_goto (tgt := 12) dX4_fillGood_48 (by decide) ?_
          first
            | (refine ih (i + 1) (by omega) _ (or_lt hX (pw_lt128 (by omega))) (fun t ht => ?_)
               rw [bt_or, bt_pw, hI t ht]
               constructor
               · rintro (q | q)
                 · exact ⟨by omega, q.2⟩
                 · subst q; exact ⟨by omega, e.mp c31⟩
               · intro q
                 by_cases e2 : i = t
                 · exact Or.inr e2
                 · exact Or.inl ⟨by omega, q.2⟩)
            | (refine ih (i + 1) (by omega) _ hX (fun t ht => ?_)
               rw [hI t ht]
               constructor
               · intro q; exact ⟨by omega, q.2⟩
               · intro q
                 by_cases e2 : i = t
                 · subst e2; exact absurd (e.mpr q.2) c31
                 · exact ⟨by omega, q.2⟩)
  refine Con.of rfl (nb rfl) ?_
  refine T_aload_n dX4_fillGood_0 rfl ?_
  refine T_get dX4_fillGood_1 fl_X4_56_4 (sH_get hA rfl) rfl ?_
  refine T_iload_n dX4_fillGood_4 rfl ?_
  refine T_aald5 dX4_fillGood_5 (sH_get hA rfl) (nI_in11 (by omega)) (by rw [nI_clamp (by omega)]; exact hG.1 n (by omega)) ?_
  refine T_v0e (cu2 := 0) (su2 := 0) dX4_fillGood_6 lv_X4_116 rfl (sH_st hA (isSt_g (by omega))) rfl (c_X6_clear (sH_st hA (isSt_g (by omega)))) (nb rfl) (nb rfl) (nb rfl) (nb rfl) (nb rfl) ?_
  refine T_h (sH_sst hA (isSt_g (by omega))) ?_
  refine T_iconst (v := nI 0) dX4_fillGood_9 (by decide) ?_
  refine T_istore dX4_fillGood_10 (by decide) rfl ?_
  exact key (nSt L) 0 (by omega) 0 (by decide) (fun t ht => ⟨fun q => absurd q bt_0, fun q => absurd q.1 (by omega)⟩)
/-- the states ahead of hour h, by the winds as they are -/
def RC (L : LK) (wn : Nat → Nat) : Nat → Nat → Prop
  | 0, t => t = cdB L (start L)
  | h + 1, t => AftS L (wn h) (RC L wn h) t
def OvC (L : LK) (wn : Nat → Nat) (set h : Nat) : Prop := ∃ u, u < nSt L ∧ (ovS L u &&& set) = set ∧ RC L wn h u
def SoC (L : LK) (wn : Nat → Nat) (set H : Nat) (a : Int32) : Prop := (∃ h, h ≤ H ∧ OvC L wn set h ∧ (∀ g, g < h → ¬ OvC L wn set g) ∧ a = nI h) ∨ ((∀ g, g ≤ H → ¬ OvC L wn set g) ∧ a = -9)
abbrev SetR (X : Nat) (P : Nat → Prop) : Prop := X < 2 ^ 128 ∧ ∀ t, t < 128 → (bt X t ↔ P t)
theorem cdB_lt (hL : LOk L) {p : Nat → Nat} (hp : ∀ i, i < L_n L → p i ≤ L_w L) : cdB L p < nSt L := cB_lt (fun i hi => by have := hp i hi; omega) _ (Nat.le_refl _)
theorem RC_0 (hL : LOk L) : SetR (2 ^ cdB L (start L)) (RC L wn 0) := by
  have h1 := cdB_lt hL (fun i _ => start_le L i)
  have h2 := nSt_le hL
  exact ⟨pw_lt128 (by omega), fun t _ => bt_pw.trans ⟨fun q => q.symm, fun q => q.symm⟩⟩
theorem RC_s (hL : LOk L) {h X Y : Nat} (hX : SetR X (RC L wn h)) (hY : Y < 2 ^ 128) (hY2 : ∀ t, t < 128 → (bt Y t ↔ AftS L (wn h) (bt X) t)) : SetR Y (RC L wn (h + 1)) :=
  ⟨hY, fun t ht => (hY2 t ht).trans (AftS_c hL (fun u hu => hX.2 u hu) ht)⟩
theorem OvC_X (hL : LOk L) {set h X : Nat} (hX : SetR X (RC L wn h)) : (∃ u, u < nSt L ∧ (ovS L u &&& set) = set ∧ bt X u) ↔ OvC L wn set h := by
  have h2 := nSt_le hL
  exact ⟨fun ⟨u, a, b, c⟩ => ⟨u, a, b, (hX.2 u (by omega)).mp c⟩, fun ⟨u, a, b, c⟩ => ⟨u, a, b, (hX.2 u (by omega)).mpr c⟩⟩
theorem lp_X4_fewestHours {set : Nat} (hA : A.length = 10) (hL : LOk L) (hT : TabOk L s) (hlk : ∀ s, LkH (sH A s R) lp isl wo fl bp L) (hwn : ∀ s, WnH (sH A s R) wo L wn) (hs : set < 8) : ∀ m i, i + m = L_h L → ∀ S, SetR (S 18) (RC L wn i) → (∀ g, g < i → ¬ OvC L wn set g) →
    T M_X4_fewestHours x_E (x_Z M_X4_fewestHours (fun q h' => (∃ v, q = some (.int v) ∧ SoC L wn set (L_h L) v) ∧ ∃ S, h' = sH A (sS s S) R)) 0 0 11 [(0, .ref 10), (1, .ref lp), (2, .int (nI set)), (3, .int (nI i))] [] (sH A (sS s S) R) := by
  have h10 := hL.2.1
  intro m
  induction m with
  | zero =>
    intro i hi S hS hno
    obtain rfl : i = L_h L := by omega
    refine T_iload_n dX4_fewestHours_11 rfl ?_
    refine T_aload_n dX4_fewestHours_12 rfl ?_
    refine T_get dX4_fewestHours_13 fl_X4_70_1 (hlk _).1 rfl ?_
    refine T_icmp_geN (tgt := 53) dX4_fewestHours_16 (by decide) (by omega) (by omega) (fun c16 => ?_) (fun c16 => ?_)
    · refine T_aload_n dX4_fewestHours_53 rfl ?_
      refine T_aload_n dX4_fewestHours_54 rfl ?_
      refine T_get dX4_fewestHours_55 fl_X4_49_4 (sH_get hA rfl) rfl ?_
      refine T_iload_n dX4_fewestHours_58 rfl ?_
      refine T_v2q (cu2 := 0) (su2 := 0) dX4_fewestHours_59 lv_X4_75 rfl (sH_get hA rfl) rfl (c_X4_isOverInSome (s := sS s S) (ka := 18) hA hL hT (by decide) hs rfl hS.1) (nb rfl) (nb rfl) (nb rfl) (nb rfl) (nb rfl) (fun r59 h59 q59 => ?_)
      obtain ⟨⟨v, rfl, hv⟩, rfl⟩ := q59
      rw [OvC_X hL hS] at hv
      refine T_if_eq (tgt := 72) dX4_fewestHours_62 (by decide) (fun c62 => ?_) (fun c62 => ?_)
      · refine T_bipush (v := (-9)) dX4_fewestHours_72 (by decide) ?_
        refine T_iret dX4_fewestHours_74 rfl (nb rfl) (nb rfl) ?_
        refine ⟨⟨_, rfl, ?_⟩, S, rfl⟩
        first
          | exact Or.inl ⟨L_h L, Nat.le_refl _, hv.elim (fun q => q.2) (fun q => absurd q.1 c62), hno, rfl⟩
          | (refine Or.inr ⟨fun g hg => ?_, rfl⟩
             by_cases e : g = L_h L
             · subst e; exact hv.elim (fun q => absurd (q.1.symm.trans c62) (by decide)) (fun q => q.2)
             · exact hno g (by omega))
      · refine T_aload_n dX4_fewestHours_65 rfl ?_
        refine T_get dX4_fewestHours_66 fl_X4_70_1 (hlk _).1 rfl ?_
        refine T_goto (tgt := 74) dX4_fewestHours_69 (by decide) ?_
        refine T_iret dX4_fewestHours_74 rfl (nb rfl) (nb rfl) ?_
        refine ⟨⟨_, rfl, ?_⟩, S, rfl⟩
        first
          | exact Or.inl ⟨L_h L, Nat.le_refl _, hv.elim (fun q => q.2) (fun q => absurd q.1 c62), hno, rfl⟩
          | (refine Or.inr ⟨fun g hg => ?_, rfl⟩
             by_cases e : g = L_h L
             · subst e; exact hv.elim (fun q => absurd (q.1.symm.trans c62) (by decide)) (fun q => q.2)
             · exact hno g (by omega))
    · exact absurd c16 (by omega)
  | succ m ih =>
    intro i hi S hS hno
    obtain ⟨W, w1, w2⟩ := hwn (sS s S)
    have hwg := w2 i (by omega)
    refine T_iload_n dX4_fewestHours_11 rfl ?_
    refine T_aload_n dX4_fewestHours_12 rfl ?_
    refine T_get dX4_fewestHours_13 fl_X4_70_1 (hlk _).1 rfl ?_
    refine T_icmp_geN (tgt := 53) dX4_fewestHours_16 (by decide) (by omega) (by omega) (fun c16 => ?_) (fun c16 => ?_)
    · exact absurd c16 (by omega)
    · refine T_aload_n dX4_fewestHours_19 rfl ?_
      refine T_aload_n dX4_fewestHours_20 rfl ?_
      refine T_get dX4_fewestHours_21 fl_X4_49_4 (sH_get hA rfl) rfl ?_
      refine T_iload_n dX4_fewestHours_24 rfl ?_
      refine T_v2q (cu2 := 0) (su2 := 0) dX4_fewestHours_25 lv_X4_75 rfl (sH_get hA rfl) rfl (c_X4_isOverInSome (s := sS s S) (ka := 18) hA hL hT (by decide) hs rfl hS.1) (nb rfl) (nb rfl) (nb rfl) (nb rfl) (nb rfl) (fun r25 h25 q25 => ?_)
      obtain ⟨⟨v, rfl, hv⟩, rfl⟩ := q25
      rw [OvC_X hL hS] at hv
      refine T_if_eq (tgt := 33) dX4_fewestHours_28 (by decide) (fun c28 => ?_) (fun c28 => ?_)
      · refine T_aload_n dX4_fewestHours_33 rfl ?_
        refine T_aload_n dX4_fewestHours_34 rfl ?_
        refine T_get dX4_fewestHours_35 fl_X4_49_4 (sH_get hA rfl) rfl ?_
        refine T_aload_n dX4_fewestHours_38 rfl ?_
        refine T_get dX4_fewestHours_39 fl_X4_79_1 (hlk _).1 rfl ?_
        refine T_iload_n dX4_fewestHours_42 rfl ?_
        refine T_ialdN dX4_fewestHours_43 w1 (by omega) (by decide) ?_
        refine T_top hwg.1 ?_
        refine T_v2q (cu2 := 0) (su2 := 0) dX4_fewestHours_44 lv_X4_82 rfl (sH_get hA rfl) rfl (c_X4_advance (s := sS s S) (ka := 18) hA hL hT (by decide) (by decide) hwg.2 rfl hS.1) (nb rfl) (nb rfl) (nb rfl) (nb rfl) (nb rfl) (fun r44 h44 q44 => ?_)
        obtain ⟨rfl, Y, rfl, hY1, hY2⟩ := q44
        refine T_iincN dX4_fewestHours_47 rfl (by decide) rfl ?_
        refine T_goto (tgt := 11) dX4_fewestHours_50 (by decide) ?_
        refine ih (i + 1) (by omega) (va_up (va_up S 19 Y) 18 Y) ?_ (fun g hg => ?_)
        · rw [va_up_self]; exact RC_s hL hS hY1 hY2
        · by_cases e : g = i
          · subst e; exact hv.elim (fun q => absurd (q.1.symm.trans c28) (by decide)) (fun q => q.2)
          · exact hno g (by omega)
      · refine T_iload_n dX4_fewestHours_31 rfl ?_
        refine T_iret dX4_fewestHours_32 rfl (nb rfl) (nb rfl) ?_
        exact ⟨⟨_, rfl, Or.inl ⟨i, by omega, hv.elim (fun q => q.2) (fun q => absurd q.1 c28), hno, rfl⟩⟩, S, rfl⟩
end S4
