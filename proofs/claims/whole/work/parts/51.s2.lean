/-! the search: what follows a state, sets that follow sets -/
section S2
variable {A R : XH} {s : SSt} {L : LK} {Z : XZ}
abbrev bt (X t : Nat) : Prop := X.testBit t = true
/-- cells of a state's number; its boats that are over -/
abbrev dB (L : LK) (t i : Nat) : Nat := t / (L_w L + 1) ^ i % (L_w L + 1)
abbrev nSt (L : LK) : Nat := (L_w L + 1) ^ L_n L
abbrev cdB (L : LK) (p : Nat → Nat) : Nat := cB (L_w L + 1) p (L_n L) (L_n L)
abbrev ovS (L : LK) (t : Nat) : Nat := ovrN L (dB L t) (L_n L)
/-- t may be behind an hour with the wind w from u, nobody fined -/
def Aft (L : LK) (w u t : Nat) : Prop := ∃ x, x ≤ allN L ∧ finN L x w (dB L u) = 0 ∧ t = cdB L (fun i => aft L w (x.testBit i) i (dB L u i))
abbrev rowN (w : Nat) : Nat := if w = 2 then 125 else 0
/-- the table of the search is that of the lake -/
def TbR (L : LK) (w u : Nat) (lo hi : Int64) : Prop := ∃ X, X < 2 ^ 128 ∧ lo = lN (X % 2 ^ 64) ∧ hi = lN (X / 2 ^ 64) ∧ ∀ t, t < 128 → (bt X t ↔ Aft L w u t)
def TabOk (L : LK) (s : SSt) : Prop := s.1 1 = nI (nSt L) ∧ s.1 2 = nI (cdB L (start L)) ∧ (∀ u, u < nSt L → s.2.1 13 u = nI (ovS L u)) ∧ ∀ u, u < nSt L → TbR L 1 u (s.2.2.1 11 u) (s.2.2.1 12 u) ∧ TbR L 2 u (s.2.2.1 11 (125 + u)) (s.2.2.1 12 (125 + u))
theorem TabOk.tb (hT : TabOk L s) {w u : Nat} (h1 : w = 1 ∨ w = 2) (hu : u < nSt L) : TbR L w u (s.2.2.1 11 (rowN w + u)) (s.2.2.1 12 (rowN w + u)) := by
  have := hT.2.2.2 u hu
  rcases h1 with rfl | rfl
  · rw [show rowN 1 + u = u by simp [rowN]]; exact this.1
  · exact this.2
theorem nSt_le (hL : LOk L) : nSt L ≤ 125 := pw_125 hL.1 hL.2.2.1 (Nat.le_refl _)
/-- the states that follow those of X -/
def AftS (L : LK) (w : Nat) (X : Nat → Prop) (t : Nat) : Prop := if w = 0 then X t else ∃ u, u < nSt L ∧ X u ∧ Aft L w u t
theorem bt_or {X Y t : Nat} : bt (X ||| Y) t ↔ (bt X t ∨ bt Y t) := by simp [bt, Nat.testBit_or]
theorem bt_pw {a t : Nat} : bt (2 ^ a) t ↔ a = t := by simp [bt, Nat.testBit_two_pow]
theorem bt_0 {t : Nat} : ¬ bt 0 t := by simp [bt]
theorem c_X4_rowOf {h : XH} {w : Nat} (hw : w ≤ 2) : ConE M_X4_rowOf [.int (nI w)] h (some (.int (nI (rowN w)))) h := by
  refine Con.of rfl (nb rfl) ?_
  refine T_iload_n dX4_rowOf_0 rfl ?_
  refine T_iconst (v := nI 2) dX4_rowOf_1 (by decide) ?_
  refine T_icmp_neN (tgt := 10) dX4_rowOf_2 (by decide) (by omega) (by omega) (fun c2 => ?_) (fun c2 => ?_)
  · refine T_iconst (v := nI 0) dX4_rowOf_10 (by decide) ?_
    refine T_iret dX4_rowOf_11 rfl (nb rfl) (nb rfl) ?_
    exact ⟨sN (by unfold rowN; first | rw [if_pos (by assumption)] | rw [if_neg (by assumption)]), rfl⟩
  · refine T_bipush (v := nI 125) dX4_rowOf_5 (by decide) ?_
    refine T_goto (tgt := 11) dX4_rowOf_7 (by decide) ?_
    refine T_iret dX4_rowOf_11 rfl (nb rfl) (nb rfl) ?_
    exact ⟨sN (by unfold rowN; first | rw [if_pos (by assumption)] | rw [if_neg (by assumption)]), rfl⟩
theorem rowN_le (w : Nat) : rowN w ≤ 125 := by unfold rowN; split <;> omega
/-- loop of addAfter: those of X below i have been looked at -/
def AaI (L : LK) (w X Y i Y2 : Nat) : Prop := Y2 < 2 ^ 128 ∧ ∀ t, t < 128 → (bt Y2 t ↔ (bt Y t ∨ ∃ u, u < i ∧ bt X u ∧ Aft L w u t))
theorem lp_X4_addAfter {ka kb w X Y : Nat} (hA : A.length = 10) (hL : LOk L) (hT : TabOk L s) (ha : isSt ka) (hb : isSt kb) (hab : ka ≠ kb) (hw : w = 1 ∨ w = 2) (hX : s.2.2.2.1 ka = X) (hX2 : X < 2 ^ 128) {Qa : Option Value → XH → Prop} (hQ : ∀ Y2, AaI L w X Y (nSt L) Y2 → Qa none (sH A (sSt s kb Y2) R)) :
    ∀ m i, i + m = nSt L → ∀ Y2, AaI L w X Y i Y2 → T M_X4_addAfter x_E (x_Z M_X4_addAfter Qa) 0 0 26 [(0, .ref 10), (1, .ref ka), (2, .int (nI w)), (3, .ref kb), (4, .int (nI (rowN w))), (5, .int (nI i))] [] (sH A (sSt s kb Y2) R) := by
  have hn := nSt_le hL
  have hr := rowN_le w
  intro m
  induction m with
  | zero =>
    intro i hi Y2 hI
    obtain rfl : i = nSt L := by omega
    refine T_iload dX4_addAfter_26 rfl ?_
    refine T_aload_n dX4_addAfter_28 rfl ?_
    refine T_get dX4_addAfter_29 fl_X4_15_4 (sH_get hA rfl) rfl ?_
    refine T_top hT.1 ?_
    refine T_icmp_geN (tgt := 74) dX4_addAfter_32 (by decide) (by omega) (by omega) (fun c32 => ?_) (fun c32 => ?_)
    · refine T_vret dX4_addAfter_74 rfl (nb rfl) (nb rfl) ?_
      exact hQ _ hI
    · exact absurd c32 (by omega)
  | succ m ih =>
    intro i hi Y2 hI
    obtain ⟨TA, t1, t2, t3, t4⟩ := hT.tb hw (show i < nSt L by omega)
    have hXk : (sSt s kb Y2).2.2.2.1 ka = X := by rw [sSt_n hab]; exact hX
    have hka : (sH A (sSt s kb Y2) R)[ka]? = some (stN X) := by rw [sH_st hA ha, hXk]
    have hkb : (sH A (sSt s kb Y2) R)[kb]? = some (stN Y2) := by rw [sH_st hA hb, sSt_k]
    refine T_iload dX4_addAfter_26 rfl ?_
    refine T_aload_n dX4_addAfter_28 rfl ?_
    refine T_get dX4_addAfter_29 fl_X4_15_4 (sH_get hA rfl) rfl ?_
    refine T_top hT.1 ?_
    refine T_icmp_geN (tgt := 74) dX4_addAfter_32 (by decide) (by omega) (by omega) (fun c32 => ?_) (fun c32 => ?_)
    · exact absurd c32 (by omega)
    · refine T_aload_n dX4_addAfter_35 rfl ?_
      refine T_iload dX4_addAfter_36 rfl ?_
      refine T_v1e (cu2 := 0) (su2 := 0) dX4_addAfter_38 lv_X4_90 rfl hka rfl (c_X6_has hka hX2 (by omega)) (nb rfl) (nb rfl) (nb rfl) (nb rfl) (nb rfl) ?_
      refine T_if_eqB (tgt := 68) dX4_addAfter_41 (by decide) (fun c41 => ?_) (fun c41 => ?_)
      · refine T_iincN dX4_addAfter_68 rfl (by decide) rfl ?_
        refine T_goto (tgt := 26) dX4_addAfter_71 (by decide) ?_
        first
          | (refine ih (i + 1) (by omega) _ ⟨or_lt hI.1 t1, fun t ht => ?_⟩
             rw [bt_or, hI.2 t ht, t4 t ht]
             constructor
             · rintro ((q | ⟨u, q1, q2, q3⟩) | q)
               · exact Or.inl q
               · exact Or.inr ⟨u, by omega, q2, q3⟩
               · exact Or.inr ⟨i, by omega, c41, q⟩
             · rintro (q | ⟨u, q1, q2, q3⟩)
               · exact Or.inl (Or.inl q)
               · by_cases e : u = i
                 · subst e; exact Or.inr q3
                 · exact Or.inl (Or.inr ⟨u, by omega, q2, q3⟩))
          | (refine ih (i + 1) (by omega) _ ⟨hI.1, fun t ht => ?_⟩
             rw [hI.2 t ht]
             constructor
             · rintro (q | ⟨u, q1, q2, q3⟩)
               · exact Or.inl q
               · exact Or.inr ⟨u, by omega, q2, q3⟩
             · rintro (q | ⟨u, q1, q2, q3⟩)
               · exact Or.inl q
               · by_cases e : u = i
                 · subst e; exact absurd q2 c41
                 · exact Or.inr ⟨u, by omega, q2, q3⟩)
      · refine T_aload_n dX4_addAfter_44 rfl ?_
        refine T_aload_n dX4_addAfter_45 rfl ?_
        refine T_get dX4_addAfter_46 fl_X4_22_4 (sH_get hA rfl) rfl ?_
        refine T_iload dX4_addAfter_49 rfl ?_
        refine T_iload dX4_addAfter_51 rfl ?_
        refine T_iaddN dX4_addAfter_53 ?_
        refine T_laldN dX4_addAfter_54 (sH_get hA rfl) (by omega) (by decide) ?_
        refine T_topl t2 ?_
        refine T_aload_n dX4_addAfter_55 rfl ?_
        refine T_get dX4_addAfter_56 fl_X4_26_4 (sH_get hA rfl) rfl ?_
        refine T_iload dX4_addAfter_59 rfl ?_
        refine T_iload dX4_addAfter_61 rfl ?_
        refine T_iaddN dX4_addAfter_63 ?_
        refine T_laldN dX4_addAfter_64 (sH_get hA rfl) (by omega) (by decide) ?_
        refine T_topl t3 ?_
        refine T_v2e (cu2 := 0) (su2 := 0) dX4_addAfter_65 lv_X4_137 rfl hkb rfl (c_X6_addAll hkb hI.1 t1) (nb rfl) (nb rfl) (nb rfl) (nb rfl) (nb rfl) ?_
        refine T_h (sH_sst hA hb) ?_
        refine T_h (congrArg (fun z => sH A z R) sSt2) ?_
        refine T_iincN dX4_addAfter_68 rfl (by decide) rfl ?_
        refine T_goto (tgt := 26) dX4_addAfter_71 (by decide) ?_
        first
          | (refine ih (i + 1) (by omega) _ ⟨or_lt hI.1 t1, fun t ht => ?_⟩
             rw [bt_or, hI.2 t ht, t4 t ht]
             constructor
             · rintro ((q | ⟨u, q1, q2, q3⟩) | q)
               · exact Or.inl q
               · exact Or.inr ⟨u, by omega, q2, q3⟩
               · exact Or.inr ⟨i, by omega, c41, q⟩
             · rintro (q | ⟨u, q1, q2, q3⟩)
               · exact Or.inl (Or.inl q)
               · by_cases e : u = i
                 · subst e; exact Or.inr q3
                 · exact Or.inl (Or.inr ⟨u, by omega, q2, q3⟩))
          | (refine ih (i + 1) (by omega) _ ⟨hI.1, fun t ht => ?_⟩
             rw [hI.2 t ht]
             constructor
             · rintro (q | ⟨u, q1, q2, q3⟩)
               · exact Or.inl q
               · exact Or.inr ⟨u, by omega, q2, q3⟩
             · rintro (q | ⟨u, q1, q2, q3⟩)
               · exact Or.inl q
               · by_cases e : u = i
                 · subst e; exact absurd q2 c41
                 · exact Or.inr ⟨u, by omega, q2, q3⟩)
/-- Y2 is Y and what follows X -/
def AddR (L : LK) (w X Y Y2 : Nat) : Prop := Y2 < 2 ^ 128 ∧ ∀ t, t < 128 → (bt Y2 t ↔ (bt Y t ∨ AftS L w (bt X) t))
theorem c_X4_addAfter {ka kb w X Y : Nat} (hA : A.length = 10) (hL : LOk L) (hT : TabOk L s) (ha : isSt ka) (hb : isSt kb) (hab : ka ≠ kb) (hw : w ≤ 2) (hX : s.2.2.2.1 ka = X) (hX2 : X < 2 ^ 128) (hY : s.2.2.2.1 kb = Y) (hY2 : Y < 2 ^ 128) : Con M_X4_addAfter [.ref 10, .ref ka, .int (nI w), .ref kb] (sH A s R) (fun q h' => q = none ∧ ∃ Y2, h' = sH A (sSt s kb Y2) R ∧ AddR L w X Y Y2) := by
  have hka : (sH A s R)[ka]? = some (stN X) := by rw [sH_st hA ha, hX]
  have hkb : (sH A s R)[kb]? = some (stN Y) := by rw [sH_st hA hb, hY]
  refine Con.of rfl (nb rfl) ?_
  refine T_iload_n dX4_addAfter_0 rfl ?_
  refine T_if_neN (tgt := 17) dX4_addAfter_1 (by decide) (by omega) (fun c1 => ?_) (fun c1 => ?_)
  · refine T_iload_n dX4_addAfter_17 rfl ?_
    refine T_s1e (cu2 := 0) (su2 := 0) dX4_addAfter_18 ls_X4_130 rfl (c_X4_rowOf hw) (nb rfl) (nb rfl) (nb rfl) (nb rfl) (nb rfl) ?_
    refine T_istore dX4_addAfter_21 (by decide) rfl ?_
    refine T_iconst (v := nI 0) dX4_addAfter_23 (by decide) ?_
    refine T_istore dX4_addAfter_24 (by decide) rfl ?_
    refine T_h (congrArg (fun z => sH A z R) (sSt_id (k := kb)).symm) ?_
    rw [hY]
    refine lp_X4_addAfter hA hL hT ha hb hab (by omega) hX hX2 (fun Y2 hI => ⟨rfl, Y2, rfl, hI.1, fun t ht => ?_⟩) (nSt L) 0 (by omega) Y ⟨hY2, fun t ht => ⟨Or.inl, fun q => q.elim id (fun ⟨u, q1, _⟩ => absurd q1 (by omega))⟩⟩
    rw [hI.2 t ht]
    unfold AftS
    rw [if_neg c1]
  · refine T_aload_n dX4_addAfter_4 rfl ?_
    refine T_aload_n dX4_addAfter_5 rfl ?_
    refine T_get dX4_addAfter_6 fl_X4_105_6 hka rfl ?_
    refine T_aload_n dX4_addAfter_9 rfl ?_
    refine T_get dX4_addAfter_10 fl_X4_109_6 hka rfl ?_
    refine T_v2e (cu2 := 0) (su2 := 0) dX4_addAfter_13 lv_X4_137 rfl hkb rfl (c_X6_addAll hkb hY2 hX2) (nb rfl) (nb rfl) (nb rfl) (nb rfl) (nb rfl) ?_
    refine T_h (sH_sst hA hb) ?_
    refine T_vret dX4_addAfter_16 rfl (nb rfl) (nb rfl) ?_
    exact ⟨rfl, _, rfl, or_lt hY2 hX2, fun t ht => by rw [bt_or]; unfold AftS; rw [if_pos c1]⟩
end S2
