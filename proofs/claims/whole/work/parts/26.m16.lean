/-! the reference: plan; whether readings are so -/
section M17
variable {A B : XH} {u : MSt} {h : XH} {Z : XZ} {L : LK} {wn st : Nat → Nat}
abbrev PlQ (L : LK) (wn : Nat → Nat) (u : MSt) (sh sort i n what : Int32) (A B : XH) : Option Value → XH → Prop := fun q h' => ∃ v u', q = some (.int v) ∧ h' = mH A u' B ∧ PlA L wn (m0 u 0) sh sort i n what v u'
theorem pl_in {what : Int32} {n : Nat} (hn : n ≤ 3) (h : 0 ≤ what - 10 ∧ what - 10 < nI n) : vp_in (what - 10) 3 := vpB rfl hn (by decide) h
theorem lp_X12_plan67 (hA : A.length = 67) (hM : MR u L) (hL : LOk L) (hW : MW u L wn) {nn : Nat} {a1 a2 a3 a4 what x : Int32} (hnn : nn ≤ L_h L) (hpl : u.1 21 = nI nn) (hst : ∀ k, k < nn → u.2 22 k = nI (st k) ∧ st k ≤ allN L) :
    T M_X12_plan x_E (x_Z M_X12_plan (fun q h' => ∃ v u', q = some (.int v) ∧ h' = mH A u' B ∧ SameE u u' ∧ PnR L wn st nn what v)) 0 0 67 [(0, .ref 67), (1, .int a1), (2, .int a2), (3, .int a3), (4, .int a4), (5, .int what), (6, .int x)] [] (mH A u B) := by
  have h3 := hL.2.2.1
  refine T_aload_n dX12_plan_67 rfl ?_
  refine T_v0q (cu2 := 0) (su2 := 0) dX12_plan_68 lv_X12_189 rfl (mH_get hA rfl) rfl (c_X12_goPlan hA hM hL hW hnn hpl hst) (nb rfl) (nb rfl) (nb rfl) (nb rfl) (nb rfl) (fun r68 h68 q68 => ?_)
  obtain ⟨rfl, P, a, b, c, rfl, hP, ha, hb, hc⟩ := q68
  refine T_iload dX12_plan_71 rfl ?_
  refine T_tb4 (t0 := 104) (t1 := 109) (t2 := 114) (t3 := 119) (td := 124) dX12_plan_73 (by decide) (by decide) (by decide) (by decide) (by decide) (fun c73 => ?_) (fun c73 => ?_) (fun c73 => ?_) (fun c73 => ?_) (fun c73_0 c73_1 c73_2 c73_3 => ?_)
  · refine T_aload_n dX12_plan_104 rfl ?_
    refine T_v0e (cu2 := 0) (su2 := 0) dX12_plan_105 lv_X12_180 rfl (mH_get hA rfl) rfl (c_X12_over (n := L_n L) hA hM.2.2.1 h3) (nb rfl) (nb rfl) (nb rfl) (nb rfl) (nb rfl) ?_
    refine T_top (ovr_N (u := u) hM hL hP _ (Nat.le_refl _)) ?_
    refine T_iret dX12_plan_108 rfl (nb rfl) (nb rfl) ?_
    exact ⟨_, _, rfl, rfl, mG_same P a b c, by unfold PnR; rw [if_pos c73]⟩
  · refine T_aload_n dX12_plan_109 rfl ?_
    refine T_get dX12_plan_110 fl_X12_163_12 (mH_get hA rfl) rfl ?_
    refine T_iret dX12_plan_113 rfl (nb rfl) (nb rfl) ?_
    exact ⟨_, _, rfl, rfl, mG_same P a b c, by unfold PnR; rw [if_neg (by rw [c73]; decide), if_pos c73]; exact ha⟩
  · refine T_aload_n dX12_plan_114 rfl ?_
    refine T_get dX12_plan_115 fl_X12_166_12 (mH_get hA rfl) rfl ?_
    refine T_iret dX12_plan_118 rfl (nb rfl) (nb rfl) ?_
    exact ⟨_, _, rfl, rfl, mG_same P a b c, by unfold PnR; rw [if_neg (by rw [c73]; decide), if_neg (by rw [c73]; decide), if_pos c73]; exact hb⟩
  · refine T_aload_n dX12_plan_119 rfl ?_
    refine T_get dX12_plan_120 fl_X12_169_12 (mH_get hA rfl) rfl ?_
    refine T_iret dX12_plan_123 rfl (nb rfl) (nb rfl) ?_
    exact ⟨_, _, rfl, rfl, mG_same P a b c, by unfold PnR; rw [if_neg (by rw [c73]; decide), if_neg (by rw [c73]; decide), if_neg (by rw [c73]; decide), if_pos c73]; exact hc⟩
  · refine T_aload_n dX12_plan_124 rfl ?_
    refine T_iload dX12_plan_125 rfl ?_
    refine T_bipush (v := 10) dX12_plan_127 (by decide) ?_
    refine T_isub dX12_plan_129 ?_
    refine T_v1e (cu2 := 0) (su2 := 0) dX12_plan_130 lv_X12_134 rfl (mH_get hA rfl) rfl (c_X12_isBoat hA _) (nb rfl) (nb rfl) (nb rfl) (nb rfl) (nb rfl) ?_
    refine T_if_eqB (tgt := 149) dX12_plan_133 (by decide) (fun c133 => ?_) (fun c133 => ?_)
    · refine T_bipush (v := (-9)) dX12_plan_149 (by decide) ?_
      refine T_iret dX12_plan_151 rfl (nb rfl) (nb rfl) ?_
      first
        | (refine ⟨_, _, rfl, rfl, mG_same P a b c, ?_⟩
           have c' : 0 ≤ what - 10 ∧ what - 10 < nI (L_n L) := by rw [← hM.2.2.1]; exact c133
           unfold PnR
           rw [if_neg c73_0, if_neg c73_1, if_neg c73_2, if_neg c73_3, if_pos c']
           refine (hP _ ?_).1
           obtain ⟨j, hj, e⟩ := nI_of (show ¬ what - 10 < 0 by rw [Int32.not_lt]; exact c'.1)
           rw [e, nI_clamp hj]
           rw [e, nI_ltI hj (by omega)] at c'
           exact c'.2)
        | (refine ⟨_, _, rfl, rfl, mG_same P a b c, ?_⟩
           have c' : ¬ (0 ≤ what - 10 ∧ what - 10 < nI (L_n L)) := by rw [← hM.2.2.1]; exact c133
           unfold PnR
           rw [if_neg c73_0, if_neg c73_1, if_neg c73_2, if_neg c73_3, if_neg c'])
    · refine T_aload_n dX12_plan_136 rfl ?_
      refine T_get dX12_plan_137 fl_X12_44_12 (mH_get hA rfl) rfl ?_
      refine T_iload dX12_plan_140 rfl ?_
      refine T_bipush (v := 10) dX12_plan_142 (by decide) ?_
      refine T_isub dX12_plan_144 ?_
      refine T_iald dX12_plan_145 (mH_get hA rfl) (pl_in h3 (by rw [← hM.2.2.1]; exact c133)) ?_
      refine T_goto (tgt := 151) dX12_plan_146 (by decide) ?_
      refine T_iret dX12_plan_151 rfl (nb rfl) (nb rfl) ?_
      first
        | (refine ⟨_, _, rfl, rfl, mG_same P a b c, ?_⟩
           have c' : 0 ≤ what - 10 ∧ what - 10 < nI (L_n L) := by rw [← hM.2.2.1]; exact c133
           unfold PnR
           rw [if_neg c73_0, if_neg c73_1, if_neg c73_2, if_neg c73_3, if_pos c']
           refine (hP _ ?_).1
           obtain ⟨j, hj, e⟩ := nI_of (show ¬ what - 10 < 0 by rw [Int32.not_lt]; exact c'.1)
           rw [e, nI_clamp hj]
           rw [e, nI_ltI hj (by omega)] at c'
           exact c'.2)
        | (refine ⟨_, _, rfl, rfl, mG_same P a b c, ?_⟩
           have c' : ¬ (0 ≤ what - 10 ∧ what - 10 < nI (L_n L)) := by rw [← hM.2.2.1]; exact c133
           unfold PnR
           rw [if_neg c73_0, if_neg c73_1, if_neg c73_2, if_neg c73_3, if_neg c'])
theorem lp_X12_plan (hA : A.length = 67) (hM : MR u L) (hL : LOk L) (hW : MW u L wn) {kk nn : Nat} {sort i what : Int32} (hkk : kk < 4) (hnn : nn ≤ 10) (hl : ∀ j, j < 4 → ∃ ll : Nat, ll ≤ 60 ∧ u.2 3 j = nI ll)
    (hq : ∀ v u', (∃ x u2, LyQ L u kk sort i nn x u2 ∧ ((¬ x = 0 ∧ v = x ∧ u' = u2) ∨ (x = 0 ∧ SameE u2 u' ∧ PnR L wn (fun k => (u.2 4 (60 * kk + i.toNatClampNeg + k)).toNatClampNeg) nn what v))) → Z = Z → PlA L wn u (nI kk) sort i (nI nn) what v u') :
    T M_X12_plan x_E (x_Z M_X12_plan (fun q h' => ∃ v u', q = some (.int v) ∧ h' = mH A u' B ∧ PlA L wn u (nI kk) sort i (nI nn) what v u')) 0 0 48 [(0, .ref 67), (1, .int (nI kk)), (2, .int sort), (3, .int i), (4, .int (nI nn)), (5, .int what)] [] (mH A u B) := by
  have h3 := hL.2.2.1
  have h10 := hL.2.1
  refine T_aload_n dX12_plan_48 rfl ?_
  refine T_iload_n dX12_plan_49 rfl ?_
  refine T_iload_n dX12_plan_50 rfl ?_
  refine T_iload_n dX12_plan_51 rfl ?_
  refine T_iload dX12_plan_52 rfl ?_
  refine T_v4q (cu2 := 0) (su2 := 0) dX12_plan_54 lv_X12_186 rfl (mH_get hA rfl) rfl (c_X12_layPlan hA hM hL _ _ hkk hnn hl) (nb rfl) (nb rfl) (nb rfl) (nb rfl) (nb rfl) (fun r54 h54 q54 => ?_)
  obtain ⟨x, u2, rfl, rfl, hx⟩ := q54
  refine T_istore dX12_plan_57 (by decide) rfl ?_
  refine T_iload dX12_plan_59 rfl ?_
  refine T_if_eq (tgt := 67) dX12_plan_61 (by decide) (fun c61 => ?_) (fun c61 => ?_)
  · subst c61
    obtain ⟨hn0, hnh, hin, S, rfl, hS⟩ := LyQ_0 hx
    have hE : SameE u (va_up u.1 21 (nI nn), va_up u.2 22 S) := fun j hj => by
      refine ⟨?_, ?_⟩
      · show va_up u.1 21 (nI nn) j = u.1 j
        unfold va_up; rw [if_neg (by omega)]
      · show va_up u.2 22 S j = u.2 j
        unfold va_up; rw [if_neg (by omega)]
    refine T_Q (fun r h' hh => ?_) (lp_X12_plan67 (u := (va_up u.1 21 (nI nn), va_up u.2 22 S)) (st := fun k => (u.2 4 (60 * kk + i.toNatClampNeg + k)).toNatClampNeg) (what := what) hA (hE.MR hM) hL (hE.MW hW) hnh rfl (st_of hL hin hS))
    obtain ⟨v, u', b1, b2, b3, b4⟩ := hh
    exact ⟨v, u', b1, b2, hq v u' ⟨0, _, hx, Or.inr ⟨rfl, b3, b4⟩⟩ rfl⟩
  · refine T_iload dX12_plan_64 rfl ?_
    refine T_iret dX12_plan_66 rfl (nb rfl) (nb rfl) ?_
    exact ⟨_, _, rfl, rfl, hq _ _ ⟨x, u2, hx, Or.inl ⟨c61, rfl, rfl⟩⟩ rfl⟩
theorem c_X12_plan (hA : A.length = 67) (hM : MR u L) (hL : LOk L) (hW : MW u L wn) (sh sort i n what : Int32) (hl : ∀ j, j < 4 → ∃ ll : Nat, ll ≤ 60 ∧ u.2 3 j = nI ll) : Con M_X12_plan [.ref 67, .int sh, .int sort, .int i, .int n, .int what] (mH A u B) (PlQ L wn u sh sort i n what A B) := by
  refine Con.of rfl (nb rfl) ?_
  by_cases hsh : 0 ≤ sh ∧ sh ≤ 3
  · obtain ⟨kk, hkk, rfl⟩ := shN hsh
    have ck : (nI kk).toNatClampNeg = kk := nI_clamp (by omega)
    by_cases hn : 0 ≤ n ∧ n ≤ 10
    · obtain ⟨nn, hnn, rfl⟩ := setN (a := 10) (by omega) hn
      have cn : (nI nn).toNatClampNeg = nn := nI_clamp (by omega)
      refine T_aload_n dX12_plan_0 rfl ?_
      refine T_iconst (v := 0) dX12_plan_1 (by decide) ?_
      refine T_put dX12_plan_2 fp_X12_65_12 (mH_get hA rfl) (nb rfl) (fun _ => ⟨rfl, rfl⟩) ?_
      first | refine T_h (mE_0 hA) ?_ | refine T_h (mF_0 hA) ?_
      refine T_iload_n dX12_plan_5 rfl ?_
      refine T_s1e (cu2 := 0) (su2 := 0) dX12_plan_6 ls_X12_84 rfl (c_X12_isSheet _) (nb rfl) (nb rfl) (nb rfl) (nb rfl) (nb rfl) ?_
      refine T_if_neB (tgt := 14) dX12_plan_9 (by decide) (fun c9 => ?_) (fun c9 => ?_)
      · refine T_iload_n dX12_plan_14 rfl ?_
        refine T_iload dX12_plan_15 rfl ?_
        refine T_s2e (cu2 := 0) (su2 := 0) dX12_plan_17 ls_X12_183 rfl (c_X12_isRow _ _) (nb rfl) (nb rfl) (nb rfl) (nb rfl) (nb rfl) ?_
        refine T_if_eqB (tgt := 45) dX12_plan_20 (by decide) (fun c20 => ?_) (fun c20 => ?_)
        · refine T_bipush (v := (-2)) dX12_plan_45 (by decide) ?_
          refine T_iret dX12_plan_47 rfl (nb rfl) (nb rfl) ?_
          first
            | exact ⟨_, _, rfl, rfl, by unfold PlA; rw [if_pos hsh, if_neg (fun q => c20 q.1)]; exact ⟨rfl, rfl⟩⟩
            | exact ⟨_, _, rfl, rfl, by unfold PlA; rw [if_pos hsh, if_neg (fun q => q.2.elim c30 c42)]; exact ⟨rfl, rfl⟩⟩
        · refine T_iload dX12_plan_23 rfl ?_
          refine T_iconst (v := 0) dX12_plan_25 (by decide) ?_
          refine T_iconst (v := 3) dX12_plan_26 (by decide) ?_
          refine T_s3e (cu2 := 0) (su2 := 0) dX12_plan_27 ls_X12_71 rfl (c_X12_within _ _ _) (nb rfl) (nb rfl) (nb rfl) (nb rfl) (nb rfl) ?_
          refine T_if_neB (tgt := 48) dX12_plan_30 (by decide) (fun c30 => ?_) (fun c30 => ?_)
          · have hwo : whatOk what := by first | exact Or.inl c30 | exact Or.inr c42
            exact lp_X12_plan (Z := fun _ _ _ _ _ => True) (u := m0 u 0) hA hM hL hW hkk hnn hl (fun v u' b _ => by unfold PlA; rw [if_pos hsh, if_pos ⟨c20, hwo⟩, ck, cn]; exact b)
          · refine T_iload dX12_plan_33 rfl ?_
            refine T_bipush (v := 10) dX12_plan_35 (by decide) ?_
            refine T_bipush (v := 12) dX12_plan_37 (by decide) ?_
            refine T_s3e (cu2 := 0) (su2 := 0) dX12_plan_39 ls_X12_71 rfl (c_X12_within _ _ _) (nb rfl) (nb rfl) (nb rfl) (nb rfl) (nb rfl) ?_
            refine T_if_neB (tgt := 48) dX12_plan_42 (by decide) (fun c42 => ?_) (fun c42 => ?_)
            · have hwo : whatOk what := by first | exact Or.inl c30 | exact Or.inr c42
              exact lp_X12_plan (Z := fun _ _ _ _ _ => True) (u := m0 u 0) hA hM hL hW hkk hnn hl (fun v u' b _ => by unfold PlA; rw [if_pos hsh, if_pos ⟨c20, hwo⟩, ck, cn]; exact b)
            · refine T_bipush (v := (-2)) dX12_plan_45 (by decide) ?_
              refine T_iret dX12_plan_47 rfl (nb rfl) (nb rfl) ?_
              first
                | exact ⟨_, _, rfl, rfl, by unfold PlA; rw [if_pos hsh, if_neg (fun q => c20 q.1)]; exact ⟨rfl, rfl⟩⟩
                | exact ⟨_, _, rfl, rfl, by unfold PlA; rw [if_pos hsh, if_neg (fun q => q.2.elim c30 c42)]; exact ⟨rfl, rfl⟩⟩
      · exact absurd hsh c9
    · skip
      refine T_aload_n dX12_plan_0 rfl ?_
      refine T_iconst (v := 0) dX12_plan_1 (by decide) ?_
      refine T_put dX12_plan_2 fp_X12_65_12 (mH_get hA rfl) (nb rfl) (fun _ => ⟨rfl, rfl⟩) ?_
      first | refine T_h (mE_0 hA) ?_ | refine T_h (mF_0 hA) ?_
      refine T_iload_n dX12_plan_5 rfl ?_
      refine T_s1e (cu2 := 0) (su2 := 0) dX12_plan_6 ls_X12_84 rfl (c_X12_isSheet _) (nb rfl) (nb rfl) (nb rfl) (nb rfl) (nb rfl) ?_
      refine T_if_neB (tgt := 14) dX12_plan_9 (by decide) (fun c9 => ?_) (fun c9 => ?_)
      · refine T_iload_n dX12_plan_14 rfl ?_
        refine T_iload dX12_plan_15 rfl ?_
        refine T_s2e (cu2 := 0) (su2 := 0) dX12_plan_17 ls_X12_183 rfl (c_X12_isRow _ _) (nb rfl) (nb rfl) (nb rfl) (nb rfl) (nb rfl) ?_
        refine T_if_eqB (tgt := 45) dX12_plan_20 (by decide) (fun c20 => ?_) (fun c20 => ?_)
        · refine T_bipush (v := (-2)) dX12_plan_45 (by decide) ?_
          refine T_iret dX12_plan_47 rfl (nb rfl) (nb rfl) ?_
          exact ⟨_, _, rfl, rfl, by unfold PlA; rw [if_pos hsh, if_neg (fun q => hn q.1.2)]; exact ⟨rfl, rfl⟩⟩
        · exact absurd c20.2 hn
      · exact absurd hsh c9
  · skip
    refine T_aload_n dX12_plan_0 rfl ?_
    refine T_iconst (v := 0) dX12_plan_1 (by decide) ?_
    refine T_put dX12_plan_2 fp_X12_65_12 (mH_get hA rfl) (nb rfl) (fun _ => ⟨rfl, rfl⟩) ?_
    first | refine T_h (mE_0 hA) ?_ | refine T_h (mF_0 hA) ?_
    refine T_iload_n dX12_plan_5 rfl ?_
    refine T_s1e (cu2 := 0) (su2 := 0) dX12_plan_6 ls_X12_84 rfl (c_X12_isSheet _) (nb rfl) (nb rfl) (nb rfl) (nb rfl) (nb rfl) ?_
    refine T_if_neB (tgt := 14) dX12_plan_9 (by decide) (fun c9 => ?_) (fun c9 => ?_)
    · exact absurd c9 hsh
    · refine T_iconst (v := (-1)) dX12_plan_12 (by decide) ?_
      refine T_iret dX12_plan_13 rfl (nb rfl) (nb rfl) ?_
      exact ⟨_, _, rfl, rfl, by unfold PlA; rw [if_neg hsh]; exact ⟨rfl, rfl⟩⟩
/-- the readings as numbers -/
def RdR (u : MSt) (L : LK) (nr : Nat) (rb rh rc : Nat → Nat) : Prop := u.1 28 = nI nr ∧ nr ≤ 8 ∧ ∀ q, q < nr → u.2 29 q = nI (rb q) ∧ rb q < L_n L ∧ u.2 30 q = nI (rh q) ∧ rh q < 10 ∧ u.2 31 q = nI (rc q) ∧ rc q ≤ L_w L
/-- how many of the first m readings are of the hour h -/
def atH (rh : Nat → Nat) (h : Nat) : Nat → Nat
  | 0 => 0
  | q + 1 => atH rh h q + (if rh q = h then 1 else 0)
def below (rh : Nat → Nat) (h : Nat) : Nat → Nat
  | 0 => 0
  | q + 1 => below rh h q + (if rh q < h then 1 else 0)
theorem below_step (rh : Nat → Nat) (h : Nat) : ∀ m, below rh (h + 1) m = below rh h m + atH rh h m := by
  intro m
  induction m with
  | zero => rfl
  | succ m ih =>
    rw [below, below, atH, ih]
    by_cases e : rh m < h
    · rw [if_pos e, if_pos (by omega), if_neg (by omega)]; omega
    · by_cases e2 : rh m = h
      · rw [if_neg e, if_pos (by omega), if_pos e2]; omega
      · rw [if_neg e, if_neg (by omega), if_neg e2]; omega
theorem below_0 (rh : Nat → Nat) : ∀ m, below rh 0 m = 0 := by
  intro m
  induction m with
  | zero => rfl
  | succ m ih => rw [below, ih, if_neg (by omega)]
theorem below_le (rh : Nat → Nat) (h : Nat) : ∀ m, below rh h m ≤ m := by
  intro m
  induction m with
  | zero => exact Nat.le_refl 0
  | succ m ih => rw [below]; split <;> omega
theorem atH_le (rh : Nat → Nat) (h : Nat) : ∀ m, atH rh h m ≤ m := by
  intro m
  induction m with
  | zero => exact Nat.le_refl 0
  | succ m ih => rw [atH]; split <;> omega
theorem below_all (rh : Nat → Nat) (h : Nat) : ∀ m, below rh h m = m ↔ ∀ q, q < m → rh q < h := by
  intro m
  induction m with
  | zero => exact ⟨fun _ q hq => absurd hq (by omega), fun _ => rfl⟩
  | succ m ih =>
    have hb := below_le rh h m
    rw [below]
    constructor
    · intro e q hq
      by_cases c : rh m < h
      · rw [if_pos c] at e
        by_cases e2 : q = m
        · subst e2; exact c
        · exact ih.mp (by omega) q (by omega)
      · rw [if_neg c] at e; omega
    · intro e
      rw [if_pos (e m (by omega)), ih.mpr (fun q hq => e q (by omega))]
/-- all readings are so -/
def SoN (L : LK) (wn st : Nat → Nat) (nn nr : Nat) (rb rh rc : Nat → Nat) : Prop := ∀ q, q < nr → rh q < nn ∧ posN L wn st (rh q + 1) (rb q) = rc q
theorem lp_X12_areSo_in (hA : A.length = 67) (hL : LOk L) {nr : Nat} {rb rh rc : Nat → Nat} (hR : RdR u L nr rb rh rc) {g t : Nat} (hg : g < 10) (ht : t ≤ 8) {P : Nat → Int32} (hP : PR L P (posN L wn st (g + 1))) (hbad : ∀ q, q < nr → rh q = g → ¬ posN L wn st (g + 1) (rb q) = rc q → T M_X12_areSo x_E Z 0 0 77 [] [] (mH A (mP u P) B))
    (K : (∀ q, q < nr → rh q = g → posN L wn st (g + 1) (rb q) = rc q) → T M_X12_areSo x_E Z 0 0 85 [(0, .ref 67), (1, .int (nI (t + atH rh g nr))), (2, .int (nI g))] [] (mH A (mP u P) B)) :
    ∀ r q, q + r = nr → (∀ q', q' < q → rh q' = g → posN L wn st (g + 1) (rb q') = rc q') → T M_X12_areSo x_E Z 0 0 36 [(0, .ref 67), (1, .int (nI (t + atH rh g q))), (2, .int (nI g)), (3, .int (nI q))] [] (mH A (mP u P) B) := by
  have h3 := hL.2.2.1
  have h4 := hL.1
  obtain ⟨r1, r2, r3⟩ := hR
  intro r
  induction r with
  | zero =>
    intro q hq hso
    obtain rfl : q = nr := by omega
    refine T_iload_n dX12_areSo_36 rfl ?_
    refine T_aload_n dX12_areSo_37 rfl ?_
    refine T_get dX12_areSo_38 fl_X12_117_12 (mH_get hA rfl) rfl ?_
    refine T_top r1 ?_
    refine T_icmp_geN (tgt := 85) dX12_areSo_41 (by decide) (by omega) (by omega) (fun c41 => ?_) (fun c41 => ?_)
    · exact T_pick [0, 1, 2] (K hso)
    · omega
  | succ r ih =>
    intro q hq hso
    obtain ⟨b1, b2, b3, b4, b5, b6⟩ := r3 q (by omega)
    have ha8 := atH_le rh g q
    have hpl := (hP (rb q) b2)
    refine T_iload_n dX12_areSo_36 rfl ?_
    refine T_aload_n dX12_areSo_37 rfl ?_
    refine T_get dX12_areSo_38 fl_X12_117_12 (mH_get hA rfl) rfl ?_
    refine T_top r1 ?_
    refine T_icmp_geN (tgt := 85) dX12_areSo_41 (by decide) (by omega) (by omega) (fun c41 => ?_) (fun c41 => ?_)
    · omega
    · refine T_aload_n dX12_areSo_44 rfl ?_
      refine T_get dX12_areSo_45 fl_X12_59_12 (mH_get hA rfl) rfl ?_
      refine T_iload_n dX12_areSo_48 rfl ?_
      refine T_ialdN dX12_areSo_49 (mH_get hA rfl) (by omega) (by decide) ?_
      refine T_top (show u.2 30 q = nI (rh q) from b3) ?_
      refine T_iload_n dX12_areSo_50 rfl ?_
      refine T_icmp_neN (tgt := 79) dX12_areSo_51 (by decide) (by omega) (by omega) (fun c51 => ?_) (fun c51 => ?_)
      · refine T_iincN dX12_areSo_79 rfl (by decide) rfl ?_
        refine T_goto (tgt := 36) dX12_areSo_82 (by decide) ?_
        have e1 : atH rh g (q + 1) = atH rh g q + (if rh q = g then 1 else 0) := rfl
        have k := ih (q + 1) (by omega) (fun q' h1 h2 => by
          by_cases e : q' = q
          · subst e
            first | exact c74 | exact absurd h2 c51
          · exact hso q' (by omega) h2)
        first
          | (rw [e1, if_pos c51] at k; exact k)
          | (rw [e1, if_neg c51] at k; exact k)
      · refine T_iincN dX12_areSo_54 rfl (by decide) rfl ?_
        refine T_aload_n dX12_areSo_57 rfl ?_
        refine T_get dX12_areSo_58 fl_X12_44_12 (mH_get hA rfl) rfl ?_
        refine T_aload_n dX12_areSo_61 rfl ?_
        refine T_get dX12_areSo_62 fl_X12_56_12 (mH_get hA rfl) rfl ?_
        refine T_iload_n dX12_areSo_65 rfl ?_
        refine T_ialdN dX12_areSo_66 (mH_get hA rfl) (by omega) (by decide) ?_
        refine T_top (show u.2 29 q = nI (rb q) from b1) ?_
        refine T_ialdN dX12_areSo_67 (mH_get hA rfl) (by omega) (by decide) ?_
        refine T_top (show P (rb q) = nI (posN L wn st (g + 1) (rb q)) from hpl.1) ?_
        refine T_aload_n dX12_areSo_68 rfl ?_
        refine T_get dX12_areSo_69 fl_X12_62_12 (mH_get hA rfl) rfl ?_
        refine T_iload_n dX12_areSo_72 rfl ?_
        refine T_ialdN dX12_areSo_73 (mH_get hA rfl) (by omega) (by decide) ?_
        refine T_top (show u.2 31 q = nI (rc q) from b5) ?_
        refine T_icmp_eqN (tgt := 79) dX12_areSo_74 (by decide) (by omega) (by omega) (fun c74 => ?_) (fun c74 => ?_)
        · refine T_iincN dX12_areSo_79 rfl (by decide) rfl ?_
          refine T_goto (tgt := 36) dX12_areSo_82 (by decide) ?_
          have e1 : atH rh g (q + 1) = atH rh g q + (if rh q = g then 1 else 0) := rfl
          have k := ih (q + 1) (by omega) (fun q' h1 h2 => by
            by_cases e : q' = q
            · subst e
              first | exact c74 | exact absurd h2 c51
            · exact hso q' (by omega) h2)
          first
            | (rw [e1, if_pos c51] at k; exact k)
            | (rw [e1, if_neg c51] at k; exact k)
        · exact T_pick [] (hbad q (by omega) c51 c74)
end M17
