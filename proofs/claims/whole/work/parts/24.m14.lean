/-! the reference: laying plans -/
section M15
variable {A B : XH} {u : MSt} {h : XH} {Z : XZ} {L : LK} {wn st : Nat → Nat}
abbrev GpQ (L : LK) (wn st : Nat → Nat) (nn : Nat) (u : MSt) (A B : XH) (h' : XH) : Prop := ∃ P a b c, h' = mH A (mG u P a b c) B ∧ PR L P (posN L wn st nn) ∧ a = nI (fsum L wn st nn) ∧ Fst (finP L wn st) nn b ∧ Fst (ovrP L wn st) nn c
theorem c_X12_goPlan (hA : A.length = 67) (hM : MR u L) (hL : LOk L) (hW : MW u L wn) {nn : Nat} (hnn : nn ≤ L_h L) (hpl : u.1 21 = nI nn) (hst : ∀ k, k < nn → u.2 22 k = nI (st k) ∧ st k ≤ allN L) : Con M_X12_goPlan [.ref 67] (mH A u B) (fun q h' => q = none ∧ GpQ L wn st nn u A B h') := by
  have h3 := hL.2.2.1
  have hb := beg_N (u := u) hM hL (u.2 20)
  refine Con.of rfl (nb rfl) ?_
  refine T_aload_n dX12_goPlan_0 rfl ?_
  refine T_iconst (v := 0) dX12_goPlan_1 (by decide) ?_
  refine T_v1e (cu2 := 0) (su2 := 0) dX12_goPlan_2 lv_X12_159 rfl (mH_get hA rfl) rfl (c_X12_begins0 (n := L_n L) hA hM.2.2.1 h3) (nb rfl) (nb rfl) (nb rfl) (nb rfl) (nb rfl) ?_
  generalize mBeg (u.2 20) (u.2 11) (u.1 5) (L_n L) = P at hb ⊢
  refine T_pop dX12_goPlan_5 rfl ?_
  refine T_aload_n dX12_goPlan_6 rfl ?_
  refine T_iconst (v := 0) dX12_goPlan_7 (by decide) ?_
  refine T_put dX12_goPlan_8 fp_X12_163_12 (mH_get hA rfl) (nb rfl) (fun _ => ⟨rfl, rfl⟩) ?_
  refine T_h (h2 := mH A (mG u P 0 (u.1 24) (u.1 25)) B) (mH_set (k := 0) hA (nb rfl) rfl) ?_
  refine T_aload_n dX12_goPlan_11 rfl ?_
  refine T_bipush (v := (-9)) dX12_goPlan_12 (by decide) ?_
  refine T_put dX12_goPlan_14 fp_X12_166_12 (mH_get hA rfl) (nb rfl) (fun _ => ⟨rfl, rfl⟩) ?_
  refine T_h (h2 := mH A (mG u P 0 (-9) (u.1 25)) B) (mH_set (k := 0) hA (nb rfl) rfl) ?_
  refine T_aload_n dX12_goPlan_17 rfl ?_
  refine T_bipush (v := (-9)) dX12_goPlan_18 (by decide) ?_
  refine T_put dX12_goPlan_20 fp_X12_169_12 (mH_get hA rfl) (nb rfl) (fun _ => ⟨rfl, rfl⟩) ?_
  refine T_h (h2 := mH A (mG u P 0 (-9) (-9)) B) (mH_set (k := 0) hA (nb rfl) rfl) ?_
  refine T_iconst (v := 0) dX12_goPlan_23 (by decide) ?_
  refine T_istore_n dX12_goPlan_24 (by decide) rfl ?_
  exact lp_X12_goPlan hA hM hL hW hnn hpl hst nn 0 (by omega) P 0 (-9) (-9) hb rfl (Or.inr ⟨fun g hg => absurd hg (by omega), rfl⟩) (Or.inr ⟨fun g hg => absurd hg (by omega), rfl⟩)
/-- the cells of a sheet that are a plan -/
abbrev inAll (L : LK) (f : Nat → Int32) (b k : Nat) : Prop := 0 ≤ f (b + k) ∧ f (b + k) ≤ nI (allN L)
/-- what laying a plan leaves: its answer, the reference behind it -/
def LyR (L : LK) (u : MSt) (b nn : Nat) (v : Int32) (u' : MSt) : Prop :=
  if L_n L = 0 then v = -3 ∧ u' = u else if L_h L < nn then v = -2 ∧ u' = u else
  (v = 0 ∧ (∀ k, k < nn → inAll L (u.2 4) b k) ∧ ∃ S, u' = (va_up u.1 21 (nI nn), va_up u.2 22 S) ∧ ∀ k, k < nn → S k = u.2 4 (b + k)) ∨ (v = -2 ∧ (∃ k, k < nn ∧ ¬ inAll L (u.2 4) b k) ∧ ∃ S, u' = (u.1, va_up u.2 22 S))
theorem lp_X12_layPlan (hA : A.length = 67) (hM : MR u L) (hL : LOk L) {kk ii nn : Nat} {sort x : Int32} (hk : kk < 4) (hi : ii + nn ≤ 60) (hnn : nn ≤ L_h L) : ∀ r k, k + r = nn → (∀ j, j < k → inAll L (u.2 4) (60 * kk + ii) j) → ∀ S : Nat → Int32, (∀ j, j < k → S j = u.2 4 (60 * kk + ii + j)) →
    T M_X12_layPlan x_E (x_Z M_X12_layPlan (fun q h' => ∃ v u', q = some (.int v) ∧ h' = mH A u' B ∧ ((v = 0 ∧ (∀ k, k < nn → inAll L (u.2 4) (60 * kk + ii) k) ∧ ∃ S, u' = (va_up u.1 21 (nI nn), va_up u.2 22 S) ∧ ∀ k, k < nn → S k = u.2 4 (60 * kk + ii + k)) ∨ (v = -2 ∧ (∃ k, k < nn ∧ ¬ inAll L (u.2 4) (60 * kk + ii) k) ∧ ∃ S, u' = (u.1, va_up u.2 22 S))))) 0 0 48 [(0, .ref 67), (1, .int (nI kk)), (2, .int sort), (3, .int (nI ii)), (4, .int (nI nn)), (5, .int x), (6, .int (nI k))] [] (mH A (u.1, va_up u.2 22 S) B) := by
  have h10 := hL.2.1
  have eall := eall_N hM hL
  intro r
  induction r with
  | zero =>
    intro k hk2 hin S hS
    obtain rfl : k = nn := by omega
    refine T_iload dX12_layPlan_48 rfl ?_
    refine T_iload dX12_layPlan_50 rfl ?_
    refine T_icmp_geN (tgt := 103) dX12_layPlan_52 (by decide) (by omega) (by omega) (fun c52 => ?_) (fun c52 => ?_)
    · refine T_aload_n dX12_layPlan_103 rfl ?_
      refine T_iload dX12_layPlan_104 rfl ?_
      refine T_put dX12_layPlan_106 fp_X12_156_12 (mH_get hA rfl) (nb rfl) (fun _ => ⟨rfl, rfl⟩) ?_
      refine T_h (h2 := mH A (va_up u.1 21 (nI k), va_up u.2 22 S) B) (mH_set (k := 0) hA (nb rfl) rfl) ?_
      refine T_iconst (v := 0) dX12_layPlan_109 (by decide) ?_
      refine T_iret dX12_layPlan_110 rfl (nb rfl) (nb rfl) ?_
      exact ⟨0, _, rfl, rfl, Or.inl ⟨rfl, hin, S, rfl, hS⟩⟩
    · omega
  | succ r ih =>
    intro k hk2 hin S hS
    refine T_iload dX12_layPlan_48 rfl ?_
    refine T_iload dX12_layPlan_50 rfl ?_
    refine T_icmp_geN (tgt := 103) dX12_layPlan_52 (by decide) (by omega) (by omega) (fun c52 => ?_) (fun c52 => ?_)
    · omega
    · refine T_aload_n dX12_layPlan_55 rfl ?_
      refine T_get dX12_layPlan_56 fl_X12_47_12 (mH_get hA rfl) rfl ?_
      refine T_iload dX12_layPlan_59 rfl ?_
      refine T_aload_n dX12_layPlan_61 rfl ?_
      refine T_get dX12_layPlan_62 fl_X12_16_12 (mH_get hA rfl) rfl ?_
      refine T_bipush (v := nI 60) dX12_layPlan_65 (by decide) ?_
      refine T_iload_n dX12_layPlan_67 rfl ?_
      refine T_imulN dX12_layPlan_68 ?_
      refine T_iload_n dX12_layPlan_69 rfl ?_
      refine T_iaddN dX12_layPlan_70 ?_
      refine T_iload dX12_layPlan_71 rfl ?_
      refine T_iaddN dX12_layPlan_73 ?_
      refine T_ialdN dX12_layPlan_74 (mH_get hA rfl) (by omega) (by decide) ?_
      refine T_iastN dX12_layPlan_75 (mH_get hA rfl) (by omega) (by decide) ?_
      refine T_h (h2 := mH A (u.1, va_up u.2 22 (upd S k (u.2 4 (60 * kk + ii + k)))) B) (mH_set (k := 13) hA (nb rfl) rfl) ?_
      refine T_aload_n dX12_layPlan_76 rfl ?_
      refine T_get dX12_layPlan_77 fl_X12_47_12 (mH_get hA rfl) rfl ?_
      refine T_iload dX12_layPlan_80 rfl ?_
      refine T_ialdN dX12_layPlan_82 (mH_get hA rfl) (by omega) (by decide) ?_
      refine T_top (show upd S k (u.2 4 (60 * kk + ii + k)) k = u.2 4 (60 * kk + ii + k) from upd_s) ?_
      refine T_iconst (v := 0) dX12_layPlan_83 (by decide) ?_
      refine T_aload_n dX12_layPlan_84 rfl ?_
      refine T_v0e (cu2 := 0) (su2 := 0) dX12_layPlan_85 lv_X12_153 rfl (mH_get hA rfl) rfl (c_X12_all hA) (nb rfl) (nb rfl) (nb rfl) (nb rfl) (nb rfl) ?_
      refine T_top eall ?_
      refine T_s3e (cu2 := 0) (su2 := 0) dX12_layPlan_88 ls_X12_71 rfl (c_X12_within _ _ _) (nb rfl) (nb rfl) (nb rfl) (nb rfl) (nb rfl) ?_
      refine T_if_neB (tgt := 97) dX12_layPlan_91 (by decide) (fun c91 => ?_) (fun c91 => ?_)
      · refine T_iincN dX12_layPlan_97 rfl (by decide) rfl ?_
        refine T_goto (tgt := 48) dX12_layPlan_100 (by decide) ?_
        refine ih (k + 1) (by omega) (fun j hj => ?_) _ (fun j hj => ?_)
        · by_cases e : j = k
          · subst e; exact c91
          · exact hin j (by omega)
        · by_cases e : j = k
          · subst e; exact upd_s
          · rw [upd_n e]; exact hS j (by omega)
      · refine T_bipush (v := (-2)) dX12_layPlan_94 (by decide) ?_
        refine T_iret dX12_layPlan_96 rfl (nb rfl) (nb rfl) ?_
        exact ⟨-2, _, rfl, rfl, Or.inr ⟨rfl, ⟨k, by omega, c91⟩, _, rfl⟩⟩
def LyQ (L : LK) (u : MSt) (kk : Nat) (sort i : Int32) (nn : Nat) (v : Int32) (u' : MSt) : Prop :=
  if mAgainst (u.2 2 kk) (u.2 3 kk) sort i (nI nn) = 0 then LyR L u (60 * kk + i.toNatClampNeg) nn v u' else v = -10 - mAgainst (u.2 2 kk) (u.2 3 kk) sort i (nI nn) ∧ u' = m0 u (mAgainst (u.2 2 kk) (u.2 3 kk) sort i (nI nn))
theorem mAgainst_0 {s sort i : Int32} {ll nn : Nat} (hl : ll ≤ 60) (hn : nn ≤ 60) (h : mAgainst s (nI ll) sort i (nI nn) = 0) : ∃ ii, i = nI ii ∧ ii + nn ≤ ll := by
  unfold mAgainst at h
  split at h
  · exact absurd h (by decide)
  split at h
  · exact absurd h (by decide)
  split at h
  · exact absurd h (by decide)
  split at h
  · exact absurd h (by decide)
  next q =>
  have q1 : ¬ i < 0 := fun r => q (Or.inl r)
  have q2 : ¬ nI ll < i := fun r => q (Or.inr (Or.inl r))
  have q3 : ¬ nI ll - i < nI nn := fun r => q (Or.inr (Or.inr r))
  obtain ⟨ii, hi, rfl⟩ := nI_of q1
  rw [nI_ltI (by omega) hi] at q2
  rw [pk_sub (by omega), nI_ltI (by omega) (by omega)] at q3
  exact ⟨ii, rfl, by omega⟩
theorem c_X12_layPlan (hA : A.length = 67) (hM : MR u L) (hL : LOk L) {kk nn : Nat} (sort i : Int32) (hk : kk < 4) (hn : nn ≤ 10) (hl : ∀ j, j < 4 → ∃ ll : Nat, ll ≤ 60 ∧ u.2 3 j = nI ll) : Con M_X12_layPlan [.ref 67, .int (nI kk), .int sort, .int i, .int (nI nn)] (mH A u B) (fun q h' => ∃ v u', q = some (.int v) ∧ h' = mH A u' B ∧ LyQ L u kk sort i nn v u') := by
  have h10 := hL.2.1
  have h3 := hL.2.2.1
  obtain ⟨ll, hll, el⟩ := hl kk hk
  have ck : (nI kk).toNatClampNeg = kk := nI_clamp (by omega)
  have cag := c_X12_against (A := A) (B := B) (u := u) hA (nI kk) sort i (nI nn) (vp_in_nI hk (by decide))
  rw [ck] at cag
  refine Con.of rfl (nb rfl) ?_
  by_cases hg : mAgainst (u.2 2 kk) (u.2 3 kk) sort i (nI nn) = 0
  · have hq : ∀ v u', LyR L u (60 * kk + i.toNatClampNeg) nn v u' → LyQ L u kk sort i nn v u' := fun v u' q => by unfold LyQ; rw [if_pos hg]; exact q
    obtain ⟨ii, rfl, hii⟩ := mAgainst_0 (s := u.2 2 kk) (sort := sort) (i := i) (nn := nn) hll (by omega) (by rw [← el]; exact hg)
    have ci : (nI ii).toNatClampNeg = ii := nI_clamp (by omega)
    rw [ci] at hq
    rw [hg] at cag
    refine T_aload_n dX12_layPlan_0 rfl ?_
    refine T_iload_n dX12_layPlan_1 rfl ?_
    refine T_iload_n dX12_layPlan_2 rfl ?_
    refine T_iload_n dX12_layPlan_3 rfl ?_
    refine T_iload dX12_layPlan_4 rfl ?_
    refine T_v4e (cu2 := 0) (su2 := 0) dX12_layPlan_6 lv_X12_91 rfl (mH_get hA rfl) rfl cag (nb rfl) (nb rfl) (nb rfl) (nb rfl) (nb rfl) ?_
    refine T_istore dX12_layPlan_9 (by decide) rfl ?_
    refine T_iload dX12_layPlan_11 rfl ?_
    refine T_if_eq (tgt := 23) dX12_layPlan_13 (by decide) (fun c13 => ?_) (fun c13 => ?_)
    · refine T_aload_n dX12_layPlan_23 rfl ?_
      refine T_get dX12_layPlan_24 fl_X12_75_12 (mH_get hA rfl) rfl ?_
      refine T_top hM.2.2.1 ?_
      refine T_if_neN (tgt := 33) dX12_layPlan_27 (by decide) (by omega) (fun c27 => ?_) (fun c27 => ?_)
      · refine T_iload dX12_layPlan_33 rfl ?_
        refine T_aload_n dX12_layPlan_35 rfl ?_
        refine T_get dX12_layPlan_36 fl_X12_78_12 (mH_get hA rfl) rfl ?_
        refine T_top hM.2.1 ?_
        refine T_icmp_leN (tgt := 45) dX12_layPlan_39 (by decide) (by omega) (by omega) (fun c39 => ?_) (fun c39 => ?_)
        · refine T_iconst (v := 0) dX12_layPlan_45 (by decide) ?_
          refine T_istore dX12_layPlan_46 (by decide) rfl ?_
          refine T_Q (fun r h' hh => ?_) (lp_X12_layPlan hA hM hL hk (by omega) (by omega) nn 0 (by omega) (fun j hj => absurd hj (by omega)) (u.2 22) (fun j hj => absurd hj (by omega)))
          obtain ⟨v, u', b1, b2, b3⟩ := hh
          exact ⟨v, u', b1, b2, hq v u' (by unfold LyR; rw [if_neg c27, if_neg (by omega)]; exact b3)⟩
        · refine T_bipush (v := (-2)) dX12_layPlan_42 (by decide) ?_
          refine T_iret dX12_layPlan_44 rfl (nb rfl) (nb rfl) ?_
          exact ⟨-2, u, rfl, rfl, hq _ _ (by unfold LyR; rw [if_neg c27, if_pos c39]; exact ⟨rfl, rfl⟩)⟩
      · refine T_bipush (v := (-3)) dX12_layPlan_30 (by decide) ?_
        refine T_iret dX12_layPlan_32 rfl (nb rfl) (nb rfl) ?_
        exact ⟨-3, u, rfl, rfl, hq _ _ (by unfold LyR; rw [if_pos c27]; exact ⟨rfl, rfl⟩)⟩
    · exact absurd rfl c13
  · skip
    refine T_aload_n dX12_layPlan_0 rfl ?_
    refine T_iload_n dX12_layPlan_1 rfl ?_
    refine T_iload_n dX12_layPlan_2 rfl ?_
    refine T_iload_n dX12_layPlan_3 rfl ?_
    refine T_iload dX12_layPlan_4 rfl ?_
    refine T_v4e (cu2 := 0) (su2 := 0) dX12_layPlan_6 lv_X12_91 rfl (mH_get hA rfl) rfl cag (nb rfl) (nb rfl) (nb rfl) (nb rfl) (nb rfl) ?_
    refine T_istore dX12_layPlan_9 (by decide) rfl ?_
    refine T_iload dX12_layPlan_11 rfl ?_
    refine T_if_eq (tgt := 23) dX12_layPlan_13 (by decide) (fun c13 => ?_) (fun c13 => ?_)
    · exact absurd c13 hg
    · refine T_aload_n dX12_layPlan_16 rfl ?_
      refine T_iload dX12_layPlan_17 rfl ?_
      refine T_v1e (cu2 := 0) (su2 := 0) dX12_layPlan_19 lv_X12_95 rfl (mH_get hA rfl) rfl (c_X12_fails hA _) (nb rfl) (nb rfl) (nb rfl) (nb rfl) (nb rfl) ?_
      refine T_iret dX12_layPlan_22 rfl (nb rfl) (nb rfl) ?_
      exact ⟨_, _, rfl, rfl, by unfold LyQ; rw [if_neg hg]; exact ⟨rfl, rfl⟩⟩
end M15
