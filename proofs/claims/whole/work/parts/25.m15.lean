/-! the reference: plan, lay -/
section M16
variable {A B : XH} {u : MSt} {h : XH} {Z : XZ} {L : LK} {wn st : Nat → Nat}
/-- sheet and row as told, then what laying gives -/
def LaA (L : LK) (u : MSt) (r sh sort i n v : Int32) (u' : MSt) : Prop := if r = 0 then (if 0 ≤ sh ∧ sh ≤ 3 then (if (0 ≤ sort ∧ sort ≤ 2) ∧ 0 ≤ n ∧ n ≤ 10 then LyQ L u sh.toNatClampNeg sort i n.toNatClampNeg v u' else v = -2 ∧ u' = u) else v = -1 ∧ u' = u) else v = r ∧ u' = u
theorem c_X12_lay (hA : A.length = 67) (hM : MR u L) (hL : LOk L) (r sh sort i n : Int32) (hl : ∀ j, j < 4 → ∃ ll : Nat, ll ≤ 60 ∧ u.2 3 j = nI ll) : Con M_X12_lay [.ref 67, .int r, .int sh, .int sort, .int i, .int n] (mH A u B) (fun q h' => ∃ v u', q = some (.int v) ∧ h' = mH A u' B ∧ LaA L (m0 u 0) r sh sort i n v u') := by
  refine Con.of rfl (nb rfl) ?_
  by_cases hsh : 0 ≤ sh ∧ sh ≤ 3
  · obtain ⟨kk, hkk, rfl⟩ := shN hsh
    have ck : (nI kk).toNatClampNeg = kk := nI_clamp (by omega)
    by_cases hn : 0 ≤ n ∧ n ≤ 10
    · obtain ⟨nn, hnn, rfl⟩ := setN (a := 10) (by omega) hn
      have cn : (nI nn).toNatClampNeg = nn := nI_clamp (by omega)
      refine T_aload_n dX12_lay_0 rfl ?_
      refine T_iconst (v := 0) dX12_lay_1 (by decide) ?_
      refine T_put dX12_lay_2 fp_X12_65_12 (mH_get hA rfl) (nb rfl) (fun _ => ⟨rfl, rfl⟩) ?_
      first | refine T_h (mE_0 hA) ?_ | refine T_h (mF_0 hA) ?_
      refine T_iload_n dX12_lay_5 rfl ?_
      refine T_if_eq (tgt := 11) dX12_lay_6 (by decide) (fun c6 => ?_) (fun c6 => ?_)
      · refine T_iload_n dX12_lay_11 rfl ?_
        refine T_s1e (cu2 := 0) (su2 := 0) dX12_lay_12 ls_X12_84 rfl (c_X12_isSheet _) (nb rfl) (nb rfl) (nb rfl) (nb rfl) (nb rfl) ?_
        refine T_if_neB (tgt := 20) dX12_lay_15 (by decide) (fun c15 => ?_) (fun c15 => ?_)
        · refine T_iload_n dX12_lay_20 rfl ?_
          refine T_iload dX12_lay_21 rfl ?_
          refine T_s2e (cu2 := 0) (su2 := 0) dX12_lay_23 ls_X12_183 rfl (c_X12_isRow _ _) (nb rfl) (nb rfl) (nb rfl) (nb rfl) (nb rfl) ?_
          refine T_if_eqB (tgt := 42) dX12_lay_26 (by decide) (fun c26 => ?_) (fun c26 => ?_)
          · refine T_bipush (v := (-2)) dX12_lay_42 (by decide) ?_
            refine T_iret dX12_lay_44 rfl (nb rfl) (nb rfl) ?_
            first
              | exact ⟨_, _, rfl, rfl, by unfold LaA; rw [if_pos c6, if_pos hsh, if_pos c26, ck, cn]; exact hv⟩
              | exact ⟨_, _, rfl, rfl, by unfold LaA; rw [if_pos c6, if_pos hsh, if_neg c26]; exact ⟨rfl, rfl⟩⟩
          · refine T_aload_n dX12_lay_29 rfl ?_
            refine T_iload_n dX12_lay_30 rfl ?_
            refine T_iload_n dX12_lay_31 rfl ?_
            refine T_iload dX12_lay_32 rfl ?_
            refine T_iload dX12_lay_34 rfl ?_
            refine T_v4q (cu2 := 0) (su2 := 0) dX12_lay_36 lv_X12_186 rfl (mH_get hA rfl) rfl (c_X12_layPlan (u := m0 u 0) hA hM hL _ _ hkk hnn hl) (nb rfl) (nb rfl) (nb rfl) (nb rfl) (nb rfl) (fun r36 h36 q36 => ?_)
            obtain ⟨v, u', rfl, rfl, hv⟩ := q36
            refine T_goto (tgt := 44) dX12_lay_39 (by decide) ?_
            refine T_iret dX12_lay_44 rfl (nb rfl) (nb rfl) ?_
            first
              | exact ⟨_, _, rfl, rfl, by unfold LaA; rw [if_pos c6, if_pos hsh, if_pos c26, ck, cn]; exact hv⟩
              | exact ⟨_, _, rfl, rfl, by unfold LaA; rw [if_pos c6, if_pos hsh, if_neg c26]; exact ⟨rfl, rfl⟩⟩
        · exact absurd hsh c15
      · refine T_iload_n dX12_lay_9 rfl ?_
        refine T_iret dX12_lay_10 rfl (nb rfl) (nb rfl) ?_
        exact ⟨_, _, rfl, rfl, by unfold LaA; rw [if_neg c6]; exact ⟨rfl, rfl⟩⟩
    · skip
      refine T_aload_n dX12_lay_0 rfl ?_
      refine T_iconst (v := 0) dX12_lay_1 (by decide) ?_
      refine T_put dX12_lay_2 fp_X12_65_12 (mH_get hA rfl) (nb rfl) (fun _ => ⟨rfl, rfl⟩) ?_
      first | refine T_h (mE_0 hA) ?_ | refine T_h (mF_0 hA) ?_
      refine T_iload_n dX12_lay_5 rfl ?_
      refine T_if_eq (tgt := 11) dX12_lay_6 (by decide) (fun c6 => ?_) (fun c6 => ?_)
      · refine T_iload_n dX12_lay_11 rfl ?_
        refine T_s1e (cu2 := 0) (su2 := 0) dX12_lay_12 ls_X12_84 rfl (c_X12_isSheet _) (nb rfl) (nb rfl) (nb rfl) (nb rfl) (nb rfl) ?_
        refine T_if_neB (tgt := 20) dX12_lay_15 (by decide) (fun c15 => ?_) (fun c15 => ?_)
        · refine T_iload_n dX12_lay_20 rfl ?_
          refine T_iload dX12_lay_21 rfl ?_
          refine T_s2e (cu2 := 0) (su2 := 0) dX12_lay_23 ls_X12_183 rfl (c_X12_isRow _ _) (nb rfl) (nb rfl) (nb rfl) (nb rfl) (nb rfl) ?_
          refine T_if_eqB (tgt := 42) dX12_lay_26 (by decide) (fun c26 => ?_) (fun c26 => ?_)
          · refine T_bipush (v := (-2)) dX12_lay_42 (by decide) ?_
            refine T_iret dX12_lay_44 rfl (nb rfl) (nb rfl) ?_
            exact ⟨_, _, rfl, rfl, by unfold LaA; rw [if_pos c6, if_pos hsh, if_neg c26]; exact ⟨rfl, rfl⟩⟩
          · exact absurd c26.2 hn
        · exact absurd hsh c15
      · refine T_iload_n dX12_lay_9 rfl ?_
        refine T_iret dX12_lay_10 rfl (nb rfl) (nb rfl) ?_
        exact ⟨_, _, rfl, rfl, by unfold LaA; rw [if_neg c6]; exact ⟨rfl, rfl⟩⟩
  · skip
    refine T_aload_n dX12_lay_0 rfl ?_
    refine T_iconst (v := 0) dX12_lay_1 (by decide) ?_
    refine T_put dX12_lay_2 fp_X12_65_12 (mH_get hA rfl) (nb rfl) (fun _ => ⟨rfl, rfl⟩) ?_
    first | refine T_h (mE_0 hA) ?_ | refine T_h (mF_0 hA) ?_
    refine T_iload_n dX12_lay_5 rfl ?_
    refine T_if_eq (tgt := 11) dX12_lay_6 (by decide) (fun c6 => ?_) (fun c6 => ?_)
    · refine T_iload_n dX12_lay_11 rfl ?_
      refine T_s1e (cu2 := 0) (su2 := 0) dX12_lay_12 ls_X12_84 rfl (c_X12_isSheet _) (nb rfl) (nb rfl) (nb rfl) (nb rfl) (nb rfl) ?_
      refine T_if_neB (tgt := 20) dX12_lay_15 (by decide) (fun c15 => ?_) (fun c15 => ?_)
      · exact absurd c15 hsh
      · refine T_iconst (v := (-1)) dX12_lay_18 (by decide) ?_
        refine T_iret dX12_lay_19 rfl (nb rfl) (nb rfl) ?_
        exact ⟨_, _, rfl, rfl, by unfold LaA; rw [if_pos c6, if_neg hsh]; exact ⟨rfl, rfl⟩⟩
    · refine T_iload_n dX12_lay_9 rfl ?_
      refine T_iret dX12_lay_10 rfl (nb rfl) (nb rfl) ?_
      exact ⟨_, _, rfl, rfl, by unfold LaA; rw [if_neg c6]; exact ⟨rfl, rfl⟩⟩
/-- what a plan that is laid answers -/
def PnR (L : LK) (wn st : Nat → Nat) (nn : Nat) (what a : Int32) : Prop :=
  if what = 0 then a = nI (ovrN L (posN L wn st nn) (L_n L)) else if what = 1 then a = nI (fsum L wn st nn) else if what = 2 then Fst (finP L wn st) nn a else if what = 3 then Fst (ovrP L wn st) nn a else
  if 0 ≤ what - 10 ∧ what - 10 < nI (L_n L) then a = nI (posN L wn st nn (what - 10).toNatClampNeg) else a = -9
/-- a laid plan's sets as numbers -/
theorem st_of (hL : LOk L) {S f : Nat → Int32} {b nn : Nat} (h1 : ∀ k, k < nn → inAll L f b k) (h2 : ∀ k, k < nn → S k = f (b + k)) : ∀ k, k < nn → S k = nI ((f (b + k)).toNatClampNeg) ∧ (f (b + k)).toNatClampNeg ≤ allN L := fun k hk => by
  have h8 := allN_lt hL
  obtain ⟨j, hj, e⟩ := setN (by omega) (h1 k hk)
  rw [h2 k hk, e, nI_clamp (by omega)]
  exact ⟨rfl, hj⟩
abbrev whatOk (what : Int32) : Prop := (0 ≤ what ∧ what ≤ 3) ∨ (10 ≤ what ∧ what ≤ 12)
/-- plan's answer, and the reference behind it but for what it works with -/
def PlA (L : LK) (wn : Nat → Nat) (u : MSt) (sh sort i n what v : Int32) (u' : MSt) : Prop :=
  if 0 ≤ sh ∧ sh ≤ 3 then (if ((0 ≤ sort ∧ sort ≤ 2) ∧ 0 ≤ n ∧ n ≤ 10) ∧ whatOk what then (∃ x u2, LyQ L u sh.toNatClampNeg sort i n.toNatClampNeg x u2 ∧ ((¬ x = 0 ∧ v = x ∧ u' = u2) ∨ (x = 0 ∧ SameE u2 u' ∧ PnR L wn (fun k => (u.2 4 (60 * sh.toNatClampNeg + i.toNatClampNeg + k)).toNatClampNeg) n.toNatClampNeg what v))) else v = -2 ∧ u' = u) else v = -1 ∧ u' = u
theorem mG_same (P : Nat → Int32) (a b c : Int32) : SameE u (mG u P a b c) := fun j hj => by
  refine ⟨?_, ?_⟩
  · show va_up (va_up (va_up u.1 23 a) 24 b) 25 c j = u.1 j
    unfold va_up
    rw [if_neg (by omega), if_neg (by omega), if_neg (by omega)]
  · show va_up u.2 20 P j = u.2 j
    unfold va_up
    rw [if_neg (by omega)]
theorem LyQ_0 {kk nn : Nat} {sort i : Int32} {u' : MSt} (h : LyQ L u kk sort i nn 0 u') : ¬ L_n L = 0 ∧ nn ≤ L_h L ∧ (∀ k, k < nn → inAll L (u.2 4) (60 * kk + i.toNatClampNeg) k) ∧ ∃ S, u' = (va_up u.1 21 (nI nn), va_up u.2 22 S) ∧ ∀ k, k < nn → S k = u.2 4 (60 * kk + i.toNatClampNeg + k) := by
  unfold LyQ at h
  split at h
  next hg =>
    unfold LyR at h
    split at h
    next q => exact absurd h.1 (by decide)
    next q =>
    split at h
    next q2 => exact absurd h.1 (by decide)
    next q2 =>
    rcases h with ⟨-, a, b⟩ | ⟨a, -⟩
    · exact ⟨q, by omega, a, b⟩
    · exact absurd a (by decide)
  next hg =>
    exfalso
    have e := h.1
    unfold mAgainst at e
    repeat' split at e
    all_goals first | exact absurd e (by decide) | (unfold mAgainst at hg; simp_all)
end M16
