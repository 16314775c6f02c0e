/-! the reference: all states that plans without a fine can come to -/
section M9
variable {A B : XH} {u : MSt} {h : XH} {Z : XZ} {L : LK}
abbrev mm (u : MSt) (P cb th : Nat → Int32) : MSt := (u.1, va_up (va_up (va_up u.2 20 P) 26 cb) 27 th)
theorem MR_mm {P cb th : Nat → Int32} (h : MR u L) : MR (mm u P cb th) L := h
def anyF (g : Nat → Bool) : Nat → Nat → Bool
  | 0, _ => false
  | r + 1, k => g k || anyF g r (k + 1)
theorem anyF_iff (g : Nat → Bool) : ∀ r k, anyF g r k = true ↔ ∃ j, k ≤ j ∧ j < k + r ∧ g j = true := by
  intro r
  induction r with
  | zero => intro k; simp only [anyF]; constructor
            · intro h; cases h
            · rintro ⟨j, h1, h2, -⟩; omega
  | succ r ih =>
    intro k
    rw [anyF, Bool.or_eq_true, ih]
    constructor
    · rintro (h | ⟨j, h1, h2, h3⟩)
      · exact ⟨k, by omega, by omega, h⟩
      · exact ⟨j, by omega, by omega, h3⟩
    · rintro ⟨j, h1, h2, h3⟩
      by_cases e : j = k
      · subst e; exact Or.inl h3
      · exact Or.inr ⟨j, by omega, by omega, h3⟩
/-- the cell of boat i in the state k -/
def dg (k i : Nat) : Nat := k / 5 ^ i % 5
/-- a set of states: as the reference's row of truths; only cells of the lake -/
def SR (L : LK) (cb : Nat → Int32) (S : Nat → Bool) : Prop := (∀ k, k < 125 → cb k = bI (S k = true)) ∧ ∀ k, k < 125 → S k = true → ∀ i, i < L_n L → dg k i ≤ L_w L
theorem pl_PR {S : Nat → Bool} {cb P : Nat → Int32} {k : Nat} (hS : SR L cb S) (hk : k < 125) (ht : S k = true) : PR L (mPl P k (L_n L)) (dg k) := fun i hi => ⟨pl_N P k (L_n L) (L_n L) (Nat.le_refl _) i hi, hS.2 k hk ht i hi⟩
theorem and_N : ∀ a, a < 8 → ∀ s, s < 8 → (nI a &&& nI s = nI s ↔ (a &&& s == s) = true) := by decide
def thereG (L : LK) (S : Nat → Bool) (s k : Nat) : Bool := S k && (ovrN L (dg k) (L_n L) &&& s == s)
theorem lp_X12_isThere (hA : A.length = 67) (hM : MR u L) (hL : LOk L) {S : Nat → Bool} {cb th : Nat → Int32} {s : Nat} (hs : s < 8) (hS : SR L cb S) : ∀ r k, k + r = 125 → ∀ P : Nat → Int32,
    T M_X12_isThere x_E (x_Z M_X12_isThere (fun a h' => a = some (.int (bI (anyF (thereG L S s) r k = true))) ∧ ∃ P', h' = mH A (mm u P' cb th) B)) 0 0 2 [(0, .ref 67), (1, .int (nI s)), (2, .int (nI k))] [] (mH A (mm u P cb th) B) := by
  have h3 := hL.2.2.1
  intro r
  induction r with
  | zero =>
    intro k hk P
    refine T_iload_n dX12_isThere_2 rfl ?_
    refine T_bipush (v := nI 125) dX12_isThere_3 (by decide) ?_
    refine T_icmp_geN (tgt := 40) dX12_isThere_5 (by decide) (by omega) (by omega) (fun c5 => ?_) (fun c5 => ?_)
    · refine T_iconst (v := 0) dX12_isThere_40 (by decide) ?_
      refine T_zret dX12_isThere_41 rfl rfl (nb rfl) (nb rfl) ?_
      exact ⟨sI (bI_f (by simp [anyF])), P, rfl⟩
    · omega
  | succ r ih =>
    intro k hk P
    have hcb : (mm u P cb th).2 26 k = bI (S k = true) := hS.1 k (by omega)
    refine T_iload_n dX12_isThere_2 rfl ?_
    refine T_bipush (v := nI 125) dX12_isThere_3 (by decide) ?_
    refine T_icmp_geN (tgt := 40) dX12_isThere_5 (by decide) (by omega) (by omega) (fun c5 => ?_) (fun c5 => ?_)
    · omega
    · refine T_aload_n dX12_isThere_8 rfl ?_
      refine T_get dX12_isThere_9 fl_X12_50_12 (mH_get hA rfl) rfl ?_
      refine T_iload_n dX12_isThere_12 rfl ?_
      refine T_zaldN dX12_isThere_13 (mH_get hA rfl) (by omega) (by decide) ?_
      refine T_top hcb ?_
      refine T_if_eqB (tgt := 34) dX12_isThere_14 (by decide) (fun c14 => ?_) (fun c14 => ?_)
      · refine T_iincN dX12_isThere_34 rfl (by decide) rfl ?_
        refine T_goto (tgt := 2) dX12_isThere_37 (by decide) ?_
        have e : anyF (thereG L S s) (r + 1) k = anyF (thereG L S s) r (k + 1) := by
          rw [anyF]
          have : thereG L S s k = false := by
            unfold thereG
            first
              | (rw [Bool.eq_false_iff.mpr c14]; rfl)
              | (rw [Bool.eq_false_iff.mpr (fun q => c29 ((and_N _ (Nat.lt_of_lt_of_le (ovrN_lt L (dg k) (L_n L)) (Nat.pow_le_pow_right (n := 2) (by decide) h3)) s hs).mpr q)), Bool.and_false])
          rw [this, Bool.false_or]
        rw [e]
        exact ih (k + 1) (by omega) _
      · refine T_aload_n dX12_isThere_17 rfl ?_
        refine T_iload_n dX12_isThere_18 rfl ?_
        refine T_v1e (cu2 := 0) (su2 := 0) dX12_isThere_19 lv_X12_192 rfl (mH_get hA rfl) rfl (c_X12_asPlaces (n := L_n L) hA hM.2.2.1 h3 (by omega)) (nb rfl) (nb rfl) (nb rfl) (nb rfl) (nb rfl) ?_
        refine T_h (h2 := mH A (mm u (mPl P k (L_n L)) cb th) B) rfl ?_
        refine T_aload_n dX12_isThere_22 rfl ?_
        refine T_v0e (cu2 := 0) (su2 := 0) dX12_isThere_23 lv_X12_180 rfl (mH_get hA rfl) rfl (c_X12_over (n := L_n L) hA hM.2.2.1 h3) (nb rfl) (nb rfl) (nb rfl) (nb rfl) (nb rfl) ?_
        refine T_top (ovr_N (MR_mm hM) hL (pl_PR hS (by omega) c14) _ (Nat.le_refl _)) ?_
        refine T_iload_n dX12_isThere_26 rfl ?_
        refine T_iand dX12_isThere_27 ?_
        refine T_iload_n dX12_isThere_28 rfl ?_
        refine T_icmp_ne (tgt := 34) dX12_isThere_29 (by decide) (fun c29 => ?_) (fun c29 => ?_)
        · refine T_iincN dX12_isThere_34 rfl (by decide) rfl ?_
          refine T_goto (tgt := 2) dX12_isThere_37 (by decide) ?_
          have e : anyF (thereG L S s) (r + 1) k = anyF (thereG L S s) r (k + 1) := by
            rw [anyF]
            have : thereG L S s k = false := by
              unfold thereG
              first
                | (rw [Bool.eq_false_iff.mpr c14]; rfl)
                | (rw [Bool.eq_false_iff.mpr (fun q => c29 ((and_N _ (Nat.lt_of_lt_of_le (ovrN_lt L (dg k) (L_n L)) (Nat.pow_le_pow_right (n := 2) (by decide) h3)) s hs).mpr q)), Bool.and_false])
            rw [this, Bool.false_or]
          rw [e]
          exact ih (k + 1) (by omega) _
        · refine T_iconst (v := 1) dX12_isThere_32 (by decide) ?_
          refine T_zret dX12_isThere_33 rfl rfl (nb rfl) (nb rfl) ?_
          exact ⟨sI (bI_t (by rw [anyF, thereG, c14, (and_N _ (Nat.lt_of_lt_of_le (ovrN_lt L (dg k) (L_n L)) (Nat.pow_le_pow_right (n := 2) (by decide) h3)) s hs).mp c29]; rfl)), _, rfl⟩
theorem c_X12_isThere (hA : A.length = 67) (hM : MR u L) (hL : LOk L) {S : Nat → Bool} {cb th P : Nat → Int32} {s : Nat} (hs : s < 8) (hS : SR L cb S) : Con M_X12_isThere [.ref 67, .int (nI s)] (mH A (mm u P cb th) B) (fun a h' => a = some (.int (bI (anyF (thereG L S s) 125 0 = true))) ∧ ∃ P', h' = mH A (mm u P' cb th) B) := by
  refine Con.of rfl (nb rfl) ?_
  refine T_iconst (v := 0) dX12_isThere_0 (by decide) ?_
  refine T_istore_n dX12_isThere_1 (by decide) rfl ?_
  exact lp_X12_isThere hA hM hL hs hS 125 0 (by omega) P
end M9
