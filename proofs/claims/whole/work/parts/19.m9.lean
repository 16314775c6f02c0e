/-! the reference: one hour of all states -/
section M10
variable {A B : XH} {u : MSt} {h : XH} {Z : XZ} {L : LK}
/-- the state behind an hour -/
def nxN (L : LK) (w s k : Nat) : Nat := cN (fun i => aft L w (s.testBit i) i (dg k i)) (L_n L) (L_n L)
/-- what states are come to by what is done: all orders of states below k, and those below s of k -/
def Pr (L : LK) (w : Nat) (S : Nat → Bool) (k s j : Nat) : Prop := ∃ k' s', k' < 125 ∧ s' ≤ allN L ∧ (k' < k ∨ (k' = k ∧ s' < s)) ∧ S k' = true ∧ finN L s' w (dg k') = 0 ∧ j = nxN L w s' k'
def Nx (L : LK) (w : Nat) (S : Nat → Bool) (j : Nat) : Prop := ∃ k s, k < 125 ∧ s ≤ allN L ∧ S k = true ∧ finN L s w (dg k) = 0 ∧ j = nxN L w s k
theorem Pr_next {w : Nat} {S : Nat → Bool} {k j : Nat} : Pr L w S k (allN L + 1) j ↔ Pr L w S (k + 1) 0 j := by
  constructor
  · rintro ⟨k', s', a, b, c, d⟩
    exact ⟨k', s', a, b, Or.inl (by omega), d⟩
  · rintro ⟨k', s', a, b, c, d⟩
    exact ⟨k', s', a, b, by omega, d⟩
theorem Pr_no {w : Nat} {S : Nat → Bool} {k s j : Nat} (hS : ¬ S k = true) : Pr L w S k s j ↔ Pr L w S (k + 1) 0 j := by
  constructor
  · rintro ⟨k', s', a, b, c, d⟩
    exact ⟨k', s', a, b, Or.inl (by omega), d⟩
  · rintro ⟨k', s', a, b, c, d⟩
    have : k' ≠ k := fun e => hS (e ▸ d.1)
    exact ⟨k', s', a, b, Or.inl (by omega), d⟩
theorem Pr_skip {w : Nat} {S : Nat → Bool} {k s j : Nat} (hf : ¬ finN L s w (dg k) = 0) : Pr L w S k s j ↔ Pr L w S k (s + 1) j := by
  constructor
  · rintro ⟨k', s', a, b, c, d⟩
    exact ⟨k', s', a, b, by omega, d⟩
  · rintro ⟨k', s', a, b, c, d, e, f⟩
    have : ¬ (k' = k ∧ s' = s) := by rintro ⟨rfl, rfl⟩; exact hf e
    exact ⟨k', s', a, b, by omega, d, e, f⟩
theorem Pr_go {w : Nat} {S : Nat → Bool} {k s j : Nat} (hk : k < 125) (hs : s ≤ allN L) (hS : S k = true) (hf : finN L s w (dg k) = 0) : Pr L w S k (s + 1) j ↔ (Pr L w S k s j ∨ j = nxN L w s k) := by
  constructor
  · rintro ⟨k', s', a, b, c, d, e, f⟩
    by_cases q : k' = k ∧ s' = s
    · obtain ⟨rfl, rfl⟩ := q
      exact Or.inr f
    · exact Or.inl ⟨k', s', a, b, by omega, d, e, f⟩
  · rintro (⟨k', s', a, b, c, d⟩ | e)
    · exact ⟨k', s', a, b, by omega, d⟩
    · exact ⟨k, s, hk, hs, Or.inr ⟨rfl, by omega⟩, hS, hf, e⟩
theorem Pr_end {w : Nat} {S : Nat → Bool} {j : Nat} : Pr L w S 125 0 j ↔ Nx L w S j := by
  constructor
  · rintro ⟨k', s', a, b, c, d⟩
    exact ⟨k', s', a, b, d⟩
  · rintro ⟨k', s', a, b, d⟩
    exact ⟨k', s', a, b, Or.inl a, d⟩
def InvT (L : LK) (w : Nat) (S : Nat → Bool) (k s : Nat) (th : Nat → Int32) : Prop := ∀ j, j < 125 → (th j = 1 ∧ Pr L w S k s j) ∨ (th j = 0 ∧ ¬ Pr L w S k s j)
theorem InvT.of {w : Nat} {S : Nat → Bool} {k s k2 s2 : Nat} {th : Nat → Int32} (h : InvT L w S k s th) (e : ∀ j, Pr L w S k s j ↔ Pr L w S k2 s2 j) : InvT L w S k2 s2 th := fun j hj => by
  rcases h j hj with ⟨a, b⟩ | ⟨a, b⟩
  · exact Or.inl ⟨a, (e j).mp b⟩
  · exact Or.inr ⟨a, fun q => b ((e j).mpr q)⟩
theorem all_N : ∀ n, n ≤ 3 → (1 : Int32) <<< (nI n &&& 31) - 1 = nI (2 ^ n - 1) := by decide
theorem cN_lt {p : Nat → Nat} {n : Nat} (hn : n ≤ 3) (hp : ∀ i, i < n → p i ≤ 4) : cN p n n < 125 := by
  match n, hn with
  | 0, _ => simp [cN]
  | 1, _ => have := hp 0 (by omega); simp [cN]; omega
  | 2, _ => have := hp 0 (by omega); have := hp 1 (by omega); simp [cN]; omega
  | 3, _ => have := hp 0 (by omega); have := hp 1 (by omega); have := hp 2 (by omega); simp [cN]; omega
theorem dg_cN {p : Nat → Nat} {n : Nat} (hn : n ≤ 3) (hp : ∀ i, i < n → p i ≤ 4) : ∀ i, i < n → dg (cN p n n) i = p i := by
  intro i hi
  unfold dg
  match n, hn with
  | 0, _ => omega
  | 1, _ =>
    have := hp 0 (by omega)
    obtain rfl : i = 0 := by omega
    simp [cN]; omega
  | 2, _ =>
    have := hp 0 (by omega); have := hp 1 (by omega)
    rcases (show i = 0 ∨ i = 1 by omega) with rfl | rfl <;> simp [cN] <;> omega
  | 3, _ =>
    have := hp 0 (by omega); have := hp 1 (by omega); have := hp 2 (by omega)
    rcases (show i = 0 ∨ i = 1 ∨ i = 2 by omega) with rfl | rfl | rfl <;> simp [cN] <;> omega
abbrev gaL (w k s : Nat) : List (Nat × Value) := [(0, .ref 67), (1, .int (nI w)), (2, .int (nI k)), (3, .int (nI s))]
theorem lp_X12_goAll_in (hA : A.length = 67) (hM : MR u L) (hL : LOk L) {S : Nat → Bool} {cb : Nat → Int32} {w k : Nat} (hw : w ≤ 2) (hk : k < 125) (hS : SR L cb S) (K : ∀ P th, InvT L w S (k + 1) 0 th → T M_X12_goAll x_E Z 0 0 84 [(0, .ref 67), (1, .int (nI w)), (2, .int (nI k))] [] (mH A (mm u P cb th) B)) :
    ∀ r s, s + r = allN L + 1 → ∀ P th, InvT L w S k s th → T M_X12_goAll x_E Z 0 0 31 (gaL w k s) [] (mH A (mm u P cb th) B) := by
  have h3 := hL.2.2.1
  have hw4 := hL.1
  have hall : allN L < 8 := by
    have := Nat.pow_le_pow_right (n := 2) (by decide) h3
    unfold allN
    omega
  have eall : (1 : Int32) <<< (u.1 7 &&& 31) - 1 = nI (allN L) := by rw [hM.2.2.1]; exact all_N _ h3
  intro r
  induction r with
  | zero =>
    intro s hs P th hI
    refine T_iload_n dX12_goAll_31 rfl ?_
    refine T_aload_n dX12_goAll_32 rfl ?_
    refine T_v0e (cu2 := 0) (su2 := 0) dX12_goAll_33 lv_X12_153 rfl (mH_get hA rfl) rfl (c_X12_all hA) (nb rfl) (nb rfl) (nb rfl) (nb rfl) (nb rfl) ?_
    refine T_top eall ?_
    refine T_icmp_gtN (tgt := 84) dX12_goAll_36 (by decide) (by omega) (by omega) (fun c36 => ?_) (fun c36 => ?_)
    · refine T_pick [0, 1, 2] (K P th (hI.of fun j => ?_))
      rw [show s = allN L + 1 by omega]
      exact Pr_next
    · omega
  | succ r ih =>
    intro s hs P th hI
    have hcb : (mm u P cb th).2 26 k = bI (S k = true) := hS.1 k (by omega)
    refine T_iload_n dX12_goAll_31 rfl ?_
    refine T_aload_n dX12_goAll_32 rfl ?_
    refine T_v0e (cu2 := 0) (su2 := 0) dX12_goAll_33 lv_X12_153 rfl (mH_get hA rfl) rfl (c_X12_all hA) (nb rfl) (nb rfl) (nb rfl) (nb rfl) (nb rfl) ?_
    refine T_top eall ?_
    refine T_icmp_gtN (tgt := 84) dX12_goAll_36 (by decide) (by omega) (by omega) (fun c36 => ?_) (fun c36 => ?_)
    · omega
    · refine T_aload_n dX12_goAll_39 rfl ?_
      refine T_get dX12_goAll_40 fl_X12_50_12 (mH_get hA rfl) rfl ?_
      refine T_iload_n dX12_goAll_43 rfl ?_
      refine T_zaldN dX12_goAll_44 (mH_get hA rfl) (by omega) (by decide) ?_
      refine T_top hcb ?_
      refine T_if_eqB (tgt := 84) dX12_goAll_45 (by decide) (fun c45 => ?_) (fun c45 => ?_)
      · exact T_pick [0, 1, 2] (K P th (hI.of fun j => Pr_no c45))
      · refine T_aload_n dX12_goAll_48 rfl ?_
        refine T_iload_n dX12_goAll_49 rfl ?_
        refine T_v1e (cu2 := 0) (su2 := 0) dX12_goAll_50 lv_X12_192 rfl (mH_get hA rfl) rfl (c_X12_asPlaces (n := L_n L) hA hM.2.2.1 h3 (by omega)) (nb rfl) (nb rfl) (nb rfl) (nb rfl) (nb rfl) ?_
        refine T_h (h2 := mH A (mm u (mPl P k (L_n L)) cb th) B) rfl ?_
        refine T_aload_n dX12_goAll_53 rfl ?_
        refine T_iload_n dX12_goAll_54 rfl ?_
        refine T_iload_n dX12_goAll_55 rfl ?_
        refine T_v2e (cu2 := 0) (su2 := 0) dX12_goAll_56 lv_X12_172 rfl (mH_get hA rfl) rfl (c_X12_finedBy (n := L_n L) hA _ _ hM.2.2.1 h3) (nb rfl) (nb rfl) (nb rfl) (nb rfl) (nb rfl) ?_
        refine T_top (fin_N (MR_mm hM) hL (pl_PR hS hk c45) (by omega) hw) ?_
        have hfl : finN L s w (dg k) < 100 := by have := cntN_le L s w (dg k) (L_n L); unfold finN; split <;> omega
        refine T_if_neN (tgt := 78) dX12_goAll_59 (by decide) (by omega) (fun c59 => ?_) (fun c59 => ?_)
        · refine T_iincN dX12_goAll_78 rfl (by decide) rfl ?_
          refine T_goto (tgt := 31) dX12_goAll_81 (by decide) ?_
          first
            | (refine ih (s + 1) (by omega) _ _ (hI.of fun j => Pr_skip c59))
            | (refine ih (s + 1) (by omega) _ _ (fun j hj => ?_)
               have hg := Pr_go (L := L) (w := w) (S := S) (j := j) hk (by omega) c45 c59
               by_cases e : j = nxN L w s k
               · rw [e, upd_s]
                 exact Or.inl ⟨rfl, (Pr_go hk (by omega) c45 c59).mpr (Or.inr rfl)⟩
               · rw [upd_n e]
                 rcases hI j hj with ⟨a, b⟩ | ⟨a, b⟩
                 · exact Or.inl ⟨a, hg.mpr (Or.inl b)⟩
                 · exact Or.inr ⟨a, fun q => (hg.mp q).elim b e⟩)
        · refine T_aload_n dX12_goAll_62 rfl ?_
          refine T_iload_n dX12_goAll_63 rfl ?_
          refine T_iload_n dX12_goAll_64 rfl ?_
          refine T_v2e (cu2 := 0) (su2 := 0) dX12_goAll_65 lv_X12_176 rfl (mH_get hA rfl) rfl (c_X12_goHour (n := L_n L) hA _ _ hM.2.2.1 h3 hM.1 hw4) (nb rfl) (nb rfl) (nb rfl) (nb rfl) (nb rfl) ?_
          have hh := hour_N (s := s) (MR_mm hM (P := mPl P k (L_n L)) (cb := cb) (th := th)) hL (by omega) hw (pl_PR (P := P) hS hk c45)
          generalize hP2 : mHour ((mm u (mPl P k (L_n L)) cb th).2 11) ((mm u (mPl P k (L_n L)) cb th).2 10) ((mm u (mPl P k (L_n L)) cb th).2 12) ((mm u (mPl P k (L_n L)) cb th).2 8) ((mm u (mPl P k (L_n L)) cb th).1 5) (nI s) (nI w) (L_n L) ((mm u (mPl P k (L_n L)) cb th).2 20) = P2
          have hh : PR L P2 (fun i => aft L w (s.testBit i) i (dg k i)) := by rw [← hP2]; exact hh
          refine T_h (h2 := mH A (mm u P2 cb th) B) rfl ?_
          refine T_aload_n dX12_goAll_68 rfl ?_
          refine T_get dX12_goAll_69 fl_X12_53_12 (mH_get hA rfl) rfl ?_
          refine T_aload_n dX12_goAll_72 rfl ?_
          refine T_v0e (cu2 := 0) (su2 := 0) dX12_goAll_73 lv_X12_140 rfl (mH_get hA rfl) rfl (c_X12_asNumber (n := L_n L) hA hM.2.2.1 h3) (nb rfl) (nb rfl) (nb rfl) (nb rfl) (nb rfl) ?_
          have hlt : nxN L w s k < 125 := cN_lt h3 (fun i hi => Nat.le_trans (hh i hi).2 hw4)
          refine T_top (num_N hh _ (Nat.le_refl _)) ?_
          refine T_top (show nI (cN (fun i => aft L w (s.testBit i) i (dg k i)) (L_n L) (L_n L)) = nI (nxN L w s k) from rfl) ?_
          refine T_iconst (v := 1) dX12_goAll_76 (by decide) ?_
          refine T_zastN dX12_goAll_77 (mH_get hA rfl) (by omega) (by decide) rfl ?_
          first | refine T_h (mT_27 hA) ?_ | refine T_h (mS_27 hA) ?_
          refine T_h (h2 := mH A (mm u P2 cb (upd th (nxN L w s k) 1)) B) rfl ?_
          refine T_iincN dX12_goAll_78 rfl (by decide) rfl ?_
          refine T_goto (tgt := 31) dX12_goAll_81 (by decide) ?_
          first
            | (refine ih (s + 1) (by omega) _ _ (hI.of fun j => Pr_skip c59))
            | (refine ih (s + 1) (by omega) _ _ (fun j hj => ?_)
               have hg := Pr_go (L := L) (w := w) (S := S) (j := j) hk (by omega) c45 c59
               by_cases e : j = nxN L w s k
               · rw [e, upd_s]
                 exact Or.inl ⟨rfl, (Pr_go hk (by omega) c45 c59).mpr (Or.inr rfl)⟩
               · rw [upd_n e]
                 rcases hI j hj with ⟨a, b⟩ | ⟨a, b⟩
                 · exact Or.inl ⟨a, hg.mpr (Or.inl b)⟩
                 · exact Or.inr ⟨a, fun q => (hg.mp q).elim b e⟩)
end M10
