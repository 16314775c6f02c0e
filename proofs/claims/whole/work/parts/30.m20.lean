/-! the reference: odds -/
section M21
variable {A B : XH} {u : MSt} {h : XH} {Z : XZ} {L : LK} {st : Nat → Nat} {nn : Nat}
/-- the wind of hour h, by the number z -/
def wz (z h : Nat) : Nat := 1 + z / 2 ^ h % 2
theorem wz_le (z h : Nat) : wz z h ≤ 2 := by unfold wz; have := Nat.mod_lt (z / 2 ^ h) (show 0 < 2 by decide); omega
theorem sm31 : ∀ n, n < 32 → ((nI n &&& 31).toBitVec.smod 32).toNat = n := by decide +kernel
theorem wz_I {z h : Nat} (hz : z < 2 ^ 31) (hh : h < 32) : (1 : Int32) + ((nI z >>> (nI h &&& 31)) &&& 1) = nI (wz z h) := by
  rw [pk_shrN hz _ h (sm31 h hh), pk_andN (Nat.lt_of_le_of_lt (Nat.div_le_self _ _) (by omega)) 1 (by decide), show (1 : Int32) = nI 1 from rfl, nI_add]
  rfl
def FreeN (L : LK) (z : Nat) (st : Nat → Nat) (nn : Nat) : Prop := ∀ h, h < nn → finN L (st h) (wz z h) (posN L (wz z) st h) = 0
theorem lp_X12_isFree (hA : A.length = 67) (hM : MR u L) (hL : LOk L) {z : Nat} (hz : z < 2 ^ 31) (hnn : nn ≤ L_h L) (hpl : u.1 21 = nI nn) (hst : ∀ k, k < nn → u.2 22 k = nI (st k) ∧ st k ≤ allN L) :
    ∀ r g, g + r = nn → (∀ h, h < g → finN L (st h) (wz z h) (posN L (wz z) st h) = 0) → ∀ P, PR L P (posN L (wz z) st g) →
    T M_X12_isFree x_E (x_Z M_X12_isFree (fun a h' => (∃ v, a = some (.int v) ∧ yn (FreeN L z st nn) v) ∧ ∃ P, h' = mH A (mP u P) B)) 0 0 8 [(0, .ref 67), (1, .int (nI z)), (2, .int (nI g))] [] (mH A (mP u P) B) := by
  have h3 := hL.2.2.1
  have h4 := hL.1
  have h10 := hL.2.1
  have h8 := allN_lt hL
  intro r
  induction r with
  | zero =>
    intro g hg hf P hP
    obtain rfl : g = nn := by omega
    refine T_iload_n dX12_isFree_8 rfl ?_
    refine T_aload_n dX12_isFree_9 rfl ?_
    refine T_get dX12_isFree_10 fl_X12_156_12 (mH_get hA rfl) rfl ?_
    refine T_top hpl ?_
    refine T_icmp_geN (tgt := 57) dX12_isFree_13 (by decide) (by omega) (by omega) (fun c13 => ?_) (fun c13 => ?_)
    · refine T_iconst (v := 1) dX12_isFree_57 (by decide) ?_
      refine T_zret dX12_isFree_58 rfl rfl (nb rfl) (nb rfl) ?_
      exact ⟨⟨1, rfl, Or.inl ⟨rfl, hf⟩⟩, P, rfl⟩
    · omega
  | succ r ih =>
    intro g hg hf P hP
    have hsh := hst g (by omega)
    have hwl := wz_le z g
    have hfd := fin_N (u := mP u P) (P := P) (s := st g) (w := wz z g) hM hL hP (by omega) hwl
    have hfl := finN_le hL (st g) (wz z g) (posN L (wz z) st g)
    have hhr := hour_N (u := mP u P) (P := P) (s := st g) (w := wz z g) hM hL (by omega) hwl hP
    have hgz := wz_I (h := g) hz (by omega)
    refine T_iload_n dX12_isFree_8 rfl ?_
    refine T_aload_n dX12_isFree_9 rfl ?_
    refine T_get dX12_isFree_10 fl_X12_156_12 (mH_get hA rfl) rfl ?_
    refine T_top hpl ?_
    refine T_icmp_geN (tgt := 57) dX12_isFree_13 (by decide) (by omega) (by omega) (fun c13 => ?_) (fun c13 => ?_)
    · omega
    · refine T_iconst (v := 1) dX12_isFree_16 (by decide) ?_
      refine T_iload_n dX12_isFree_17 rfl ?_
      refine T_iload_n dX12_isFree_18 rfl ?_
      refine T_ishr dX12_isFree_19 ?_
      refine T_iconst (v := 1) dX12_isFree_20 (by decide) ?_
      refine T_iand dX12_isFree_21 ?_
      refine T_iadd dX12_isFree_22 (T_top hgz ?_)
      refine T_istore_n dX12_isFree_23 (by decide) rfl ?_
      refine T_aload_n dX12_isFree_24 rfl ?_
      refine T_aload_n dX12_isFree_25 rfl ?_
      refine T_get dX12_isFree_26 fl_X12_47_12 (mH_get hA rfl) rfl ?_
      refine T_iload_n dX12_isFree_29 rfl ?_
      refine T_ialdN dX12_isFree_30 (mH_get hA rfl) (by omega) (by decide) ?_
      refine T_top (show u.2 22 g = nI (st g) from hsh.1) ?_
      refine T_iload_n dX12_isFree_31 rfl ?_
      refine T_v2e (cu2 := 0) (su2 := 0) dX12_isFree_32 lv_X12_172 rfl (mH_get hA rfl) rfl (c_X12_finedBy (n := L_n L) hA _ _ hM.2.2.1 h3) (nb rfl) (nb rfl) (nb rfl) (nb rfl) (nb rfl) ?_
      refine T_top hfd ?_
      refine T_if_le (tgt := 40) dX12_isFree_35 (by decide) (fun c35 => ?_) (fun c35 => ?_)
      · refine T_aload_n dX12_isFree_40 rfl ?_
        refine T_aload_n dX12_isFree_41 rfl ?_
        refine T_get dX12_isFree_42 fl_X12_47_12 (mH_get hA rfl) rfl ?_
        refine T_iload_n dX12_isFree_45 rfl ?_
        refine T_ialdN dX12_isFree_46 (mH_get hA rfl) (by omega) (by decide) ?_
        refine T_top (show u.2 22 g = nI (st g) from hsh.1) ?_
        refine T_iload_n dX12_isFree_47 rfl ?_
        refine T_v2e (cu2 := 0) (su2 := 0) dX12_isFree_48 lv_X12_176 rfl (mH_get hA rfl) rfl (c_X12_goHour (n := L_n L) hA _ _ hM.2.2.1 h3 hM.1 h4) (nb rfl) (nb rfl) (nb rfl) (nb rfl) (nb rfl) ?_
        generalize hP2 : mHour _ _ _ _ _ _ _ _ _ = P2
        have hh2 : PR L P2 (posN L (wz z) st (g + 1)) := by rw [← hP2]; exact hhr
        refine T_h (h2 := mH A (mP u P2) B) rfl ?_
        refine T_iincN dX12_isFree_51 rfl (by decide) rfl ?_
        refine T_goto (tgt := 8) dX12_isFree_54 (by decide) ?_
        refine T_pick [0, 1, 2] (ih (g + 1) (by omega) (fun k hk => ?_) P2 hh2)
        by_cases e : k = g
        · subst e
          rw [show (0 : Int32) = nI 0 from rfl, nI_leI (by omega) (by omega)] at c35
          omega
        · exact hf k (by omega)
      · refine T_iconst (v := 0) dX12_isFree_38 (by decide) ?_
        refine T_zret dX12_isFree_39 rfl rfl (nb rfl) (nb rfl) ?_
        refine ⟨⟨0, rfl, Or.inr ⟨rfl, fun q => ?_⟩⟩, P, rfl⟩
        have e := q g (by omega)
        rw [e] at c35
        exact absurd (by decide) c35
theorem c_X12_isFree (hA : A.length = 67) (hM : MR u L) (hL : LOk L) {z : Nat} (hz : z < 2 ^ 31) (hnn : nn ≤ L_h L) (hpl : u.1 21 = nI nn) (hst : ∀ k, k < nn → u.2 22 k = nI (st k) ∧ st k ≤ allN L) : Con M_X12_isFree [.ref 67, .int (nI z)] (mH A u B) (fun a h' => (∃ v, a = some (.int v) ∧ yn (FreeN L z st nn) v) ∧ ∃ P, h' = mH A (mP u P) B) := by
  have h3 := hL.2.2.1
  have hb := beg_N (u := u) hM hL (u.2 20)
  refine Con.of rfl (nb rfl) ?_
  refine T_aload_n dX12_isFree_0 rfl ?_
  refine T_iconst (v := 0) dX12_isFree_1 (by decide) ?_
  refine T_v1e (cu2 := 0) (su2 := 0) dX12_isFree_2 lv_X12_159 rfl (mH_get hA rfl) rfl (c_X12_begins0 (n := L_n L) hA hM.2.2.1 h3) (nb rfl) (nb rfl) (nb rfl) (nb rfl) (nb rfl) ?_
  generalize mBeg (u.2 20) (u.2 11) (u.1 5) (L_n L) = P at hb ⊢
  refine T_pop dX12_isFree_5 rfl ?_
  refine T_iconst (v := 0) dX12_isFree_6 (by decide) ?_
  refine T_istore_n dX12_isFree_7 (by decide) rfl ?_
  exact lp_X12_isFree (B := B) hA hM hL hz hnn hpl hst nn 0 (by omega) (fun q e => absurd e (by omega)) P hb
end M21
