/-! the reference: readings, winds, kinds, speeds -/
section M18
variable {A B : XH} {u : MSt} {h : XH} {Z : XZ} {L : LK} {wn st : Nat → Nat} {nr nn : Nat} {rb rh rc : Nat → Nat}
theorem lp_X12_areSo_77 {P : Nat → Int32} (hno : ¬ SoN L wn st nn nr rb rh rc) : T M_X12_areSo x_E (x_Z M_X12_areSo (fun a h' => (∃ v, a = some (.int v) ∧ yn (SoN L wn st nn nr rb rh rc) v) ∧ ∃ P, h' = mH A (mP u P) B)) 0 0 77 [] [] (mH A (mP u P) B) := by
  refine T_iconst (v := 0) dX12_areSo_77 (by decide) ?_
  refine T_zret dX12_areSo_78 rfl rfl (nb rfl) (nb rfl) ?_
  exact ⟨⟨0, rfl, Or.inr ⟨rfl, hno⟩⟩, P, rfl⟩
theorem lp_X12_areSo_85 {g : Nat} {x : Int32} {hh : XH} (K : T M_X12_areSo x_E Z 0 0 10 [(0, .ref 67), (1, .int x), (2, .int (nI (g + 1)))] [] hh) : T M_X12_areSo x_E Z 0 0 85 [(0, .ref 67), (1, .int x), (2, .int (nI g))] [] hh := by
  refine T_iincN dX12_areSo_85 rfl (by decide) rfl ?_
  refine T_goto (tgt := 10) dX12_areSo_88 (by decide) ?_
  exact K
theorem lp_X12_areSo (hA : A.length = 67) (hM : MR u L) (hL : LOk L) (hW : MW u L wn) (hR : RdR u L nr rb rh rc) (hnn : nn ≤ L_h L) (hpl : u.1 21 = nI nn) (hst : ∀ k, k < nn → u.2 22 k = nI (st k) ∧ st k ≤ allN L) :
    ∀ r g, g + r = nn → (∀ q, q < nr → rh q < g → posN L wn st (rh q + 1) (rb q) = rc q) → ∀ P, PR L P (posN L wn st g) →
    T M_X12_areSo x_E (x_Z M_X12_areSo (fun a h' => (∃ v, a = some (.int v) ∧ yn (SoN L wn st nn nr rb rh rc) v) ∧ ∃ P, h' = mH A (mP u P) B)) 0 0 10 [(0, .ref 67), (1, .int (nI (below rh g nr))), (2, .int (nI g))] [] (mH A (mP u P) B) := by
  have h3 := hL.2.2.1
  have h4 := hL.1
  have h10 := hL.2.1
  have h8 := allN_lt hL
  intro r
  induction r with
  | zero =>
    intro g hg hso P hP
    obtain rfl : g = nn := by omega
    have hbl := below_le rh g nr
    have hb := below_all rh g nr
    obtain ⟨r1, r2, r3⟩ := hR
    refine T_iload_n dX12_areSo_10 rfl ?_
    refine T_aload_n dX12_areSo_11 rfl ?_
    refine T_get dX12_areSo_12 fl_X12_156_12 (mH_get hA rfl) rfl ?_
    refine T_top hpl ?_
    refine T_icmp_geN (tgt := 91) dX12_areSo_15 (by decide) (by omega) (by omega) (fun c15 => ?_) (fun c15 => ?_)
    · refine T_iload_n dX12_areSo_91 rfl ?_
      refine T_aload_n dX12_areSo_92 rfl ?_
      refine T_get dX12_areSo_93 fl_X12_117_12 (mH_get hA rfl) rfl ?_
      refine T_top r1 ?_
      refine T_icmp_neN (tgt := 103) dX12_areSo_96 (by decide) (by omega) (by omega) (fun c96 => ?_) (fun c96 => ?_)
      · refine T_iconst (v := 0) dX12_areSo_103 (by decide) ?_
        refine T_zret dX12_areSo_104 rfl rfl (nb rfl) (nb rfl) ?_
        first
          | exact ⟨⟨1, rfl, Or.inl ⟨rfl, fun q hq => ⟨hb.mp c96 q hq, hso q hq (hb.mp c96 q hq)⟩⟩⟩, P, rfl⟩
          | exact ⟨⟨0, rfl, Or.inr ⟨rfl, fun s => c96 (hb.mpr fun q hq => (s q hq).1)⟩⟩, P, rfl⟩
      · refine T_iconst (v := 1) dX12_areSo_99 (by decide) ?_
        refine T_goto (tgt := 104) dX12_areSo_100 (by decide) ?_
        refine T_zret dX12_areSo_104 rfl rfl (nb rfl) (nb rfl) ?_
        first
          | exact ⟨⟨1, rfl, Or.inl ⟨rfl, fun q hq => ⟨hb.mp c96 q hq, hso q hq (hb.mp c96 q hq)⟩⟩⟩, P, rfl⟩
          | exact ⟨⟨0, rfl, Or.inr ⟨rfl, fun s => c96 (hb.mpr fun q hq => (s q hq).1)⟩⟩, P, rfl⟩
    · omega
  | succ r ih =>
    intro g hg hso P hP
    have hwh := hW g (by omega)
    have hsh := hst g (by omega)
    have hhr := hour_N (u := mP u P) (P := P) (s := st g) (w := wn g) hM hL (by omega) hwh.2 hP
    have hbl := below_le rh g nr
    have hr8 := hR.2.1
    refine T_iload_n dX12_areSo_10 rfl ?_
    refine T_aload_n dX12_areSo_11 rfl ?_
    refine T_get dX12_areSo_12 fl_X12_156_12 (mH_get hA rfl) rfl ?_
    refine T_top hpl ?_
    refine T_icmp_geN (tgt := 91) dX12_areSo_15 (by decide) (by omega) (by omega) (fun c15 => ?_) (fun c15 => ?_)
    · omega
    · refine T_aload_n dX12_areSo_18 rfl ?_
      refine T_aload_n dX12_areSo_19 rfl ?_
      refine T_get dX12_areSo_20 fl_X12_47_12 (mH_get hA rfl) rfl ?_
      refine T_iload_n dX12_areSo_23 rfl ?_
      refine T_ialdN dX12_areSo_24 (mH_get hA rfl) (by omega) (by decide) ?_
      refine T_top (show u.2 22 g = nI (st g) from hsh.1) ?_
      refine T_aload_n dX12_areSo_25 rfl ?_
      refine T_get dX12_areSo_26 fl_X12_23_12 (mH_get hA rfl) rfl ?_
      refine T_iload_n dX12_areSo_29 rfl ?_
      refine T_ialdN dX12_areSo_30 (mH_get hA rfl) (by omega) (by decide) ?_
      refine T_top (show u.2 9 g = nI (wn g) from hwh.1) ?_
      refine T_v2e (cu2 := 0) (su2 := 0) dX12_areSo_31 lv_X12_176 rfl (mH_get hA rfl) rfl (c_X12_goHour (n := L_n L) hA _ _ hM.2.2.1 h3 hM.1 h4) (nb rfl) (nb rfl) (nb rfl) (nb rfl) (nb rfl) ?_
      generalize hP2 : mHour _ _ _ _ _ _ _ _ _ = P2
      have hh2 : PR L P2 (posN L wn st (g + 1)) := by rw [← hP2]; exact hhr
      refine T_h (h2 := mH A (mP u P2) B) rfl ?_
      refine T_iconst (v := 0) dX12_areSo_34 (by decide) ?_
      refine T_istore_n dX12_areSo_35 (by decide) rfl ?_
      refine lp_X12_areSo_in hA hL hR (show g < 10 by omega) (show below rh g nr ≤ 8 by omega) hh2 (fun q hq e1 e2 => ?_) (fun hall => ?_) nr 0 (by omega) (fun q' h' => absurd h' (by omega))
      · exact lp_X12_areSo_77 (fun s => e2 (by have := (s q hq).2; rw [e1] at this; exact this))
      · refine lp_X12_areSo_85 ?_
        have k := ih (g + 1) (by omega) (fun q hq e => ?_) P2 hh2
        · rw [below_step] at k; exact k
        · by_cases e3 : rh q = g
          · rw [e3]; exact hall q hq e3
          · exact hso q hq (by omega)
theorem c_X12_areSo (hA : A.length = 67) (hM : MR u L) (hL : LOk L) (hW : MW u L wn) (hR : RdR u L nr rb rh rc) (hnn : nn ≤ L_h L) (hpl : u.1 21 = nI nn) (hst : ∀ k, k < nn → u.2 22 k = nI (st k) ∧ st k ≤ allN L) : Con M_X12_areSo [.ref 67] (mH A u B) (fun a h' => (∃ v, a = some (.int v) ∧ yn (SoN L wn st nn nr rb rh rc) v) ∧ ∃ P, h' = mH A (mP u P) B) := by
  have h3 := hL.2.2.1
  have hb := beg_N (u := u) hM hL (u.2 20)
  refine Con.of rfl (nb rfl) ?_
  refine T_iconst (v := 0) dX12_areSo_0 (by decide) ?_
  refine T_istore_n dX12_areSo_1 (by decide) rfl ?_
  refine T_aload_n dX12_areSo_2 rfl ?_
  refine T_iconst (v := 0) dX12_areSo_3 (by decide) ?_
  refine T_v1e (cu2 := 0) (su2 := 0) dX12_areSo_4 lv_X12_159 rfl (mH_get hA rfl) rfl (c_X12_begins0 (n := L_n L) hA hM.2.2.1 h3) (nb rfl) (nb rfl) (nb rfl) (nb rfl) (nb rfl) ?_
  generalize mBeg (u.2 20) (u.2 11) (u.1 5) (L_n L) = P at hb ⊢
  refine T_pop dX12_areSo_7 rfl ?_
  refine T_iconst (v := 0) dX12_areSo_8 (by decide) ?_
  refine T_istore_n dX12_areSo_9 (by decide) rfl ?_
  have k := lp_X12_areSo (B := B) hA hM hL hW hR hnn hpl hst nn 0 (by omega) (fun q _ e => absurd e (by omega)) P hb
  rw [below_0] at k
  exact k
end M18
