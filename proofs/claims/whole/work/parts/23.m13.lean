/-! the reference: plans -/
section M14
variable {A B : XH} {u : MSt} {h : XH} {Z : XZ} {L : LK} {wn st : Nat → Nat}
/-- all but what the reference works with -/
def SameE (u u' : MSt) : Prop := ∀ j, ¬ (13 ≤ j ∧ j ≤ 27) → u'.1 j = u.1 j ∧ u'.2 j = u.2 j
theorem SameE.rf : SameE u u := fun _ _ => ⟨rfl, rfl⟩
theorem SameE.trans {u2 u3 : MSt} (h1 : SameE u u2) (h2 : SameE u2 u3) : SameE u u3 := fun j hj => ⟨(h2 j hj).1.trans (h1 j hj).1, (h2 j hj).2.trans (h1 j hj).2⟩
theorem SameE.MR {u2 : MSt} (h : SameE u u2) (hM : MR u L) : MR u2 L := by
  obtain ⟨a, b, c, d, e⟩ := hM
  refine ⟨(h 5 (by omega)).1.trans a, (h 6 (by omega)).1.trans b, (h 7 (by omega)).1.trans c, fun i hi => ?_, fun q hq => ?_⟩
  · rw [(h 11 (by omega)).2, (h 10 (by omega)).2, (h 12 (by omega)).2]; exact d i hi
  · rw [(h 8 (by omega)).2]; exact e q hq
theorem SameE.MW {u2 : MSt} (h : SameE u u2) (hW : MW u L wn) : MW u2 L wn := fun g hg => by rw [(h 9 (by omega)).2]; exact hW g hg
theorem SameE.mm (P cb th : Nat → Int32) : SameE u (mm u P cb th) := fun j hj => by
  refine ⟨rfl, ?_⟩
  show va_up (va_up (va_up u.2 20 P) 26 cb) 27 th j = u.2 j
  unfold va_up
  rw [if_neg (by omega), if_neg (by omega), if_neg (by omega)]
def posN (L : LK) (wn st : Nat → Nat) : Nat → Nat → Nat
  | 0 => start L
  | h + 1 => fun i => aft L (wn h) ((st h).testBit i) i (posN L wn st h i)
def fsum (L : LK) (wn st : Nat → Nat) : Nat → Nat
  | 0 => 0
  | h + 1 => fsum L wn st h + finN L (st h) (wn h) (posN L wn st h)
/-- the first number below m of which p holds, or -9 -/
def Fst (p : Nat → Prop) (m : Nat) (v : Int32) : Prop := (∃ h, h < m ∧ p h ∧ (∀ g, g < h → ¬ p g) ∧ v = nI h) ∨ ((∀ g, g < m → ¬ p g) ∧ v = -9)
theorem Fst.keep {p : Nat → Prop} {m : Nat} {v : Int32} (hm : m < 2 ^ 31) (h : Fst p m v) (hv : ¬ v = -9) : Fst p (m + 1) v := by
  rcases h with ⟨g, a, b, c, d⟩ | ⟨-, b⟩
  · exact Or.inl ⟨g, by omega, b, c, d⟩
  · exact absurd b hv
theorem Fst.no {p : Nat → Prop} {m : Nat} {v : Int32} (h : Fst p m v) (hp : ¬ p m) : Fst p (m + 1) v := by
  rcases h with ⟨g, a, b, c, d⟩ | ⟨a, b⟩
  · exact Or.inl ⟨g, by omega, b, c, d⟩
  · refine Or.inr ⟨fun g hg => ?_, b⟩
    by_cases e : g = m
    · subst e; exact hp
    · exact a g (by omega)
theorem Fst.yes {p : Nat → Prop} {m : Nat} {v : Int32} (hm : m < 2 ^ 31) (h : Fst p m v) (hv : v = -9) (hp : p m) : Fst p (m + 1) (nI m) := by
  rcases h with ⟨g, a, b, c, d⟩ | ⟨a, b⟩
  · exact absurd (d.symm.trans hv) (nI_m9 (by omega))
  · exact Or.inl ⟨m, by omega, hp, a, rfl⟩
abbrev finP (L : LK) (wn st : Nat → Nat) (h : Nat) : Prop := ¬ finN L (st h) (wn h) (posN L wn st h) = 0
abbrev ovrP (L : LK) (wn st : Nat → Nat) (h : Nat) : Prop := ovrN L (posN L wn st (h + 1)) (L_n L) = allN L
/-- the state of goPlan: places, fines, the first that is fined, the first when all are over -/
abbrev mG (u : MSt) (P : Nat → Int32) (a b c : Int32) : MSt := (va_up (va_up (va_up u.1 23 a) 24 b) 25 c, va_up u.2 20 P)
theorem finN_le (hL : LOk L) (s w : Nat) (p : Nat → Nat) : finN L s w p ≤ 3 := by
  have := cntN_le L s w p (L_n L)
  have := hL.2.2.1
  unfold finN
  split <;> omega
theorem lp_X12_goPlan (hA : A.length = 67) (hM : MR u L) (hL : LOk L) (hW : MW u L wn) {nn : Nat} (hnn : nn ≤ L_h L) (hpl : u.1 21 = nI nn) (hst : ∀ k, k < nn → u.2 22 k = nI (st k) ∧ st k ≤ allN L) :
    ∀ r h, h + r = nn → ∀ (P : Nat → Int32) (a b c : Int32), PR L P (posN L wn st h) → a = nI (fsum L wn st h) → Fst (finP L wn st) h b → Fst (ovrP L wn st) h c →
    T M_X12_goPlan x_E (x_Z M_X12_goPlan (fun q h' => q = none ∧ ∃ P a b c, h' = mH A (mG u P a b c) B ∧ PR L P (posN L wn st nn) ∧ a = nI (fsum L wn st nn) ∧ Fst (finP L wn st) nn b ∧ Fst (ovrP L wn st) nn c)) 0 0 25 [(0, .ref 67), (1, .int (nI h))] [] (mH A (mG u P a b c) B) := by
  have h3 := hL.2.2.1
  have h4 := hL.1
  have h10 := hL.2.1
  have h8 := allN_lt hL
  intro r
  induction r with
  | zero =>
    intro h hh P a b c hP ha hb hc
    obtain rfl : h = nn := by omega
    refine T_iload_n dX12_goPlan_25 rfl ?_
    refine T_aload_n dX12_goPlan_26 rfl ?_
    refine T_get dX12_goPlan_27 fl_X12_156_12 (mH_get hA rfl) rfl ?_
    refine T_top hpl ?_
    refine T_icmp_geN (tgt := 139) dX12_goPlan_30 (by decide) (by omega) (by omega) (fun c30 => ?_) (fun c30 => ?_)
    · refine T_vret dX12_goPlan_139 rfl (nb rfl) (nb rfl) ?_
      exact ⟨rfl, P, a, b, c, rfl, hP, ha, hb, hc⟩
    · omega
  | succ r ih =>
    intro h hh P a b c hP ha hb hc
    have hwh := hW h (by omega)
    have hsh := hst h (by omega)
    have hfd := fin_N (u := mG u P a b c) (P := P) (s := st h) (w := wn h) hM hL hP (by omega) hwh.2
    have hfl := finN_le hL (st h) (wn h) (posN L wn st h)
    have hhr := hour_N (u := mG u P a b c) (P := P) (s := st h) (w := wn h) hM hL (by omega) hwh.2 hP
    have eall := eall_N hM hL
    have e0 : (0 : Int32) < nI (finN L (st h) (wn h) (posN L wn st h)) ↔ finP L wn st h := by
      rw [show (0 : Int32) = nI 0 from rfl, nI_ltI (by omega) (by omega)]
      unfold finP
      omega
    have hov : ∀ P2, PR L P2 (posN L wn st (h + 1)) → mOvr P2 (u.2 11) (u.1 5) (L_n L) = nI (ovrN L (posN L wn st (h + 1)) (L_n L)) := fun P2 q => ovr_N (u := u) hM hL q _ (Nat.le_refl _)
    have hol := Nat.lt_of_lt_of_le (ovrN_lt L (posN L wn st (h + 1)) (L_n L)) (Nat.pow_le_pow_right (n := 2) (by decide) h3)
    have K : ∀ P2 b2 c2, PR L P2 (posN L wn st (h + 1)) → Fst (finP L wn st) (h + 1) b2 → Fst (ovrP L wn st) (h + 1) c2 → T M_X12_goPlan x_E (x_Z M_X12_goPlan (fun q h' => q = none ∧ ∃ P a b c, h' = mH A (mG u P a b c) B ∧ PR L P (posN L wn st nn) ∧ a = nI (fsum L wn st nn) ∧ Fst (finP L wn st) nn b ∧ Fst (ovrP L wn st) nn c)) 0 0 25 [(0, .ref 67), (1, .int (nI (h + 1)))] [] (mH A (mG u P2 (a + nI (finN L (st h) (wn h) (posN L wn st h))) b2 c2) B) := fun P2 b2 c2 q1 q2 q3 => ih (h + 1) (by omega) P2 _ b2 c2 q1 (by rw [ha, nI_add]; rfl) q2 q3
    refine T_iload_n dX12_goPlan_25 rfl ?_
    refine T_aload_n dX12_goPlan_26 rfl ?_
    refine T_get dX12_goPlan_27 fl_X12_156_12 (mH_get hA rfl) rfl ?_
    refine T_top hpl ?_
    refine T_icmp_geN (tgt := 139) dX12_goPlan_30 (by decide) (by omega) (by omega) (fun c30 => ?_) (fun c30 => ?_)
    · omega
    · refine T_aload_n dX12_goPlan_33 rfl ?_
      refine T_aload_n dX12_goPlan_34 rfl ?_
      refine T_get dX12_goPlan_35 fl_X12_47_12 (mH_get hA rfl) rfl ?_
      refine T_iload_n dX12_goPlan_38 rfl ?_
      refine T_ialdN dX12_goPlan_39 (mH_get hA rfl) (by omega) (by decide) ?_
      refine T_top (show (mG u P a b c).2 22 h = nI (st h) from hsh.1) ?_
      refine T_aload_n dX12_goPlan_40 rfl ?_
      refine T_get dX12_goPlan_41 fl_X12_23_12 (mH_get hA rfl) rfl ?_
      refine T_iload_n dX12_goPlan_44 rfl ?_
      refine T_ialdN dX12_goPlan_45 (mH_get hA rfl) (by omega) (by decide) ?_
      refine T_top (show (mG u P a b c).2 9 h = nI (wn h) from hwh.1) ?_
      refine T_v2e (cu2 := 0) (su2 := 0) dX12_goPlan_46 lv_X12_172 rfl (mH_get hA rfl) rfl (c_X12_finedBy (n := L_n L) hA _ _ hM.2.2.1 h3) (nb rfl) (nb rfl) (nb rfl) (nb rfl) (nb rfl) ?_
      refine T_top hfd ?_
      refine T_istore_n dX12_goPlan_49 (by decide) rfl ?_
      refine T_aload_n dX12_goPlan_50 rfl ?_
      refine T_dup dX12_goPlan_51 rfl ?_
      refine T_get dX12_goPlan_52 fl_X12_163_12 (mH_get hA rfl) rfl ?_
      refine T_iload_n dX12_goPlan_55 rfl ?_
      refine T_iadd dX12_goPlan_56 ?_
      refine T_put dX12_goPlan_57 fp_X12_163_12 (mH_get hA rfl) (nb rfl) (fun _ => ⟨rfl, rfl⟩) ?_
      refine T_h (h2 := mH A (mG u P (a + nI (finN L (st h) (wn h) (posN L wn st h))) b c) B) (mH_set (k := 0) hA (nb rfl) rfl) ?_
      refine T_aload_n dX12_goPlan_60 rfl ?_
      refine T_aload_n dX12_goPlan_61 rfl ?_
      refine T_get dX12_goPlan_62 fl_X12_166_12 (mH_get hA rfl) rfl ?_
      refine T_bipush (v := (-9)) dX12_goPlan_65 (by decide) ?_
      refine T_icmp_ne (tgt := 78) dX12_goPlan_67 (by decide) (fun c67 => ?_) (fun c67 => ?_)
      · refine T_aload_n dX12_goPlan_78 rfl ?_
        refine T_get dX12_goPlan_79 fl_X12_166_12 (mH_get hA rfl) rfl ?_
        refine T_put dX12_goPlan_82 fp_X12_166_12 (mH_get hA rfl) (nb rfl) (fun _ => ⟨rfl, rfl⟩) ?_
        first
          | refine T_h (h2 := mH A (mG u P (a + nI (finN L (st h) (wn h) (posN L wn st h))) (nI h) c) B) (mH_set (k := 0) hA (nb rfl) rfl) ?_
          | refine T_h (h2 := mH A (mG u P (a + nI (finN L (st h) (wn h) (posN L wn st h))) b c) B) (mH_set (k := 0) hA (nb rfl) rfl) ?_
        refine T_aload_n dX12_goPlan_85 rfl ?_
        refine T_aload_n dX12_goPlan_86 rfl ?_
        refine T_get dX12_goPlan_87 fl_X12_47_12 (mH_get hA rfl) rfl ?_
        refine T_iload_n dX12_goPlan_90 rfl ?_
        refine T_ialdN dX12_goPlan_91 (mH_get hA rfl) (by omega) (by decide) ?_
        refine T_top (show u.2 22 h = nI (st h) from hsh.1) ?_
        refine T_aload_n dX12_goPlan_92 rfl ?_
        refine T_get dX12_goPlan_93 fl_X12_23_12 (mH_get hA rfl) rfl ?_
        refine T_iload_n dX12_goPlan_96 rfl ?_
        refine T_ialdN dX12_goPlan_97 (mH_get hA rfl) (by omega) (by decide) ?_
        refine T_top (show u.2 9 h = nI (wn h) from hwh.1) ?_
        refine T_v2e (cu2 := 0) (su2 := 0) dX12_goPlan_98 lv_X12_176 rfl (mH_get hA rfl) rfl (c_X12_goHour (n := L_n L) hA _ _ hM.2.2.1 h3 hM.1 h4) (nb rfl) (nb rfl) (nb rfl) (nb rfl) (nb rfl) ?_
        generalize hP2 : mHour _ _ _ _ _ _ _ _ _ = P2
        have hh2 : PR L P2 (posN L wn st (h + 1)) := by rw [← hP2]; exact hhr
        first
          | refine T_h (h2 := mH A (mG u P2 (a + nI (finN L (st h) (wn h) (posN L wn st h))) (nI h) c) B) rfl ?_
          | refine T_h (h2 := mH A (mG u P2 (a + nI (finN L (st h) (wn h) (posN L wn st h))) b c) B) rfl ?_
        refine T_aload_n dX12_goPlan_101 rfl ?_
        refine T_aload_n dX12_goPlan_102 rfl ?_
        refine T_get dX12_goPlan_103 fl_X12_169_12 (mH_get hA rfl) rfl ?_
        refine T_bipush (v := (-9)) dX12_goPlan_106 (by decide) ?_
        refine T_icmp_ne (tgt := 126) dX12_goPlan_108 (by decide) (fun c108 => ?_) (fun c108 => ?_)
        · refine T_aload_n dX12_goPlan_126 rfl ?_
          refine T_get dX12_goPlan_127 fl_X12_169_12 (mH_get hA rfl) rfl ?_
          refine T_put dX12_goPlan_130 fp_X12_169_12 (mH_get hA rfl) (nb rfl) (fun _ => ⟨rfl, rfl⟩) ?_
          first
            | refine T_h (h2 := mH A (mG u P2 (a + nI (finN L (st h) (wn h) (posN L wn st h))) (nI h) (nI h)) B) (mH_set (k := 0) hA (nb rfl) rfl) ?_
            | refine T_h (h2 := mH A (mG u P2 (a + nI (finN L (st h) (wn h) (posN L wn st h))) (nI h) c) B) (mH_set (k := 0) hA (nb rfl) rfl) ?_
            | refine T_h (h2 := mH A (mG u P2 (a + nI (finN L (st h) (wn h) (posN L wn st h))) b (nI h)) B) (mH_set (k := 0) hA (nb rfl) rfl) ?_
            | refine T_h (h2 := mH A (mG u P2 (a + nI (finN L (st h) (wn h) (posN L wn st h))) b c) B) (mH_set (k := 0) hA (nb rfl) rfl) ?_
          refine T_iincN dX12_goPlan_133 rfl (by decide) rfl ?_
          refine T_goto (tgt := 25) dX12_goPlan_136 (by decide) ?_
          refine T_pick [0, 1] (K P2 _ _ hh2 ?_ ?_)
          · first | exact hb.keep (by omega) c67 | exact hb.no (fun q => absurd (e0.mpr q) (Int32.not_lt.mpr c71)) | exact hb.yes (by omega) c67 (e0.mp (Int32.not_le.mp c71))
          · first | exact hc.keep (by omega) c108 | exact hc.no c119 | exact hc.yes (by omega) c108 c119
        · refine T_aload_n dX12_goPlan_111 rfl ?_
          refine T_v0e (cu2 := 0) (su2 := 0) dX12_goPlan_112 lv_X12_180 rfl (mH_get hA rfl) rfl (c_X12_over (n := L_n L) hA hM.2.2.1 h3) (nb rfl) (nb rfl) (nb rfl) (nb rfl) (nb rfl) ?_
          refine T_top (hov P2 hh2) ?_
          refine T_aload_n dX12_goPlan_115 rfl ?_
          refine T_v0e (cu2 := 0) (su2 := 0) dX12_goPlan_116 lv_X12_153 rfl (mH_get hA rfl) rfl (c_X12_all hA) (nb rfl) (nb rfl) (nb rfl) (nb rfl) (nb rfl) ?_
          refine T_top eall ?_
          refine T_icmp_neN (tgt := 126) dX12_goPlan_119 (by decide) (by omega) (by omega) (fun c119 => ?_) (fun c119 => ?_)
          · refine T_aload_n dX12_goPlan_126 rfl ?_
            refine T_get dX12_goPlan_127 fl_X12_169_12 (mH_get hA rfl) rfl ?_
            refine T_put dX12_goPlan_130 fp_X12_169_12 (mH_get hA rfl) (nb rfl) (fun _ => ⟨rfl, rfl⟩) ?_
            first
              | refine T_h (h2 := mH A (mG u P2 (a + nI (finN L (st h) (wn h) (posN L wn st h))) (nI h) (nI h)) B) (mH_set (k := 0) hA (nb rfl) rfl) ?_
              | refine T_h (h2 := mH A (mG u P2 (a + nI (finN L (st h) (wn h) (posN L wn st h))) (nI h) c) B) (mH_set (k := 0) hA (nb rfl) rfl) ?_
              | refine T_h (h2 := mH A (mG u P2 (a + nI (finN L (st h) (wn h) (posN L wn st h))) b (nI h)) B) (mH_set (k := 0) hA (nb rfl) rfl) ?_
              | refine T_h (h2 := mH A (mG u P2 (a + nI (finN L (st h) (wn h) (posN L wn st h))) b c) B) (mH_set (k := 0) hA (nb rfl) rfl) ?_
            refine T_iincN dX12_goPlan_133 rfl (by decide) rfl ?_
            refine T_goto (tgt := 25) dX12_goPlan_136 (by decide) ?_
            refine T_pick [0, 1] (K P2 _ _ hh2 ?_ ?_)
            · first | exact hb.keep (by omega) c67 | exact hb.no (fun q => absurd (e0.mpr q) (Int32.not_lt.mpr c71)) | exact hb.yes (by omega) c67 (e0.mp (Int32.not_le.mp c71))
            · first | exact hc.keep (by omega) c108 | exact hc.no c119 | exact hc.yes (by omega) c108 c119
          · refine T_iload_n dX12_goPlan_122 rfl ?_
            refine T_goto (tgt := 130) dX12_goPlan_123 (by decide) ?_
            refine T_put dX12_goPlan_130 fp_X12_169_12 (mH_get hA rfl) (nb rfl) (fun _ => ⟨rfl, rfl⟩) ?_
            first
              | refine T_h (h2 := mH A (mG u P2 (a + nI (finN L (st h) (wn h) (posN L wn st h))) (nI h) (nI h)) B) (mH_set (k := 0) hA (nb rfl) rfl) ?_
              | refine T_h (h2 := mH A (mG u P2 (a + nI (finN L (st h) (wn h) (posN L wn st h))) (nI h) c) B) (mH_set (k := 0) hA (nb rfl) rfl) ?_
              | refine T_h (h2 := mH A (mG u P2 (a + nI (finN L (st h) (wn h) (posN L wn st h))) b (nI h)) B) (mH_set (k := 0) hA (nb rfl) rfl) ?_
              | refine T_h (h2 := mH A (mG u P2 (a + nI (finN L (st h) (wn h) (posN L wn st h))) b c) B) (mH_set (k := 0) hA (nb rfl) rfl) ?_
            refine T_iincN dX12_goPlan_133 rfl (by decide) rfl ?_
            refine T_goto (tgt := 25) dX12_goPlan_136 (by decide) ?_
            refine T_pick [0, 1] (K P2 _ _ hh2 ?_ ?_)
            · first | exact hb.keep (by omega) c67 | exact hb.no (fun q => absurd (e0.mpr q) (Int32.not_lt.mpr c71)) | exact hb.yes (by omega) c67 (e0.mp (Int32.not_le.mp c71))
            · first | exact hc.keep (by omega) c108 | exact hc.no c119 | exact hc.yes (by omega) c108 c119
      · refine T_iload_n dX12_goPlan_70 rfl ?_
        refine T_if_le (tgt := 78) dX12_goPlan_71 (by decide) (fun c71 => ?_) (fun c71 => ?_)
        · refine T_aload_n dX12_goPlan_78 rfl ?_
          refine T_get dX12_goPlan_79 fl_X12_166_12 (mH_get hA rfl) rfl ?_
          refine T_put dX12_goPlan_82 fp_X12_166_12 (mH_get hA rfl) (nb rfl) (fun _ => ⟨rfl, rfl⟩) ?_
          first
            | refine T_h (h2 := mH A (mG u P (a + nI (finN L (st h) (wn h) (posN L wn st h))) (nI h) c) B) (mH_set (k := 0) hA (nb rfl) rfl) ?_
            | refine T_h (h2 := mH A (mG u P (a + nI (finN L (st h) (wn h) (posN L wn st h))) b c) B) (mH_set (k := 0) hA (nb rfl) rfl) ?_
          refine T_aload_n dX12_goPlan_85 rfl ?_
          refine T_aload_n dX12_goPlan_86 rfl ?_
          refine T_get dX12_goPlan_87 fl_X12_47_12 (mH_get hA rfl) rfl ?_
          refine T_iload_n dX12_goPlan_90 rfl ?_
          refine T_ialdN dX12_goPlan_91 (mH_get hA rfl) (by omega) (by decide) ?_
          refine T_top (show u.2 22 h = nI (st h) from hsh.1) ?_
          refine T_aload_n dX12_goPlan_92 rfl ?_
          refine T_get dX12_goPlan_93 fl_X12_23_12 (mH_get hA rfl) rfl ?_
          refine T_iload_n dX12_goPlan_96 rfl ?_
          refine T_ialdN dX12_goPlan_97 (mH_get hA rfl) (by omega) (by decide) ?_
          refine T_top (show u.2 9 h = nI (wn h) from hwh.1) ?_
          refine T_v2e (cu2 := 0) (su2 := 0) dX12_goPlan_98 lv_X12_176 rfl (mH_get hA rfl) rfl (c_X12_goHour (n := L_n L) hA _ _ hM.2.2.1 h3 hM.1 h4) (nb rfl) (nb rfl) (nb rfl) (nb rfl) (nb rfl) ?_
          generalize hP2 : mHour _ _ _ _ _ _ _ _ _ = P2
          have hh2 : PR L P2 (posN L wn st (h + 1)) := by rw [← hP2]; exact hhr
          first
            | refine T_h (h2 := mH A (mG u P2 (a + nI (finN L (st h) (wn h) (posN L wn st h))) (nI h) c) B) rfl ?_
            | refine T_h (h2 := mH A (mG u P2 (a + nI (finN L (st h) (wn h) (posN L wn st h))) b c) B) rfl ?_
          refine T_aload_n dX12_goPlan_101 rfl ?_
          refine T_aload_n dX12_goPlan_102 rfl ?_
          refine T_get dX12_goPlan_103 fl_X12_169_12 (mH_get hA rfl) rfl ?_
          refine T_bipush (v := (-9)) dX12_goPlan_106 (by decide) ?_
          refine T_icmp_ne (tgt := 126) dX12_goPlan_108 (by decide) (fun c108 => ?_) (fun c108 => ?_)
          · refine T_aload_n dX12_goPlan_126 rfl ?_
            refine T_get dX12_goPlan_127 fl_X12_169_12 (mH_get hA rfl) rfl ?_
            refine T_put dX12_goPlan_130 fp_X12_169_12 (mH_get hA rfl) (nb rfl) (fun _ => ⟨rfl, rfl⟩) ?_
            first
              | refine T_h (h2 := mH A (mG u P2 (a + nI (finN L (st h) (wn h) (posN L wn st h))) (nI h) (nI h)) B) (mH_set (k := 0) hA (nb rfl) rfl) ?_
              | refine T_h (h2 := mH A (mG u P2 (a + nI (finN L (st h) (wn h) (posN L wn st h))) (nI h) c) B) (mH_set (k := 0) hA (nb rfl) rfl) ?_
              | refine T_h (h2 := mH A (mG u P2 (a + nI (finN L (st h) (wn h) (posN L wn st h))) b (nI h)) B) (mH_set (k := 0) hA (nb rfl) rfl) ?_
              | refine T_h (h2 := mH A (mG u P2 (a + nI (finN L (st h) (wn h) (posN L wn st h))) b c) B) (mH_set (k := 0) hA (nb rfl) rfl) ?_
            refine T_iincN dX12_goPlan_133 rfl (by decide) rfl ?_
            refine T_goto (tgt := 25) dX12_goPlan_136 (by decide) ?_
            refine T_pick [0, 1] (K P2 _ _ hh2 ?_ ?_)
            · first | exact hb.keep (by omega) c67 | exact hb.no (fun q => absurd (e0.mpr q) (Int32.not_lt.mpr c71)) | exact hb.yes (by omega) c67 (e0.mp (Int32.not_le.mp c71))
            · first | exact hc.keep (by omega) c108 | exact hc.no c119 | exact hc.yes (by omega) c108 c119
          · refine T_aload_n dX12_goPlan_111 rfl ?_
            refine T_v0e (cu2 := 0) (su2 := 0) dX12_goPlan_112 lv_X12_180 rfl (mH_get hA rfl) rfl (c_X12_over (n := L_n L) hA hM.2.2.1 h3) (nb rfl) (nb rfl) (nb rfl) (nb rfl) (nb rfl) ?_
            refine T_top (hov P2 hh2) ?_
            refine T_aload_n dX12_goPlan_115 rfl ?_
            refine T_v0e (cu2 := 0) (su2 := 0) dX12_goPlan_116 lv_X12_153 rfl (mH_get hA rfl) rfl (c_X12_all hA) (nb rfl) (nb rfl) (nb rfl) (nb rfl) (nb rfl) ?_
            refine T_top eall ?_
            refine T_icmp_neN (tgt := 126) dX12_goPlan_119 (by decide) (by omega) (by omega) (fun c119 => ?_) (fun c119 => ?_)
            · refine T_aload_n dX12_goPlan_126 rfl ?_
              refine T_get dX12_goPlan_127 fl_X12_169_12 (mH_get hA rfl) rfl ?_
              refine T_put dX12_goPlan_130 fp_X12_169_12 (mH_get hA rfl) (nb rfl) (fun _ => ⟨rfl, rfl⟩) ?_
              first
                | refine T_h (h2 := mH A (mG u P2 (a + nI (finN L (st h) (wn h) (posN L wn st h))) (nI h) (nI h)) B) (mH_set (k := 0) hA (nb rfl) rfl) ?_
                | refine T_h (h2 := mH A (mG u P2 (a + nI (finN L (st h) (wn h) (posN L wn st h))) (nI h) c) B) (mH_set (k := 0) hA (nb rfl) rfl) ?_
                | refine T_h (h2 := mH A (mG u P2 (a + nI (finN L (st h) (wn h) (posN L wn st h))) b (nI h)) B) (mH_set (k := 0) hA (nb rfl) rfl) ?_
                | refine T_h (h2 := mH A (mG u P2 (a + nI (finN L (st h) (wn h) (posN L wn st h))) b c) B) (mH_set (k := 0) hA (nb rfl) rfl) ?_
              refine T_iincN dX12_goPlan_133 rfl (by decide) rfl ?_
              refine T_goto (tgt := 25) dX12_goPlan_136 (by decide) ?_
              refine T_pick [0, 1] (K P2 _ _ hh2 ?_ ?_)
              · first | exact hb.keep (by omega) c67 | exact hb.no (fun q => absurd (e0.mpr q) (Int32.not_lt.mpr c71)) | exact hb.yes (by omega) c67 (e0.mp (Int32.not_le.mp c71))
              · first | exact hc.keep (by omega) c108 | exact hc.no c119 | exact hc.yes (by omega) c108 c119
            · refine T_iload_n dX12_goPlan_122 rfl ?_
              refine T_goto (tgt := 130) dX12_goPlan_123 (by decide) ?_
              refine T_put dX12_goPlan_130 fp_X12_169_12 (mH_get hA rfl) (nb rfl) (fun _ => ⟨rfl, rfl⟩) ?_
              first
                | refine T_h (h2 := mH A (mG u P2 (a + nI (finN L (st h) (wn h) (posN L wn st h))) (nI h) (nI h)) B) (mH_set (k := 0) hA (nb rfl) rfl) ?_
                | refine T_h (h2 := mH A (mG u P2 (a + nI (finN L (st h) (wn h) (posN L wn st h))) (nI h) c) B) (mH_set (k := 0) hA (nb rfl) rfl) ?_
                | refine T_h (h2 := mH A (mG u P2 (a + nI (finN L (st h) (wn h) (posN L wn st h))) b (nI h)) B) (mH_set (k := 0) hA (nb rfl) rfl) ?_
                | refine T_h (h2 := mH A (mG u P2 (a + nI (finN L (st h) (wn h) (posN L wn st h))) b c) B) (mH_set (k := 0) hA (nb rfl) rfl) ?_
              refine T_iincN dX12_goPlan_133 rfl (by decide) rfl ?_
              refine T_goto (tgt := 25) dX12_goPlan_136 (by decide) ?_
              refine T_pick [0, 1] (K P2 _ _ hh2 ?_ ?_)
              · first | exact hb.keep (by omega) c67 | exact hb.no (fun q => absurd (e0.mpr q) (Int32.not_lt.mpr c71)) | exact hb.yes (by omega) c67 (e0.mp (Int32.not_le.mp c71))
              · first | exact hc.keep (by omega) c108 | exact hc.no c119 | exact hc.yes (by omega) c108 c119
        · refine T_iload_n dX12_goPlan_74 rfl ?_
          refine T_goto (tgt := 82) dX12_goPlan_75 (by decide) ?_
          refine T_put dX12_goPlan_82 fp_X12_166_12 (mH_get hA rfl) (nb rfl) (fun _ => ⟨rfl, rfl⟩) ?_
          first
            | refine T_h (h2 := mH A (mG u P (a + nI (finN L (st h) (wn h) (posN L wn st h))) (nI h) c) B) (mH_set (k := 0) hA (nb rfl) rfl) ?_
            | refine T_h (h2 := mH A (mG u P (a + nI (finN L (st h) (wn h) (posN L wn st h))) b c) B) (mH_set (k := 0) hA (nb rfl) rfl) ?_
          refine T_aload_n dX12_goPlan_85 rfl ?_
          refine T_aload_n dX12_goPlan_86 rfl ?_
          refine T_get dX12_goPlan_87 fl_X12_47_12 (mH_get hA rfl) rfl ?_
          refine T_iload_n dX12_goPlan_90 rfl ?_
          refine T_ialdN dX12_goPlan_91 (mH_get hA rfl) (by omega) (by decide) ?_
          refine T_top (show u.2 22 h = nI (st h) from hsh.1) ?_
          refine T_aload_n dX12_goPlan_92 rfl ?_
          refine T_get dX12_goPlan_93 fl_X12_23_12 (mH_get hA rfl) rfl ?_
          refine T_iload_n dX12_goPlan_96 rfl ?_
          refine T_ialdN dX12_goPlan_97 (mH_get hA rfl) (by omega) (by decide) ?_
          refine T_top (show u.2 9 h = nI (wn h) from hwh.1) ?_
          refine T_v2e (cu2 := 0) (su2 := 0) dX12_goPlan_98 lv_X12_176 rfl (mH_get hA rfl) rfl (c_X12_goHour (n := L_n L) hA _ _ hM.2.2.1 h3 hM.1 h4) (nb rfl) (nb rfl) (nb rfl) (nb rfl) (nb rfl) ?_
          generalize hP2 : mHour _ _ _ _ _ _ _ _ _ = P2
          have hh2 : PR L P2 (posN L wn st (h + 1)) := by rw [← hP2]; exact hhr
          first
            | refine T_h (h2 := mH A (mG u P2 (a + nI (finN L (st h) (wn h) (posN L wn st h))) (nI h) c) B) rfl ?_
            | refine T_h (h2 := mH A (mG u P2 (a + nI (finN L (st h) (wn h) (posN L wn st h))) b c) B) rfl ?_
          refine T_aload_n dX12_goPlan_101 rfl ?_
          refine T_aload_n dX12_goPlan_102 rfl ?_
          refine T_get dX12_goPlan_103 fl_X12_169_12 (mH_get hA rfl) rfl ?_
          refine T_bipush (v := (-9)) dX12_goPlan_106 (by decide) ?_
          refine T_icmp_ne (tgt := 126) dX12_goPlan_108 (by decide) (fun c108 => ?_) (fun c108 => ?_)
          · refine T_aload_n dX12_goPlan_126 rfl ?_
            refine T_get dX12_goPlan_127 fl_X12_169_12 (mH_get hA rfl) rfl ?_
            refine T_put dX12_goPlan_130 fp_X12_169_12 (mH_get hA rfl) (nb rfl) (fun _ => ⟨rfl, rfl⟩) ?_
            first
              | refine T_h (h2 := mH A (mG u P2 (a + nI (finN L (st h) (wn h) (posN L wn st h))) (nI h) (nI h)) B) (mH_set (k := 0) hA (nb rfl) rfl) ?_
              | refine T_h (h2 := mH A (mG u P2 (a + nI (finN L (st h) (wn h) (posN L wn st h))) (nI h) c) B) (mH_set (k := 0) hA (nb rfl) rfl) ?_
              | refine T_h (h2 := mH A (mG u P2 (a + nI (finN L (st h) (wn h) (posN L wn st h))) b (nI h)) B) (mH_set (k := 0) hA (nb rfl) rfl) ?_
              | refine T_h (h2 := mH A (mG u P2 (a + nI (finN L (st h) (wn h) (posN L wn st h))) b c) B) (mH_set (k := 0) hA (nb rfl) rfl) ?_
            refine T_iincN dX12_goPlan_133 rfl (by decide) rfl ?_
            refine T_goto (tgt := 25) dX12_goPlan_136 (by decide) ?_
            refine T_pick [0, 1] (K P2 _ _ hh2 ?_ ?_)
            · first | exact hb.keep (by omega) c67 | exact hb.no (fun q => absurd (e0.mpr q) (Int32.not_lt.mpr c71)) | exact hb.yes (by omega) c67 (e0.mp (Int32.not_le.mp c71))
            · first | exact hc.keep (by omega) c108 | exact hc.no c119 | exact hc.yes (by omega) c108 c119
          · refine T_aload_n dX12_goPlan_111 rfl ?_
            refine T_v0e (cu2 := 0) (su2 := 0) dX12_goPlan_112 lv_X12_180 rfl (mH_get hA rfl) rfl (c_X12_over (n := L_n L) hA hM.2.2.1 h3) (nb rfl) (nb rfl) (nb rfl) (nb rfl) (nb rfl) ?_
            refine T_top (hov P2 hh2) ?_
            refine T_aload_n dX12_goPlan_115 rfl ?_
            refine T_v0e (cu2 := 0) (su2 := 0) dX12_goPlan_116 lv_X12_153 rfl (mH_get hA rfl) rfl (c_X12_all hA) (nb rfl) (nb rfl) (nb rfl) (nb rfl) (nb rfl) ?_
            refine T_top eall ?_
            refine T_icmp_neN (tgt := 126) dX12_goPlan_119 (by decide) (by omega) (by omega) (fun c119 => ?_) (fun c119 => ?_)
            · refine T_aload_n dX12_goPlan_126 rfl ?_
              refine T_get dX12_goPlan_127 fl_X12_169_12 (mH_get hA rfl) rfl ?_
              refine T_put dX12_goPlan_130 fp_X12_169_12 (mH_get hA rfl) (nb rfl) (fun _ => ⟨rfl, rfl⟩) ?_
              first
                | refine T_h (h2 := mH A (mG u P2 (a + nI (finN L (st h) (wn h) (posN L wn st h))) (nI h) (nI h)) B) (mH_set (k := 0) hA (nb rfl) rfl) ?_
                | refine T_h (h2 := mH A (mG u P2 (a + nI (finN L (st h) (wn h) (posN L wn st h))) (nI h) c) B) (mH_set (k := 0) hA (nb rfl) rfl) ?_
                | refine T_h (h2 := mH A (mG u P2 (a + nI (finN L (st h) (wn h) (posN L wn st h))) b (nI h)) B) (mH_set (k := 0) hA (nb rfl) rfl) ?_
                | refine T_h (h2 := mH A (mG u P2 (a + nI (finN L (st h) (wn h) (posN L wn st h))) b c) B) (mH_set (k := 0) hA (nb rfl) rfl) ?_
              refine T_iincN dX12_goPlan_133 rfl (by decide) rfl ?_
              refine T_goto (tgt := 25) dX12_goPlan_136 (by decide) ?_
              refine T_pick [0, 1] (K P2 _ _ hh2 ?_ ?_)
              · first | exact hb.keep (by omega) c67 | exact hb.no (fun q => absurd (e0.mpr q) (Int32.not_lt.mpr c71)) | exact hb.yes (by omega) c67 (e0.mp (Int32.not_le.mp c71))
              · first | exact hc.keep (by omega) c108 | exact hc.no c119 | exact hc.yes (by omega) c108 c119
            · refine T_iload_n dX12_goPlan_122 rfl ?_
              refine T_goto (tgt := 130) dX12_goPlan_123 (by decide) ?_
              refine T_put dX12_goPlan_130 fp_X12_169_12 (mH_get hA rfl) (nb rfl) (fun _ => ⟨rfl, rfl⟩) ?_
              first
                | refine T_h (h2 := mH A (mG u P2 (a + nI (finN L (st h) (wn h) (posN L wn st h))) (nI h) (nI h)) B) (mH_set (k := 0) hA (nb rfl) rfl) ?_
                | refine T_h (h2 := mH A (mG u P2 (a + nI (finN L (st h) (wn h) (posN L wn st h))) (nI h) c) B) (mH_set (k := 0) hA (nb rfl) rfl) ?_
                | refine T_h (h2 := mH A (mG u P2 (a + nI (finN L (st h) (wn h) (posN L wn st h))) b (nI h)) B) (mH_set (k := 0) hA (nb rfl) rfl) ?_
                | refine T_h (h2 := mH A (mG u P2 (a + nI (finN L (st h) (wn h) (posN L wn st h))) b c) B) (mH_set (k := 0) hA (nb rfl) rfl) ?_
              refine T_iincN dX12_goPlan_133 rfl (by decide) rfl ?_
              refine T_goto (tgt := 25) dX12_goPlan_136 (by decide) ?_
              refine T_pick [0, 1] (K P2 _ _ hh2 ?_ ?_)
              · first | exact hb.keep (by omega) c67 | exact hb.no (fun q => absurd (e0.mpr q) (Int32.not_lt.mpr c71)) | exact hb.yes (by omega) c67 (e0.mp (Int32.not_le.mp c71))
              · first | exact hc.keep (by omega) c108 | exact hc.no c119 | exact hc.yes (by omega) c108 c119
end M14
