/-! the reference: a lake is taken -/
section M25
variable {A B : XH} {u v : MSt} {h : XH} {Z : XZ} {f : Nat → Int32} {e : Nat}
abbrev mT1 (v : MSt) (wd : Nat) (H : Nat → Int32) : MSt := (va_up v.1 5 (nI wd), va_up v.2 8 H)
theorem mT1_5 {wd : Nat} {H : Nat → Int32} : (mT1 v wd H).1 5 = nI wd := by
  show va_up v.1 5 (nI wd) 5 = nI wd
  exact va_s
def HsD (I : Nat → Int32) (wd : Nat) (H : Nat → Int32) (k : Nat) : Prop := H k = bI (0 < k ∧ k < wd ∧ I k = 1)
theorem lp_X12_takeLake_47 {Qa : Option Value → XH → Prop} (hA : A.length = 67) {wd c : Nat} {H : Nat → Int32} (hc : c < 5) {x : Int32} (hx : x = 0 ∨ x = 1) (K : T M_X12_takeLake x_E (x_Z M_X12_takeLake Qa) 0 0 10 [(0, .ref 67), (1, .int (nI (c + 1)))] [] (mH A (mT1 v wd (upd H c x)) B)) :
    T M_X12_takeLake x_E (x_Z M_X12_takeLake Qa) 0 0 47 [(0, .ref 67), (1, .int (nI c))] [.int x, .int (nI c), .ref 71] (mH A (mT1 v wd H) B) := by
  refine T_zastN dX12_takeLake_47 (mH_get hA rfl) (by omega) (by decide) (by rcases hx with q | q <;> subst q <;> rfl) ?_
  first | refine T_h (mT_8 hA) ?_ | refine T_h (mS_8 hA) ?_
  refine T_h (h2 := mH A (mT1 v wd (upd H c x)) B) rfl ?_
  refine T_iincN dX12_takeLake_48 rfl (by decide) rfl ?_
  refine T_goto (tgt := 10) dX12_takeLake_51 (by decide) ?_
  exact K
theorem lp_X12_takeLake_10 {Qa : Option Value → XH → Prop} (hA : A.length = 67) {wd : Nat} (hw : wd ≤ 4)
    (K : ∀ H, (∀ k, k < 5 → HsD (v.2 17) wd H k) → T M_X12_takeLake x_E (x_Z M_X12_takeLake Qa) 0 0 54 [(0, .ref 67)] [] (mH A (mT1 v wd H) B)) : ∀ r c, c + r = 5 → ∀ H, (∀ k, k < c → HsD (v.2 17) wd H k) →
    T M_X12_takeLake x_E (x_Z M_X12_takeLake Qa) 0 0 10 [(0, .ref 67), (1, .int (nI c))] [] (mH A (mT1 v wd H) B) := by
  intro r
  induction r with
  | zero =>
    intro c hc H hD
    obtain rfl : c = 5 := by omega
    refine T_iload_n dX12_takeLake_10 rfl ?_
    refine T_iconst (v := nI 4) dX12_takeLake_11 (by decide) ?_
    refine T_icmp_gtN (tgt := 54) dX12_takeLake_12 (by decide) (by omega) (by omega) (fun c12 => ?_) (fun c12 => ?_)
    · exact T_pick [0] (K H hD)
    · omega
  | succ r ih =>
    intro c hc H hD
    have step : ∀ x, x = bI (0 < c ∧ c < wd ∧ v.2 17 c = 1) → T M_X12_takeLake x_E (x_Z M_X12_takeLake Qa) 0 0 10 [(0, .ref 67), (1, .int (nI (c + 1)))] [] (mH A (mT1 v wd (upd H c x)) B) := fun x hx => ih (c + 1) (by omega) _ (fun k hk => by
      unfold HsD
      by_cases q : k = c
      · subst q; rw [upd_s, hx]
      · rw [upd_n q]; exact hD k (by omega))
    have l0 : nI c ≤ 0 ↔ c = 0 := by rw [show (0 : Int32) = nI 0 from rfl, nI_leI (by omega) (by omega)]; omega
    refine T_iload_n dX12_takeLake_10 rfl ?_
    refine T_iconst (v := nI 4) dX12_takeLake_11 (by decide) ?_
    refine T_icmp_gtN (tgt := 54) dX12_takeLake_12 (by decide) (by omega) (by omega) (fun c12 => ?_) (fun c12 => ?_)
    · omega
    · refine T_aload_n dX12_takeLake_15 rfl ?_
      refine T_get dX12_takeLake_16 fl_X12_19_12 (mH_get hA rfl) rfl ?_
      refine T_iload_n dX12_takeLake_19 rfl ?_
      refine T_iload_n dX12_takeLake_20 rfl ?_
      refine T_if_le (tgt := 46) dX12_takeLake_21 (by decide) (fun c21 => ?_) (fun c21 => ?_)
      · refine T_iconst (v := 0) dX12_takeLake_46 (by decide) ?_
        first
          | exact lp_X12_takeLake_47 hA (by omega) (Or.inl rfl) (step _ (bI_f (by rintro ⟨q1, q2, q3⟩; have := l0.mp c21; omega)))
          | exact lp_X12_takeLake_47 hA (by omega) (Or.inl rfl) (step _ (bI_f (by rintro ⟨q1, q2, q3⟩; omega)))
          | exact lp_X12_takeLake_47 hA (by omega) (Or.inl rfl) (step _ (bI_f (by rintro ⟨q1, q2, q3⟩; exact c39 q3)))
          | exact lp_X12_takeLake_47 hA (by omega) (Or.inr rfl) (step _ (bI_t ⟨by have := mt l0.mpr c21; omega, by omega, c39⟩))
      · refine T_iload_n dX12_takeLake_24 rfl ?_
        refine T_aload_n dX12_takeLake_25 rfl ?_
        refine T_get dX12_takeLake_26 fl_X12_108_12 (mH_get hA rfl) rfl ?_
        refine T_top mT1_5 ?_
        refine T_icmp_geN (tgt := 46) dX12_takeLake_29 (by decide) (by omega) (by omega) (fun c29 => ?_) (fun c29 => ?_)
        · refine T_iconst (v := 0) dX12_takeLake_46 (by decide) ?_
          first
            | exact lp_X12_takeLake_47 hA (by omega) (Or.inl rfl) (step _ (bI_f (by rintro ⟨q1, q2, q3⟩; have := l0.mp c21; omega)))
            | exact lp_X12_takeLake_47 hA (by omega) (Or.inl rfl) (step _ (bI_f (by rintro ⟨q1, q2, q3⟩; omega)))
            | exact lp_X12_takeLake_47 hA (by omega) (Or.inl rfl) (step _ (bI_f (by rintro ⟨q1, q2, q3⟩; exact c39 q3)))
            | exact lp_X12_takeLake_47 hA (by omega) (Or.inr rfl) (step _ (bI_t ⟨by have := mt l0.mpr c21; omega, by omega, c39⟩))
        · refine T_aload_n dX12_takeLake_32 rfl ?_
          refine T_get dX12_takeLake_33 fl_X12_35_12 (mH_get hA rfl) rfl ?_
          refine T_iload_n dX12_takeLake_36 rfl ?_
          refine T_ialdN dX12_takeLake_37 (mH_get hA rfl) (by omega) (by decide) ?_
          refine T_iconst (v := 1) dX12_takeLake_38 (by decide) ?_
          refine T_icmp_ne (tgt := 46) dX12_takeLake_39 (by decide) (fun c39 => ?_) (fun c39 => ?_)
          · refine T_iconst (v := 0) dX12_takeLake_46 (by decide) ?_
            first
              | exact lp_X12_takeLake_47 hA (by omega) (Or.inl rfl) (step _ (bI_f (by rintro ⟨q1, q2, q3⟩; have := l0.mp c21; omega)))
              | exact lp_X12_takeLake_47 hA (by omega) (Or.inl rfl) (step _ (bI_f (by rintro ⟨q1, q2, q3⟩; omega)))
              | exact lp_X12_takeLake_47 hA (by omega) (Or.inl rfl) (step _ (bI_f (by rintro ⟨q1, q2, q3⟩; exact c39 q3)))
              | exact lp_X12_takeLake_47 hA (by omega) (Or.inr rfl) (step _ (bI_t ⟨by have := mt l0.mpr c21; omega, by omega, c39⟩))
          · refine T_iconst (v := 1) dX12_takeLake_42 (by decide) ?_
            refine T_goto (tgt := 47) dX12_takeLake_43 (by decide) ?_
            first
              | exact lp_X12_takeLake_47 hA (by omega) (Or.inl rfl) (step _ (bI_f (by rintro ⟨q1, q2, q3⟩; have := l0.mp c21; omega)))
              | exact lp_X12_takeLake_47 hA (by omega) (Or.inl rfl) (step _ (bI_f (by rintro ⟨q1, q2, q3⟩; omega)))
              | exact lp_X12_takeLake_47 hA (by omega) (Or.inl rfl) (step _ (bI_f (by rintro ⟨q1, q2, q3⟩; exact c39 q3)))
              | exact lp_X12_takeLake_47 hA (by omega) (Or.inr rfl) (step _ (bI_t ⟨by have := mt l0.mpr c21; omega, by omega, c39⟩))
abbrev mT2 (v : MSt) (wd : Nat) (H : Nat → Int32) (hh : Nat) (W : Nat → Int32) : MSt := (va_up (va_up v.1 5 (nI wd)) 6 (nI hh), va_up (va_up v.2 8 H) 9 W)
theorem mT2_6 {wd hh : Nat} {H W : Nat → Int32} : (mT2 v wd H hh W).1 6 = nI hh := by
  show va_up (va_up v.1 5 (nI wd)) 6 (nI hh) 6 = nI hh
  exact va_s
theorem lp_X12_takeLake_64 {Qa : Option Value → XH → Prop} (hA : A.length = 67) {wd hh : Nat} {H : Nat → Int32} (hw : hh ≤ 10)
    (K : ∀ W, (∀ k, k < hh → W k = v.2 18 k) → T M_X12_takeLake x_E (x_Z M_X12_takeLake Qa) 0 0 90 [(0, .ref 67)] [] (mH A (mT2 v wd H hh W) B)) : ∀ r c, c + r = hh → ∀ W, (∀ k, k < c → W k = v.2 18 k) →
    T M_X12_takeLake x_E (x_Z M_X12_takeLake Qa) 0 0 64 [(0, .ref 67), (1, .int (nI c))] [] (mH A (mT2 v wd H hh W) B) := by
  intro r
  induction r with
  | zero =>
    intro c hc W hD
    obtain rfl : c = hh := by omega
    refine T_iload_n dX12_takeLake_64 rfl ?_
    refine T_aload_n dX12_takeLake_65 rfl ?_
    refine T_get dX12_takeLake_66 fl_X12_78_12 (mH_get hA rfl) rfl ?_
    refine T_top mT2_6 ?_
    refine T_icmp_geN (tgt := 90) dX12_takeLake_69 (by decide) (by omega) (by omega) (fun c69 => ?_) (fun c69 => ?_)
    · exact T_pick [0] (K W hD)
    · omega
  | succ r ih =>
    intro c hc W hD
    refine T_iload_n dX12_takeLake_64 rfl ?_
    refine T_aload_n dX12_takeLake_65 rfl ?_
    refine T_get dX12_takeLake_66 fl_X12_78_12 (mH_get hA rfl) rfl ?_
    refine T_top mT2_6 ?_
    refine T_icmp_geN (tgt := 90) dX12_takeLake_69 (by decide) (by omega) (by omega) (fun c69 => ?_) (fun c69 => ?_)
    · omega
    · refine T_aload_n dX12_takeLake_72 rfl ?_
      refine T_get dX12_takeLake_73 fl_X12_23_12 (mH_get hA rfl) rfl ?_
      refine T_iload_n dX12_takeLake_76 rfl ?_
      refine T_aload_n dX12_takeLake_77 rfl ?_
      refine T_get dX12_takeLake_78 fl_X12_38_12 (mH_get hA rfl) rfl ?_
      refine T_iload_n dX12_takeLake_81 rfl ?_
      refine T_ialdN dX12_takeLake_82 (mH_get hA rfl) (by omega) (by decide) ?_
      refine T_iastN dX12_takeLake_83 (mH_get hA rfl) (by omega) (by decide) ?_
      first | refine T_h (mT_9 hA) ?_ | refine T_h (mS_9 hA) ?_
      refine T_h (h2 := mH A (mT2 v wd H hh (upd W c (v.2 18 c))) B) rfl ?_
      refine T_iincN dX12_takeLake_84 rfl (by decide) rfl ?_
      refine T_goto (tgt := 64) dX12_takeLake_87 (by decide) ?_
      refine ih (c + 1) (by omega) _ (fun k hk => ?_)
      by_cases q : k = c
      · subst q; rw [upd_s]
      · rw [upd_n q]; exact hD k (by omega)
abbrev mT3 (v : MSt) (wd : Nat) (H : Nat → Int32) (hh : Nat) (W : Nat → Int32) (m : Nat) (K F S : Nat → Int32) : MSt := (va_up (va_up (va_up v.1 5 (nI wd)) 6 (nI hh)) 7 (nI m), va_up (va_up (va_up (va_up (va_up v.2 8 H) 9 W) 10 K) 11 F) 12 S)
theorem mT3_7 {wd hh m : Nat} {H W K F S : Nat → Int32} : (mT3 v wd H hh W m K F S).1 7 = nI m := by
  show va_up (va_up (va_up v.1 5 (nI wd)) 6 (nI hh)) 7 (nI m) 7 = nI m
  exact va_s
def KfD (v : MSt) (K F S : Nat → Int32) (k : Nat) : Prop := K k = v.2 19 (3 * k) ∧ F k = v.2 19 (3 * k + 1) ∧ S k = v.2 19 (3 * k + 2)
theorem lp_X12_takeLake_100 {Qa : Option Value → XH → Prop} (hA : A.length = 67) {wd hh m : Nat} {H W : Nat → Int32} (hw : m ≤ 3)
    (X : ∀ K F S, (∀ k, k < m → KfD v K F S k) → T M_X12_takeLake x_E (x_Z M_X12_takeLake Qa) 0 0 160 [(0, .ref 67)] [] (mH A (mT3 v wd H hh W m K F S) B)) : ∀ r c, c + r = m → ∀ K F S, (∀ k, k < c → KfD v K F S k) →
    T M_X12_takeLake x_E (x_Z M_X12_takeLake Qa) 0 0 100 [(0, .ref 67), (1, .int (nI c))] [] (mH A (mT3 v wd H hh W m K F S) B) := by
  intro r
  induction r with
  | zero =>
    intro c hc K F S hD
    obtain rfl : c = m := by omega
    refine T_iload_n dX12_takeLake_100 rfl ?_
    refine T_aload_n dX12_takeLake_101 rfl ?_
    refine T_get dX12_takeLake_102 fl_X12_75_12 (mH_get hA rfl) rfl ?_
    refine T_top mT3_7 ?_
    refine T_icmp_geN (tgt := 160) dX12_takeLake_105 (by decide) (by omega) (by omega) (fun c105 => ?_) (fun c105 => ?_)
    · exact T_pick [0] (X K F S hD)
    · omega
  | succ r ih =>
    intro c hc K F S hD
    refine T_iload_n dX12_takeLake_100 rfl ?_
    refine T_aload_n dX12_takeLake_101 rfl ?_
    refine T_get dX12_takeLake_102 fl_X12_75_12 (mH_get hA rfl) rfl ?_
    refine T_top mT3_7 ?_
    refine T_icmp_geN (tgt := 160) dX12_takeLake_105 (by decide) (by omega) (by omega) (fun c105 => ?_) (fun c105 => ?_)
    · omega
    · refine T_aload_n dX12_takeLake_108 rfl ?_
      refine T_get dX12_takeLake_109 fl_X12_26_12 (mH_get hA rfl) rfl ?_
      refine T_iload_n dX12_takeLake_112 rfl ?_
      refine T_aload_n dX12_takeLake_113 rfl ?_
      refine T_get dX12_takeLake_114 fl_X12_41_12 (mH_get hA rfl) rfl ?_
      refine T_iconst (v := nI 3) dX12_takeLake_117 (by decide) ?_
      refine T_iload_n dX12_takeLake_118 rfl ?_
      refine T_imulN dX12_takeLake_119 ?_
      refine T_ialdN dX12_takeLake_120 (mH_get hA rfl) (by omega) (by decide) ?_
      refine T_iastN dX12_takeLake_121 (mH_get hA rfl) (by omega) (by decide) ?_
      first | refine T_h (mT_10 hA) ?_ | refine T_h (mS_10 hA) ?_
      refine T_h (h2 := mH A (mT3 v wd H hh W m (upd K c (v.2 19 (3 * c))) F S) B) rfl ?_
      refine T_aload_n dX12_takeLake_122 rfl ?_
      refine T_get dX12_takeLake_123 fl_X12_29_12 (mH_get hA rfl) rfl ?_
      refine T_iload_n dX12_takeLake_126 rfl ?_
      refine T_aload_n dX12_takeLake_127 rfl ?_
      refine T_get dX12_takeLake_128 fl_X12_41_12 (mH_get hA rfl) rfl ?_
      refine T_iconst (v := nI 3) dX12_takeLake_131 (by decide) ?_
      refine T_iload_n dX12_takeLake_132 rfl ?_
      refine T_imulN dX12_takeLake_133 ?_
      refine T_iconst (v := nI 1) dX12_takeLake_134 (by decide) ?_
      refine T_iaddN dX12_takeLake_135 ?_
      refine T_ialdN dX12_takeLake_136 (mH_get hA rfl) (by omega) (by decide) ?_
      refine T_iastN dX12_takeLake_137 (mH_get hA rfl) (by omega) (by decide) ?_
      first | refine T_h (mT_11 hA) ?_ | refine T_h (mS_11 hA) ?_
      refine T_h (h2 := mH A (mT3 v wd H hh W m (upd K c (v.2 19 (3 * c))) (upd F c (v.2 19 (3 * c + 1))) S) B) rfl ?_
      refine T_aload_n dX12_takeLake_138 rfl ?_
      refine T_get dX12_takeLake_139 fl_X12_32_12 (mH_get hA rfl) rfl ?_
      refine T_iload_n dX12_takeLake_142 rfl ?_
      refine T_aload_n dX12_takeLake_143 rfl ?_
      refine T_get dX12_takeLake_144 fl_X12_41_12 (mH_get hA rfl) rfl ?_
      refine T_iconst (v := nI 3) dX12_takeLake_147 (by decide) ?_
      refine T_iload_n dX12_takeLake_148 rfl ?_
      refine T_imulN dX12_takeLake_149 ?_
      refine T_iconst (v := nI 2) dX12_takeLake_150 (by decide) ?_
      refine T_iaddN dX12_takeLake_151 ?_
      refine T_ialdN dX12_takeLake_152 (mH_get hA rfl) (by omega) (by decide) ?_
      refine T_iastN dX12_takeLake_153 (mH_get hA rfl) (by omega) (by decide) ?_
      first | refine T_h (mT_12 hA) ?_ | refine T_h (mS_12 hA) ?_
      refine T_h (h2 := mH A (mT3 v wd H hh W m (upd K c (v.2 19 (3 * c))) (upd F c (v.2 19 (3 * c + 1))) (upd S c (v.2 19 (3 * c + 2)))) B) rfl ?_
      refine T_iincN dX12_takeLake_154 rfl (by decide) rfl ?_
      refine T_goto (tgt := 100) dX12_takeLake_157 (by decide) ?_
      refine ih (c + 1) (by omega) _ _ _ (fun k hk => ?_)
      unfold KfD
      by_cases q : k = c
      · subst q; rw [upd_s, upd_s, upd_s]; exact ⟨rfl, rfl, rfl⟩
      · rw [upd_n q, upd_n q, upd_n q]; exact hD k (by omega)
/-- what taking leaves -/
abbrev mT4 (v : MSt) (wd : Nat) (H : Nat → Int32) (hh : Nat) (W : Nat → Int32) (m : Nat) (K F S : Nat → Int32) : MSt := (va_up (mT3 v wd H hh W m K F S).1 28 0, (mT3 v wd H hh W m K F S).2)
theorem lp_X12_takeLake_160 {Q : XH → Prop} (hA : A.length = 67) {wd hh m : Nat} {H W K F S : Nat → Int32} (hQ : Q (mH A (mT4 v wd H hh W m K F S) B)) :
    T M_X12_takeLake x_E (x_Z M_X12_takeLake (fun q h' => q = none ∧ Q h')) 0 0 160 [(0, .ref 67)] [] (mH A (mT3 v wd H hh W m K F S) B) := by
  refine T_aload_n dX12_takeLake_160 rfl ?_
  refine T_iconst (v := 0) dX12_takeLake_161 (by decide) ?_
  refine T_put dX12_takeLake_162 fp_X12_117_12 (mH_get hA rfl) (nb rfl) (fun _ => ⟨rfl, rfl⟩) ?_
  first | refine T_h (mE_28 hA) ?_ | refine T_h (mF_28 hA) ?_
  refine T_h (h2 := mH A (mT4 v wd H hh W m K F S) B) rfl ?_
  refine T_vret dX12_takeLake_165 rfl (nb rfl) (nb rfl) ?_
  exact ⟨rfl, hQ⟩
theorem lp_X12_takeLake_90 {Q : XH → Prop} (hA : A.length = 67) {wd hh m : Nat} {H W : Nat → Int32} (h16 : (mT2 v wd H hh W).1 16 = nI m) (hm : m ≤ 3) (hQ : ∀ K F S, (∀ k, k < m → KfD v K F S k) → Q (mH A (mT4 v wd H hh W m K F S) B)) :
    T M_X12_takeLake x_E (x_Z M_X12_takeLake (fun q h' => q = none ∧ Q h')) 0 0 90 [(0, .ref 67)] [] (mH A (mT2 v wd H hh W) B) := by
  refine T_aload_n dX12_takeLake_90 rfl ?_
  refine T_aload_n dX12_takeLake_91 rfl ?_
  refine T_get dX12_takeLake_92 fl_X12_114_12 (mH_get hA rfl) rfl ?_
  refine T_top h16 ?_
  refine T_put dX12_takeLake_95 fp_X12_75_12 (mH_get hA rfl) (nb rfl) (fun _ => ⟨rfl, rfl⟩) ?_
  first | refine T_h (mE_7 hA) ?_ | refine T_h (mF_7 hA) ?_
  refine T_h (h2 := mH A (mT3 v wd H hh W m (v.2 10) (v.2 11) (v.2 12)) B) rfl ?_
  refine T_iconst (v := nI 0) dX12_takeLake_98 (by decide) ?_
  refine T_istore_n dX12_takeLake_99 (by decide) rfl ?_
  refine lp_X12_takeLake_100 hA hm (fun K F S hK => ?_) m 0 (by omega) (v.2 10) (v.2 11) (v.2 12) (fun k hk => absurd hk (by omega))
  exact lp_X12_takeLake_160 hA (hQ K F S hK)
theorem lp_X12_takeLake_54 {Q : XH → Prop} (hA : A.length = 67) {wd hh m : Nat} {H : Nat → Int32} (h15 : v.1 15 = nI hh) (h16 : v.1 16 = nI m) (hh10 : hh ≤ 10) (hm : m ≤ 3) (hQ : ∀ W K F S, (∀ k, k < hh → W k = v.2 18 k) → (∀ k, k < m → KfD v K F S k) → Q (mH A (mT4 v wd H hh W m K F S) B)) :
    T M_X12_takeLake x_E (x_Z M_X12_takeLake (fun q h' => q = none ∧ Q h')) 0 0 54 [(0, .ref 67)] [] (mH A (mT1 v wd H) B) := by
  have h15' : (mT1 v wd H).1 15 = nI hh := by
    show va_up v.1 5 (nI wd) 15 = nI hh
    unfold va_up
    rw [if_neg (by decide)]
    exact h15
  have h16' : ∀ W, (mT2 v wd H hh W).1 16 = nI m := fun W => by
    show va_up (va_up v.1 5 (nI wd)) 6 (nI hh) 16 = nI m
    unfold va_up
    rw [if_neg (by decide), if_neg (by decide)]
    exact h16
  refine T_aload_n dX12_takeLake_54 rfl ?_
  refine T_aload_n dX12_takeLake_55 rfl ?_
  refine T_get dX12_takeLake_56 fl_X12_111_12 (mH_get hA rfl) rfl ?_
  refine T_top h15' ?_
  refine T_put dX12_takeLake_59 fp_X12_78_12 (mH_get hA rfl) (nb rfl) (fun _ => ⟨rfl, rfl⟩) ?_
  first | refine T_h (mE_6 hA) ?_ | refine T_h (mF_6 hA) ?_
  refine T_h (h2 := mH A (mT2 v wd H hh (v.2 9)) B) rfl ?_
  refine T_iconst (v := nI 0) dX12_takeLake_62 (by decide) ?_
  refine T_istore_n dX12_takeLake_63 (by decide) rfl ?_
  refine lp_X12_takeLake_64 hA hh10 (fun W hW => ?_) hh 0 (by omega) (v.2 9) (fun k hk => absurd hk (by omega))
  have h16W := h16' W
  exact lp_X12_takeLake_90 hA h16W hm (fun K F S hK => hQ W K F S hW hK)
theorem c_X12_takeLake (hA : A.length = 67) {wd hh m : Nat} (h14 : v.1 14 = nI wd) (h15 : v.1 15 = nI hh) (h16 : v.1 16 = nI m) (hw : wd ≤ 4) (hh10 : hh ≤ 10) (hm : m ≤ 3) : Con M_X12_takeLake [.ref 67] (mH A v B) (fun q h' => q = none ∧ ∃ H W K F S, h' = mH A (mT4 v wd H hh W m K F S) B ∧ (∀ k, k < 5 → HsD (v.2 17) wd H k) ∧ (∀ k, k < hh → W k = v.2 18 k) ∧ (∀ k, k < m → KfD v K F S k)) := by
  refine Con.of rfl (nb rfl) ?_
  refine T_aload_n dX12_takeLake_0 rfl ?_
  refine T_aload_n dX12_takeLake_1 rfl ?_
  refine T_get dX12_takeLake_2 fl_X12_105_12 (mH_get hA rfl) rfl ?_
  refine T_top h14 ?_
  refine T_put dX12_takeLake_5 fp_X12_108_12 (mH_get hA rfl) (nb rfl) (fun _ => ⟨rfl, rfl⟩) ?_
  first | refine T_h (mE_5 hA) ?_ | refine T_h (mF_5 hA) ?_
  refine T_h (h2 := mH A (mT1 v wd (v.2 8)) B) rfl ?_
  refine T_iconst (v := nI 0) dX12_takeLake_8 (by decide) ?_
  refine T_istore_n dX12_takeLake_9 (by decide) rfl ?_
  refine lp_X12_takeLake_10 hA hw (fun H hH => ?_) 5 0 rfl (v.2 8) (fun k hk => absurd hk (by omega))
  exact lp_X12_takeLake_54 hA h15 h16 hh10 hm (fun W K F S a b => ⟨H, W, K, F, S, rfl, hH, a, b⟩)
end M25
