/-! the reference: an hour of all states, the soonest -/
section M11
variable {A B : XH} {u : MSt} {h : XH} {Z : XZ} {L : LK}
/-- what goAll leaves -/
def GA (L : LK) (w : Nat) (S : Nat → Bool) (u : MSt) (A B : XH) (h' : XH) : Prop := ∃ (P cb th : Nat → Int32) (S' : Nat → Bool), h' = mH A (mm u P cb th) B ∧ SR L cb S' ∧ ∀ j, j < 125 → (S' j = true ↔ Nx L w S j)
def mZ (f : Nat → Int32) : Nat → Nat → Int32
  | 0 => f
  | i + 1 => upd (mZ f i) i 0
theorem mZ_0 (f : Nat → Int32) : ∀ m i, i < m → mZ f m i = 0 := by
  intro m
  induction m with
  | zero => intro i h; omega
  | succ m ih =>
    intro i hi
    rw [mZ]
    by_cases e : i = m
    · subst e; exact upd_s
    · rw [upd_n e]; exact ih i (by omega)
def mCy (f g : Nat → Int32) : Nat → Nat → Int32
  | 0 => f
  | i + 1 => upd (mCy f g i) i (g i)
theorem mCy_eq (f g : Nat → Int32) : ∀ m i, i < m → mCy f g m i = g i := by
  intro m
  induction m with
  | zero => intro i h; omega
  | succ m ih =>
    intro i hi
    rw [mCy]
    by_cases e : i = m
    · subst e; exact upd_s
    · rw [upd_n e]; exact ih i (by omega)
theorem lp_X12_goAll_3 (hA : A.length = 67) {w i : Nat} {P cb th : Nat → Int32} (hi : i < 125) (hz : narrow .boolean (.int (th i)) = .int (th i)) (K : T M_X12_goAll x_E Z 0 0 92 [(0, .ref 67), (1, .int (nI w)), (2, .int (nI (i + 1)))] [] (mH A (mm u P (mCy cb th (i + 1)) th) B)) : T M_X12_goAll x_E Z 0 0 92 [(0, .ref 67), (1, .int (nI w)), (2, .int (nI i))] [] (mH A (mm u P (mCy cb th i) th) B) := by
  refine T_iload_n dX12_goAll_92 rfl ?_
  refine T_bipush (v := nI 125) dX12_goAll_93 (by decide) ?_
  refine T_icmp_geN (tgt := 116) dX12_goAll_95 (by decide) (by omega) (by omega) (fun c95 => ?_) (fun c95 => ?_)
  · omega
  · refine T_aload_n dX12_goAll_98 rfl ?_
    refine T_get dX12_goAll_99 fl_X12_50_12 (mH_get hA rfl) rfl ?_
    refine T_iload_n dX12_goAll_102 rfl ?_
    refine T_aload_n dX12_goAll_103 rfl ?_
    refine T_get dX12_goAll_104 fl_X12_53_12 (mH_get hA rfl) rfl ?_
    refine T_iload_n dX12_goAll_107 rfl ?_
    refine T_zaldN dX12_goAll_108 (mH_get hA rfl) (by omega) (by decide) ?_
    refine T_zastN dX12_goAll_109 (mH_get hA rfl) (by omega) (by decide) hz ?_
    refine T_h (h2 := mH A (mm u P (mCy cb th (i + 1)) th) B) (mH_set (k := 14) hA (nb rfl) rfl) ?_
    refine T_iincN dX12_goAll_110 rfl (by decide) rfl ?_
    refine T_goto (tgt := 92) dX12_goAll_113 (by decide) ?_
    exact K
theorem lp_X12_goAll_3e (hA : A.length = 67) (hL : LOk L) {S : Nat → Bool} {w : Nat} {P cb th : Nat → Int32} (hw4 : L_w L ≤ 4) (hI : InvT L w S 125 0 th) (hS : SR L cb S) : T M_X12_goAll x_E (x_Z M_X12_goAll (fun a h' => a = none ∧ GA L w S u A B h')) 0 0 92 [(0, .ref 67), (1, .int (nI w)), (2, .int (nI 125))] [] (mH A (mm u P (mCy cb th 125) th) B) := by
  have h3 := hL.2.2.1
  refine T_iload_n dX12_goAll_92 rfl ?_
  refine T_bipush (v := nI 125) dX12_goAll_93 (by decide) ?_
  refine T_icmp_geN (tgt := 116) dX12_goAll_95 (by decide) (by omega) (by omega) (fun c95 => ?_) (fun c95 => ?_)
  · refine T_vret dX12_goAll_116 rfl (nb rfl) (nb rfl) ?_
    refine ⟨rfl, P, mCy cb th 125, th, fun j => decide (th j = 1), rfl, ⟨fun j hj => ?_, fun j hj ht i hi => ?_⟩, fun j hj => ?_⟩
    · rw [mCy_eq _ _ _ _ hj]
      rcases hI j hj with ⟨a, -⟩ | ⟨a, -⟩
      · rw [a]; exact bI_t (decide_eq_true a)
      · rw [a]; exact bI_f (fun q => absurd (a.symm.trans (of_decide_eq_true q)) (by decide))
    · rcases hI j hj with ⟨-, b⟩ | ⟨a, -⟩
      · obtain ⟨k, s, b1, b2, -, b4, b5, b6⟩ := b
        have hp : ∀ q, q < L_n L → aft L w (s.testBit q) q (dg k q) ≤ L_w L := fun q hq => aft_le (hS.2 k b1 b4 q hq)
        rw [b6, nxN, dg_cN h3 (fun q hq => Nat.le_trans (hp q hq) hw4) i hi]
        exact hp i hi
      · exact absurd (a.symm.trans (of_decide_eq_true ht)) (by decide)
    · rw [← Pr_end, decide_eq_true_eq]
      rcases hI j hj with ⟨a, b⟩ | ⟨a, b⟩
      · exact ⟨fun _ => b, fun _ => a⟩
      · exact ⟨fun q => absurd (a.symm.trans q) (by decide), fun q => absurd q b⟩
  · omega
theorem lp_X12_goAll_84 {w k : Nat} {hh : XH} (K : T M_X12_goAll x_E Z 0 0 23 [(0, .ref 67), (1, .int (nI w)), (2, .int (nI (k + 1)))] [] hh) : T M_X12_goAll x_E Z 0 0 84 [(0, .ref 67), (1, .int (nI w)), (2, .int (nI k))] [] hh := by
  refine T_iincN dX12_goAll_84 rfl (by decide) rfl ?_
  refine T_goto (tgt := 23) dX12_goAll_87 (by decide) ?_
  exact K
theorem lp_X12_goAll_2 (hA : A.length = 67) (hM : MR u L) (hL : LOk L) {S : Nat → Bool} {cb : Nat → Int32} {w : Nat} (hw : w ≤ 2) (hS : SR L cb S) : ∀ r k, k + r = 125 → ∀ P th, InvT L w S k 0 th → T M_X12_goAll x_E (x_Z M_X12_goAll (fun a h' => a = none ∧ GA L w S u A B h')) 0 0 23 [(0, .ref 67), (1, .int (nI w)), (2, .int (nI k))] [] (mH A (mm u P cb th) B) := by
  intro r
  induction r with
  | zero =>
    intro k hk P th hI
    obtain rfl : k = 125 := by omega
    refine T_iload_n dX12_goAll_23 rfl ?_
    refine T_bipush (v := nI 125) dX12_goAll_24 (by decide) ?_
    refine T_icmp_geN (tgt := 90) dX12_goAll_26 (by decide) (by omega) (by omega) (fun c26 => ?_) (fun c26 => ?_)
    · refine T_iconst (v := 0) dX12_goAll_90 (by decide) ?_
      refine T_istore_n dX12_goAll_91 (by decide) rfl ?_
      exact T_up0 (L := fun i => [(0, .ref 67), (1, .int (nI w)), (2, .int (nI i))]) (Hf := fun i => mH A (mm u P (mCy cb th i) th) B) 125 (lp_X12_goAll_3e hA hL hL.1 hI hS) fun i hi K => lp_X12_goAll_3 hA hi (by rcases hI i hi with ⟨a, -⟩ | ⟨a, -⟩ <;> rw [a] <;> rfl) K
    · omega
  | succ r ih =>
    intro k hk P th hI
    refine T_iload_n dX12_goAll_23 rfl ?_
    refine T_bipush (v := nI 125) dX12_goAll_24 (by decide) ?_
    refine T_icmp_geN (tgt := 90) dX12_goAll_26 (by decide) (by omega) (by omega) (fun c26 => ?_) (fun c26 => ?_)
    · omega
    · refine T_iconst (v := 0) dX12_goAll_29 (by decide) ?_
      refine T_istore_n dX12_goAll_30 (by decide) rfl ?_
      exact lp_X12_goAll_in hA hM hL hw (by omega) hS (fun P2 th2 hI2 => lp_X12_goAll_84 (ih (k + 1) (by omega) P2 th2 hI2)) (allN L + 1) 0 (by omega) P th hI
theorem lp_X12_goAll_1 (hA : A.length = 67) {w i : Nat} {P cb th : Nat → Int32} (hi : i < 125) (K : T M_X12_goAll x_E Z 0 0 2 [(0, .ref 67), (1, .int (nI w)), (2, .int (nI (i + 1)))] [] (mH A (mm u P cb (mZ th (i + 1))) B)) : T M_X12_goAll x_E Z 0 0 2 [(0, .ref 67), (1, .int (nI w)), (2, .int (nI i))] [] (mH A (mm u P cb (mZ th i)) B) := by
  refine T_iload_n dX12_goAll_2 rfl ?_
  refine T_bipush (v := nI 125) dX12_goAll_3 (by decide) ?_
  refine T_icmp_geN (tgt := 21) dX12_goAll_5 (by decide) (by omega) (by omega) (fun c5 => ?_) (fun c5 => ?_)
  · omega
  · refine T_aload_n dX12_goAll_8 rfl ?_
    refine T_get dX12_goAll_9 fl_X12_53_12 (mH_get hA rfl) rfl ?_
    refine T_iload_n dX12_goAll_12 rfl ?_
    refine T_iconst (v := 0) dX12_goAll_13 (by decide) ?_
    refine T_zastN dX12_goAll_14 (mH_get hA rfl) (by omega) (by decide) rfl ?_
    first | refine T_h (mT_27 hA) ?_ | refine T_h (mS_27 hA) ?_
    refine T_iincN dX12_goAll_15 rfl (by decide) rfl ?_
    refine T_goto (tgt := 2) dX12_goAll_18 (by decide) ?_
    exact K
theorem lp_X12_goAll_1e (hA : A.length = 67) (hM : MR u L) (hL : LOk L) {S : Nat → Bool} {P cb th : Nat → Int32} {w : Nat} (hw : w ≤ 2) (hS : SR L cb S) : T M_X12_goAll x_E (x_Z M_X12_goAll (fun a h' => a = none ∧ GA L w S u A B h')) 0 0 2 [(0, .ref 67), (1, .int (nI w)), (2, .int (nI 125))] [] (mH A (mm u P cb (mZ th 125)) B) := by
  refine T_iload_n dX12_goAll_2 rfl ?_
  refine T_bipush (v := nI 125) dX12_goAll_3 (by decide) ?_
  refine T_icmp_geN (tgt := 21) dX12_goAll_5 (by decide) (by omega) (by omega) (fun c5 => ?_) (fun c5 => ?_)
  · refine T_iconst (v := 0) dX12_goAll_21 (by decide) ?_
    refine T_istore_n dX12_goAll_22 (by decide) rfl ?_
    exact lp_X12_goAll_2 hA hM hL hw hS 125 0 (by omega) P _ (fun j hj => Or.inr ⟨mZ_0 th 125 j hj, by rintro ⟨k', s', a, b, c, -⟩; omega⟩)
  · omega
theorem c_X12_goAll (hA : A.length = 67) (hM : MR u L) (hL : LOk L) {S : Nat → Bool} {P cb th : Nat → Int32} {w : Nat} (hw : w ≤ 2) (hS : SR L cb S) : Con M_X12_goAll [.ref 67, .int (nI w)] (mH A (mm u P cb th) B) (fun a h' => a = none ∧ GA L w S u A B h') := by
  refine Con.of rfl (nb rfl) ?_
  refine T_iconst (v := 0) dX12_goAll_0 (by decide) ?_
  refine T_istore_n dX12_goAll_1 (by decide) rfl ?_
  exact T_up0 (L := fun i => [(0, .ref 67), (1, .int (nI w)), (2, .int (nI i))]) (Hf := fun i => mH A (mm u P cb (mZ th i)) B) 125 (lp_X12_goAll_1e hA hM hL hw hS) fun i hi K => lp_X12_goAll_1 hA hi K
/-- the states ahead of hour h: a set that stands for them -/
def Rch (L : LK) (wn : Nat → Nat) : Nat → Nat → Prop
  | 0, j => j = cN (start L) (L_n L) (L_n L)
  | h + 1, j => ∃ k s, k < 125 ∧ s ≤ allN L ∧ Rch L wn h k ∧ finN L s (wn h) (dg k) = 0 ∧ j = nxN L (wn h) s k
/-- the set s is over in some state ahead of hour h -/
def OvA (L : LK) (wn : Nat → Nat) (s h : Nat) : Prop := ∃ k, k < 125 ∧ Rch L wn h k ∧ (ovrN L (dg k) (L_n L) &&& s) = s
/-- the answer of soonestOf, from hour h on with r hours left -/
def SoR (L : LK) (wn : Nat → Nat) (s H : Nat) (a : Int32) : Prop := (∃ h, h ≤ H ∧ OvA L wn s h ∧ (∀ g, g < h → ¬ OvA L wn s g) ∧ a = nI h) ∨ ((∀ g, g ≤ H → ¬ OvA L wn s g) ∧ a = -9)
def mOne (f : Nat → Int32) (x : Int32) : Nat → Nat → Int32
  | 0 => f
  | i + 1 => upd (mOne f x i) i (bI (nI i = x))
theorem mOne_eq (f : Nat → Int32) (x : Int32) : ∀ m i, i < m → mOne f x m i = bI (nI i = x) := by
  intro m
  induction m with
  | zero => intro i h; omega
  | succ m ih =>
    intro i hi
    rw [mOne]
    by_cases e : i = m
    · subst e; exact upd_s
    · rw [upd_n e]; exact ih i (by omega)
theorem lp_X12_soonestOf_1 (hA : A.length = 67) {i : Nat} {s x : Int32} {P cb th : Nat → Int32} (hi : i < 125) (K : T M_X12_soonestOf x_E Z 0 0 8 [(0, .ref 67), (1, .int s), (2, .int x), (3, .int (nI (i + 1)))] [] (mH A (mm u P (mOne cb x (i + 1)) th) B)) : T M_X12_soonestOf x_E Z 0 0 8 [(0, .ref 67), (1, .int s), (2, .int x), (3, .int (nI i))] [] (mH A (mm u P (mOne cb x i) th) B) := by
  refine T_iload_n dX12_soonestOf_8 rfl ?_
  refine T_bipush (v := nI 125) dX12_soonestOf_9 (by decide) ?_
  refine T_icmp_geN (tgt := 36) dX12_soonestOf_11 (by decide) (by omega) (by omega) (fun c11 => ?_) (fun c11 => ?_)
  · omega
  · refine T_aload_n dX12_soonestOf_14 rfl ?_
    refine T_get dX12_soonestOf_15 fl_X12_50_12 (mH_get hA rfl) rfl ?_
    refine T_iload_n dX12_soonestOf_18 rfl ?_
    refine T_iload_n dX12_soonestOf_19 rfl ?_
    refine T_iload_n dX12_soonestOf_20 rfl ?_
    refine T_icmp_ne (tgt := 28) dX12_soonestOf_21 (by decide) (fun c21 => ?_) (fun c21 => ?_)
    · refine T_iconst (v := 0) dX12_soonestOf_28 (by decide) ?_
      refine T_zastN dX12_soonestOf_29 (mH_get hA rfl) (by omega) (by decide) rfl ?_
      first
        | refine T_h (h2 := mH A (mm u P (upd (mOne cb x i) i 1) th) B) (mH_set (k := 14) hA (nb rfl) rfl) ?_
        | refine T_h (h2 := mH A (mm u P (upd (mOne cb x i) i 0) th) B) (mH_set (k := 14) hA (nb rfl) rfl) ?_
      refine T_iincN dX12_soonestOf_30 rfl (by decide) rfl ?_
      refine T_goto (tgt := 8) dX12_soonestOf_33 (by decide) ?_
      first
        | (rw [mOne, ← bI_t c21] at K; exact K)
        | (rw [mOne, ← bI_f c21] at K; exact K)
    · refine T_iconst (v := 1) dX12_soonestOf_24 (by decide) ?_
      refine T_goto (tgt := 29) dX12_soonestOf_25 (by decide) ?_
      refine T_zastN dX12_soonestOf_29 (mH_get hA rfl) (by omega) (by decide) rfl ?_
      first
        | refine T_h (h2 := mH A (mm u P (upd (mOne cb x i) i 1) th) B) (mH_set (k := 14) hA (nb rfl) rfl) ?_
        | refine T_h (h2 := mH A (mm u P (upd (mOne cb x i) i 0) th) B) (mH_set (k := 14) hA (nb rfl) rfl) ?_
      refine T_iincN dX12_soonestOf_30 rfl (by decide) rfl ?_
      refine T_goto (tgt := 8) dX12_soonestOf_33 (by decide) ?_
      first
        | (rw [mOne, ← bI_t c21] at K; exact K)
        | (rw [mOne, ← bI_f c21] at K; exact K)
theorem lp_X12_soonestOf_2 (hA : A.length = 67) (hM : MR u L) (hL : LOk L) {wn : Nat → Nat} (hW : MW u L wn) {s : Nat} {x : Int32} (hs : s < 8) : ∀ r h, h + r = L_h L + 1 → (∀ g, g < h → ¬ OvA L wn s g) → ∀ (P cb th : Nat → Int32) (S : Nat → Bool), SR L cb S → (h ≤ L_h L → ∀ j, j < 125 → (S j = true ↔ Rch L wn h j)) →
    T M_X12_soonestOf x_E (x_Z M_X12_soonestOf (fun a h' => (∃ v, a = some (.int v) ∧ SoR L wn s (L_h L) v) ∧ ∃ P' cb' th', h' = mH A (mm u P' cb' th') B)) 0 0 38 [(0, .ref 67), (1, .int (nI s)), (2, .int x), (3, .int (nI h))] [] (mH A (mm u P cb th) B) := by
  have h10 := hL.2.1
  intro r
  induction r with
  | zero =>
    intro h hh hno P cb th S hS hR
    refine T_iload_n dX12_soonestOf_38 rfl ?_
    refine T_aload_n dX12_soonestOf_39 rfl ?_
    refine T_get dX12_soonestOf_40 fl_X12_78_12 (mH_get hA rfl) rfl ?_
    refine T_top hM.2.1 ?_
    refine T_icmp_gtN (tgt := 80) dX12_soonestOf_43 (by decide) (by omega) (by omega) (fun c43 => ?_) (fun c43 => ?_)
    · refine T_bipush (v := (-9)) dX12_soonestOf_80 (by decide) ?_
      refine T_iret dX12_soonestOf_82 rfl (nb rfl) (nb rfl) ?_
      exact ⟨⟨-9, rfl, Or.inr ⟨fun g hg => hno g (by omega), rfl⟩⟩, P, cb, th, rfl⟩
    · omega
  | succ r ih =>
    intro h hh hno P cb th S hS hR
    have hany : anyF (thereG L S s) 125 0 = true ↔ OvA L wn s h := by
      rw [anyF_iff]
      constructor
      · rintro ⟨j, -, h2, h3⟩
        unfold thereG at h3
        rw [Bool.and_eq_true, beq_iff_eq] at h3
        exact ⟨j, by omega, (hR (by omega) j (by omega)).mp h3.1, h3.2⟩
      · rintro ⟨k, h1, h2, h3⟩
        refine ⟨k, by omega, by omega, ?_⟩
        unfold thereG
        rw [Bool.and_eq_true, beq_iff_eq]
        exact ⟨(hR (by omega) k h1).mpr h2, h3⟩
    refine T_iload_n dX12_soonestOf_38 rfl ?_
    refine T_aload_n dX12_soonestOf_39 rfl ?_
    refine T_get dX12_soonestOf_40 fl_X12_78_12 (mH_get hA rfl) rfl ?_
    refine T_top hM.2.1 ?_
    refine T_icmp_gtN (tgt := 80) dX12_soonestOf_43 (by decide) (by omega) (by omega) (fun c43 => ?_) (fun c43 => ?_)
    · omega
    · refine T_aload_n dX12_soonestOf_46 rfl ?_
      refine T_iload_n dX12_soonestOf_47 rfl ?_
      refine T_v1q (cu2 := 0) (su2 := 0) dX12_soonestOf_48 lv_X12_196 rfl (mH_get hA rfl) rfl (c_X12_isThere hA hM hL hs hS) (nb rfl) (nb rfl) (nb rfl) (nb rfl) (nb rfl) (fun r48 h48 q48 => ?_)
      obtain ⟨rfl, P2, rfl⟩ := q48
      refine T_if_eqB (tgt := 56) dX12_soonestOf_51 (by decide) (fun c51 => ?_) (fun c51 => ?_)
      · refine T_iload_n dX12_soonestOf_56 rfl ?_
        refine T_aload_n dX12_soonestOf_57 rfl ?_
        refine T_get dX12_soonestOf_58 fl_X12_78_12 (mH_get hA rfl) rfl ?_
        refine T_top hM.2.1 ?_
        refine T_icmp_geN (tgt := 74) dX12_soonestOf_61 (by decide) (by omega) (by omega) (fun c61 => ?_) (fun c61 => ?_)
        · refine T_iincN dX12_soonestOf_74 rfl (by decide) rfl ?_
          refine T_goto (tgt := 38) dX12_soonestOf_77 (by decide) ?_
          have hno2 : ∀ g, g < h + 1 → ¬ OvA L wn s g := fun g hg => by
            by_cases e : g = h
            · subst e; exact fun q => c51 (hany.mpr q)
            · exact hno g (by omega)
          first
            | exact ih (h + 1) (by omega) hno2 _ _ _ _ hS (fun q => absurd q (by omega))
            | (refine ih (h + 1) (by omega) hno2 _ _ _ _ hS3 (fun _ j hj => ?_)
               rw [hN3 j hj]
               constructor
               · rintro ⟨k, t, b1, b2, b3, b4, b5⟩
                 exact ⟨k, t, b1, b2, (hR (by omega) k b1).mp b3, b4, b5⟩
               · rintro ⟨k, t, b1, b2, b3, b4, b5⟩
                 exact ⟨k, t, b1, b2, (hR (by omega) k b1).mpr b3, b4, b5⟩)
        · refine T_aload_n dX12_soonestOf_64 rfl ?_
          refine T_aload_n dX12_soonestOf_65 rfl ?_
          refine T_get dX12_soonestOf_66 fl_X12_23_12 (mH_get hA rfl) rfl ?_
          refine T_iload_n dX12_soonestOf_69 rfl ?_
          refine T_ialdN dX12_soonestOf_70 (mH_get hA rfl) (by omega) (by decide) ?_
          refine T_top (show (mm u P2 cb th).2 9 h = nI (wn h) from (hW h (by omega)).1) ?_
          refine T_v1q (cu2 := 0) (su2 := 0) dX12_soonestOf_71 lv_X12_199 rfl (mH_get hA rfl) rfl (c_X12_goAll hA hM hL (hW h (by omega)).2 hS) (nb rfl) (nb rfl) (nb rfl) (nb rfl) (nb rfl) (fun r71 h71 q71 => ?_)
          obtain ⟨rfl, P3, cb3, th3, S3, rfl, hS3, hN3⟩ := q71
          refine T_iincN dX12_soonestOf_74 rfl (by decide) rfl ?_
          refine T_goto (tgt := 38) dX12_soonestOf_77 (by decide) ?_
          have hno2 : ∀ g, g < h + 1 → ¬ OvA L wn s g := fun g hg => by
            by_cases e : g = h
            · subst e; exact fun q => c51 (hany.mpr q)
            · exact hno g (by omega)
          first
            | exact ih (h + 1) (by omega) hno2 _ _ _ _ hS (fun q => absurd q (by omega))
            | (refine ih (h + 1) (by omega) hno2 _ _ _ _ hS3 (fun _ j hj => ?_)
               rw [hN3 j hj]
               constructor
               · rintro ⟨k, t, b1, b2, b3, b4, b5⟩
                 exact ⟨k, t, b1, b2, (hR (by omega) k b1).mp b3, b4, b5⟩
               · rintro ⟨k, t, b1, b2, b3, b4, b5⟩
                 exact ⟨k, t, b1, b2, (hR (by omega) k b1).mpr b3, b4, b5⟩)
      · refine T_iload_n dX12_soonestOf_54 rfl ?_
        refine T_iret dX12_soonestOf_55 rfl (nb rfl) (nb rfl) ?_
        exact ⟨⟨nI h, rfl, Or.inl ⟨h, by omega, hany.mp c51, hno, rfl⟩⟩, P2, cb, th, rfl⟩
abbrev SoQ (L : LK) (wn : Nat → Nat) (s : Nat) (u : MSt) (A B : XH) : Option Value → XH → Prop := fun a h' => (∃ v, a = some (.int v) ∧ SoR L wn s (L_h L) v) ∧ ∃ P' cb' th', h' = mH A (mm u P' cb' th') B
theorem lp_X12_soonestOf_1e (hA : A.length = 67) (hM : MR u L) (hL : LOk L) {wn : Nat → Nat} (hW : MW u L wn) {s : Nat} (hs : s < 8) {P cb th : Nat → Int32} : T M_X12_soonestOf x_E (x_Z M_X12_soonestOf (SoQ L wn s u A B)) 0 0 8 [(0, .ref 67), (1, .int (nI s)), (2, .int (nI (cN (start L) (L_n L) (L_n L)))), (3, .int (nI 125))] [] (mH A (mm u P (mOne cb (nI (cN (start L) (L_n L) (L_n L))) 125) th) B) := by
  have h3 := hL.2.2.1
  have h4 := hL.1
  have hst : ∀ i, i < L_n L → start L i ≤ 4 := fun i _ => by unfold start; split <;> omega
  have hlt := cN_lt h3 hst
  refine T_iload_n dX12_soonestOf_8 rfl ?_
  refine T_bipush (v := nI 125) dX12_soonestOf_9 (by decide) ?_
  refine T_icmp_geN (tgt := 36) dX12_soonestOf_11 (by decide) (by omega) (by omega) (fun c11 => ?_) (fun c11 => ?_)
  · refine T_iconst (v := 0) dX12_soonestOf_36 (by decide) ?_
    refine T_istore_n dX12_soonestOf_37 (by decide) rfl ?_
    refine lp_X12_soonestOf_2 hA hM hL hW hs (L_h L + 1) 0 (by omega) (fun g hg => absurd hg (by omega)) P _ th (fun j => decide (j = cN (start L) (L_n L) (L_n L))) ⟨fun j hj => ?_, fun j hj ht i hi => ?_⟩ (fun _ j hj => ?_)
    · rw [mOne_eq _ _ _ _ hj]
      exact bI_c (by rw [nI_eq (by omega) (by omega), decide_eq_true_eq])
    · rw [of_decide_eq_true ht, dg_cN h3 hst i hi]
      unfold start
      split <;> omega
    · rw [decide_eq_true_eq]; exact Iff.rfl
  · omega
theorem c_X12_soonestOf (hA : A.length = 67) (hM : MR u L) (hL : LOk L) {wn : Nat → Nat} (hW : MW u L wn) {s : Nat} (hs : s < 8) {P cb th : Nat → Int32} : Con M_X12_soonestOf [.ref 67, .int (nI s)] (mH A (mm u P cb th) B) (SoQ L wn s u A B) := by
  have h3 := hL.2.2.1
  refine Con.of rfl (nb rfl) ?_
  refine T_aload_n dX12_soonestOf_0 rfl ?_
  refine T_iconst (v := 1) dX12_soonestOf_1 (by decide) ?_
  refine T_v1e (cu2 := 0) (su2 := 0) dX12_soonestOf_2 lv_X12_159 rfl (mH_get hA rfl) rfl (c_X12_begins1 (n := L_n L) hA hM.2.2.1 h3) (nb rfl) (nb rfl) (nb rfl) (nb rfl) (nb rfl) ?_
  have hb := beg_N (u := mm u P cb th) hM hL ((mm u P cb th).2 20)
  refine T_top (num_N hb _ (Nat.le_refl _)) ?_
  generalize mBeg ((mm u P cb th).2 20) ((mm u P cb th).2 11) ((mm u P cb th).1 5) (L_n L) = P2
  refine T_h (h2 := mH A (mm u P2 cb th) B) rfl ?_
  refine T_istore_n dX12_soonestOf_5 (by decide) rfl ?_
  refine T_iconst (v := 0) dX12_soonestOf_6 (by decide) ?_
  refine T_istore_n dX12_soonestOf_7 (by decide) rfl ?_
  exact T_up0 (L := fun i => [(0, .ref 67), (1, .int (nI s)), (2, .int (nI (cN (start L) (L_n L) (L_n L)))), (3, .int (nI i))]) (Hf := fun i => mH A (mm u P2 (mOne cb (nI (cN (start L) (L_n L) (L_n L))) i) th) B) 125 (lp_X12_soonestOf_1e hA hM hL hW hs) fun i hi K => lp_X12_soonestOf_1 hA hi K
/-- in time: over ahead of some hour, n at most -/
def InT (L : LK) (wn : Nat → Nat) (s n : Nat) : Prop := ∃ h, h ≤ n ∧ h ≤ L_h L ∧ OvA L wn s h
abbrev yn (p : Prop) (v : Int32) : Prop := (v = 1 ∧ p) ∨ (v = 0 ∧ ¬ p)
abbrev InQ (L : LK) (wn : Nat → Nat) (s n : Nat) (u : MSt) (A B : XH) : Option Value → XH → Prop := fun a h' => (∃ v, a = some (.int v) ∧ yn (InT L wn s n) v) ∧ ∃ P' cb' th', h' = mH A (mm u P' cb' th') B
theorem c_X12_isInTime (hA : A.length = 67) (hM : MR u L) (hL : LOk L) {wn : Nat → Nat} (hW : MW u L wn) {s n : Nat} (hs : s < 8) (hn : n ≤ 10) {P cb th : Nat → Int32} : Con M_X12_isInTime [.ref 67, .int (nI s), .int (nI n)] (mH A (mm u P cb th) B) (InQ L wn s n u A B) := by
  have h10 := hL.2.1
  refine Con.of rfl (nb rfl) ?_
  refine T_aload_n dX12_isInTime_0 rfl ?_
  refine T_iload_n dX12_isInTime_1 rfl ?_
  refine T_v1q (cu2 := 0) (su2 := 0) dX12_isInTime_2 lv_X12_202 rfl (mH_get hA rfl) rfl (c_X12_soonestOf hA hM hL hW hs) (nb rfl) (nb rfl) (nb rfl) (nb rfl) (nb rfl) (fun r2 h2 q2 => ?_)
  obtain ⟨⟨v, rfl, hv⟩, P2, cb2, th2, rfl⟩ := q2
  refine T_istore_n dX12_isInTime_5 (by decide) rfl ?_
  refine T_iload_n dX12_isInTime_6 rfl ?_
  refine T_bipush (v := (-9)) dX12_isInTime_7 (by decide) ?_
  refine T_icmp_eq (tgt := 21) dX12_isInTime_9 (by decide) (fun c9 => ?_) (fun c9 => ?_)
  · refine T_iconst (v := 0) dX12_isInTime_21 (by decide) ?_
    refine T_zret dX12_isInTime_22 rfl rfl (nb rfl) (nb rfl) ?_
    first
      | (refine ⟨⟨0, rfl, Or.inr ⟨rfl, ?_⟩⟩, P2, cb2, th2, rfl⟩
         rcases hv with ⟨h, b1, b2, b3, b4⟩ | ⟨b1, b2⟩
         · first
             | (rw [b4] at c9; exact absurd c9 (by intro q; have := congrArg Int32.toInt q; rw [nI_toInt (by omega)] at this; have e9 : (-9 : Int32).toInt = -9 := rfl; omega))
             | (rw [b4, nI_ltI (by omega) (by omega)] at c14
                rintro ⟨g, g1, g2, g3⟩
                exact b3 g (by omega) g3)
         · rintro ⟨g, g1, g2, g3⟩
           exact b1 g g2 g3)
      | (refine ⟨⟨1, rfl, Or.inl ⟨rfl, ?_⟩⟩, P2, cb2, th2, rfl⟩
         rcases hv with ⟨h, b1, b2, b3, b4⟩ | ⟨b1, b2⟩
         · rw [b4, nI_ltI (by omega) (by omega)] at c14
           exact ⟨h, by omega, b1, b2⟩
         · exact absurd b2 c9)
  · refine T_iload_n dX12_isInTime_12 rfl ?_
    refine T_iload_n dX12_isInTime_13 rfl ?_
    refine T_icmp_gt (tgt := 21) dX12_isInTime_14 (by decide) (fun c14 => ?_) (fun c14 => ?_)
    · refine T_iconst (v := 0) dX12_isInTime_21 (by decide) ?_
      refine T_zret dX12_isInTime_22 rfl rfl (nb rfl) (nb rfl) ?_
      first
        | (refine ⟨⟨0, rfl, Or.inr ⟨rfl, ?_⟩⟩, P2, cb2, th2, rfl⟩
           rcases hv with ⟨h, b1, b2, b3, b4⟩ | ⟨b1, b2⟩
           · first
               | (rw [b4] at c9; exact absurd c9 (by intro q; have := congrArg Int32.toInt q; rw [nI_toInt (by omega)] at this; have e9 : (-9 : Int32).toInt = -9 := rfl; omega))
               | (rw [b4, nI_ltI (by omega) (by omega)] at c14
                  rintro ⟨g, g1, g2, g3⟩
                  exact b3 g (by omega) g3)
           · rintro ⟨g, g1, g2, g3⟩
             exact b1 g g2 g3)
        | (refine ⟨⟨1, rfl, Or.inl ⟨rfl, ?_⟩⟩, P2, cb2, th2, rfl⟩
           rcases hv with ⟨h, b1, b2, b3, b4⟩ | ⟨b1, b2⟩
           · rw [b4, nI_ltI (by omega) (by omega)] at c14
             exact ⟨h, by omega, b1, b2⟩
           · exact absurd b2 c9)
    · refine T_iconst (v := 1) dX12_isInTime_17 (by decide) ?_
      refine T_goto (tgt := 22) dX12_isInTime_18 (by decide) ?_
      refine T_zret dX12_isInTime_22 rfl rfl (nb rfl) (nb rfl) ?_
      first
        | (refine ⟨⟨0, rfl, Or.inr ⟨rfl, ?_⟩⟩, P2, cb2, th2, rfl⟩
           rcases hv with ⟨h, b1, b2, b3, b4⟩ | ⟨b1, b2⟩
           · first
               | (rw [b4] at c9; exact absurd c9 (by intro q; have := congrArg Int32.toInt q; rw [nI_toInt (by omega)] at this; have e9 : (-9 : Int32).toInt = -9 := rfl; omega))
               | (rw [b4, nI_ltI (by omega) (by omega)] at c14
                  rintro ⟨g, g1, g2, g3⟩
                  exact b3 g (by omega) g3)
           · rintro ⟨g, g1, g2, g3⟩
             exact b1 g g2 g3)
        | (refine ⟨⟨1, rfl, Or.inl ⟨rfl, ?_⟩⟩, P2, cb2, th2, rfl⟩
           rcases hv with ⟨h, b1, b2, b3, b4⟩ | ⟨b1, b2⟩
           · rw [b4, nI_ltI (by omega) (by omega)] at c14
             exact ⟨h, by omega, b1, b2⟩
           · exact absurd b2 c9)
end M11
