/-! the reference: a lake's text -/
section M22
variable {A B : XH} {u : MSt} {h : XH} {Z : XZ}
theorem va_s {α : Type} {f : Nat → α} {k : Nat} {x : α} : va_up f k x k = x := if_pos rfl
/-- the place of the reader -/
abbrev mA (u : MSt) (a : Nat) : MSt := (va_up u.1 13 (nI a), u.2)
theorem mA_13 {a : Nat} : (mA u a).1 13 = nI a := by
  show va_up u.1 13 (nI a) 13 = nI a
  exact va_s
abbrev sgP (g : Nat → Int32) (n a : Nat) (c : Int32) : Prop := a < n ∧ g a = c
abbrev dgP (g : Nat → Int32) (n a lo hi : Nat) : Prop := a < n ∧ nI (48 + lo) ≤ g a ∧ g a ≤ nI (48 + hi)
theorem c_X12_isSign (hA : A.length = 67) {a e : Nat} (code : Int32) (he : e ≤ 240) (ha : a ≤ e) : ConE M_X12_isSign [.ref 67, .int (nI e), .int code] (mH A (mA u a) B) (some (.int (bI (sgP (u.2 4) e a code)))) (mH A (mA u (if sgP (u.2 4) e a code then a + 1 else a)) B) := by
  refine Con.of rfl (nb rfl) ?_
  refine T_aload_n dX12_isSign_0 rfl ?_
  refine T_get dX12_isSign_1 fl_X12_81_12 (mH_get hA rfl) rfl ?_
  refine T_top mA_13 ?_
  refine T_iload_n dX12_isSign_4 rfl ?_
  refine T_icmp_geN (tgt := 21) dX12_isSign_5 (by decide) (by omega) (by omega) (fun c5 => ?_) (fun c5 => ?_)
  · refine T_iconst (v := 0) dX12_isSign_21 (by decide) ?_
    refine T_zret dX12_isSign_22 rfl rfl (nb rfl) (nb rfl) ?_
    rw [if_neg (by rintro ⟨q1, q2⟩; first | exact c18 q2 | omega)]
    exact ⟨sI (bI_f (by rintro ⟨q1, q2⟩; first | exact c18 q2 | omega)), rfl⟩
  · refine T_aload_n dX12_isSign_8 rfl ?_
    refine T_get dX12_isSign_9 fl_X12_16_12 (mH_get hA rfl) rfl ?_
    refine T_aload_n dX12_isSign_12 rfl ?_
    refine T_get dX12_isSign_13 fl_X12_81_12 (mH_get hA rfl) rfl ?_
    refine T_top mA_13 ?_
    refine T_ialdN dX12_isSign_16 (mH_get hA rfl) (by omega) (by decide) ?_
    refine T_iload_n dX12_isSign_17 rfl ?_
    refine T_icmp_eq (tgt := 23) dX12_isSign_18 (by decide) (fun c18 => ?_) (fun c18 => ?_)
    · refine T_aload_n dX12_isSign_23 rfl ?_
      refine T_dup dX12_isSign_24 rfl ?_
      refine T_get dX12_isSign_25 fl_X12_81_12 (mH_get hA rfl) rfl ?_
      refine T_top mA_13 ?_
      refine T_iconst (v := nI 1) dX12_isSign_28 (by decide) ?_
      refine T_iaddN dX12_isSign_29 ?_
      refine T_put dX12_isSign_30 fp_X12_81_12 (mH_get hA rfl) (nb rfl) (fun _ => ⟨rfl, rfl⟩) ?_
      first | refine T_h (mE_13 hA) ?_ | refine T_h (mF_13 hA) ?_
      refine T_h (h2 := mH A (mA u (a + 1)) B) rfl ?_
      refine T_iconst (v := 1) dX12_isSign_33 (by decide) ?_
      refine T_zret dX12_isSign_34 rfl rfl (nb rfl) (nb rfl) ?_
      rw [if_pos ⟨by omega, c18⟩]
      exact ⟨sI (bI_t ⟨by omega, c18⟩), rfl⟩
    · refine T_iconst (v := 0) dX12_isSign_21 (by decide) ?_
      refine T_zret dX12_isSign_22 rfl rfl (nb rfl) (nb rfl) ?_
      rw [if_neg (by rintro ⟨q1, q2⟩; first | exact c18 q2 | omega)]
      exact ⟨sI (bI_f (by rintro ⟨q1, q2⟩; first | exact c18 q2 | omega)), rfl⟩
theorem dig_I {x : Int32} {lo hi : Nat} (hh : hi ≤ 9) (hl : lo ≤ 9) (h : nI (48 + lo) ≤ x ∧ x ≤ nI (48 + hi)) : ∃ d : Nat, lo ≤ d ∧ d ≤ hi ∧ x = nI (48 + d) ∧ x - 48 = nI d := by
  have h0 : ¬ x < 0 := by
    intro q
    have h1 := h.1
    rw [Int32.le_iff_toInt_le, nI_toInt (by omega)] at h1
    rw [Int32.lt_iff_toInt_lt] at q
    have e : (0 : Int32).toInt = 0 := rfl
    omega
  obtain ⟨j, hj, rfl⟩ := nI_of2 (nI_toInt (show 48 + hi < 2 ^ 31 by omega)) h0 h.2
  have h1 := (nI_leI (by omega) (by omega)).mp h.1
  refine ⟨j - 48, by omega, by omega, by rw [show 48 + (j - 48) = j by omega], ?_⟩
  rw [show (48 : Int32) = nI 48 from rfl, pk_sub (by omega)]
/-- the digit there, or -9 -/
def dgV (g : Nat → Int32) (n a lo hi : Nat) : Int32 := if dgP g n a lo hi then g a - 48 else -9
theorem c_X12_digit (hA : A.length = 67) {a e lo hi : Nat} (he : e ≤ 240) (ha : a ≤ e) (hh : hi ≤ 9) (hl : lo ≤ 9) : ConE M_X12_digit [.ref 67, .int (nI e), .int (nI lo), .int (nI hi)] (mH A (mA u a) B) (some (.int (dgV (u.2 4) e a lo hi))) (mH A (mA u (if dgP (u.2 4) e a lo hi then a + 1 else a)) B) := by
  refine Con.of rfl (nb rfl) ?_
  unfold dgV
  refine T_aload_n dX12_digit_0 rfl ?_
  refine T_get dX12_digit_1 fl_X12_81_12 (mH_get hA rfl) rfl ?_
  refine T_top mA_13 ?_
  refine T_iload_n dX12_digit_4 rfl ?_
  refine T_icmp_geN (tgt := 31) dX12_digit_5 (by decide) (by omega) (by omega) (fun c5 => ?_) (fun c5 => ?_)
  · refine T_bipush (v := (-9)) dX12_digit_31 (by decide) ?_
    refine T_iret dX12_digit_33 rfl (nb rfl) (nb rfl) ?_
    rw [if_neg (by rintro ⟨q1, q2⟩; first | exact c28 q2 | omega), if_neg (by rintro ⟨q1, q2⟩; first | exact c28 q2 | omega)]
    exact ⟨rfl, rfl⟩
  · refine T_aload_n dX12_digit_8 rfl ?_
    refine T_get dX12_digit_9 fl_X12_16_12 (mH_get hA rfl) rfl ?_
    refine T_aload_n dX12_digit_12 rfl ?_
    refine T_get dX12_digit_13 fl_X12_81_12 (mH_get hA rfl) rfl ?_
    refine T_top mA_13 ?_
    refine T_ialdN dX12_digit_16 (mH_get hA rfl) (by omega) (by decide) ?_
    refine T_bipush (v := nI 48) dX12_digit_17 (by decide) ?_
    refine T_iload_n dX12_digit_19 rfl ?_
    refine T_iaddN dX12_digit_20 ?_
    refine T_bipush (v := nI 48) dX12_digit_21 (by decide) ?_
    refine T_iload_n dX12_digit_23 rfl ?_
    refine T_iaddN dX12_digit_24 ?_
    refine T_s3e (cu2 := 0) (su2 := 0) dX12_digit_25 ls_X12_71 rfl (c_X12_within _ _ _) (nb rfl) (nb rfl) (nb rfl) (nb rfl) (nb rfl) ?_
    refine T_if_neB (tgt := 34) dX12_digit_28 (by decide) (fun c28 => ?_) (fun c28 => ?_)
    · refine T_aload_n dX12_digit_34 rfl ?_
      refine T_dup dX12_digit_35 rfl ?_
      refine T_get dX12_digit_36 fl_X12_81_12 (mH_get hA rfl) rfl ?_
      refine T_top mA_13 ?_
      refine T_iconst (v := nI 1) dX12_digit_39 (by decide) ?_
      refine T_iaddN dX12_digit_40 ?_
      refine T_put dX12_digit_41 fp_X12_81_12 (mH_get hA rfl) (nb rfl) (fun _ => ⟨rfl, rfl⟩) ?_
      first | refine T_h (mE_13 hA) ?_ | refine T_h (mF_13 hA) ?_
      refine T_h (h2 := mH A (mA u (a + 1)) B) rfl ?_
      refine T_aload_n dX12_digit_44 rfl ?_
      refine T_get dX12_digit_45 fl_X12_16_12 (mH_get hA rfl) rfl ?_
      refine T_aload_n dX12_digit_48 rfl ?_
      refine T_get dX12_digit_49 fl_X12_81_12 (mH_get hA rfl) rfl ?_
      refine T_top mA_13 ?_
      refine T_iconst (v := nI 1) dX12_digit_52 (by decide) ?_
      refine T_isubN dX12_digit_53 (by omega) ?_
      refine T_ialdN dX12_digit_54 (mH_get hA rfl) (by omega) (by decide) ?_
      refine T_bipush (v := 48) dX12_digit_55 (by decide) ?_
      refine T_isub dX12_digit_57 ?_
      refine T_iret dX12_digit_58 rfl (nb rfl) (nb rfl) ?_
      rw [if_pos ⟨by omega, c28⟩, if_pos ⟨by omega, c28⟩]
      exact ⟨rfl, rfl⟩
    · refine T_bipush (v := (-9)) dX12_digit_31 (by decide) ?_
      refine T_iret dX12_digit_33 rfl (nb rfl) (nb rfl) ?_
      rw [if_neg (by rintro ⟨q1, q2⟩; first | exact c28 q2 | omega), if_neg (by rintro ⟨q1, q2⟩; first | exact c28 q2 | omega)]
      exact ⟨rfl, rfl⟩
theorem c_X12_isSignF (hA : A.length = 67) {f : Nat → Int32} (hf : u.2 4 = f) {a e : Nat} (code : Int32) (he : e ≤ 240) (ha : a ≤ e) : ConE M_X12_isSign [.ref 67, .int (nI e), .int code] (mH A (mA u a) B) (some (.int (bI (sgP f e a code)))) (mH A (mA u (if sgP f e a code then a + 1 else a)) B) := by
  subst hf
  exact c_X12_isSign hA code he ha
theorem c_X12_digitF (hA : A.length = 67) {f : Nat → Int32} (hf : u.2 4 = f) {a e : Nat} (lo hi : Nat) (he : e ≤ 240) (ha : a ≤ e) (hh : hi ≤ 9) (hl : lo ≤ 9) : ConE M_X12_digit [.ref 67, .int (nI e), .int (nI lo), .int (nI hi)] (mH A (mA u a) B) (some (.int (dgV f e a lo hi))) (mH A (mA u (if dgP f e a lo hi then a + 1 else a)) B) := by
  subst hf
  exact c_X12_digit hA he ha hh hl
theorem dig_cs {f : Nat → Int32} {e a lo hi : Nat} (hh : hi ≤ 9) (hl : lo ≤ 9) : (¬ dgP f e a lo hi ∧ dgV f e a lo hi = -9 ∧ (if dgP f e a lo hi then a + 1 else a) = a) ∨ (dgP f e a lo hi ∧ ¬ dgV f e a lo hi = -9 ∧ dgV f e a lo hi = f a - 48 ∧ (if dgP f e a lo hi then a + 1 else a) = a + 1) := by
  unfold dgV
  by_cases q : dgP f e a lo hi
  · rw [if_pos q, if_pos q]
    obtain ⟨d, d1, d2, d3, d4⟩ := dig_I hh hl q.2
    exact Or.inr ⟨q, by rw [d4]; exact nI_m9 (by omega), rfl, rfl⟩
  · rw [if_neg q, if_neg q]
    exact Or.inl ⟨q, rfl, rfl⟩
/-- the kind by its letter -/
def kdV (c : Int32) : Int32 := if c = 98 then 0 else if c = 111 then 1 else if c = 116 then 2 else -9
/-- how far a boat is read behind its comma: 3 is all -/
def btK (f : Nat → Int32) (e a : Nat) : Nat := if a < e ∧ ¬ kdV (f a) = -9 then (if dgP f e (a + 1) 0 1 then (if dgP f e (a + 2) 1 3 then 3 else 2) else 1) else 0
/-- the state of the reader: place, boats, what was read of them -/
abbrev mB (u : MSt) (a m : Nat) (R : Nat → Int32) : MSt := mA (va_up u.1 16 (nI m), va_up u.2 19 R) a
theorem mB_16 {a m : Nat} {R : Nat → Int32} : (mB u a m R).1 16 = nI m := by
  show va_up (va_up u.1 16 (nI m)) 13 (nI a) 16 = nI m
  unfold va_up
  rw [if_neg (by decide), if_pos rfl]
theorem mB_4 {f R : Nat → Int32} {x : Nat → Int32} (hf : u.2 4 = f) : ((x, va_up u.2 19 R) : MSt).2 4 = f := by
  show va_up u.2 19 R 4 = f
  unfold va_up
  rw [if_neg (by decide)]
  exact hf
def BtQ (A B : XH) (u : MSt) (f : Nat → Int32) (e a m : Nat) (R : Nat → Int32) (q : Option Value) (h' : XH) : Prop :=
  ∃ m' R', q = some (.int (bI (btK f e a = 3))) ∧ h' = mH A (mB u (a + btK f e a) m' R') B ∧ (btK f e a = 3 → m' = m + 1 ∧ R' (3 * m) = kdV (f a) ∧ R' (3 * m + 1) = f (a + 1) - 48 ∧ R' (3 * m + 2) = f (a + 2) - 48 ∧ ∀ j, j < 3 * m → R' j = R j)
theorem BtQ_no {f : Nat → Int32} {e a m k m' : Nat} {R R' : Nat → Int32} (hk : btK f e a = k) (h3 : ¬ k = 3) : BtQ A B u f e a m R (some (.int 0)) (mH A (mB u (a + k) m' R') B) := by
  subst hk
  exact ⟨m', R', sI (bI_f h3), rfl, fun q => absurd q h3⟩
theorem lp_X12_readBoat_66 (hA : A.length = 67) {f R : Nat → Int32} (hf : u.2 4 = f) {a e m : Nat} {c v : Int32} (he : e ≤ 240) (ha : a ≤ e) (hm : m < 3) (h1 : a < e → c = f a) (h2 : ¬ a < e → c = 0) (hv : v = kdV c) :
    T M_X12_readBoat x_E (x_Z M_X12_readBoat (BtQ A B u f e a m R)) 0 0 66 [(0, .ref 67), (1, .int (nI e)), (2, .int (nI (3 * m))), (3, .int c)] [.int v, .int (nI (3 * m)), .ref 78] (mH A (mB u a m R) B) := by
  refine T_iastN dX12_readBoat_66 (mH_get hA rfl) (by omega) (by decide) ?_
  first | refine T_h (mT_19 hA) ?_ | refine T_h (mS_19 hA) ?_
  refine T_h (h2 := mH A (mB u a m (upd R (3 * m) v)) B) rfl ?_
  refine T_aload_n dX12_readBoat_67 rfl ?_
  refine T_get dX12_readBoat_68 fl_X12_41_12 (mH_get hA rfl) rfl ?_
  refine T_iload_n dX12_readBoat_71 rfl ?_
  refine T_ialdN dX12_readBoat_72 (mH_get hA rfl) (by omega) (by decide) ?_
  refine T_top upd_s ?_
  refine T_bipush (v := (-9)) dX12_readBoat_73 (by decide) ?_
  refine T_icmp_ne (tgt := 80) dX12_readBoat_75 (by decide) (fun c75 => ?_) (fun c75 => ?_)
  · have hae : a < e := by
      by_cases q : a < e
      · exact q
      · rw [hv, h2 q] at c75
        exact absurd (by decide) c75
    have hkd : a < e ∧ ¬ kdV (f a) = -9 := ⟨hae, by rw [← h1 hae, ← hv]; exact c75⟩
    refine T_aload_n dX12_readBoat_80 rfl ?_
    refine T_dup dX12_readBoat_81 rfl ?_
    refine T_get dX12_readBoat_82 fl_X12_81_12 (mH_get hA rfl) rfl ?_
    refine T_top mA_13 ?_
    refine T_iconst (v := nI 1) dX12_readBoat_85 (by decide) ?_
    refine T_iaddN dX12_readBoat_86 ?_
    refine T_put dX12_readBoat_87 fp_X12_81_12 (mH_get hA rfl) (nb rfl) (fun _ => ⟨rfl, rfl⟩) ?_
    first | refine T_h (mE_13 hA) ?_ | refine T_h (mF_13 hA) ?_
    refine T_h (h2 := mH A (mB u (a + 1) m (upd R (3 * m) v)) B) rfl ?_
    refine T_aload_n dX12_readBoat_90 rfl ?_
    refine T_get dX12_readBoat_91 fl_X12_41_12 (mH_get hA rfl) rfl ?_
    refine T_iload_n dX12_readBoat_94 rfl ?_
    refine T_iconst (v := nI 1) dX12_readBoat_95 (by decide) ?_
    refine T_iaddN dX12_readBoat_96 ?_
    refine T_aload_n dX12_readBoat_97 rfl ?_
    refine T_iload_n dX12_readBoat_98 rfl ?_
    refine T_iconst (v := nI 0) dX12_readBoat_99 (by decide) ?_
    refine T_iconst (v := nI 1) dX12_readBoat_100 (by decide) ?_
    refine T_v3e (cu2 := 0) (su2 := 0) dX12_readBoat_101 lv_X12_124 rfl (mH_get hA rfl) rfl (c_X12_digitF (u := (va_up u.1 16 (nI m), va_up u.2 19 (upd R (3 * m) v))) (B := B) (f := f) (a := a + 1) hA (mB_4 hf) 0 1 he (by omega) (by decide) (by decide)) (nb rfl) (nb rfl) (nb rfl) (nb rfl) (nb rfl) ?_
    have D := dig_cs (f := f) (e := e) (a := a + 1) (lo := 0) (hi := 1) (by decide) (by decide)
    generalize dgV f e (a + 1) 0 1 = d1 at D ⊢
    generalize (if dgP f e (a + 1) 0 1 then a + 1 + 1 else a + 1) = a2 at D ⊢
    refine T_iastN dX12_readBoat_104 (mH_get hA rfl) (by omega) (by decide) ?_
    first | refine T_h (mT_19 hA) ?_ | refine T_h (mS_19 hA) ?_
    refine T_h (h2 := mH A (mB u a2 m (upd (upd R (3 * m) v) (3 * m + 1) d1)) B) rfl ?_
    refine T_aload_n dX12_readBoat_105 rfl ?_
    refine T_get dX12_readBoat_106 fl_X12_41_12 (mH_get hA rfl) rfl ?_
    refine T_iload_n dX12_readBoat_109 rfl ?_
    refine T_iconst (v := nI 1) dX12_readBoat_110 (by decide) ?_
    refine T_iaddN dX12_readBoat_111 ?_
    refine T_ialdN dX12_readBoat_112 (mH_get hA rfl) (by omega) (by decide) ?_
    refine T_top upd_s ?_
    refine T_bipush (v := (-9)) dX12_readBoat_113 (by decide) ?_
    refine T_icmp_ne (tgt := 120) dX12_readBoat_115 (by decide) (fun c115 => ?_) (fun c115 => ?_)
    · obtain ⟨D1, D2, D3, D4⟩ : dgP f e (a + 1) 0 1 ∧ ¬ d1 = -9 ∧ d1 = f (a + 1) - 48 ∧ a2 = a + 1 + 1 := by
        rcases D with D | D
        · exact absurd D.2.1 c115
        · exact D
      subst D4
      refine T_aload_n dX12_readBoat_120 rfl ?_
      refine T_get dX12_readBoat_121 fl_X12_41_12 (mH_get hA rfl) rfl ?_
      refine T_iload_n dX12_readBoat_124 rfl ?_
      refine T_iconst (v := nI 2) dX12_readBoat_125 (by decide) ?_
      refine T_iaddN dX12_readBoat_126 ?_
      refine T_aload_n dX12_readBoat_127 rfl ?_
      refine T_iload_n dX12_readBoat_128 rfl ?_
      refine T_iconst (v := nI 1) dX12_readBoat_129 (by decide) ?_
      refine T_iconst (v := nI 3) dX12_readBoat_130 (by decide) ?_
      refine T_v3e (cu2 := 0) (su2 := 0) dX12_readBoat_131 lv_X12_124 rfl (mH_get hA rfl) rfl (c_X12_digitF (u := (va_up u.1 16 (nI m), va_up u.2 19 (upd (upd R (3 * m) v) (3 * m + 1) d1))) (B := B) (f := f) (a := a + 2) hA (mB_4 hf) 1 3 he (by have := D1.1; omega) (by decide) (by decide)) (nb rfl) (nb rfl) (nb rfl) (nb rfl) (nb rfl) ?_
      have F := dig_cs (f := f) (e := e) (a := a + 2) (lo := 1) (hi := 3) (by decide) (by decide)
      generalize dgV f e (a + 2) 1 3 = d2 at F ⊢
      generalize (if dgP f e (a + 2) 1 3 then a + 2 + 1 else a + 2) = a3 at F ⊢
      refine T_iastN dX12_readBoat_134 (mH_get hA rfl) (by omega) (by decide) ?_
      first | refine T_h (mT_19 hA) ?_ | refine T_h (mS_19 hA) ?_
      refine T_h (h2 := mH A (mB u a3 m (upd (upd (upd R (3 * m) v) (3 * m + 1) d1) (3 * m + 2) d2)) B) rfl ?_
      refine T_aload_n dX12_readBoat_135 rfl ?_
      refine T_dup dX12_readBoat_136 rfl ?_
      refine T_get dX12_readBoat_137 fl_X12_114_12 (mH_get hA rfl) rfl ?_
      refine T_top mB_16 ?_
      refine T_iconst (v := nI 1) dX12_readBoat_140 (by decide) ?_
      refine T_iaddN dX12_readBoat_141 ?_
      refine T_put dX12_readBoat_142 fp_X12_114_12 (mH_get hA rfl) (nb rfl) (fun _ => ⟨rfl, rfl⟩) ?_
      first | refine T_h (mE_16 hA) ?_ | refine T_h (mF_16 hA) ?_
      refine T_h (h2 := mH A (mB u a3 (m + 1) (upd (upd (upd R (3 * m) v) (3 * m + 1) d1) (3 * m + 2) d2)) B) rfl ?_
      refine T_aload_n dX12_readBoat_145 rfl ?_
      refine T_get dX12_readBoat_146 fl_X12_41_12 (mH_get hA rfl) rfl ?_
      refine T_iload_n dX12_readBoat_149 rfl ?_
      refine T_iconst (v := nI 2) dX12_readBoat_150 (by decide) ?_
      refine T_iaddN dX12_readBoat_151 ?_
      refine T_ialdN dX12_readBoat_152 (mH_get hA rfl) (by omega) (by decide) ?_
      refine T_top upd_s ?_
      refine T_bipush (v := (-9)) dX12_readBoat_153 (by decide) ?_
      refine T_icmp_eq (tgt := 162) dX12_readBoat_155 (by decide) (fun c155 => ?_) (fun c155 => ?_)
      · refine T_iconst (v := 0) dX12_readBoat_162 (by decide) ?_
        refine T_zret dX12_readBoat_163 rfl rfl (nb rfl) (nb rfl) ?_
        first
          | (obtain ⟨F1, F2, F3⟩ : ¬ dgP f e (a + 2) 1 3 ∧ d2 = -9 ∧ a3 = a + 2 := by
               rcases F with F | F
               · exact F
               · exact absurd c155 F.2.1
             subst F3
             exact BtQ_no (k := 2) (by unfold btK; rw [if_pos hkd, if_pos D1, if_neg F1]) (by decide))
          | (obtain ⟨F1, F2, F3, F4⟩ : dgP f e (a + 2) 1 3 ∧ ¬ d2 = -9 ∧ d2 = f (a + 2) - 48 ∧ a3 = a + 2 + 1 := by
               rcases F with F | F
               · exact absurd F.2.1 c155
               · exact F
             subst F4
             have hk : btK f e a = 3 := by unfold btK; rw [if_pos hkd, if_pos D1, if_pos F1]
             refine ⟨m + 1, _, sI (bI_t hk), by rw [hk], fun _ => ⟨rfl, ?_, ?_, ?_, fun j hj => ?_⟩⟩
             · rw [upd_n (by omega), upd_n (by omega), upd_s, hv, h1 hae]
             · rw [upd_n (by omega), upd_s, D3]
             · rw [upd_s, F3]
             · rw [upd_n (by omega), upd_n (by omega), upd_n (by omega)])
      · refine T_iconst (v := 1) dX12_readBoat_158 (by decide) ?_
        refine T_goto (tgt := 163) dX12_readBoat_159 (by decide) ?_
        refine T_zret dX12_readBoat_163 rfl rfl (nb rfl) (nb rfl) ?_
        first
          | (obtain ⟨F1, F2, F3⟩ : ¬ dgP f e (a + 2) 1 3 ∧ d2 = -9 ∧ a3 = a + 2 := by
               rcases F with F | F
               · exact F
               · exact absurd c155 F.2.1
             subst F3
             exact BtQ_no (k := 2) (by unfold btK; rw [if_pos hkd, if_pos D1, if_neg F1]) (by decide))
          | (obtain ⟨F1, F2, F3, F4⟩ : dgP f e (a + 2) 1 3 ∧ ¬ d2 = -9 ∧ d2 = f (a + 2) - 48 ∧ a3 = a + 2 + 1 := by
               rcases F with F | F
               · exact absurd F.2.1 c155
               · exact F
             subst F4
             have hk : btK f e a = 3 := by unfold btK; rw [if_pos hkd, if_pos D1, if_pos F1]
             refine ⟨m + 1, _, sI (bI_t hk), by rw [hk], fun _ => ⟨rfl, ?_, ?_, ?_, fun j hj => ?_⟩⟩
             · rw [upd_n (by omega), upd_n (by omega), upd_s, hv, h1 hae]
             · rw [upd_n (by omega), upd_s, D3]
             · rw [upd_s, F3]
             · rw [upd_n (by omega), upd_n (by omega), upd_n (by omega)])
    · obtain ⟨D1, D2, D3⟩ : ¬ dgP f e (a + 1) 0 1 ∧ d1 = -9 ∧ a2 = a + 1 := by
        rcases D with D | D
        · exact D
        · exact absurd c115 D.2.1
      subst D3
      refine T_iconst (v := 0) dX12_readBoat_118 (by decide) ?_
      refine T_zret dX12_readBoat_119 rfl rfl (nb rfl) (nb rfl) ?_
      exact BtQ_no (k := 1) (by unfold btK; rw [if_pos hkd, if_neg D1]) (by decide)
  · refine T_iconst (v := 0) dX12_readBoat_78 (by decide) ?_
    refine T_zret dX12_readBoat_79 rfl rfl (nb rfl) (nb rfl) ?_
    exact BtQ_no (k := 0) (by unfold btK; rw [if_neg (fun q => q.2 (by rw [← h1 q.1, ← hv]; exact c75))]) (by decide)
theorem lp_X12_readBoat_28 (hA : A.length = 67) {f R : Nat → Int32} (hf : u.2 4 = f) {a e m : Nat} {c : Int32} (he : e ≤ 240) (ha : a ≤ e) (hm : m < 3) (h1 : a < e → c = f a) (h2 : ¬ a < e → c = 0) :
    T M_X12_readBoat x_E (x_Z M_X12_readBoat (BtQ A B u f e a m R)) 0 0 28 [(0, .ref 67), (1, .int (nI e)), (2, .int (nI (3 * m)))] [.int c] (mH A (mB u a m R) B) := by
  refine T_istore_n dX12_readBoat_28 (by decide) rfl ?_
  refine T_aload_n dX12_readBoat_29 rfl ?_
  refine T_get dX12_readBoat_30 fl_X12_41_12 (mH_get hA rfl) rfl ?_
  refine T_iload_n dX12_readBoat_33 rfl ?_
  refine T_iload_n dX12_readBoat_34 rfl ?_
  refine T_bipush (v := 98) dX12_readBoat_35 (by decide) ?_
  refine T_icmp_ne (tgt := 44) dX12_readBoat_37 (by decide) (fun c37 => ?_) (fun c37 => ?_)
  · refine T_iload_n dX12_readBoat_44 rfl ?_
    refine T_bipush (v := 111) dX12_readBoat_45 (by decide) ?_
    refine T_icmp_ne (tgt := 54) dX12_readBoat_47 (by decide) (fun c47 => ?_) (fun c47 => ?_)
    · refine T_iload_n dX12_readBoat_54 rfl ?_
      refine T_bipush (v := 116) dX12_readBoat_55 (by decide) ?_
      refine T_icmp_ne (tgt := 64) dX12_readBoat_57 (by decide) (fun c57 => ?_) (fun c57 => ?_)
      · refine T_bipush (v := (-9)) dX12_readBoat_64 (by decide) ?_
        refine lp_X12_readBoat_66 hA hf he ha hm h1 h2 ?_
        unfold kdV
        first
          | (rw [if_pos c37]; done)
          | (rw [if_neg c37, if_pos c47]; done)
          | (rw [if_neg c37, if_neg c47, if_pos c57]; done)
          | (rw [if_neg c37, if_neg c47, if_neg c57]; done)
      · refine T_iconst (v := 2) dX12_readBoat_60 (by decide) ?_
        refine T_goto (tgt := 66) dX12_readBoat_61 (by decide) ?_
        refine lp_X12_readBoat_66 hA hf he ha hm h1 h2 ?_
        unfold kdV
        first
          | (rw [if_pos c37]; done)
          | (rw [if_neg c37, if_pos c47]; done)
          | (rw [if_neg c37, if_neg c47, if_pos c57]; done)
          | (rw [if_neg c37, if_neg c47, if_neg c57]; done)
    · refine T_iconst (v := 1) dX12_readBoat_50 (by decide) ?_
      refine T_goto (tgt := 66) dX12_readBoat_51 (by decide) ?_
      refine lp_X12_readBoat_66 hA hf he ha hm h1 h2 ?_
      unfold kdV
      first
        | (rw [if_pos c37]; done)
        | (rw [if_neg c37, if_pos c47]; done)
        | (rw [if_neg c37, if_neg c47, if_pos c57]; done)
        | (rw [if_neg c37, if_neg c47, if_neg c57]; done)
  · refine T_iconst (v := 0) dX12_readBoat_40 (by decide) ?_
    refine T_goto (tgt := 66) dX12_readBoat_41 (by decide) ?_
    refine lp_X12_readBoat_66 hA hf he ha hm h1 h2 ?_
    unfold kdV
    first
      | (rw [if_pos c37]; done)
      | (rw [if_neg c37, if_pos c47]; done)
      | (rw [if_neg c37, if_neg c47, if_pos c57]; done)
      | (rw [if_neg c37, if_neg c47, if_neg c57]; done)
theorem c_X12_readBoat (hA : A.length = 67) {f R : Nat → Int32} (hf : u.2 4 = f) {a e m : Nat} (he : e ≤ 240) (ha : a ≤ e) (hm : m < 3) : Con M_X12_readBoat [.ref 67, .int (nI e)] (mH A (mB u a m R) B) (BtQ A B u f e a m R) := by
  refine Con.of rfl (nb rfl) ?_
  refine T_iconst (v := nI 3) dX12_readBoat_0 (by decide) ?_
  refine T_aload_n dX12_readBoat_1 rfl ?_
  refine T_get dX12_readBoat_2 fl_X12_114_12 (mH_get hA rfl) rfl ?_
  refine T_top mB_16 ?_
  refine T_imulN dX12_readBoat_5 ?_
  refine T_istore_n dX12_readBoat_6 (by decide) rfl ?_
  refine T_aload_n dX12_readBoat_7 rfl ?_
  refine T_get dX12_readBoat_8 fl_X12_81_12 (mH_get hA rfl) rfl ?_
  refine T_top mA_13 ?_
  refine T_iload_n dX12_readBoat_11 rfl ?_
  refine T_icmp_geN (tgt := 27) dX12_readBoat_12 (by decide) (by omega) (by omega) (fun c12 => ?_) (fun c12 => ?_)
  · refine T_iconst (v := 0) dX12_readBoat_27 (by decide) ?_
    exact lp_X12_readBoat_28 hA hf he ha hm (fun q => by first | rfl | (exfalso; omega)) (fun q => by first | rfl | (exfalso; omega))
  · refine T_aload_n dX12_readBoat_15 rfl ?_
    refine T_get dX12_readBoat_16 fl_X12_16_12 (mH_get hA rfl) rfl ?_
    refine T_aload_n dX12_readBoat_19 rfl ?_
    refine T_get dX12_readBoat_20 fl_X12_81_12 (mH_get hA rfl) rfl ?_
    refine T_top mA_13 ?_
    refine T_ialdN dX12_readBoat_23 (mH_get hA rfl) (by omega) (by decide) ?_
    refine T_top (show ((mB u a m R).2 4) a = f a from congrFun (mB_4 hf) a) ?_
    refine T_goto (tgt := 28) dX12_readBoat_24 (by decide) ?_
    exact lp_X12_readBoat_28 hA hf he ha hm (fun q => by first | rfl | (exfalso; omega)) (fun q => by first | rfl | (exfalso; omega))
end M22
