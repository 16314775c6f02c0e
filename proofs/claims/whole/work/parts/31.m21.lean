/-! the reference: a lake's text -/
section M22
variable {A B : XH} {u : MSt} {h : XH} {Z : XZ}
theorem va_s {α : Type} {f : Nat → α} {k : Nat} {x : α} : va_up f k x k = x := if_pos rfl
/-- the place of the reader -/
abbrev mA (u : MSt) (a : Nat) : MSt := (va_up u.1 13 (nI a), u.2)
theorem mA_13 {a : Nat} : (mA u a).1 13 = nI a := by
  show va_up u.1 13 (nI a) 13 = nI a
  exact va_s
abbrev sgP (g : Nat → Int32) (n a : Nat) (c : Int32) : Prop := a < n ∧ g a = c
abbrev dgP (g : Nat → Int32) (n a lo hi : Nat) : Prop := a < n ∧ nI (48 + lo) ≤ g a ∧ g a ≤ nI (48 + hi)
theorem c_X12_isSign (hA : A.length = 67) {a e : Nat} (code : Int32) (he : e ≤ 240) (ha : a ≤ e) : ConE M_X12_isSign [.ref 67, .int (nI e), .int code] (mH A (mA u a) B) (some (.int (bI (sgP (u.2 4) e a code)))) (mH A (mA u (if sgP (u.2 4) e a code then a + 1 else a)) B) := by
  refine Con.of rfl (nb rfl) ?_
  refine T_aload_n dX12_isSign_0 rfl ?_
  refine T_get dX12_isSign_1 fl_X12_81_12 (mH_get hA rfl) rfl ?_
  refine T_top mA_13 ?_
  refine T_iload_n dX12_isSign_4 rfl ?_
  refine T_icmp_geN (tgt := 21) dX12_isSign_5 (by decide) (by omega) (by omega) (fun c5 => ?_) (fun c5 => ?_)
  · refine T_iconst (v := 0) dX12_isSign_21 (by decide) ?_
    refine T_zret dX12_isSign_22 rfl rfl (nb rfl) (nb rfl) ?_
    rw [if_neg (by rintro ⟨q1, q2⟩; first | exact c18 q2 | omega)]
    exact ⟨sI (bI_f (by rintro ⟨q1, q2⟩; first | exact c18 q2 | omega)), rfl⟩
  · refine T_aload_n dX12_isSign_8 rfl ?_
    refine T_get dX12_isSign_9 fl_X12_16_12 (mH_get hA rfl) rfl ?_
    refine T_aload_n dX12_isSign_12 rfl ?_
    refine T_get dX12_isSign_13 fl_X12_81_12 (mH_get hA rfl) rfl ?_
    refine T_top mA_13 ?_
    refine T_ialdN dX12_isSign_16 (mH_get hA rfl) (by omega) (by decide) ?_
    refine T_iload_n dX12_isSign_17 rfl ?_
    refine T_icmp_eq (tgt := 23) dX12_isSign_18 (by decide) (fun c18 => ?_) (fun c18 => ?_)
    · refine T_aload_n dX12_isSign_23 rfl ?_
      refine T_dup dX12_isSign_24 rfl ?_
      refine T_get dX12_isSign_25 fl_X12_81_12 (mH_get hA rfl) rfl ?_
      refine T_top mA_13 ?_
      refine T_iconst (v := nI 1) dX12_isSign_28 (by decide) ?_
      refine T_iaddN dX12_isSign_29 ?_
      refine T_put dX12_isSign_30 fp_X12_81_12 (mH_get hA rfl) (nb rfl) (fun _ => ⟨rfl, rfl⟩) ?_
      first | refine T_h (mE_13 hA) ?_ | refine T_h (mF_13 hA) ?_
      refine T_h (h2 := mH A (mA u (a + 1)) B) rfl ?_
      refine T_iconst (v := 1) dX12_isSign_33 (by decide) ?_
      refine T_zret dX12_isSign_34 rfl rfl (nb rfl) (nb rfl) ?_
      rw [if_pos ⟨by omega, c18⟩]
      exact ⟨sI (bI_t ⟨by omega, c18⟩), rfl⟩
    · refine T_iconst (v := 0) dX12_isSign_21 (by decide) ?_
      refine T_zret dX12_isSign_22 rfl rfl (nb rfl) (nb rfl) ?_
      rw [if_neg (by rintro ⟨q1, q2⟩; first | exact c18 q2 | omega)]
      exact ⟨sI (bI_f (by rintro ⟨q1, q2⟩; first | exact c18 q2 | omega)), rfl⟩
theorem dig_I {x : Int32} {lo hi : Nat} (hh : hi ≤ 9) (hl : lo ≤ 9) (h : nI (48 + lo) ≤ x ∧ x ≤ nI (48 + hi)) : ∃ d : Nat, lo ≤ d ∧ d ≤ hi ∧ x = nI (48 + d) ∧ x - 48 = nI d := by
  have h0 : ¬ x < 0 := by
    intro q
    have h1 := h.1
    rw [Int32.le_iff_toInt_le, nI_toInt (by omega)] at h1
    rw [Int32.lt_iff_toInt_lt] at q
    have e : (0 : Int32).toInt = 0 := rfl
    omega
  obtain ⟨j, hj, rfl⟩ := nI_of2 (nI_toInt (show 48 + hi < 2 ^ 31 by omega)) h0 h.2
  have h1 := (nI_leI (by omega) (by omega)).mp h.1
  refine ⟨j - 48, by omega, by omega, by rw [show 48 + (j - 48) = j by omega], ?_⟩
  rw [show (48 : Int32) = nI 48 from rfl, pk_sub (by omega)]
/-- the digit there, or -9 -/
def dgV (g : Nat → Int32) (n a lo hi : Nat) : Int32 := if dgP g n a lo hi then g a - 48 else -9
theorem c_X12_digit (hA : A.length = 67) {a e lo hi : Nat} (he : e ≤ 240) (ha : a ≤ e) (hh : hi ≤ 9) (hl : lo ≤ 9) : ConE M_X12_digit [.ref 67, .int (nI e), .int (nI lo), .int (nI hi)] (mH A (mA u a) B) (some (.int (dgV (u.2 4) e a lo hi))) (mH A (mA u (if dgP (u.2 4) e a lo hi then a + 1 else a)) B) := by
  refine Con.of rfl (nb rfl) ?_
  unfold dgV
  refine T_aload_n dX12_digit_0 rfl ?_
  refine T_get dX12_digit_1 fl_X12_81_12 (mH_get hA rfl) rfl ?_
  refine T_top mA_13 ?_
  refine T_iload_n dX12_digit_4 rfl ?_
  refine T_icmp_geN (tgt := 31) dX12_digit_5 (by decide) (by omega) (by omega) (fun c5 => ?_) (fun c5 => ?_)
  · refine T_bipush (v := (-9)) dX12_digit_31 (by decide) ?_
    refine T_iret dX12_digit_33 rfl (nb rfl) (nb rfl) ?_
    rw [if_neg (by rintro ⟨q1, q2⟩; first | exact c28 q2 | omega), if_neg (by rintro ⟨q1, q2⟩; first | exact c28 q2 | omega)]
    exact ⟨rfl, rfl⟩
  · refine T_aload_n dX12_digit_8 rfl ?_
    refine T_get dX12_digit_9 fl_X12_16_12 (mH_get hA rfl) rfl ?_
    refine T_aload_n dX12_digit_12 rfl ?_
    refine T_get dX12_digit_13 fl_X12_81_12 (mH_get hA rfl) rfl ?_
    refine T_top mA_13 ?_
    refine T_ialdN dX12_digit_16 (mH_get hA rfl) (by omega) (by decide) ?_
    refine T_bipush (v := nI 48) dX12_digit_17 (by decide) ?_
    refine T_iload_n dX12_digit_19 rfl ?_
    refine T_iaddN dX12_digit_20 ?_
    refine T_bipush (v := nI 48) dX12_digit_21 (by decide) ?_
    refine T_iload_n dX12_digit_23 rfl ?_
    refine T_iaddN dX12_digit_24 ?_
    refine T_s3e (cu2 := 0) (su2 := 0) dX12_digit_25 ls_X12_71 rfl (c_X12_within _ _ _) (nb rfl) (nb rfl) (nb rfl) (nb rfl) (nb rfl) ?_
    refine T_if_neB (tgt := 34) dX12_digit_28 (by decide) (fun c28 => ?_) (fun c28 => ?_)
    · refine T_aload_n dX12_digit_34 rfl ?_
      refine T_dup dX12_digit_35 rfl ?_
      refine T_get dX12_digit_36 fl_X12_81_12 (mH_get hA rfl) rfl ?_
      refine T_top mA_13 ?_
      refine T_iconst (v := nI 1) dX12_digit_39 (by decide) ?_
      refine T_iaddN dX12_digit_40 ?_
      refine T_put dX12_digit_41 fp_X12_81_12 (mH_get hA rfl) (nb rfl) (fun _ => ⟨rfl, rfl⟩) ?_
      first | refine T_h (mE_13 hA) ?_ | refine T_h (mF_13 hA) ?_
      refine T_h (h2 := mH A (mA u (a + 1)) B) rfl ?_
      refine T_aload_n dX12_digit_44 rfl ?_
      refine T_get dX12_digit_45 fl_X12_16_12 (mH_get hA rfl) rfl ?_
      refine T_aload_n dX12_digit_48 rfl ?_
      refine T_get dX12_digit_49 fl_X12_81_12 (mH_get hA rfl) rfl ?_
      refine T_top mA_13 ?_
      refine T_iconst (v := nI 1) dX12_digit_52 (by decide) ?_
      refine T_isubN dX12_digit_53 (by omega) ?_
      refine T_ialdN dX12_digit_54 (mH_get hA rfl) (by omega) (by decide) ?_
      refine T_bipush (v := 48) dX12_digit_55 (by decide) ?_
      refine T_isub dX12_digit_57 ?_
      refine T_iret dX12_digit_58 rfl (nb rfl) (nb rfl) ?_
      rw [if_pos ⟨by omega, c28⟩, if_pos ⟨by omega, c28⟩]
      exact ⟨rfl, rfl⟩
    · refine T_bipush (v := (-9)) dX12_digit_31 (by decide) ?_
      refine T_iret dX12_digit_33 rfl (nb rfl) (nb rfl) ?_
      rw [if_neg (by rintro ⟨q1, q2⟩; first | exact c28 q2 | omega), if_neg (by rintro ⟨q1, q2⟩; first | exact c28 q2 | omega)]
      exact ⟨rfl, rfl⟩
end M22
