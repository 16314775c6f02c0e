/-! the reference: small methods -/
section M1
variable {A B : XH} {u : MSt} {h : XH}
theorem c_X12_fails (hA : A.length = 67) (k : Int32) : ConE M_X12_fails [.ref 67, .int k] (mH A u B) (some (.int (-10 - k))) (mH A (va_up u.1 0 k, u.2) B) := by
  refine Con.of rfl (nb rfl) ?_
  refine T_aload_n dX12_fails_0 rfl ?_
  refine T_iload_n dX12_fails_1 rfl ?_
  refine T_put dX12_fails_2 fp_X12_65_12 (mH_get hA rfl) (nb rfl) (fun _ => ⟨rfl, rfl⟩) ?_
  first | refine T_h (mE_0 hA) ?_ | refine T_h (mF_0 hA) ?_
  refine T_bipush (v := (-10)) dX12_fails_5 (by decide) ?_
  refine T_iload_n dX12_fails_7 rfl ?_
  refine T_isub dX12_fails_8 ?_
  refine T_iret dX12_fails_9 rfl (nb rfl) (nb rfl) ?_
  exact ⟨rfl, rfl⟩
theorem c_X12_lost (hA : A.length = 67) (k : Int32) : ConE M_X12_lost [.ref 67, .int k] (mH A u B) (some (.long (-9223372036854775808))) (mH A (va_up u.1 0 k, u.2) B) := by
  refine Con.of rfl (nb rfl) ?_
  refine T_aload_n dX12_lost_0 rfl ?_
  refine T_iload_n dX12_lost_1 rfl ?_
  refine T_put dX12_lost_2 fp_X12_65_12 (mH_get hA rfl) (nb rfl) (fun _ => ⟨rfl, rfl⟩) ?_
  first | refine T_h (mE_0 hA) ?_ | refine T_h (mF_0 hA) ?_
  refine T_ldc2 dX12_lost_5 kl_X12_69 ?_
  refine T_lret dX12_lost_8 rfl (nb rfl) (nb rfl) ?_
  exact ⟨rfl, rfl⟩
theorem c_X12_within (v a b : Int32) : ConE M_X12_within [.int v, .int a, .int b] h (some (.int (bI (a ≤ v ∧ v ≤ b)))) h := by
  refine Con.of rfl (nb rfl) ?_
  refine T_iload_n dX12_within_0 rfl ?_
  refine T_iload_n dX12_within_1 rfl ?_
  refine T_icmp_lt (tgt := 14) dX12_within_2 (by decide) (fun c2 => ?_) (fun c2 => ?_)
  · refine T_iconst (v := 0) dX12_within_14 (by decide) ?_
    refine T_zret dX12_within_15 rfl rfl (nb rfl) (nb rfl) ?_
    exact ⟨sI (by first | (unfold bI; simp_all; done) | (unfold bI; split <;> first | rfl | (exfalso; simp only [Int32.lt_iff_toInt_lt, Int32.le_iff_toInt_le] at *; omega))), rfl⟩
  · refine T_iload_n dX12_within_5 rfl ?_
    refine T_iload_n dX12_within_6 rfl ?_
    refine T_icmp_gt (tgt := 14) dX12_within_7 (by decide) (fun c7 => ?_) (fun c7 => ?_)
    · refine T_iconst (v := 0) dX12_within_14 (by decide) ?_
      refine T_zret dX12_within_15 rfl rfl (nb rfl) (nb rfl) ?_
      exact ⟨sI (by first | (unfold bI; simp_all; done) | (unfold bI; split <;> first | rfl | (exfalso; simp only [Int32.lt_iff_toInt_lt, Int32.le_iff_toInt_le] at *; omega))), rfl⟩
    · refine T_iconst (v := 1) dX12_within_10 (by decide) ?_
      refine T_goto (tgt := 15) dX12_within_11 (by decide) ?_
      refine T_zret dX12_within_15 rfl rfl (nb rfl) (nb rfl) ?_
      exact ⟨sI (by first | (unfold bI; simp_all; done) | (unfold bI; split <;> first | rfl | (exfalso; simp only [Int32.lt_iff_toInt_lt, Int32.le_iff_toInt_le] at *; omega))), rfl⟩
theorem c_X12_isSheet (k : Int32) : ConE M_X12_isSheet [.int k] h (some (.int (bI (0 ≤ k ∧ k ≤ 3)))) h := by
  refine Con.of rfl (nb rfl) ?_
  refine T_iload_n dX12_isSheet_0 rfl ?_
  refine T_iconst (v := 0) dX12_isSheet_1 (by decide) ?_
  refine T_iconst (v := 3) dX12_isSheet_2 (by decide) ?_
  refine T_s3e (cu2 := 0) (su2 := 0) dX12_isSheet_3 ls_X12_71 rfl (c_X12_within _ _ _) (nb rfl) (nb rfl) (nb rfl) (nb rfl) (nb rfl) ?_
  refine T_zret dX12_isSheet_6 rfl (z_bI _) (nb rfl) (nb rfl) ?_
  exact ⟨rfl, rfl⟩
theorem c_X12_isSort (k : Int32) : ConE M_X12_isSort [.int k] h (some (.int (bI (0 ≤ k ∧ k ≤ 2)))) h := by
  refine Con.of rfl (nb rfl) ?_
  refine T_iload_n dX12_isSort_0 rfl ?_
  refine T_iconst (v := 0) dX12_isSort_1 (by decide) ?_
  refine T_iconst (v := 2) dX12_isSort_2 (by decide) ?_
  refine T_s3e (cu2 := 0) (su2 := 0) dX12_isSort_3 ls_X12_71 rfl (c_X12_within _ _ _) (nb rfl) (nb rfl) (nb rfl) (nb rfl) (nb rfl) ?_
  refine T_zret dX12_isSort_6 rfl (z_bI _) (nb rfl) (nb rfl) ?_
  exact ⟨rfl, rfl⟩
def mAgainst (s len sort i n : Int32) : Int32 := if s ≠ -9 ∧ s ≠ sort then 2 else if s = -9 then 1 else if n < 0 then 4 else if i < 0 ∨ len < i ∨ len - i < n then 3 else 0
theorem c_X12_against (hA : A.length = 67) (sh sort i n : Int32) (hs : vp_in sh 4) : ConE M_X12_against [.ref 67, .int sh, .int sort, .int i, .int n] (mH A u B) (some (.int (mAgainst (u.2 2 sh.toNatClampNeg) (u.2 3 sh.toNatClampNeg) sort i n))) (mH A u B) := by
  refine Con.of rfl (nb rfl) ?_
  refine T_aload_n dX12_against_0 rfl ?_
  refine T_get dX12_against_1 fl_X12_9_12 (mH_get hA rfl) rfl ?_
  refine T_iload_n dX12_against_4 rfl ?_
  refine T_iald dX12_against_5 (mH_get hA rfl) (by assumption) ?_
  refine T_bipush (v := (-9)) dX12_against_6 (by decide) ?_
  refine T_icmp_eq (tgt := 23) dX12_against_8 (by decide) (fun c8 => ?_) (fun c8 => ?_)
  · refine T_aload_n dX12_against_23 rfl ?_
    refine T_get dX12_against_24 fl_X12_9_12 (mH_get hA rfl) rfl ?_
    refine T_iload_n dX12_against_27 rfl ?_
    refine T_iald dX12_against_28 (mH_get hA rfl) (by assumption) ?_
    refine T_bipush (v := (-9)) dX12_against_29 (by decide) ?_
    refine T_icmp_ne (tgt := 36) dX12_against_31 (by decide) (fun c31 => ?_) (fun c31 => ?_)
    · refine T_iload dX12_against_36 rfl ?_
      refine T_if_ge (tgt := 43) dX12_against_38 (by decide) (fun c38 => ?_) (fun c38 => ?_)
      · refine T_iload_n dX12_against_43 rfl ?_
        refine T_if_lt (tgt := 70) dX12_against_44 (by decide) (fun c44 => ?_) (fun c44 => ?_)
        · refine T_iconst (v := 3) dX12_against_70 (by decide) ?_
          refine T_goto (tgt := 75) dX12_against_71 (by decide) ?_
          refine T_iret dX12_against_75 rfl (nb rfl) (nb rfl) ?_
          refine ⟨sI ?_, rfl⟩
          unfold mAgainst
          repeat' split
          all_goals first | rfl | (exfalso; simp_all; done) | (exfalso; simp only [Int32.lt_iff_toInt_lt, Int32.le_iff_toInt_le, ← Int32.toInt_inj] at *; omega)
        · refine T_iload_n dX12_against_47 rfl ?_
          refine T_aload_n dX12_against_48 rfl ?_
          refine T_get dX12_against_49 fl_X12_13_12 (mH_get hA rfl) rfl ?_
          refine T_iload_n dX12_against_52 rfl ?_
          refine T_iald dX12_against_53 (mH_get hA rfl) (by assumption) ?_
          refine T_icmp_gt (tgt := 70) dX12_against_54 (by decide) (fun c54 => ?_) (fun c54 => ?_)
          · refine T_iconst (v := 3) dX12_against_70 (by decide) ?_
            refine T_goto (tgt := 75) dX12_against_71 (by decide) ?_
            refine T_iret dX12_against_75 rfl (nb rfl) (nb rfl) ?_
            refine ⟨sI ?_, rfl⟩
            unfold mAgainst
            repeat' split
            all_goals first | rfl | (exfalso; simp_all; done) | (exfalso; simp only [Int32.lt_iff_toInt_lt, Int32.le_iff_toInt_le, ← Int32.toInt_inj] at *; omega)
          · refine T_iload dX12_against_57 rfl ?_
            refine T_aload_n dX12_against_59 rfl ?_
            refine T_get dX12_against_60 fl_X12_13_12 (mH_get hA rfl) rfl ?_
            refine T_iload_n dX12_against_63 rfl ?_
            refine T_iald dX12_against_64 (mH_get hA rfl) (by assumption) ?_
            refine T_iload_n dX12_against_65 rfl ?_
            refine T_isub dX12_against_66 ?_
            refine T_icmp_le (tgt := 74) dX12_against_67 (by decide) (fun c67 => ?_) (fun c67 => ?_)
            · refine T_iconst (v := 0) dX12_against_74 (by decide) ?_
              refine T_iret dX12_against_75 rfl (nb rfl) (nb rfl) ?_
              refine ⟨sI ?_, rfl⟩
              unfold mAgainst
              repeat' split
              all_goals first | rfl | (exfalso; simp_all; done) | (exfalso; simp only [Int32.lt_iff_toInt_lt, Int32.le_iff_toInt_le, ← Int32.toInt_inj] at *; omega)
            · refine T_iconst (v := 3) dX12_against_70 (by decide) ?_
              refine T_goto (tgt := 75) dX12_against_71 (by decide) ?_
              refine T_iret dX12_against_75 rfl (nb rfl) (nb rfl) ?_
              refine ⟨sI ?_, rfl⟩
              unfold mAgainst
              repeat' split
              all_goals first | rfl | (exfalso; simp_all; done) | (exfalso; simp only [Int32.lt_iff_toInt_lt, Int32.le_iff_toInt_le, ← Int32.toInt_inj] at *; omega)
      · refine T_iconst (v := 4) dX12_against_41 (by decide) ?_
        refine T_iret dX12_against_42 rfl (nb rfl) (nb rfl) ?_
        refine ⟨sI ?_, rfl⟩
        unfold mAgainst
        repeat' split
        all_goals first | rfl | (exfalso; simp_all; done) | (exfalso; simp only [Int32.lt_iff_toInt_lt, Int32.le_iff_toInt_le, ← Int32.toInt_inj] at *; omega)
    · refine T_iconst (v := 1) dX12_against_34 (by decide) ?_
      refine T_iret dX12_against_35 rfl (nb rfl) (nb rfl) ?_
      refine ⟨sI ?_, rfl⟩
      unfold mAgainst
      repeat' split
      all_goals first | rfl | (exfalso; simp_all; done) | (exfalso; simp only [Int32.lt_iff_toInt_lt, Int32.le_iff_toInt_le, ← Int32.toInt_inj] at *; omega)
  · refine T_aload_n dX12_against_11 rfl ?_
    refine T_get dX12_against_12 fl_X12_9_12 (mH_get hA rfl) rfl ?_
    refine T_iload_n dX12_against_15 rfl ?_
    refine T_iald dX12_against_16 (mH_get hA rfl) (by assumption) ?_
    refine T_iload_n dX12_against_17 rfl ?_
    refine T_icmp_eq (tgt := 23) dX12_against_18 (by decide) (fun c18 => ?_) (fun c18 => ?_)
    · refine T_aload_n dX12_against_23 rfl ?_
      refine T_get dX12_against_24 fl_X12_9_12 (mH_get hA rfl) rfl ?_
      refine T_iload_n dX12_against_27 rfl ?_
      refine T_iald dX12_against_28 (mH_get hA rfl) (by assumption) ?_
      refine T_bipush (v := (-9)) dX12_against_29 (by decide) ?_
      refine T_icmp_ne (tgt := 36) dX12_against_31 (by decide) (fun c31 => ?_) (fun c31 => ?_)
      · refine T_iload dX12_against_36 rfl ?_
        refine T_if_ge (tgt := 43) dX12_against_38 (by decide) (fun c38 => ?_) (fun c38 => ?_)
        · refine T_iload_n dX12_against_43 rfl ?_
          refine T_if_lt (tgt := 70) dX12_against_44 (by decide) (fun c44 => ?_) (fun c44 => ?_)
          · refine T_iconst (v := 3) dX12_against_70 (by decide) ?_
            refine T_goto (tgt := 75) dX12_against_71 (by decide) ?_
            refine T_iret dX12_against_75 rfl (nb rfl) (nb rfl) ?_
            refine ⟨sI ?_, rfl⟩
            unfold mAgainst
            repeat' split
            all_goals first | rfl | (exfalso; simp_all; done) | (exfalso; simp only [Int32.lt_iff_toInt_lt, Int32.le_iff_toInt_le, ← Int32.toInt_inj] at *; omega)
          · refine T_iload_n dX12_against_47 rfl ?_
            refine T_aload_n dX12_against_48 rfl ?_
            refine T_get dX12_against_49 fl_X12_13_12 (mH_get hA rfl) rfl ?_
            refine T_iload_n dX12_against_52 rfl ?_
            refine T_iald dX12_against_53 (mH_get hA rfl) (by assumption) ?_
            refine T_icmp_gt (tgt := 70) dX12_against_54 (by decide) (fun c54 => ?_) (fun c54 => ?_)
            · refine T_iconst (v := 3) dX12_against_70 (by decide) ?_
              refine T_goto (tgt := 75) dX12_against_71 (by decide) ?_
              refine T_iret dX12_against_75 rfl (nb rfl) (nb rfl) ?_
              refine ⟨sI ?_, rfl⟩
              unfold mAgainst
              repeat' split
              all_goals first | rfl | (exfalso; simp_all; done) | (exfalso; simp only [Int32.lt_iff_toInt_lt, Int32.le_iff_toInt_le, ← Int32.toInt_inj] at *; omega)
            · refine T_iload dX12_against_57 rfl ?_
              refine T_aload_n dX12_against_59 rfl ?_
              refine T_get dX12_against_60 fl_X12_13_12 (mH_get hA rfl) rfl ?_
              refine T_iload_n dX12_against_63 rfl ?_
              refine T_iald dX12_against_64 (mH_get hA rfl) (by assumption) ?_
              refine T_iload_n dX12_against_65 rfl ?_
              refine T_isub dX12_against_66 ?_
              refine T_icmp_le (tgt := 74) dX12_against_67 (by decide) (fun c67 => ?_) (fun c67 => ?_)
              · refine T_iconst (v := 0) dX12_against_74 (by decide) ?_
                refine T_iret dX12_against_75 rfl (nb rfl) (nb rfl) ?_
                refine ⟨sI ?_, rfl⟩
                unfold mAgainst
                repeat' split
                all_goals first | rfl | (exfalso; simp_all; done) | (exfalso; simp only [Int32.lt_iff_toInt_lt, Int32.le_iff_toInt_le, ← Int32.toInt_inj] at *; omega)
              · refine T_iconst (v := 3) dX12_against_70 (by decide) ?_
                refine T_goto (tgt := 75) dX12_against_71 (by decide) ?_
                refine T_iret dX12_against_75 rfl (nb rfl) (nb rfl) ?_
                refine ⟨sI ?_, rfl⟩
                unfold mAgainst
                repeat' split
                all_goals first | rfl | (exfalso; simp_all; done) | (exfalso; simp only [Int32.lt_iff_toInt_lt, Int32.le_iff_toInt_le, ← Int32.toInt_inj] at *; omega)
        · refine T_iconst (v := 4) dX12_against_41 (by decide) ?_
          refine T_iret dX12_against_42 rfl (nb rfl) (nb rfl) ?_
          refine ⟨sI ?_, rfl⟩
          unfold mAgainst
          repeat' split
          all_goals first | rfl | (exfalso; simp_all; done) | (exfalso; simp only [Int32.lt_iff_toInt_lt, Int32.le_iff_toInt_le, ← Int32.toInt_inj] at *; omega)
      · refine T_iconst (v := 1) dX12_against_34 (by decide) ?_
        refine T_iret dX12_against_35 rfl (nb rfl) (nb rfl) ?_
        refine ⟨sI ?_, rfl⟩
        unfold mAgainst
        repeat' split
        all_goals first | rfl | (exfalso; simp_all; done) | (exfalso; simp only [Int32.lt_iff_toInt_lt, Int32.le_iff_toInt_le, ← Int32.toInt_inj] at *; omega)
    · refine T_iconst (v := 2) dX12_against_21 (by decide) ?_
      refine T_iret dX12_against_22 rfl (nb rfl) (nb rfl) ?_
      refine ⟨sI ?_, rfl⟩
      unfold mAgainst
      repeat' split
      all_goals first | rfl | (exfalso; simp_all; done) | (exfalso; simp only [Int32.lt_iff_toInt_lt, Int32.le_iff_toInt_le, ← Int32.toInt_inj] at *; omega)
theorem c_X12_isBoat (hA : A.length = 67) (b : Int32) : ConE M_X12_isBoat [.ref 67, .int b] (mH A u B) (some (.int (bI (0 ≤ b ∧ b < u.1 7)))) (mH A u B) := by
  refine Con.of rfl (nb rfl) ?_
  refine T_iload_n dX12_isBoat_0 rfl ?_
  refine T_if_lt (tgt := 16) dX12_isBoat_1 (by decide) (fun c1 => ?_) (fun c1 => ?_)
  · refine T_iconst (v := 0) dX12_isBoat_16 (by decide) ?_
    refine T_zret dX12_isBoat_17 rfl rfl (nb rfl) (nb rfl) ?_
    exact ⟨sI (by first | (unfold bI; simp_all; done) | (unfold bI; split <;> first | rfl | (exfalso; simp only [Int32.lt_iff_toInt_lt, Int32.le_iff_toInt_le] at *; omega))), rfl⟩
  · refine T_iload_n dX12_isBoat_4 rfl ?_
    refine T_aload_n dX12_isBoat_5 rfl ?_
    refine T_get dX12_isBoat_6 fl_X12_75_12 (mH_get hA rfl) rfl ?_
    refine T_icmp_ge (tgt := 16) dX12_isBoat_9 (by decide) (fun c9 => ?_) (fun c9 => ?_)
    · refine T_iconst (v := 0) dX12_isBoat_16 (by decide) ?_
      refine T_zret dX12_isBoat_17 rfl rfl (nb rfl) (nb rfl) ?_
      exact ⟨sI (by first | (unfold bI; simp_all; done) | (unfold bI; split <;> first | rfl | (exfalso; simp only [Int32.lt_iff_toInt_lt, Int32.le_iff_toInt_le] at *; omega))), rfl⟩
    · refine T_iconst (v := 1) dX12_isBoat_12 (by decide) ?_
      refine T_goto (tgt := 17) dX12_isBoat_13 (by decide) ?_
      refine T_zret dX12_isBoat_17 rfl rfl (nb rfl) (nb rfl) ?_
      exact ⟨sI (by first | (unfold bI; simp_all; done) | (unfold bI; split <;> first | rfl | (exfalso; simp only [Int32.lt_iff_toInt_lt, Int32.le_iff_toInt_le] at *; omega))), rfl⟩
theorem c_X12_isHour (hA : A.length = 67) (b : Int32) : ConE M_X12_isHour [.ref 67, .int b] (mH A u B) (some (.int (bI (0 ≤ b ∧ b < u.1 6)))) (mH A u B) := by
  refine Con.of rfl (nb rfl) ?_
  refine T_iload_n dX12_isHour_0 rfl ?_
  refine T_if_lt (tgt := 16) dX12_isHour_1 (by decide) (fun c1 => ?_) (fun c1 => ?_)
  · refine T_iconst (v := 0) dX12_isHour_16 (by decide) ?_
    refine T_zret dX12_isHour_17 rfl rfl (nb rfl) (nb rfl) ?_
    exact ⟨sI (by first | (unfold bI; simp_all; done) | (unfold bI; split <;> first | rfl | (exfalso; simp only [Int32.lt_iff_toInt_lt, Int32.le_iff_toInt_le] at *; omega))), rfl⟩
  · refine T_iload_n dX12_isHour_4 rfl ?_
    refine T_aload_n dX12_isHour_5 rfl ?_
    refine T_get dX12_isHour_6 fl_X12_78_12 (mH_get hA rfl) rfl ?_
    refine T_icmp_ge (tgt := 16) dX12_isHour_9 (by decide) (fun c9 => ?_) (fun c9 => ?_)
    · refine T_iconst (v := 0) dX12_isHour_16 (by decide) ?_
      refine T_zret dX12_isHour_17 rfl rfl (nb rfl) (nb rfl) ?_
      exact ⟨sI (by first | (unfold bI; simp_all; done) | (unfold bI; split <;> first | rfl | (exfalso; simp only [Int32.lt_iff_toInt_lt, Int32.le_iff_toInt_le] at *; omega))), rfl⟩
    · refine T_iconst (v := 1) dX12_isHour_12 (by decide) ?_
      refine T_goto (tgt := 17) dX12_isHour_13 (by decide) ?_
      refine T_zret dX12_isHour_17 rfl rfl (nb rfl) (nb rfl) ?_
      exact ⟨sI (by first | (unfold bI; simp_all; done) | (unfold bI; split <;> first | rfl | (exfalso; simp only [Int32.lt_iff_toInt_lt, Int32.le_iff_toInt_le] at *; omega))), rfl⟩
theorem c_X12_all (hA : A.length = 67) : ConE M_X12_all [.ref 67] (mH A u B) (some (.int ((1 : Int32) <<< (u.1 7 &&& 31) - 1))) (mH A u B) := by
  refine Con.of rfl (nb rfl) ?_
  refine T_iconst (v := 1) dX12_all_0 (by decide) ?_
  refine T_aload_n dX12_all_1 rfl ?_
  refine T_get dX12_all_2 fl_X12_75_12 (mH_get hA rfl) rfl ?_
  refine T_ishl dX12_all_5 ?_
  refine T_iconst (v := 1) dX12_all_6 (by decide) ?_
  refine T_isub dX12_all_7 ?_
  refine T_iret dX12_all_8 rfl (nb rfl) (nb rfl) ?_
  exact ⟨rfl, rfl⟩
end M1
section M2
variable {A B : XH} {u : MSt} {h : XH}
abbrev mOver (P fr : Nat → Int32) (wide : Int32) (b : Nat) : Prop := P b = if fr b = 0 then wide else 0
theorem c_X12_isOver (hA : A.length = 67) {b : Nat} (hb : b < 3) : ConE M_X12_isOver [.ref 67, .int (nI b)] (mH A u B) (some (.int (bI (mOver (u.2 20) (u.2 11) (u.1 5) b)))) (mH A u B) := by
  refine Con.of rfl (nb rfl) ?_
  refine T_aload_n dX12_isOver_0 rfl ?_
  refine T_get dX12_isOver_1 fl_X12_44_12 (mH_get hA rfl) rfl ?_
  refine T_iload_n dX12_isOver_4 rfl ?_
  refine T_ialdN dX12_isOver_5 (mH_get hA rfl) (by omega) (by decide) ?_
  refine T_aload_n dX12_isOver_6 rfl ?_
  refine T_get dX12_isOver_7 fl_X12_29_12 (mH_get hA rfl) rfl ?_
  refine T_iload_n dX12_isOver_10 rfl ?_
  refine T_ialdN dX12_isOver_11 (mH_get hA rfl) (by omega) (by decide) ?_
  refine T_if_ne (tgt := 22) dX12_isOver_12 (by decide) (fun c12 => ?_) (fun c12 => ?_)
  · refine T_iconst (v := 0) dX12_isOver_22 (by decide) ?_
    refine T_icmp_ne (tgt := 30) dX12_isOver_23 (by decide) (fun c23 => ?_) (fun c23 => ?_)
    · refine T_iconst (v := 0) dX12_isOver_30 (by decide) ?_
      refine T_zret dX12_isOver_31 rfl rfl (nb rfl) (nb rfl) ?_
      exact ⟨sI (by first | (unfold bI; simp_all; done) | (unfold bI; split <;> first | rfl | (exfalso; simp only [Int32.lt_iff_toInt_lt, Int32.le_iff_toInt_le] at *; omega))), rfl⟩
    · refine T_iconst (v := 1) dX12_isOver_26 (by decide) ?_
      refine T_goto (tgt := 31) dX12_isOver_27 (by decide) ?_
      refine T_zret dX12_isOver_31 rfl rfl (nb rfl) (nb rfl) ?_
      exact ⟨sI (by first | (unfold bI; simp_all; done) | (unfold bI; split <;> first | rfl | (exfalso; simp only [Int32.lt_iff_toInt_lt, Int32.le_iff_toInt_le] at *; omega))), rfl⟩
  · refine T_aload_n dX12_isOver_15 rfl ?_
    refine T_get dX12_isOver_16 fl_X12_108_12 (mH_get hA rfl) rfl ?_
    refine T_goto (tgt := 23) dX12_isOver_19 (by decide) ?_
    refine T_icmp_ne (tgt := 30) dX12_isOver_23 (by decide) (fun c23 => ?_) (fun c23 => ?_)
    · refine T_iconst (v := 0) dX12_isOver_30 (by decide) ?_
      refine T_zret dX12_isOver_31 rfl rfl (nb rfl) (nb rfl) ?_
      exact ⟨sI (by first | (unfold bI; simp_all; done) | (unfold bI; split <;> first | rfl | (exfalso; simp only [Int32.lt_iff_toInt_lt, Int32.le_iff_toInt_le] at *; omega))), rfl⟩
    · refine T_iconst (v := 1) dX12_isOver_26 (by decide) ?_
      refine T_goto (tgt := 31) dX12_isOver_27 (by decide) ?_
      refine T_zret dX12_isOver_31 rfl rfl (nb rfl) (nb rfl) ?_
      exact ⟨sI (by first | (unfold bI; simp_all; done) | (unfold bI; split <;> first | rfl | (exfalso; simp only [Int32.lt_iff_toInt_lt, Int32.le_iff_toInt_le] at *; omega))), rfl⟩
theorem c_X12_isWith (hA : A.length = 67) {b : Nat} (w : Int32) (hb : b < 3) : ConE M_X12_isWith [.ref 67, .int (nI b), .int w] (mH A u B) (some (.int (bI (w = u.2 11 b + 1)))) (mH A u B) := by
  refine Con.of rfl (nb rfl) ?_
  refine T_iload_n dX12_isWith_0 rfl ?_
  refine T_aload_n dX12_isWith_1 rfl ?_
  refine T_get dX12_isWith_2 fl_X12_29_12 (mH_get hA rfl) rfl ?_
  refine T_iload_n dX12_isWith_5 rfl ?_
  refine T_ialdN dX12_isWith_6 (mH_get hA rfl) (by omega) (by decide) ?_
  refine T_iconst (v := 1) dX12_isWith_7 (by decide) ?_
  refine T_iadd dX12_isWith_8 ?_
  refine T_icmp_ne (tgt := 16) dX12_isWith_9 (by decide) (fun c9 => ?_) (fun c9 => ?_)
  · refine T_iconst (v := 0) dX12_isWith_16 (by decide) ?_
    refine T_zret dX12_isWith_17 rfl rfl (nb rfl) (nb rfl) ?_
    exact ⟨sI (by first | (unfold bI; simp_all; done) | (unfold bI; split <;> first | rfl | (exfalso; simp only [Int32.lt_iff_toInt_lt, Int32.le_iff_toInt_le] at *; omega))), rfl⟩
  · refine T_iconst (v := 1) dX12_isWith_12 (by decide) ?_
    refine T_goto (tgt := 17) dX12_isWith_13 (by decide) ?_
    refine T_zret dX12_isWith_17 rfl rfl (nb rfl) (nb rfl) ?_
    exact ⟨sI (by first | (unfold bI; simp_all; done) | (unfold bI; split <;> first | rfl | (exfalso; simp only [Int32.lt_iff_toInt_lt, Int32.le_iff_toInt_le] at *; omega))), rfl⟩
def mBounded (wide c : Int32) : Int32 := if c < 0 then 0 else if wide < c then wide else c
theorem c_X12_bounded (hA : A.length = 67) (c : Int32) : ConE M_X12_bounded [.ref 67, .int c] (mH A u B) (some (.int (mBounded (u.1 5) c))) (mH A u B) := by
  refine Con.of rfl (nb rfl) ?_
  refine T_iload_n dX12_bounded_0 rfl ?_
  refine T_if_ge (tgt := 8) dX12_bounded_1 (by decide) (fun c1 => ?_) (fun c1 => ?_)
  · refine T_iload_n dX12_bounded_8 rfl ?_
    refine T_aload_n dX12_bounded_9 rfl ?_
    refine T_get dX12_bounded_10 fl_X12_108_12 (mH_get hA rfl) rfl ?_
    refine T_icmp_le (tgt := 23) dX12_bounded_13 (by decide) (fun c13 => ?_) (fun c13 => ?_)
    · refine T_iload_n dX12_bounded_23 rfl ?_
      refine T_iret dX12_bounded_24 rfl (nb rfl) (nb rfl) ?_
      refine ⟨sI ?_, rfl⟩
      unfold mBounded
      repeat' split
      all_goals first | rfl | (exfalso; simp_all; done) | (exfalso; simp only [Int32.lt_iff_toInt_lt, Int32.le_iff_toInt_le, ← Int32.toInt_inj] at *; omega)
    · refine T_aload_n dX12_bounded_16 rfl ?_
      refine T_get dX12_bounded_17 fl_X12_108_12 (mH_get hA rfl) rfl ?_
      refine T_goto (tgt := 24) dX12_bounded_20 (by decide) ?_
      refine T_iret dX12_bounded_24 rfl (nb rfl) (nb rfl) ?_
      refine ⟨sI ?_, rfl⟩
      unfold mBounded
      repeat' split
      all_goals first | rfl | (exfalso; simp_all; done) | (exfalso; simp only [Int32.lt_iff_toInt_lt, Int32.le_iff_toInt_le, ← Int32.toInt_inj] at *; omega)
  · refine T_iconst (v := 0) dX12_bounded_4 (by decide) ?_
    refine T_goto (tgt := 24) dX12_bounded_5 (by decide) ?_
    refine T_iret dX12_bounded_24 rfl (nb rfl) (nb rfl) ?_
    refine ⟨sI ?_, rfl⟩
    unfold mBounded
    repeat' split
    all_goals first | rfl | (exfalso; simp_all; done) | (exfalso; simp only [Int32.lt_iff_toInt_lt, Int32.le_iff_toInt_le, ← Int32.toInt_inj] at *; omega)
theorem c_X12_leaves (hA : A.length = 67) (k : Int32) : ConE M_X12_leaves [.ref 67, .int k] (mH A u B) none (mH A (va_up u.1 1 (31 * u.1 1 + k), u.2) B) := by
  refine Con.of rfl (nb rfl) ?_
  refine T_aload_n dX12_leaves_0 rfl ?_
  refine T_bipush (v := 31) dX12_leaves_1 (by decide) ?_
  refine T_aload_n dX12_leaves_3 rfl ?_
  refine T_get dX12_leaves_4 fl_X12_234_12 (mH_get hA rfl) rfl ?_
  refine T_imul dX12_leaves_7 ?_
  refine T_iload_n dX12_leaves_8 rfl ?_
  refine T_iadd dX12_leaves_9 ?_
  refine T_put dX12_leaves_10 fp_X12_234_12 (mH_get hA rfl) (nb rfl) (fun _ => ⟨rfl, rfl⟩) ?_
  first | refine T_h (mE_1 hA) ?_ | refine T_h (mF_1 hA) ?_
  refine T_vret dX12_leaves_13 rfl (nb rfl) (nb rfl) ?_
  exact ⟨rfl, rfl⟩
theorem c_X12_windBy (k : Int32) : ConE M_X12_windBy [.int k] h (some (.int (if k = 46 then 0 else if k = 62 then 1 else if k = 60 then 2 else -9))) h := by
  refine Con.of rfl (nb rfl) ?_
  refine T_iload_n dX12_windBy_0 rfl ?_
  refine T_bipush (v := 46) dX12_windBy_1 (by decide) ?_
  refine T_icmp_ne (tgt := 10) dX12_windBy_3 (by decide) (fun c3 => ?_) (fun c3 => ?_)
  · refine T_iload_n dX12_windBy_10 rfl ?_
    refine T_bipush (v := 62) dX12_windBy_11 (by decide) ?_
    refine T_icmp_ne (tgt := 20) dX12_windBy_13 (by decide) (fun c13 => ?_) (fun c13 => ?_)
    · refine T_iload_n dX12_windBy_20 rfl ?_
      refine T_bipush (v := 60) dX12_windBy_21 (by decide) ?_
      refine T_icmp_ne (tgt := 30) dX12_windBy_23 (by decide) (fun c23 => ?_) (fun c23 => ?_)
      · refine T_bipush (v := (-9)) dX12_windBy_30 (by decide) ?_
        refine T_iret dX12_windBy_32 rfl (nb rfl) (nb rfl) ?_
        exact ⟨sI (by simp_all), rfl⟩
      · refine T_iconst (v := 2) dX12_windBy_26 (by decide) ?_
        refine T_goto (tgt := 32) dX12_windBy_27 (by decide) ?_
        refine T_iret dX12_windBy_32 rfl (nb rfl) (nb rfl) ?_
        exact ⟨sI (by simp_all), rfl⟩
    · refine T_iconst (v := 1) dX12_windBy_16 (by decide) ?_
      refine T_goto (tgt := 32) dX12_windBy_17 (by decide) ?_
      refine T_iret dX12_windBy_32 rfl (nb rfl) (nb rfl) ?_
      exact ⟨sI (by simp_all), rfl⟩
  · refine T_iconst (v := 0) dX12_windBy_6 (by decide) ?_
    refine T_goto (tgt := 32) dX12_windBy_7 (by decide) ?_
    refine T_iret dX12_windBy_32 rfl (nb rfl) (nb rfl) ?_
    exact ⟨sI (by simp_all), rfl⟩
end M2
