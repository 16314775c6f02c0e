/-! the reference: sheets -/
section M7
variable {A B : XH} {u : MSt} {h : XH} {Z : XZ} {I : Nat → Int32} {F : Nat → Nat → Int32}
theorem c_X12_failsE (hA : A.length = 67) {x : Int32} (k : Int32) : ConE M_X12_fails [.ref 67, .int k] (mH A (va_up I 0 x, F) B) (some (.int (-10 - k))) (mH A (va_up I 0 k, F) B) := by
  have c := c_X12_fails (B := B) (u := (va_up I 0 x, F)) hA k
  rw [show va_up (va_up I 0 x, F).1 0 k = va_up I 0 k from bx_uu _ _ _ _] at c
  exact c
theorem c_X12_lostE (hA : A.length = 67) {x : Int32} (k : Int32) : ConE M_X12_lost [.ref 67, .int k] (mH A (va_up I 0 x, F) B) (some (.long (-9223372036854775808))) (mH A (va_up I 0 k, F) B) := by
  have c := c_X12_lost (B := B) (u := (va_up I 0 x, F)) hA k
  rw [show va_up (va_up I 0 x, F).1 0 k = va_up I 0 k from bx_uu _ _ _ _] at c
  exact c
theorem shN {k : Int32} (h : 0 ≤ k ∧ k ≤ 3) : ∃ kk : Nat, kk < 4 ∧ k = nI kk := by
  obtain ⟨j, h1, h2⟩ := nI_of2 (x := k) (M := 3) (n := 3) rfl (by rw [Int32.not_lt]; exact h.1) h.2
  exact ⟨j, by omega, h2⟩
def mZero (f : Nat → Int32) (b : Nat) : Nat → Nat → Int32
  | 0 => f
  | i + 1 => upd (mZero f b i) (b + i) 0
def m_sheet (u : MSt) (k sort n : Int32) : Int32 × MSt :=
  if 0 ≤ k ∧ k ≤ 3 then (if (0 ≤ sort ∧ sort ≤ 2) ∧ n ≤ 60 then (if 0 ≤ n then (1, (va_up u.1 0 0, va_up (va_up (va_up u.2 2 (upd (u.2 2) k.toNatClampNeg sort)) 3 (upd (u.2 3) k.toNatClampNeg n)) 4 (mZero (u.2 4) (60 * k.toNatClampNeg) 60))) else (-10 - 4, m0 u 4)) else (-2, m0 u 0)) else (-1, m0 u 0)
theorem lp_X12_sheet (hA : A.length = 67) {kk i : Nat} {a b : Int32} (hk : kk < 4) (hi : i < 60) (f : Nat → Int32) (K : T M_X12_sheet x_E Z 0 0 57 [(0, .ref 67), (1, .int (nI kk)), (2, .int a), (3, .int b), (4, .int (nI (i + 1)))] [] (mH A (I, va_up F 4 (mZero f (60 * kk) (i + 1))) B)) : T M_X12_sheet x_E Z 0 0 57 [(0, .ref 67), (1, .int (nI kk)), (2, .int a), (3, .int b), (4, .int (nI i))] [] (mH A (I, va_up F 4 (mZero f (60 * kk) i)) B) := by
  refine T_iload dX12_sheet_57 rfl ?_
  refine T_bipush (v := nI 60) dX12_sheet_59 (by decide) ?_
  refine T_icmp_geN (tgt := 83) dX12_sheet_61 (by decide) (by omega) (by omega) (fun c61 => ?_) (fun c61 => ?_)
  · omega
  · refine T_aload_n dX12_sheet_64 rfl ?_
    refine T_get dX12_sheet_65 fl_X12_16_12 (mH_get hA rfl) rfl ?_
    refine T_bipush (v := nI 60) dX12_sheet_68 (by decide) ?_
    refine T_iload_n dX12_sheet_70 rfl ?_
    refine T_imulN dX12_sheet_71 ?_
    refine T_iload dX12_sheet_72 rfl ?_
    refine T_iaddN dX12_sheet_74 ?_
    refine T_iconst (v := 0) dX12_sheet_75 (by decide) ?_
    refine T_iastN dX12_sheet_76 (mH_get hA rfl) (by omega) (by decide) ?_
    first | refine T_h (mT_4 hA) ?_ | refine T_h (mS_4 hA) ?_
    refine T_iincN dX12_sheet_77 rfl (by decide) rfl ?_
    refine T_goto (tgt := 57) dX12_sheet_80 (by decide) ?_
    exact K
theorem lp_X12_sheet_e (hA : A.length = 67) {kk : Nat} {a b : Int32} : T M_X12_sheet x_E (x_ZE M_X12_sheet (some (.int 1)) (mH A (I, F) B)) 0 0 57 [(0, .ref 67), (1, .int (nI kk)), (2, .int a), (3, .int b), (4, .int (nI 60))] [] (mH A (I, F) B) := by
  refine T_iload dX12_sheet_57 rfl ?_
  refine T_bipush (v := nI 60) dX12_sheet_59 (by decide) ?_
  refine T_icmp_geN (tgt := 83) dX12_sheet_61 (by decide) (by omega) (by omega) (fun c61 => ?_) (fun c61 => ?_)
  · refine T_iconst (v := 1) dX12_sheet_83 (by decide) ?_
    refine T_iret dX12_sheet_84 rfl (nb rfl) (nb rfl) ?_
    exact ⟨rfl, rfl⟩
  · omega
theorem c_X12_sheet (hA : A.length = 67) (k sort n : Int32) : ConE M_X12_sheet [.ref 67, .int k, .int sort, .int n] (mH A u B) (some (.int (m_sheet u k sort n).1)) (mH A (m_sheet u k sort n).2 B) := by
  by_cases hk : 0 ≤ k ∧ k ≤ 3
  · obtain ⟨kk, hkk, rfl⟩ := shN hk
    have ck : (nI kk).toNatClampNeg = kk := nI_clamp (by omega)
    refine Con.of rfl (nb rfl) ?_
    unfold m_sheet
    rw [if_pos hk, ck]
    refine T_aload_n dX12_sheet_0 rfl ?_
    refine T_iconst (v := 0) dX12_sheet_1 (by decide) ?_
    refine T_put dX12_sheet_2 fp_X12_65_12 (mH_get hA rfl) (nb rfl) (fun _ => ⟨rfl, rfl⟩) ?_
    first | refine T_h (mE_0 hA) ?_ | refine T_h (mF_0 hA) ?_
    refine T_iload_n dX12_sheet_5 rfl ?_
    refine T_s1e (cu2 := 0) (su2 := 0) dX12_sheet_6 ls_X12_84 rfl (c_X12_isSheet _) (nb rfl) (nb rfl) (nb rfl) (nb rfl) (nb rfl) ?_
    refine T_if_neB (tgt := 14) dX12_sheet_9 (by decide) (fun c9 => ?_) (fun c9 => ?_)
    · refine T_iload_n dX12_sheet_14 rfl ?_
      refine T_s1e (cu2 := 0) (su2 := 0) dX12_sheet_15 ls_X12_88 rfl (c_X12_isSort _) (nb rfl) (nb rfl) (nb rfl) (nb rfl) (nb rfl) ?_
      refine T_if_eqB (tgt := 27) dX12_sheet_18 (by decide) (fun c18 => ?_) (fun c18 => ?_)
      · refine T_bipush (v := (-2)) dX12_sheet_27 (by decide) ?_
        refine T_iret dX12_sheet_29 rfl (nb rfl) (nb rfl) ?_
        rw [if_neg (by rintro ⟨q1, q2⟩; first | exact c18 q1 | exact c24 q2)]
        exact ⟨rfl, rfl⟩
      · refine T_iload_n dX12_sheet_21 rfl ?_
        refine T_bipush (v := 60) dX12_sheet_22 (by decide) ?_
        refine T_icmp_le (tgt := 30) dX12_sheet_24 (by decide) (fun c24 => ?_) (fun c24 => ?_)
        · refine T_iload_n dX12_sheet_30 rfl ?_
          refine T_if_ge (tgt := 40) dX12_sheet_31 (by decide) (fun c31 => ?_) (fun c31 => ?_)
          · refine T_aload_n dX12_sheet_40 rfl ?_
            refine T_get dX12_sheet_41 fl_X12_9_12 (mH_get hA rfl) rfl ?_
            refine T_iload_n dX12_sheet_44 rfl ?_
            refine T_iload_n dX12_sheet_45 rfl ?_
            refine T_iastN dX12_sheet_46 (mH_get hA rfl) (by omega) (by decide) ?_
            first | refine T_h (mT_2 hA) ?_ | refine T_h (mS_2 hA) ?_
            refine T_aload_n dX12_sheet_47 rfl ?_
            refine T_get dX12_sheet_48 fl_X12_13_12 (mH_get hA rfl) rfl ?_
            refine T_iload_n dX12_sheet_51 rfl ?_
            refine T_iload_n dX12_sheet_52 rfl ?_
            refine T_iastN dX12_sheet_53 (mH_get hA rfl) (by omega) (by decide) ?_
            first | refine T_h (mT_3 hA) ?_ | refine T_h (mS_3 hA) ?_
            refine T_iconst (v := 0) dX12_sheet_54 (by decide) ?_
            refine T_istore dX12_sheet_55 (by decide) rfl ?_
            rw [if_pos ⟨c18, c24⟩, if_pos c31]
            refine T_eq (T_up0 (L := fun i => [(0, .ref 67), (1, .int (nI kk)), (2, .int sort), (3, .int n), (4, .int (nI i))]) (Hf := fun i => mH A (va_up u.1 0 0, va_up (va_up (va_up u.2 2 (upd (u.2 2) kk sort)) 3 (upd (u.2 3) kk n)) 4 (mZero (u.2 4) (60 * kk) i)) B) 60 ?_ fun i hi K => lp_X12_sheet hA hkk hi _ K) rfl (mH_id 4)
            exact lp_X12_sheet_e hA
          · refine T_aload_n dX12_sheet_34 rfl ?_
            refine T_iconst (v := 4) dX12_sheet_35 (by decide) ?_
            refine T_v1e (cu2 := 0) (su2 := 0) dX12_sheet_36 lv_X12_95 rfl (mH_get hA rfl) rfl (c_X12_failsE hA _) (nb rfl) (nb rfl) (nb rfl) (nb rfl) (nb rfl) ?_
            refine T_iret dX12_sheet_39 rfl (nb rfl) (nb rfl) ?_
            rw [if_pos ⟨c18, c24⟩, if_neg c31]
            exact ⟨rfl, rfl⟩
        · refine T_bipush (v := (-2)) dX12_sheet_27 (by decide) ?_
          refine T_iret dX12_sheet_29 rfl (nb rfl) (nb rfl) ?_
          rw [if_neg (by rintro ⟨q1, q2⟩; first | exact c18 q1 | exact c24 q2)]
          exact ⟨rfl, rfl⟩
    · exact absurd hk c9
  · refine Con.of rfl (nb rfl) ?_
    unfold m_sheet
    rw [if_neg hk]
    refine T_aload_n dX12_sheet_0 rfl ?_
    refine T_iconst (v := 0) dX12_sheet_1 (by decide) ?_
    refine T_put dX12_sheet_2 fp_X12_65_12 (mH_get hA rfl) (nb rfl) (fun _ => ⟨rfl, rfl⟩) ?_
    first | refine T_h (mE_0 hA) ?_ | refine T_h (mF_0 hA) ?_
    refine T_iload_n dX12_sheet_5 rfl ?_
    refine T_s1e (cu2 := 0) (su2 := 0) dX12_sheet_6 ls_X12_84 rfl (c_X12_isSheet _) (nb rfl) (nb rfl) (nb rfl) (nb rfl) (nb rfl) ?_
    refine T_if_neB (tgt := 14) dX12_sheet_9 (by decide) (fun c9 => ?_) (fun c9 => ?_)
    · exact absurd c9 hk
    · refine T_iconst (v := (-1)) dX12_sheet_12 (by decide) ?_
      refine T_iret dX12_sheet_13 rfl (nb rfl) (nb rfl) ?_
      exact ⟨rfl, rfl⟩
def m_lose (u : MSt) (k : Int32) : Int32 × MSt := if 0 ≤ k ∧ k ≤ 3 then (if u.2 2 k.toNatClampNeg = -9 then 0 else 1, (u.1, va_up u.2 2 (upd (u.2 2) k.toNatClampNeg (-9)))) else (-1, u)
theorem c_X12_lose (hA : A.length = 67) (k : Int32) : ConE M_X12_lose [.ref 67, .int k] (mH A u B) (some (.int (m_lose u k).1)) (mH A (m_lose u k).2 B) := by
  have hi : (0 ≤ k ∧ k ≤ 3) → vp_in k 4 := fun q => by
    obtain ⟨kk, hkk, rfl⟩ := shN q
    exact vp_in_nI hkk (by decide)
  refine Con.of rfl (nb rfl) ?_
  refine T_iload_n dX12_lose_0 rfl ?_
  refine T_s1e (cu2 := 0) (su2 := 0) dX12_lose_1 ls_X12_84 rfl (c_X12_isSheet _) (nb rfl) (nb rfl) (nb rfl) (nb rfl) (nb rfl) ?_
  refine T_if_neB (tgt := 9) dX12_lose_4 (by decide) (fun c4 => ?_) (fun c4 => ?_)
  · refine T_aload_n dX12_lose_9 rfl ?_
    refine T_get dX12_lose_10 fl_X12_9_12 (mH_get hA rfl) rfl ?_
    refine T_iload_n dX12_lose_13 rfl ?_
    refine T_iald dX12_lose_14 (mH_get hA rfl) (hi c4) ?_
    refine T_bipush (v := (-9)) dX12_lose_15 (by decide) ?_
    refine T_icmp_ne (tgt := 24) dX12_lose_17 (by decide) (fun c17 => ?_) (fun c17 => ?_)
    · refine T_iconst (v := 1) dX12_lose_24 (by decide) ?_
      refine T_istore_n dX12_lose_25 (by decide) rfl ?_
      refine T_aload_n dX12_lose_26 rfl ?_
      refine T_get dX12_lose_27 fl_X12_9_12 (mH_get hA rfl) rfl ?_
      refine T_iload_n dX12_lose_30 rfl ?_
      refine T_bipush (v := (-9)) dX12_lose_31 (by decide) ?_
      refine T_iast dX12_lose_33 (mH_get hA rfl) (hi c4) ?_
      first | refine T_h (mT_2 hA) ?_ | refine T_h (mS_2 hA) ?_
      refine T_iload_n dX12_lose_34 rfl ?_
      refine T_iret dX12_lose_35 rfl (nb rfl) (nb rfl) ?_
      unfold m_lose
      repeat' split
      all_goals first | exact ⟨rfl, rfl⟩ | (exfalso; simp_all; done) | (exfalso; simp only [Int32.lt_iff_toInt_lt, Int32.le_iff_toInt_le, ← Int32.toInt_inj] at *; omega)
    · refine T_iconst (v := 0) dX12_lose_20 (by decide) ?_
      refine T_goto (tgt := 25) dX12_lose_21 (by decide) ?_
      refine T_istore_n dX12_lose_25 (by decide) rfl ?_
      refine T_aload_n dX12_lose_26 rfl ?_
      refine T_get dX12_lose_27 fl_X12_9_12 (mH_get hA rfl) rfl ?_
      refine T_iload_n dX12_lose_30 rfl ?_
      refine T_bipush (v := (-9)) dX12_lose_31 (by decide) ?_
      refine T_iast dX12_lose_33 (mH_get hA rfl) (hi c4) ?_
      first | refine T_h (mT_2 hA) ?_ | refine T_h (mS_2 hA) ?_
      refine T_iload_n dX12_lose_34 rfl ?_
      refine T_iret dX12_lose_35 rfl (nb rfl) (nb rfl) ?_
      unfold m_lose
      repeat' split
      all_goals first | exact ⟨rfl, rfl⟩ | (exfalso; simp_all; done) | (exfalso; simp only [Int32.lt_iff_toInt_lt, Int32.le_iff_toInt_le, ← Int32.toInt_inj] at *; omega)
  · refine T_iconst (v := (-1)) dX12_lose_7 (by decide) ?_
    refine T_iret dX12_lose_8 rfl (nb rfl) (nb rfl) ?_
    unfold m_lose
    repeat' split
    all_goals first | exact ⟨rfl, rfl⟩ | (exfalso; simp_all; done) | (exfalso; simp only [Int32.lt_iff_toInt_lt, Int32.le_iff_toInt_le, ← Int32.toInt_inj] at *; omega)
theorem ix240 {k i l : Int32} {ll : Nat} (hk : 0 ≤ k ∧ k ≤ 3) (hl : l = nI ll) (h6 : ll ≤ 60) (hi : 0 ≤ i ∧ i ≤ l - 1) : vp_in (60 * k + i) 240 := by
  obtain ⟨kk, hkk, rfl⟩ := shN hk
  subst hl
  obtain ⟨h1, h2⟩ := hi
  have e : (nI ll - 1).toInt = (ll : Int) - 1 := pk_sub_toInt (b := 1) (by omega) (by decide)
  have hi0 : ¬ i < 0 := by rw [Int32.not_lt]; exact h1
  obtain ⟨j, hj, rfl⟩ := nI_of hi0
  simp only [Int32.le_iff_toInt_le] at h2
  rw [e, nI_toInt hj] at h2
  rw [show (60 : Int32) * nI kk = nI (60 * kk) from pk_mul 60 kk, nI_add]
  exact vp_in_nI (by omega) (by decide)
def mCut (sort v : Int32) : Int32 := if sort = 0 then v.toInt8.toInt32 else if sort = 1 then v.toInt16.toInt32 else v
def m_put (u : MSt) (k i v : Int32) : Int32 × MSt :=
  if 0 ≤ k ∧ k ≤ 3 then (if u.2 2 k.toNatClampNeg = -9 then (-10 - 1, m0 u 1) else if 0 ≤ i ∧ i ≤ u.2 3 k.toNatClampNeg - 1 then (1, (va_up u.1 0 0, va_up u.2 4 (upd (u.2 4) (60 * k + i).toNatClampNeg (mCut (u.2 2 k.toNatClampNeg) v)))) else (-10 - 3, m0 u 3)) else (-1, m0 u 0)
theorem c_X12_put (hA : A.length = 67) (k i v : Int32) (hl : ∀ j, j < 4 → ∃ ll : Nat, ll ≤ 60 ∧ u.2 3 j = nI ll) : ConE M_X12_put [.ref 67, .int k, .int i, .int v] (mH A u B) (some (.int (m_put u k i v).1)) (mH A (m_put u k i v).2 B) := by
  have hi : (0 ≤ k ∧ k ≤ 3) → vp_in k 4 := fun q => by
    obtain ⟨kk, hkk, rfl⟩ := shN q
    exact vp_in_nI hkk (by decide)
  have hx : (0 ≤ k ∧ k ≤ 3) → (0 ≤ i ∧ i ≤ u.2 3 k.toNatClampNeg - 1) → vp_in (60 * k + i) 240 := fun q q2 => by
    obtain ⟨kk, hkk, e⟩ := shN q
    obtain ⟨ll, h1, h2⟩ := hl k.toNatClampNeg (by rw [e, nI_clamp (by omega)]; exact hkk)
    exact ix240 q h2 h1 q2
  refine Con.of rfl (nb rfl) ?_
  unfold m_put mCut
  refine T_aload_n dX12_put_0 rfl ?_
  refine T_iconst (v := 0) dX12_put_1 (by decide) ?_
  refine T_put dX12_put_2 fp_X12_65_12 (mH_get hA rfl) (nb rfl) (fun _ => ⟨rfl, rfl⟩) ?_
  first | refine T_h (mE_0 hA) ?_ | refine T_h (mF_0 hA) ?_
  refine T_iload_n dX12_put_5 rfl ?_
  refine T_s1e (cu2 := 0) (su2 := 0) dX12_put_6 ls_X12_84 rfl (c_X12_isSheet _) (nb rfl) (nb rfl) (nb rfl) (nb rfl) (nb rfl) ?_
  refine T_if_neB (tgt := 14) dX12_put_9 (by decide) (fun c9 => ?_) (fun c9 => ?_)
  · refine T_aload_n dX12_put_14 rfl ?_
    refine T_get dX12_put_15 fl_X12_9_12 (mH_get hA rfl) rfl ?_
    refine T_iload_n dX12_put_18 rfl ?_
    refine T_iald dX12_put_19 (mH_get hA rfl) (hi c9) ?_
    refine T_bipush (v := (-9)) dX12_put_20 (by decide) ?_
    refine T_icmp_ne (tgt := 31) dX12_put_22 (by decide) (fun c22 => ?_) (fun c22 => ?_)
    · refine T_iload_n dX12_put_31 rfl ?_
      refine T_iconst (v := 0) dX12_put_32 (by decide) ?_
      refine T_aload_n dX12_put_33 rfl ?_
      refine T_get dX12_put_34 fl_X12_13_12 (mH_get hA rfl) rfl ?_
      refine T_iload_n dX12_put_37 rfl ?_
      refine T_iald dX12_put_38 (mH_get hA rfl) (hi c9) ?_
      refine T_iconst (v := 1) dX12_put_39 (by decide) ?_
      refine T_isub dX12_put_40 ?_
      refine T_s3e (cu2 := 0) (su2 := 0) dX12_put_41 ls_X12_71 rfl (c_X12_within _ _ _) (nb rfl) (nb rfl) (nb rfl) (nb rfl) (nb rfl) ?_
      refine T_if_neB (tgt := 53) dX12_put_44 (by decide) (fun c44 => ?_) (fun c44 => ?_)
      · refine T_aload_n dX12_put_53 rfl ?_
        refine T_get dX12_put_54 fl_X12_16_12 (mH_get hA rfl) rfl ?_
        refine T_bipush (v := 60) dX12_put_57 (by decide) ?_
        refine T_iload_n dX12_put_59 rfl ?_
        refine T_imul dX12_put_60 ?_
        refine T_iload_n dX12_put_61 rfl ?_
        refine T_iadd dX12_put_62 ?_
        refine T_aload_n dX12_put_63 rfl ?_
        refine T_get dX12_put_64 fl_X12_9_12 (mH_get hA rfl) rfl ?_
        refine T_iload_n dX12_put_67 rfl ?_
        refine T_iald dX12_put_68 (mH_get hA rfl) (hi c9) ?_
        refine T_if_ne (tgt := 77) dX12_put_69 (by decide) (fun c69 => ?_) (fun c69 => ?_)
        · refine T_aload_n dX12_put_77 rfl ?_
          refine T_get dX12_put_78 fl_X12_9_12 (mH_get hA rfl) rfl ?_
          refine T_iload_n dX12_put_81 rfl ?_
          refine T_iald dX12_put_82 (mH_get hA rfl) (hi c9) ?_
          refine T_iconst (v := 1) dX12_put_83 (by decide) ?_
          refine T_icmp_ne (tgt := 92) dX12_put_84 (by decide) (fun c84 => ?_) (fun c84 => ?_)
          · refine T_iload_n dX12_put_92 rfl ?_
            refine T_iast dX12_put_93 (mH_get hA rfl) (hx c9 c44) ?_
            first | refine T_h (mT_4 hA) ?_ | refine T_h (mS_4 hA) ?_
            refine T_iconst (v := 1) dX12_put_94 (by decide) ?_
            refine T_iret dX12_put_95 rfl (nb rfl) (nb rfl) ?_
            rw [if_pos c9, if_neg c22, if_pos c44]
            first | (rw [if_pos c69]; exact ⟨rfl, rfl⟩) | (rw [if_neg c69, if_pos c84]; exact ⟨rfl, rfl⟩) | (rw [if_neg c69, if_neg c84]; exact ⟨rfl, rfl⟩)
          · refine T_iload_n dX12_put_87 rfl ?_
            refine T_i2s dX12_put_88 ?_
            refine T_goto (tgt := 93) dX12_put_89 (by decide) ?_
            refine T_iast dX12_put_93 (mH_get hA rfl) (hx c9 c44) ?_
            first | refine T_h (mT_4 hA) ?_ | refine T_h (mS_4 hA) ?_
            refine T_iconst (v := 1) dX12_put_94 (by decide) ?_
            refine T_iret dX12_put_95 rfl (nb rfl) (nb rfl) ?_
            rw [if_pos c9, if_neg c22, if_pos c44]
            first | (rw [if_pos c69]; exact ⟨rfl, rfl⟩) | (rw [if_neg c69, if_pos c84]; exact ⟨rfl, rfl⟩) | (rw [if_neg c69, if_neg c84]; exact ⟨rfl, rfl⟩)
        · refine T_iload_n dX12_put_72 rfl ?_
          refine T_i2b dX12_put_73 ?_
          refine T_goto (tgt := 93) dX12_put_74 (by decide) ?_
          refine T_iast dX12_put_93 (mH_get hA rfl) (hx c9 c44) ?_
          first | refine T_h (mT_4 hA) ?_ | refine T_h (mS_4 hA) ?_
          refine T_iconst (v := 1) dX12_put_94 (by decide) ?_
          refine T_iret dX12_put_95 rfl (nb rfl) (nb rfl) ?_
          rw [if_pos c9, if_neg c22, if_pos c44]
          first | (rw [if_pos c69]; exact ⟨rfl, rfl⟩) | (rw [if_neg c69, if_pos c84]; exact ⟨rfl, rfl⟩) | (rw [if_neg c69, if_neg c84]; exact ⟨rfl, rfl⟩)
      · refine T_aload_n dX12_put_47 rfl ?_
        refine T_iconst (v := 3) dX12_put_48 (by decide) ?_
        refine T_v1e (cu2 := 0) (su2 := 0) dX12_put_49 lv_X12_95 rfl (mH_get hA rfl) rfl (c_X12_failsE hA _) (nb rfl) (nb rfl) (nb rfl) (nb rfl) (nb rfl) ?_
        refine T_iret dX12_put_52 rfl (nb rfl) (nb rfl) ?_
        rw [if_pos c9, if_neg c22, if_neg c44]
        exact ⟨rfl, rfl⟩
    · refine T_aload_n dX12_put_25 rfl ?_
      refine T_iconst (v := 1) dX12_put_26 (by decide) ?_
      refine T_v1e (cu2 := 0) (su2 := 0) dX12_put_27 lv_X12_95 rfl (mH_get hA rfl) rfl (c_X12_failsE hA _) (nb rfl) (nb rfl) (nb rfl) (nb rfl) (nb rfl) ?_
      refine T_iret dX12_put_30 rfl (nb rfl) (nb rfl) ?_
      rw [if_pos c9, if_pos c22]
      exact ⟨rfl, rfl⟩
  · refine T_iconst (v := (-1)) dX12_put_12 (by decide) ?_
    refine T_iret dX12_put_13 rfl (nb rfl) (nb rfl) ?_
    rw [if_neg c9]
    exact ⟨rfl, rfl⟩
def m_cell (u : MSt) (k i sort : Int32) : Int64 × MSt :=
  if (0 ≤ k ∧ k ≤ 3) ∧ 0 ≤ sort ∧ sort ≤ 2 then (if ¬ u.2 2 k.toNatClampNeg = -9 ∧ ¬ u.2 2 k.toNatClampNeg = sort then (-9223372036854775808, m0 u 2) else if u.2 2 k.toNatClampNeg = -9 then (-9223372036854775808, m0 u 1) else if 0 ≤ i ∧ i ≤ u.2 3 k.toNatClampNeg - 1 then ((u.2 4 (60 * k + i).toNatClampNeg).toInt64, m0 u 0) else (-9223372036854775808, m0 u 3)) else (-9223372036854775808, m0 u 0)
theorem c_X12_cell (hA : A.length = 67) (k i sort : Int32) (hl : ∀ j, j < 4 → ∃ ll : Nat, ll ≤ 60 ∧ u.2 3 j = nI ll) : ConE M_X12_cell [.ref 67, .int k, .int i, .int sort] (mH A u B) (some (.long (m_cell u k i sort).1)) (mH A (m_cell u k i sort).2 B) := by
  have hi : (0 ≤ k ∧ k ≤ 3) → vp_in k 4 := fun q => by
    obtain ⟨kk, hkk, rfl⟩ := shN q
    exact vp_in_nI hkk (by decide)
  have hx : (0 ≤ k ∧ k ≤ 3) → (0 ≤ i ∧ i ≤ u.2 3 k.toNatClampNeg - 1) → vp_in (60 * k + i) 240 := fun q q2 => by
    obtain ⟨kk, hkk, e⟩ := shN q
    obtain ⟨ll, h1, h2⟩ := hl k.toNatClampNeg (by rw [e, nI_clamp (by omega)]; exact hkk)
    exact ix240 q h2 h1 q2
  refine Con.of rfl (nb rfl) ?_
  unfold m_cell
  refine T_aload_n dX12_cell_0 rfl ?_
  refine T_iconst (v := 0) dX12_cell_1 (by decide) ?_
  refine T_put dX12_cell_2 fp_X12_65_12 (mH_get hA rfl) (nb rfl) (fun _ => ⟨rfl, rfl⟩) ?_
  first | refine T_h (mE_0 hA) ?_ | refine T_h (mF_0 hA) ?_
  refine T_iload_n dX12_cell_5 rfl ?_
  refine T_s1e (cu2 := 0) (su2 := 0) dX12_cell_6 ls_X12_84 rfl (c_X12_isSheet _) (nb rfl) (nb rfl) (nb rfl) (nb rfl) (nb rfl) ?_
  refine T_if_eqB (tgt := 19) dX12_cell_9 (by decide) (fun c9 => ?_) (fun c9 => ?_)
  · refine T_ldc2 dX12_cell_19 kl_X12_69 ?_
    refine T_lret dX12_cell_22 rfl (nb rfl) (nb rfl) ?_
    rw [if_neg (by rintro ⟨q1, q2⟩; first | exact c9 q1 | exact c16 q2)]
    exact ⟨rfl, rfl⟩
  · refine T_iload_n dX12_cell_12 rfl ?_
    refine T_s1e (cu2 := 0) (su2 := 0) dX12_cell_13 ls_X12_88 rfl (c_X12_isSort _) (nb rfl) (nb rfl) (nb rfl) (nb rfl) (nb rfl) ?_
    refine T_if_neB (tgt := 23) dX12_cell_16 (by decide) (fun c16 => ?_) (fun c16 => ?_)
    · refine T_aload_n dX12_cell_23 rfl ?_
      refine T_get dX12_cell_24 fl_X12_9_12 (mH_get hA rfl) rfl ?_
      refine T_iload_n dX12_cell_27 rfl ?_
      refine T_iald dX12_cell_28 (mH_get hA rfl) (hi c9) ?_
      refine T_bipush (v := (-9)) dX12_cell_29 (by decide) ?_
      refine T_icmp_eq (tgt := 50) dX12_cell_31 (by decide) (fun c31 => ?_) (fun c31 => ?_)
      · refine T_aload_n dX12_cell_50 rfl ?_
        refine T_get dX12_cell_51 fl_X12_9_12 (mH_get hA rfl) rfl ?_
        refine T_iload_n dX12_cell_54 rfl ?_
        refine T_iald dX12_cell_55 (mH_get hA rfl) (hi c9) ?_
        refine T_bipush (v := (-9)) dX12_cell_56 (by decide) ?_
        refine T_icmp_ne (tgt := 67) dX12_cell_58 (by decide) (fun c58 => ?_) (fun c58 => ?_)
        · refine T_iload_n dX12_cell_67 rfl ?_
          refine T_iconst (v := 0) dX12_cell_68 (by decide) ?_
          refine T_aload_n dX12_cell_69 rfl ?_
          refine T_get dX12_cell_70 fl_X12_13_12 (mH_get hA rfl) rfl ?_
          refine T_iload_n dX12_cell_73 rfl ?_
          refine T_iald dX12_cell_74 (mH_get hA rfl) (hi c9) ?_
          refine T_iconst (v := 1) dX12_cell_75 (by decide) ?_
          refine T_isub dX12_cell_76 ?_
          refine T_s3e (cu2 := 0) (su2 := 0) dX12_cell_77 ls_X12_71 rfl (c_X12_within _ _ _) (nb rfl) (nb rfl) (nb rfl) (nb rfl) (nb rfl) ?_
          refine T_if_neB (tgt := 89) dX12_cell_80 (by decide) (fun c80 => ?_) (fun c80 => ?_)
          · refine T_aload_n dX12_cell_89 rfl ?_
            refine T_get dX12_cell_90 fl_X12_16_12 (mH_get hA rfl) rfl ?_
            refine T_bipush (v := 60) dX12_cell_93 (by decide) ?_
            refine T_iload_n dX12_cell_95 rfl ?_
            refine T_imul dX12_cell_96 ?_
            refine T_iload_n dX12_cell_97 rfl ?_
            refine T_iadd dX12_cell_98 ?_
            refine T_iald dX12_cell_99 (mH_get hA rfl) (hx c9 c80) ?_
            refine T_i2l dX12_cell_100 ?_
            refine T_lret dX12_cell_101 rfl (nb rfl) (nb rfl) ?_
            rw [if_pos ⟨c9, c16⟩, if_neg (by rintro ⟨q1, q2⟩; first | exact q1 c31 | exact q2 c41), if_neg c58, if_pos c80]
            exact ⟨rfl, rfl⟩
          · refine T_aload_n dX12_cell_83 rfl ?_
            refine T_iconst (v := 3) dX12_cell_84 (by decide) ?_
            refine T_v1e (cu2 := 0) (su2 := 0) dX12_cell_85 lv_X12_230 rfl (mH_get hA rfl) rfl (c_X12_lostE hA _) (nb rfl) (nb rfl) (nb rfl) (nb rfl) (nb rfl) ?_
            refine T_lret dX12_cell_88 rfl (nb rfl) (nb rfl) ?_
            rw [if_pos ⟨c9, c16⟩, if_neg (by rintro ⟨q1, q2⟩; first | exact q1 c31 | exact q2 c41), if_neg c58, if_neg c80]
            exact ⟨rfl, rfl⟩
        · refine T_aload_n dX12_cell_61 rfl ?_
          refine T_iconst (v := 1) dX12_cell_62 (by decide) ?_
          refine T_v1e (cu2 := 0) (su2 := 0) dX12_cell_63 lv_X12_230 rfl (mH_get hA rfl) rfl (c_X12_lostE hA _) (nb rfl) (nb rfl) (nb rfl) (nb rfl) (nb rfl) ?_
          refine T_lret dX12_cell_66 rfl (nb rfl) (nb rfl) ?_
          rw [if_pos ⟨c9, c16⟩, if_neg (by rintro ⟨q1, q2⟩; first | exact q1 c58 | exact q2 c41), if_pos c58]
          exact ⟨rfl, rfl⟩
      · refine T_aload_n dX12_cell_34 rfl ?_
        refine T_get dX12_cell_35 fl_X12_9_12 (mH_get hA rfl) rfl ?_
        refine T_iload_n dX12_cell_38 rfl ?_
        refine T_iald dX12_cell_39 (mH_get hA rfl) (hi c9) ?_
        refine T_iload_n dX12_cell_40 rfl ?_
        refine T_icmp_eq (tgt := 50) dX12_cell_41 (by decide) (fun c41 => ?_) (fun c41 => ?_)
        · refine T_aload_n dX12_cell_50 rfl ?_
          refine T_get dX12_cell_51 fl_X12_9_12 (mH_get hA rfl) rfl ?_
          refine T_iload_n dX12_cell_54 rfl ?_
          refine T_iald dX12_cell_55 (mH_get hA rfl) (hi c9) ?_
          refine T_bipush (v := (-9)) dX12_cell_56 (by decide) ?_
          refine T_icmp_ne (tgt := 67) dX12_cell_58 (by decide) (fun c58 => ?_) (fun c58 => ?_)
          · refine T_iload_n dX12_cell_67 rfl ?_
            refine T_iconst (v := 0) dX12_cell_68 (by decide) ?_
            refine T_aload_n dX12_cell_69 rfl ?_
            refine T_get dX12_cell_70 fl_X12_13_12 (mH_get hA rfl) rfl ?_
            refine T_iload_n dX12_cell_73 rfl ?_
            refine T_iald dX12_cell_74 (mH_get hA rfl) (hi c9) ?_
            refine T_iconst (v := 1) dX12_cell_75 (by decide) ?_
            refine T_isub dX12_cell_76 ?_
            refine T_s3e (cu2 := 0) (su2 := 0) dX12_cell_77 ls_X12_71 rfl (c_X12_within _ _ _) (nb rfl) (nb rfl) (nb rfl) (nb rfl) (nb rfl) ?_
            refine T_if_neB (tgt := 89) dX12_cell_80 (by decide) (fun c80 => ?_) (fun c80 => ?_)
            · refine T_aload_n dX12_cell_89 rfl ?_
              refine T_get dX12_cell_90 fl_X12_16_12 (mH_get hA rfl) rfl ?_
              refine T_bipush (v := 60) dX12_cell_93 (by decide) ?_
              refine T_iload_n dX12_cell_95 rfl ?_
              refine T_imul dX12_cell_96 ?_
              refine T_iload_n dX12_cell_97 rfl ?_
              refine T_iadd dX12_cell_98 ?_
              refine T_iald dX12_cell_99 (mH_get hA rfl) (hx c9 c80) ?_
              refine T_i2l dX12_cell_100 ?_
              refine T_lret dX12_cell_101 rfl (nb rfl) (nb rfl) ?_
              rw [if_pos ⟨c9, c16⟩, if_neg (by rintro ⟨q1, q2⟩; first | exact q1 c31 | exact q2 c41), if_neg c58, if_pos c80]
              exact ⟨rfl, rfl⟩
            · refine T_aload_n dX12_cell_83 rfl ?_
              refine T_iconst (v := 3) dX12_cell_84 (by decide) ?_
              refine T_v1e (cu2 := 0) (su2 := 0) dX12_cell_85 lv_X12_230 rfl (mH_get hA rfl) rfl (c_X12_lostE hA _) (nb rfl) (nb rfl) (nb rfl) (nb rfl) (nb rfl) ?_
              refine T_lret dX12_cell_88 rfl (nb rfl) (nb rfl) ?_
              rw [if_pos ⟨c9, c16⟩, if_neg (by rintro ⟨q1, q2⟩; first | exact q1 c31 | exact q2 c41), if_neg c58, if_neg c80]
              exact ⟨rfl, rfl⟩
          · refine T_aload_n dX12_cell_61 rfl ?_
            refine T_iconst (v := 1) dX12_cell_62 (by decide) ?_
            refine T_v1e (cu2 := 0) (su2 := 0) dX12_cell_63 lv_X12_230 rfl (mH_get hA rfl) rfl (c_X12_lostE hA _) (nb rfl) (nb rfl) (nb rfl) (nb rfl) (nb rfl) ?_
            refine T_lret dX12_cell_66 rfl (nb rfl) (nb rfl) ?_
            rw [if_pos ⟨c9, c16⟩, if_neg (by rintro ⟨q1, q2⟩; first | exact q1 c58 | exact q2 c41), if_pos c58]
            exact ⟨rfl, rfl⟩
        · refine T_aload_n dX12_cell_44 rfl ?_
          refine T_iconst (v := 2) dX12_cell_45 (by decide) ?_
          refine T_v1e (cu2 := 0) (su2 := 0) dX12_cell_46 lv_X12_230 rfl (mH_get hA rfl) rfl (c_X12_lostE hA _) (nb rfl) (nb rfl) (nb rfl) (nb rfl) (nb rfl) ?_
          refine T_lret dX12_cell_49 rfl (nb rfl) (nb rfl) ?_
          rw [if_pos ⟨c9, c16⟩, if_pos ⟨c31, c41⟩]
          exact ⟨rfl, rfl⟩
    · refine T_ldc2 dX12_cell_19 kl_X12_69 ?_
      refine T_lret dX12_cell_22 rfl (nb rfl) (nb rfl) ?_
      rw [if_neg (by rintro ⟨q1, q2⟩; first | exact c9 q1 | exact c16 q2)]
      exact ⟨rfl, rfl⟩
end M7
