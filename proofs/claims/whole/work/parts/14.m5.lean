/-! the reference: calls without loops -/
section M6
variable {A B : XH} {u : MSt} {h : XH} {Z : XZ}
theorem vpB {x m : Int32} {n N : Nat} (hm : m = nI n) (hn : n ≤ N) (hN : N < 2 ^ 31) (h : 0 ≤ x ∧ x < m) : vp_in x N := by
  rw [vp_in_iff]
  have e : m.toInt = n := by rw [hm]; exact nI_toInt (by omega)
  obtain ⟨h1, h2⟩ := h
  simp only [Int32.le_iff_toInt_le, Int32.lt_iff_toInt_lt] at h1 h2
  have : (0 : Int32).toInt = 0 := rfl
  omega
abbrev m0 (u : MSt) (k : Int32) : MSt := (va_up u.1 0 k, u.2)
def m_ofBoat (u : MSt) (b what : Int32) : Int32 := if 0 ≤ b ∧ b < u.1 7 then (if what = 0 then u.2 10 b.toNatClampNeg else if what = 1 then u.2 11 b.toNatClampNeg else if what = 2 then u.2 12 b.toNatClampNeg else if what = 3 then (if u.2 10 b.toNatClampNeg = 1 then u.2 12 b.toNatClampNeg + 1 else u.2 12 b.toNatClampNeg) else -2) else -1
theorem c_X12_ofBoat (hA : A.length = 67) {n : Nat} (b what : Int32) (hb : u.1 7 = nI n) (hn : n ≤ 3) : ConE M_X12_ofBoat [.ref 67, .int b, .int what] (mH A u B) (some (.int (m_ofBoat u b what))) (mH A u B) := by
  refine Con.of rfl (nb rfl) ?_
  refine T_aload_n dX12_ofBoat_0 rfl ?_
  refine T_iload_n dX12_ofBoat_1 rfl ?_
  refine T_v1e (cu2 := 0) (su2 := 0) dX12_ofBoat_2 lv_X12_134 rfl (mH_get hA rfl) rfl (c_X12_isBoat hA _) (nb rfl) (nb rfl) (nb rfl) (nb rfl) (nb rfl) ?_
  refine T_if_neB (tgt := 10) dX12_ofBoat_5 (by decide) (fun c5 => ?_) (fun c5 => ?_)
  · refine T_iload_n dX12_ofBoat_10 rfl ?_
    refine T_tb4 (t0 := 40) (t1 := 47) (t2 := 54) (t3 := 61) (td := 89) dX12_ofBoat_11 (by decide) (by decide) (by decide) (by decide) (by decide) (fun c11 => ?_) (fun c11 => ?_) (fun c11 => ?_) (fun c11 => ?_) (fun c11_0 c11_1 c11_2 c11_3 => ?_)
    · refine T_aload_n dX12_ofBoat_40 rfl ?_
      refine T_get dX12_ofBoat_41 fl_X12_26_12 (mH_get hA rfl) rfl ?_
      refine T_iload_n dX12_ofBoat_44 rfl ?_
      refine T_iald dX12_ofBoat_45 (mH_get hA rfl) (vpB hb hn (by decide) c5) ?_
      refine T_iret dX12_ofBoat_46 rfl (nb rfl) (nb rfl) ?_
      unfold m_ofBoat
      rw [if_pos c5, if_pos c11]
      exact ⟨rfl, rfl⟩
    · refine T_aload_n dX12_ofBoat_47 rfl ?_
      refine T_get dX12_ofBoat_48 fl_X12_29_12 (mH_get hA rfl) rfl ?_
      refine T_iload_n dX12_ofBoat_51 rfl ?_
      refine T_iald dX12_ofBoat_52 (mH_get hA rfl) (vpB hb hn (by decide) c5) ?_
      refine T_iret dX12_ofBoat_53 rfl (nb rfl) (nb rfl) ?_
      unfold m_ofBoat
      rw [if_pos c5, if_neg (by rw [c11]; decide), if_pos c11]
      exact ⟨rfl, rfl⟩
    · refine T_aload_n dX12_ofBoat_54 rfl ?_
      refine T_get dX12_ofBoat_55 fl_X12_32_12 (mH_get hA rfl) rfl ?_
      refine T_iload_n dX12_ofBoat_58 rfl ?_
      refine T_iald dX12_ofBoat_59 (mH_get hA rfl) (vpB hb hn (by decide) c5) ?_
      refine T_iret dX12_ofBoat_60 rfl (nb rfl) (nb rfl) ?_
      unfold m_ofBoat
      rw [if_pos c5, if_neg (by rw [c11]; decide), if_neg (by rw [c11]; decide), if_pos c11]
      exact ⟨rfl, rfl⟩
    · refine T_aload_n dX12_ofBoat_61 rfl ?_
      refine T_get dX12_ofBoat_62 fl_X12_26_12 (mH_get hA rfl) rfl ?_
      refine T_iload_n dX12_ofBoat_65 rfl ?_
      refine T_iald dX12_ofBoat_66 (mH_get hA rfl) (vpB hb hn (by decide) c5) ?_
      refine T_iconst (v := 1) dX12_ofBoat_67 (by decide) ?_
      refine T_icmp_ne (tgt := 82) dX12_ofBoat_68 (by decide) (fun c68 => ?_) (fun c68 => ?_)
      · refine T_aload_n dX12_ofBoat_82 rfl ?_
        refine T_get dX12_ofBoat_83 fl_X12_32_12 (mH_get hA rfl) rfl ?_
        refine T_iload_n dX12_ofBoat_86 rfl ?_
        refine T_iald dX12_ofBoat_87 (mH_get hA rfl) (vpB hb hn (by decide) c5) ?_
        refine T_iret dX12_ofBoat_88 rfl (nb rfl) (nb rfl) ?_
        unfold m_ofBoat
        rw [if_pos c5, if_neg (by rw [c11]; decide), if_neg (by rw [c11]; decide), if_neg (by rw [c11]; decide), if_pos c11, if_neg c68]
        exact ⟨rfl, rfl⟩
      · refine T_aload_n dX12_ofBoat_71 rfl ?_
        refine T_get dX12_ofBoat_72 fl_X12_32_12 (mH_get hA rfl) rfl ?_
        refine T_iload_n dX12_ofBoat_75 rfl ?_
        refine T_iald dX12_ofBoat_76 (mH_get hA rfl) (vpB hb hn (by decide) c5) ?_
        refine T_iconst (v := 1) dX12_ofBoat_77 (by decide) ?_
        refine T_iadd dX12_ofBoat_78 ?_
        refine T_goto (tgt := 88) dX12_ofBoat_79 (by decide) ?_
        refine T_iret dX12_ofBoat_88 rfl (nb rfl) (nb rfl) ?_
        unfold m_ofBoat
        rw [if_pos c5, if_neg (by rw [c11]; decide), if_neg (by rw [c11]; decide), if_neg (by rw [c11]; decide), if_pos c11, if_pos c68]
        exact ⟨rfl, rfl⟩
    · refine T_bipush (v := (-2)) dX12_ofBoat_89 (by decide) ?_
      refine T_iret dX12_ofBoat_91 rfl (nb rfl) (nb rfl) ?_
      unfold m_ofBoat
      rw [if_pos c5, if_neg c11_0, if_neg c11_1, if_neg c11_2, if_neg c11_3]
      exact ⟨rfl, rfl⟩
  · refine T_iconst (v := (-1)) dX12_ofBoat_8 (by decide) ?_
    refine T_iret dX12_ofBoat_9 rfl (nb rfl) (nb rfl) ?_
    unfold m_ofBoat
    rw [if_neg c5]
    exact ⟨rfl, rfl⟩
def m_wind (u : MSt) (hour v : Int32) : Int32 × MSt := if u.1 7 = 0 then (-3, u) else if 0 ≤ hour ∧ hour < u.1 6 then (if 0 ≤ v ∧ v ≤ 2 then (u.2 9 hour.toNatClampNeg, (u.1, va_up u.2 9 (upd (u.2 9) hour.toNatClampNeg v))) else (-2, u)) else (-2, u)
theorem c_X12_wind (hA : A.length = 67) {r : Nat} (hour v : Int32) (hr : u.1 6 = nI r) (hr2 : r ≤ 10) : ConE M_X12_wind [.ref 67, .int hour, .int v] (mH A u B) (some (.int (m_wind u hour v).1)) (mH A (m_wind u hour v).2 B) := by
  refine Con.of rfl (nb rfl) ?_
  refine T_aload_n dX12_wind_0 rfl ?_
  refine T_get dX12_wind_1 fl_X12_75_12 (mH_get hA rfl) rfl ?_
  refine T_if_ne (tgt := 10) dX12_wind_4 (by decide) (fun c4 => ?_) (fun c4 => ?_)
  · refine T_aload_n dX12_wind_10 rfl ?_
    refine T_iload_n dX12_wind_11 rfl ?_
    refine T_v1e (cu2 := 0) (su2 := 0) dX12_wind_12 lv_X12_137 rfl (mH_get hA rfl) rfl (c_X12_isHour hA _) (nb rfl) (nb rfl) (nb rfl) (nb rfl) (nb rfl) ?_
    refine T_if_eqB (tgt := 27) dX12_wind_15 (by decide) (fun c15 => ?_) (fun c15 => ?_)
    · refine T_bipush (v := (-2)) dX12_wind_27 (by decide) ?_
      refine T_iret dX12_wind_29 rfl (nb rfl) (nb rfl) ?_
      unfold m_wind
      rw [if_neg c4, if_neg c15]
      exact ⟨rfl, rfl⟩
    · refine T_iload_n dX12_wind_18 rfl ?_
      refine T_iconst (v := 0) dX12_wind_19 (by decide) ?_
      refine T_iconst (v := 2) dX12_wind_20 (by decide) ?_
      refine T_s3e (cu2 := 0) (su2 := 0) dX12_wind_21 ls_X12_71 rfl (c_X12_within _ _ _) (nb rfl) (nb rfl) (nb rfl) (nb rfl) (nb rfl) ?_
      refine T_if_neB (tgt := 30) dX12_wind_24 (by decide) (fun c24 => ?_) (fun c24 => ?_)
      · refine T_aload_n dX12_wind_30 rfl ?_
        refine T_get dX12_wind_31 fl_X12_23_12 (mH_get hA rfl) rfl ?_
        refine T_iload_n dX12_wind_34 rfl ?_
        refine T_iald dX12_wind_35 (mH_get hA rfl) (vpB hr hr2 (by decide) c15) ?_
        refine T_istore_n dX12_wind_36 (by decide) rfl ?_
        refine T_aload_n dX12_wind_37 rfl ?_
        refine T_get dX12_wind_38 fl_X12_23_12 (mH_get hA rfl) rfl ?_
        refine T_iload_n dX12_wind_41 rfl ?_
        refine T_iload_n dX12_wind_42 rfl ?_
        refine T_iast dX12_wind_43 (mH_get hA rfl) (vpB hr hr2 (by decide) c15) ?_
        first | refine T_h (mT_9 hA) ?_ | refine T_h (mS_9 hA) ?_
        refine T_iload_n dX12_wind_44 rfl ?_
        refine T_iret dX12_wind_45 rfl (nb rfl) (nb rfl) ?_
        unfold m_wind
        rw [if_neg c4, if_pos c15, if_pos c24]
        exact ⟨rfl, rfl⟩
      · refine T_bipush (v := (-2)) dX12_wind_27 (by decide) ?_
        refine T_iret dX12_wind_29 rfl (nb rfl) (nb rfl) ?_
        unfold m_wind
        rw [if_neg c4, if_pos c15, if_neg c24]
        exact ⟨rfl, rfl⟩
  · refine T_bipush (v := (-3)) dX12_wind_7 (by decide) ?_
    refine T_iret dX12_wind_9 rfl (nb rfl) (nb rfl) ?_
    unfold m_wind
    rw [if_pos c4]
    exact ⟨rfl, rfl⟩
def m_isle (u : MSt) (c is : Int32) : Int32 × MSt := if u.1 7 = 0 then (-3, u) else if 1 ≤ c ∧ c ≤ u.1 5 - 1 then (if u.2 8 c.toNatClampNeg = is then (0, (u.1, va_up u.2 8 (upd (u.2 8) c.toNatClampNeg is))) else (1, (u.1, va_up u.2 8 (upd (u.2 8) c.toNatClampNeg is)))) else (-2, u)
theorem vpC {x w : Int32} {wd : Nat} (hw : w = nI wd) (h4 : wd ≤ 4) (h : 1 ≤ x ∧ x ≤ w - 1) : vp_in x 5 := by
  rw [vp_in_iff]
  obtain ⟨h1, h2⟩ := h
  have e : (w - 1).toInt = (wd : Int) - 1 := by rw [hw]; exact pk_sub_toInt (b := 1) (by omega) (by decide)
  simp only [Int32.le_iff_toInt_le] at h1 h2
  have : (1 : Int32).toInt = 1 := rfl
  omega
theorem c_X12_isle (hA : A.length = 67) {wd : Nat} (c is : Int32) (hz : narrow .boolean (.int is) = .int is) (hw : u.1 5 = nI wd) (h4 : wd ≤ 4) : ConE M_X12_isle [.ref 67, .int c, .int is] (mH A u B) (some (.int (m_isle u c is).1)) (mH A (m_isle u c is).2 B) := by
  refine Con.of rfl (nb rfl) ?_
  refine T_aload_n dX12_isle_0 rfl ?_
  refine T_get dX12_isle_1 fl_X12_75_12 (mH_get hA rfl) rfl ?_
  refine T_if_ne (tgt := 10) dX12_isle_4 (by decide) (fun c4 => ?_) (fun c4 => ?_)
  · refine T_iload_n dX12_isle_10 rfl ?_
    refine T_iconst (v := 1) dX12_isle_11 (by decide) ?_
    refine T_aload_n dX12_isle_12 rfl ?_
    refine T_get dX12_isle_13 fl_X12_108_12 (mH_get hA rfl) rfl ?_
    refine T_iconst (v := 1) dX12_isle_16 (by decide) ?_
    refine T_isub dX12_isle_17 ?_
    refine T_s3e (cu2 := 0) (su2 := 0) dX12_isle_18 ls_X12_71 rfl (c_X12_within _ _ _) (nb rfl) (nb rfl) (nb rfl) (nb rfl) (nb rfl) ?_
    refine T_if_neB (tgt := 27) dX12_isle_21 (by decide) (fun c21 => ?_) (fun c21 => ?_)
    · refine T_aload_n dX12_isle_27 rfl ?_
      refine T_get dX12_isle_28 fl_X12_19_12 (mH_get hA rfl) rfl ?_
      refine T_iload_n dX12_isle_31 rfl ?_
      refine T_zald dX12_isle_32 (mH_get hA rfl) (vpC hw h4 c21) ?_
      refine T_istore_n dX12_isle_33 (by decide) rfl ?_
      refine T_aload_n dX12_isle_34 rfl ?_
      refine T_get dX12_isle_35 fl_X12_19_12 (mH_get hA rfl) rfl ?_
      refine T_iload_n dX12_isle_38 rfl ?_
      refine T_iload_n dX12_isle_39 rfl ?_
      refine T_zast dX12_isle_40 (mH_get hA rfl) (vpC hw h4 c21) hz ?_
      first | refine T_h (mT_8 hA) ?_ | refine T_h (mS_8 hA) ?_
      refine T_iload_n dX12_isle_41 rfl ?_
      refine T_iload_n dX12_isle_42 rfl ?_
      refine T_icmp_ne (tgt := 50) dX12_isle_43 (by decide) (fun c43 => ?_) (fun c43 => ?_)
      · refine T_iconst (v := 1) dX12_isle_50 (by decide) ?_
        refine T_iret dX12_isle_51 rfl (nb rfl) (nb rfl) ?_
        unfold m_isle
        rw [if_neg c4, if_pos c21, if_neg c43]
        exact ⟨rfl, rfl⟩
      · refine T_iconst (v := 0) dX12_isle_46 (by decide) ?_
        refine T_goto (tgt := 51) dX12_isle_47 (by decide) ?_
        refine T_iret dX12_isle_51 rfl (nb rfl) (nb rfl) ?_
        unfold m_isle
        rw [if_neg c4, if_pos c21, if_pos c43]
        exact ⟨rfl, rfl⟩
    · refine T_bipush (v := (-2)) dX12_isle_24 (by decide) ?_
      refine T_iret dX12_isle_26 rfl (nb rfl) (nb rfl) ?_
      unfold m_isle
      rw [if_neg c4, if_neg c21]
      exact ⟨rfl, rfl⟩
  · refine T_bipush (v := (-3)) dX12_isle_7 (by decide) ?_
    refine T_iret dX12_isle_9 rfl (nb rfl) (nb rfl) ?_
    unfold m_isle
    rw [if_pos c4]
    exact ⟨rfl, rfl⟩
def m_reading (u : MSt) (b hour c : Int32) : Int32 × MSt := if 0 ≤ b ∧ b < u.1 7 then (if 0 ≤ hour ∧ hour ≤ 9 then (if 0 ≤ c ∧ c ≤ u.1 5 then (if u.1 28 = 8 then (-4, u) else (u.1 28 + 1 - 1, (va_up u.1 28 (u.1 28 + 1), va_up (va_up (va_up u.2 29 (upd (u.2 29) (u.1 28).toNatClampNeg b)) 30 (upd (u.2 30) (u.1 28).toNatClampNeg hour)) 31 (upd (u.2 31) (u.1 28).toNatClampNeg c)))) else (-2, u)) else (-2, u)) else (-1, u)
theorem c_X12_reading (hA : A.length = 67) {q : Nat} (b hour c : Int32) (hq : u.1 28 = nI q) (hq8 : q ≤ 8) : ConE M_X12_reading [.ref 67, .int b, .int hour, .int c] (mH A u B) (some (.int (m_reading u b hour c).1)) (mH A (m_reading u b hour c).2 B) := by
  have hi : ¬ u.1 28 = 8 → vp_in (u.1 28) 8 := fun e => by
    rw [hq]
    refine vp_in_nI ?_ (by decide)
    have : ¬ q = 8 := fun e2 => e (by rw [hq, e2]; rfl)
    omega
  refine Con.of rfl (nb rfl) ?_
  refine T_aload_n dX12_reading_0 rfl ?_
  refine T_iload_n dX12_reading_1 rfl ?_
  refine T_v1e (cu2 := 0) (su2 := 0) dX12_reading_2 lv_X12_134 rfl (mH_get hA rfl) rfl (c_X12_isBoat hA _) (nb rfl) (nb rfl) (nb rfl) (nb rfl) (nb rfl) ?_
  refine T_if_neB (tgt := 10) dX12_reading_5 (by decide) (fun c5 => ?_) (fun c5 => ?_)
  · refine T_iload_n dX12_reading_10 rfl ?_
    refine T_iconst (v := 0) dX12_reading_11 (by decide) ?_
    refine T_bipush (v := 9) dX12_reading_12 (by decide) ?_
    refine T_s3e (cu2 := 0) (su2 := 0) dX12_reading_14 ls_X12_71 rfl (c_X12_within _ _ _) (nb rfl) (nb rfl) (nb rfl) (nb rfl) (nb rfl) ?_
    refine T_if_eqB (tgt := 32) dX12_reading_17 (by decide) (fun c17 => ?_) (fun c17 => ?_)
    · refine T_bipush (v := (-2)) dX12_reading_32 (by decide) ?_
      refine T_iret dX12_reading_34 rfl (nb rfl) (nb rfl) ?_
      unfold m_reading
      rw [if_pos c5, if_neg c17]
      exact ⟨rfl, rfl⟩
    · refine T_iload_n dX12_reading_20 rfl ?_
      refine T_iconst (v := 0) dX12_reading_21 (by decide) ?_
      refine T_aload_n dX12_reading_22 rfl ?_
      refine T_get dX12_reading_23 fl_X12_108_12 (mH_get hA rfl) rfl ?_
      refine T_s3e (cu2 := 0) (su2 := 0) dX12_reading_26 ls_X12_71 rfl (c_X12_within _ _ _) (nb rfl) (nb rfl) (nb rfl) (nb rfl) (nb rfl) ?_
      refine T_if_neB (tgt := 35) dX12_reading_29 (by decide) (fun c29 => ?_) (fun c29 => ?_)
      · refine T_aload_n dX12_reading_35 rfl ?_
        refine T_get dX12_reading_36 fl_X12_117_12 (mH_get hA rfl) rfl ?_
        refine T_bipush (v := 8) dX12_reading_39 (by decide) ?_
        refine T_icmp_ne (tgt := 47) dX12_reading_41 (by decide) (fun c41 => ?_) (fun c41 => ?_)
        · refine T_aload_n dX12_reading_47 rfl ?_
          refine T_get dX12_reading_48 fl_X12_56_12 (mH_get hA rfl) rfl ?_
          refine T_aload_n dX12_reading_51 rfl ?_
          refine T_get dX12_reading_52 fl_X12_117_12 (mH_get hA rfl) rfl ?_
          refine T_iload_n dX12_reading_55 rfl ?_
          refine T_iast dX12_reading_56 (mH_get hA rfl) (hi c41) ?_
          first | refine T_h (mT_29 hA) ?_ | refine T_h (mS_29 hA) ?_
          refine T_aload_n dX12_reading_57 rfl ?_
          refine T_get dX12_reading_58 fl_X12_59_12 (mH_get hA rfl) rfl ?_
          refine T_aload_n dX12_reading_61 rfl ?_
          refine T_get dX12_reading_62 fl_X12_117_12 (mH_get hA rfl) rfl ?_
          refine T_iload_n dX12_reading_65 rfl ?_
          refine T_iast dX12_reading_66 (mH_get hA rfl) (hi c41) ?_
          first | refine T_h (mT_30 hA) ?_ | refine T_h (mS_30 hA) ?_
          refine T_aload_n dX12_reading_67 rfl ?_
          refine T_get dX12_reading_68 fl_X12_62_12 (mH_get hA rfl) rfl ?_
          refine T_aload_n dX12_reading_71 rfl ?_
          refine T_get dX12_reading_72 fl_X12_117_12 (mH_get hA rfl) rfl ?_
          refine T_iload_n dX12_reading_75 rfl ?_
          refine T_iast dX12_reading_76 (mH_get hA rfl) (hi c41) ?_
          first | refine T_h (mT_31 hA) ?_ | refine T_h (mS_31 hA) ?_
          refine T_aload_n dX12_reading_77 rfl ?_
          refine T_dup dX12_reading_78 rfl ?_
          refine T_get dX12_reading_79 fl_X12_117_12 (mH_get hA rfl) rfl ?_
          refine T_iconst (v := 1) dX12_reading_82 (by decide) ?_
          refine T_iadd dX12_reading_83 ?_
          refine T_put dX12_reading_84 fp_X12_117_12 (mH_get hA rfl) (nb rfl) (fun _ => ⟨rfl, rfl⟩) ?_
          first | refine T_h (mE_28 hA) ?_ | refine T_h (mF_28 hA) ?_
          refine T_aload_n dX12_reading_87 rfl ?_
          refine T_get dX12_reading_88 fl_X12_117_12 (mH_get hA rfl) rfl ?_
          refine T_iconst (v := 1) dX12_reading_91 (by decide) ?_
          refine T_isub dX12_reading_92 ?_
          refine T_iret dX12_reading_93 rfl (nb rfl) (nb rfl) ?_
          unfold m_reading
          rw [if_pos c5, if_pos c17, if_pos c29, if_neg c41]
          exact ⟨rfl, rfl⟩
        · refine T_bipush (v := (-4)) dX12_reading_44 (by decide) ?_
          refine T_iret dX12_reading_46 rfl (nb rfl) (nb rfl) ?_
          unfold m_reading
          rw [if_pos c5, if_pos c17, if_pos c29, if_pos c41]
          exact ⟨rfl, rfl⟩
      · refine T_bipush (v := (-2)) dX12_reading_32 (by decide) ?_
        refine T_iret dX12_reading_34 rfl (nb rfl) (nb rfl) ?_
        unfold m_reading
        rw [if_pos c5, if_pos c17, if_neg c29]
        exact ⟨rfl, rfl⟩
  · refine T_iconst (v := (-1)) dX12_reading_8 (by decide) ?_
    refine T_iret dX12_reading_9 rfl (nb rfl) (nb rfl) ?_
    unfold m_reading
    rw [if_neg c5]
    exact ⟨rfl, rfl⟩
def m_back (u : MSt) (k : Int32) : Int32 × MSt := if 0 ≤ k ∧ k ≤ u.1 28 then (u.1 28 - k, (va_up u.1 28 (u.1 28 - k), u.2)) else (-2, u)
theorem c_X12_back (hA : A.length = 67) (k : Int32) : ConE M_X12_back [.ref 67, .int k] (mH A u B) (some (.int (m_back u k).1)) (mH A (m_back u k).2 B) := by
  refine Con.of rfl (nb rfl) ?_
  refine T_iload_n dX12_back_0 rfl ?_
  refine T_iconst (v := 0) dX12_back_1 (by decide) ?_
  refine T_aload_n dX12_back_2 rfl ?_
  refine T_get dX12_back_3 fl_X12_117_12 (mH_get hA rfl) rfl ?_
  refine T_s3e (cu2 := 0) (su2 := 0) dX12_back_6 ls_X12_71 rfl (c_X12_within _ _ _) (nb rfl) (nb rfl) (nb rfl) (nb rfl) (nb rfl) ?_
  refine T_if_neB (tgt := 15) dX12_back_9 (by decide) (fun c9 => ?_) (fun c9 => ?_)
  · refine T_aload_n dX12_back_15 rfl ?_
    refine T_dup dX12_back_16 rfl ?_
    refine T_get dX12_back_17 fl_X12_117_12 (mH_get hA rfl) rfl ?_
    refine T_iload_n dX12_back_20 rfl ?_
    refine T_isub dX12_back_21 ?_
    refine T_put dX12_back_22 fp_X12_117_12 (mH_get hA rfl) (nb rfl) (fun _ => ⟨rfl, rfl⟩) ?_
    first | refine T_h (mE_28 hA) ?_ | refine T_h (mF_28 hA) ?_
    refine T_aload_n dX12_back_25 rfl ?_
    refine T_get dX12_back_26 fl_X12_117_12 (mH_get hA rfl) rfl ?_
    refine T_iret dX12_back_29 rfl (nb rfl) (nb rfl) ?_
    unfold m_back
    rw [if_pos c9]
    exact ⟨rfl, rfl⟩
  · refine T_bipush (v := (-2)) dX12_back_12 (by decide) ?_
    refine T_iret dX12_back_14 rfl (nb rfl) (nb rfl) ?_
    unfold m_back
    rw [if_neg c9]
    exact ⟨rfl, rfl⟩
theorem c_X12_trace (hA : A.length = 67) : ConE M_X12_trace [.ref 67] (mH A u B) (some (.int (u.1 1))) (mH A u B) := by
  refine Con.of rfl (nb rfl) ?_
  refine T_aload_n dX12_trace_0 rfl ?_
  refine T_get dX12_trace_1 fl_X12_234_12 (mH_get hA rfl) rfl ?_
  refine T_iret dX12_trace_4 rfl (nb rfl) (nb rfl) ?_
  exact ⟨rfl, rfl⟩
theorem c_X12_fault (hA : A.length = 67) : ConE M_X12_fault [.ref 67] (mH A u B) (some (.int (u.1 0))) (mH A u B) := by
  refine Con.of rfl (nb rfl) ?_
  refine T_aload_n dX12_fault_0 rfl ?_
  refine T_get dX12_fault_1 fl_X12_65_12 (mH_get hA rfl) rfl ?_
  refine T_iret dX12_fault_4 rfl (nb rfl) (nb rfl) ?_
  exact ⟨rfl, rfl⟩
def m_many (u : MSt) (what : Int32) : Int32 := if what = 0 then u.1 7 else if what = 1 then u.1 5 else if what = 2 then u.1 6 else if what = 3 then u.1 28 else -2
theorem c_X12_many (hA : A.length = 67) (what : Int32) : ConE M_X12_many [.ref 67, .int what] (mH A u B) (some (.int (m_many u what))) (mH A u B) := by
  refine Con.of rfl (nb rfl) ?_
  refine T_iload_n dX12_many_0 rfl ?_
  refine T_if_ne (tgt := 11) dX12_many_1 (by decide) (fun c1 => ?_) (fun c1 => ?_)
  · refine T_iload_n dX12_many_11 rfl ?_
    refine T_iconst (v := 1) dX12_many_12 (by decide) ?_
    refine T_icmp_ne (tgt := 23) dX12_many_13 (by decide) (fun c13 => ?_) (fun c13 => ?_)
    · refine T_iload_n dX12_many_23 rfl ?_
      refine T_iconst (v := 2) dX12_many_24 (by decide) ?_
      refine T_icmp_ne (tgt := 35) dX12_many_25 (by decide) (fun c25 => ?_) (fun c25 => ?_)
      · refine T_iload_n dX12_many_35 rfl ?_
        refine T_iconst (v := 3) dX12_many_36 (by decide) ?_
        refine T_icmp_ne (tgt := 47) dX12_many_37 (by decide) (fun c37 => ?_) (fun c37 => ?_)
        · refine T_bipush (v := (-2)) dX12_many_47 (by decide) ?_
          refine T_iret dX12_many_49 rfl (nb rfl) (nb rfl) ?_
          unfold m_many
          rw [if_neg c1, if_neg c13, if_neg c25, if_neg c37]
          exact ⟨rfl, rfl⟩
        · refine T_aload_n dX12_many_40 rfl ?_
          refine T_get dX12_many_41 fl_X12_117_12 (mH_get hA rfl) rfl ?_
          refine T_goto (tgt := 49) dX12_many_44 (by decide) ?_
          refine T_iret dX12_many_49 rfl (nb rfl) (nb rfl) ?_
          unfold m_many
          rw [if_neg c1, if_neg c13, if_neg c25, if_pos c37]
          exact ⟨rfl, rfl⟩
      · refine T_aload_n dX12_many_28 rfl ?_
        refine T_get dX12_many_29 fl_X12_78_12 (mH_get hA rfl) rfl ?_
        refine T_goto (tgt := 49) dX12_many_32 (by decide) ?_
        refine T_iret dX12_many_49 rfl (nb rfl) (nb rfl) ?_
        unfold m_many
        rw [if_neg c1, if_neg c13, if_pos c25]
        exact ⟨rfl, rfl⟩
    · refine T_aload_n dX12_many_16 rfl ?_
      refine T_get dX12_many_17 fl_X12_108_12 (mH_get hA rfl) rfl ?_
      refine T_goto (tgt := 49) dX12_many_20 (by decide) ?_
      refine T_iret dX12_many_49 rfl (nb rfl) (nb rfl) ?_
      unfold m_many
      rw [if_neg c1, if_pos c13]
      exact ⟨rfl, rfl⟩
  · refine T_aload_n dX12_many_4 rfl ?_
    refine T_get dX12_many_5 fl_X12_75_12 (mH_get hA rfl) rfl ?_
    refine T_goto (tgt := 49) dX12_many_8 (by decide) ?_
    refine T_iret dX12_many_49 rfl (nb rfl) (nb rfl) ?_
    unfold m_many
    rw [if_pos c1]
    exact ⟨rfl, rfl⟩
def m_as0 (u : MSt) (b sort : Int32) : Int32 × MSt := if 0 ≤ b ∧ b < u.1 7 then (if 0 ≤ sort ∧ sort ≤ 2 then (if u.2 10 b.toNatClampNeg < sort then (-10 - 2, (va_up u.1 0 2, u.2)) else (1, u)) else (-2, u)) else (-1, u)
theorem c_X12_as (hA : A.length = 67) {n : Nat} (b sort : Int32) (hb : u.1 7 = nI n) (hn : n ≤ 3) : ConE M_X12_as [.ref 67, .int b, .int sort] (mH A u B) (some (.int (m_as0 (m0 u 0) b sort).1)) (mH A (m_as0 (m0 u 0) b sort).2 B) := by
  refine Con.of rfl (nb rfl) ?_
  refine T_aload_n dX12_as_0 rfl ?_
  refine T_iconst (v := 0) dX12_as_1 (by decide) ?_
  refine T_put dX12_as_2 fp_X12_65_12 (mH_get hA rfl) (nb rfl) (fun _ => ⟨rfl, rfl⟩) ?_
  first | refine T_h (mE_0 hA) ?_ | refine T_h (mF_0 hA) ?_
  refine T_aload_n dX12_as_5 rfl ?_
  refine T_iload_n dX12_as_6 rfl ?_
  refine T_v1e (cu2 := 0) (su2 := 0) dX12_as_7 lv_X12_134 rfl (mH_get hA rfl) rfl (c_X12_isBoat hA _) (nb rfl) (nb rfl) (nb rfl) (nb rfl) (nb rfl) ?_
  refine T_if_neB (tgt := 15) dX12_as_10 (by decide) (fun c10 => ?_) (fun c10 => ?_)
  · refine T_iload_n dX12_as_15 rfl ?_
    refine T_iconst (v := 0) dX12_as_16 (by decide) ?_
    refine T_iconst (v := 2) dX12_as_17 (by decide) ?_
    refine T_s3e (cu2 := 0) (su2 := 0) dX12_as_18 ls_X12_71 rfl (c_X12_within _ _ _) (nb rfl) (nb rfl) (nb rfl) (nb rfl) (nb rfl) ?_
    refine T_if_neB (tgt := 27) dX12_as_21 (by decide) (fun c21 => ?_) (fun c21 => ?_)
    · refine T_aload_n dX12_as_27 rfl ?_
      refine T_get dX12_as_28 fl_X12_26_12 (mH_get hA rfl) rfl ?_
      refine T_iload_n dX12_as_31 rfl ?_
      refine T_iald dX12_as_32 (mH_get hA rfl) (vpB hb hn (by decide) c10) ?_
      refine T_iload_n dX12_as_33 rfl ?_
      refine T_icmp_lt (tgt := 41) dX12_as_34 (by decide) (fun c34 => ?_) (fun c34 => ?_)
      · refine T_aload_n dX12_as_41 rfl ?_
        refine T_iconst (v := 2) dX12_as_42 (by decide) ?_
        refine T_v1e (cu2 := 0) (su2 := 0) dX12_as_43 lv_X12_95 rfl (mH_get hA rfl) rfl (c_X12_fails hA _) (nb rfl) (nb rfl) (nb rfl) (nb rfl) (nb rfl) ?_
        refine T_iret dX12_as_46 rfl (nb rfl) (nb rfl) ?_
        unfold m_as0
        rw [if_pos c10, if_pos c21, if_pos c34]
        exact ⟨rfl, rfl⟩
      · refine T_iconst (v := 1) dX12_as_37 (by decide) ?_
        refine T_goto (tgt := 46) dX12_as_38 (by decide) ?_
        refine T_iret dX12_as_46 rfl (nb rfl) (nb rfl) ?_
        unfold m_as0
        rw [if_pos c10, if_pos c21, if_neg c34]
        exact ⟨rfl, rfl⟩
    · refine T_bipush (v := (-2)) dX12_as_24 (by decide) ?_
      refine T_iret dX12_as_26 rfl (nb rfl) (nb rfl) ?_
      unfold m_as0
      rw [if_pos c10, if_neg c21]
      exact ⟨rfl, rfl⟩
  · refine T_iconst (v := (-1)) dX12_as_13 (by decide) ?_
    refine T_iret dX12_as_14 rfl (nb rfl) (nb rfl) ?_
    unfold m_as0
    rw [if_neg c10]
    exact ⟨rfl, rfl⟩
def m_leave (u : MSt) (k : Int32) : MSt := (va_up u.1 1 (31 * u.1 1 + k), u.2)
def m_tell (u : MSt) (b : Int32) : Int32 × MSt := if 0 ≤ b ∧ b < u.1 7 then (if u.2 10 b.toNatClampNeg = 1 then (u.2 12 b.toNatClampNeg + 100, m_leave (m_leave u 2) 1) else if u.2 10 b.toNatClampNeg = 2 then (2 * u.2 12 b.toNatClampNeg + 100, m_leave (m_leave (m_leave (m_leave u 3) 2) 1) 1) else (u.2 12 b.toNatClampNeg, m_leave u 1)) else (-1, u)
theorem c_X12_tell (hA : A.length = 67) {n : Nat} (b : Int32) (hb : u.1 7 = nI n) (hn : n ≤ 3) : ConE M_X12_tell [.ref 67, .int b] (mH A u B) (some (.int (m_tell u b).1)) (mH A (m_tell u b).2 B) := by
  refine Con.of rfl (nb rfl) ?_
  refine T_aload_n dX12_tell_0 rfl ?_
  refine T_iload_n dX12_tell_1 rfl ?_
  refine T_v1e (cu2 := 0) (su2 := 0) dX12_tell_2 lv_X12_134 rfl (mH_get hA rfl) rfl (c_X12_isBoat hA _) (nb rfl) (nb rfl) (nb rfl) (nb rfl) (nb rfl) ?_
  refine T_if_neB (tgt := 10) dX12_tell_5 (by decide) (fun c5 => ?_) (fun c5 => ?_)
  · refine T_aload_n dX12_tell_10 rfl ?_
    refine T_get dX12_tell_11 fl_X12_32_12 (mH_get hA rfl) rfl ?_
    refine T_iload_n dX12_tell_14 rfl ?_
    refine T_iald dX12_tell_15 (mH_get hA rfl) (vpB hb hn (by decide) c5) ?_
    refine T_istore_n dX12_tell_16 (by decide) rfl ?_
    refine T_aload_n dX12_tell_17 rfl ?_
    refine T_get dX12_tell_18 fl_X12_26_12 (mH_get hA rfl) rfl ?_
    refine T_iload_n dX12_tell_21 rfl ?_
    refine T_iald dX12_tell_22 (mH_get hA rfl) (vpB hb hn (by decide) c5) ?_
    refine T_lk12 (t1 := 48) (t2 := 63) (td := 90) dX12_tell_23 (by decide) (by decide) (by decide) (fun c23 => ?_) (fun c23 => ?_) (fun c23_1 c23_2 => ?_)
    · refine T_aload_n dX12_tell_48 rfl ?_
      refine T_iconst (v := 2) dX12_tell_49 (by decide) ?_
      refine T_v1e (cu2 := 0) (su2 := 0) dX12_tell_50 lv_X12_237 rfl (mH_get hA rfl) rfl (c_X12_leaves hA _) (nb rfl) (nb rfl) (nb rfl) (nb rfl) (nb rfl) ?_
      refine T_aload_n dX12_tell_53 rfl ?_
      refine T_iconst (v := 1) dX12_tell_54 (by decide) ?_
      refine T_v1e (cu2 := 0) (su2 := 0) dX12_tell_55 lv_X12_237 rfl (mH_get hA rfl) rfl (c_X12_leaves hA _) (nb rfl) (nb rfl) (nb rfl) (nb rfl) (nb rfl) ?_
      refine T_iload_n dX12_tell_58 rfl ?_
      refine T_bipush (v := 100) dX12_tell_59 (by decide) ?_
      refine T_iadd dX12_tell_61 ?_
      refine T_iret dX12_tell_62 rfl (nb rfl) (nb rfl) ?_
      unfold m_tell
      rw [if_pos c5, if_pos c23]
      exact ⟨rfl, rfl⟩
    · refine T_aload_n dX12_tell_63 rfl ?_
      refine T_iconst (v := 3) dX12_tell_64 (by decide) ?_
      refine T_v1e (cu2 := 0) (su2 := 0) dX12_tell_65 lv_X12_237 rfl (mH_get hA rfl) rfl (c_X12_leaves hA _) (nb rfl) (nb rfl) (nb rfl) (nb rfl) (nb rfl) ?_
      refine T_aload_n dX12_tell_68 rfl ?_
      refine T_iconst (v := 2) dX12_tell_69 (by decide) ?_
      refine T_v1e (cu2 := 0) (su2 := 0) dX12_tell_70 lv_X12_237 rfl (mH_get hA rfl) rfl (c_X12_leaves hA _) (nb rfl) (nb rfl) (nb rfl) (nb rfl) (nb rfl) ?_
      refine T_aload_n dX12_tell_73 rfl ?_
      refine T_iconst (v := 1) dX12_tell_74 (by decide) ?_
      refine T_v1e (cu2 := 0) (su2 := 0) dX12_tell_75 lv_X12_237 rfl (mH_get hA rfl) rfl (c_X12_leaves hA _) (nb rfl) (nb rfl) (nb rfl) (nb rfl) (nb rfl) ?_
      refine T_aload_n dX12_tell_78 rfl ?_
      refine T_iconst (v := 1) dX12_tell_79 (by decide) ?_
      refine T_v1e (cu2 := 0) (su2 := 0) dX12_tell_80 lv_X12_237 rfl (mH_get hA rfl) rfl (c_X12_leaves hA _) (nb rfl) (nb rfl) (nb rfl) (nb rfl) (nb rfl) ?_
      refine T_iconst (v := 2) dX12_tell_83 (by decide) ?_
      refine T_iload_n dX12_tell_84 rfl ?_
      refine T_imul dX12_tell_85 ?_
      refine T_bipush (v := 100) dX12_tell_86 (by decide) ?_
      refine T_iadd dX12_tell_88 ?_
      refine T_iret dX12_tell_89 rfl (nb rfl) (nb rfl) ?_
      unfold m_tell
      rw [if_pos c5, if_neg (by rw [c23]; decide), if_pos c23]
      exact ⟨rfl, rfl⟩
    · refine T_aload_n dX12_tell_90 rfl ?_
      refine T_iconst (v := 1) dX12_tell_91 (by decide) ?_
      refine T_v1e (cu2 := 0) (su2 := 0) dX12_tell_92 lv_X12_237 rfl (mH_get hA rfl) rfl (c_X12_leaves hA _) (nb rfl) (nb rfl) (nb rfl) (nb rfl) (nb rfl) ?_
      refine T_iload_n dX12_tell_95 rfl ?_
      refine T_iret dX12_tell_96 rfl (nb rfl) (nb rfl) ?_
      unfold m_tell
      rw [if_pos c5, if_neg c23_1, if_neg c23_2]
      exact ⟨rfl, rfl⟩
  · refine T_iconst (v := (-1)) dX12_tell_8 (by decide) ?_
    refine T_iret dX12_tell_9 rfl (nb rfl) (nb rfl) ?_
    unfold m_tell
    rw [if_neg c5]
    exact ⟨rfl, rfl⟩
def m_hail (u : MSt) (b : Int32) : Int32 × MSt := if 0 ≤ b ∧ b < u.1 7 then (if u.2 10 b.toNatClampNeg = 2 then (if u.2 10 b.toNatClampNeg = 2 then (70, m_leave u 5) else (b, m_leave u 5)) else (if u.2 10 b.toNatClampNeg = 2 then (70, m_leave u 4) else (b, m_leave u 4))) else (-1, u)
theorem c_X12_hail (hA : A.length = 67) {n : Nat} (b : Int32) (hb : u.1 7 = nI n) (hn : n ≤ 3) : ConE M_X12_hail [.ref 67, .int b] (mH A u B) (some (.int (m_hail u b).1)) (mH A (m_hail u b).2 B) := by
  refine Con.of rfl (nb rfl) ?_
  refine T_aload_n dX12_hail_0 rfl ?_
  refine T_iload_n dX12_hail_1 rfl ?_
  refine T_v1e (cu2 := 0) (su2 := 0) dX12_hail_2 lv_X12_134 rfl (mH_get hA rfl) rfl (c_X12_isBoat hA _) (nb rfl) (nb rfl) (nb rfl) (nb rfl) (nb rfl) ?_
  refine T_if_neB (tgt := 10) dX12_hail_5 (by decide) (fun c5 => ?_) (fun c5 => ?_)
  · refine T_aload_n dX12_hail_10 rfl ?_
    refine T_aload_n dX12_hail_11 rfl ?_
    refine T_get dX12_hail_12 fl_X12_26_12 (mH_get hA rfl) rfl ?_
    refine T_iload_n dX12_hail_15 rfl ?_
    refine T_iald dX12_hail_16 (mH_get hA rfl) (vpB hb hn (by decide) c5) ?_
    refine T_iconst (v := 2) dX12_hail_17 (by decide) ?_
    refine T_icmp_ne (tgt := 25) dX12_hail_18 (by decide) (fun c18 => ?_) (fun c18 => ?_)
    · refine T_iconst (v := 4) dX12_hail_25 (by decide) ?_
      refine T_v1e (cu2 := 0) (su2 := 0) dX12_hail_26 lv_X12_237 rfl (mH_get hA rfl) rfl (c_X12_leaves hA _) (nb rfl) (nb rfl) (nb rfl) (nb rfl) (nb rfl) ?_
      refine T_aload_n dX12_hail_29 rfl ?_
      refine T_get dX12_hail_30 fl_X12_26_12 (mH_get hA rfl) rfl ?_
      refine T_iload_n dX12_hail_33 rfl ?_
      refine T_iald dX12_hail_34 (mH_get hA rfl) (vpB hb hn (by decide) c5) ?_
      refine T_iconst (v := 2) dX12_hail_35 (by decide) ?_
      refine T_icmp_ne (tgt := 44) dX12_hail_36 (by decide) (fun c36 => ?_) (fun c36 => ?_)
      · refine T_iload_n dX12_hail_44 rfl ?_
        refine T_iret dX12_hail_45 rfl (nb rfl) (nb rfl) ?_
        unfold m_hail
        rw [if_pos c5, if_neg c18, if_neg c36]
        exact ⟨rfl, rfl⟩
      · refine T_bipush (v := 70) dX12_hail_39 (by decide) ?_
        refine T_goto (tgt := 45) dX12_hail_41 (by decide) ?_
        refine T_iret dX12_hail_45 rfl (nb rfl) (nb rfl) ?_
        unfold m_hail
        rw [if_pos c5, if_neg c18, if_pos c36]
        exact ⟨rfl, rfl⟩
    · refine T_iconst (v := 5) dX12_hail_21 (by decide) ?_
      refine T_goto (tgt := 26) dX12_hail_22 (by decide) ?_
      refine T_v1e (cu2 := 0) (su2 := 0) dX12_hail_26 lv_X12_237 rfl (mH_get hA rfl) rfl (c_X12_leaves hA _) (nb rfl) (nb rfl) (nb rfl) (nb rfl) (nb rfl) ?_
      refine T_aload_n dX12_hail_29 rfl ?_
      refine T_get dX12_hail_30 fl_X12_26_12 (mH_get hA rfl) rfl ?_
      refine T_iload_n dX12_hail_33 rfl ?_
      refine T_iald dX12_hail_34 (mH_get hA rfl) (vpB hb hn (by decide) c5) ?_
      refine T_iconst (v := 2) dX12_hail_35 (by decide) ?_
      refine T_icmp_ne (tgt := 44) dX12_hail_36 (by decide) (fun c36 => ?_) (fun c36 => ?_)
      · refine T_iload_n dX12_hail_44 rfl ?_
        refine T_iret dX12_hail_45 rfl (nb rfl) (nb rfl) ?_
        unfold m_hail
        rw [if_pos c5, if_pos c18, if_neg c36]
        exact ⟨rfl, rfl⟩
      · refine T_bipush (v := 70) dX12_hail_39 (by decide) ?_
        refine T_goto (tgt := 45) dX12_hail_41 (by decide) ?_
        refine T_iret dX12_hail_45 rfl (nb rfl) (nb rfl) ?_
        unfold m_hail
        rw [if_pos c5, if_pos c18, if_pos c36]
        exact ⟨rfl, rfl⟩
  · refine T_iconst (v := (-1)) dX12_hail_8 (by decide) ?_
    refine T_iret dX12_hail_9 rfl (nb rfl) (nb rfl) ?_
    unfold m_hail
    rw [if_neg c5]
    exact ⟨rfl, rfl⟩
end M6
