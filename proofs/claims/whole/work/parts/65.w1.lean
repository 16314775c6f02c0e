/-! LakeWind: its small methods -/
theorem i32_s {k a b : Int32} (e : b.toInt = a.toInt + 1) : k < b ↔ k ≤ a := by
  rw [Int32.lt_iff_toInt_lt, Int32.le_iff_toInt_le]
  omega
theorem i32_p {k : Int32} : 0 < k ↔ 1 ≤ k := by
  rw [Int32.lt_iff_toInt_lt, Int32.le_iff_toInt_le, show (0 : Int32).toInt = 0 from rfl, show (1 : Int32).toInt = 1 from rfl]
  omega
section C65
variable {h : XH} {Z : XZ} {L : LK} {wn : Nat → Nat} {wy nw wt sp isl wo fl : Nat} {bp : Nat → Nat} {lf : Int32}
abbrev cwO (wy nw wt sp : Nat) (lf : Int32) : XC := .inr (11, [.ref 1, .ref 2, .ref 4, .ref 8, .ref 10, .ref 43, .ref 44, .ref wy, .ref nw, .ref wt, .ref sp, .int lf])
def ShH (h : XH) (ln sz : Nat → Int32) (g : Nat → Nat → Int32) : Prop := ∃ sf, h[1]? = some (.inl (3, 4, .inr (.inr sf))) ∧ ∀ k, k < 4 → sf k = some (59 + 2 * k) ∧ h[59 + 2 * k]? = some (shO (ln k) (sz k) (60 + 2 * k)) ∧ h[60 + 2 * k]? = some (r60 (g k))
theorem c_X11_isSheet (k : Int32) : ConE M_X11_isSheet [.int k] h (some (.int (bI (0 ≤ k ∧ k ≤ 3)))) h := by
  refine Con.of rfl (nb rfl) ?_
  have e : k < 4 ↔ k ≤ 3 := i32_s rfl
  refine T_iload_n dX11_isSheet_0 rfl ?_
  refine T_if_lt (tgt := 13) dX11_isSheet_1 (by decide) (fun c1 => ?_) (fun c1 => ?_)
  · refine T_iconst (v := 0) dX11_isSheet_13 (by decide) ?_
    refine T_zret dX11_isSheet_14 rfl rfl (nb rfl) (nb rfl) ?_
    exact ⟨sI (by first | exact bI_t ⟨Int32.not_lt.mp c1, e.mp (Int32.not_le.mp c6)⟩ | exact bI_f (fun q => Int32.not_lt.mpr q.1 c1) | exact bI_f (fun q => Int32.not_le.mpr (e.mpr q.2) c6)), rfl⟩
  · refine T_iload_n dX11_isSheet_4 rfl ?_
    refine T_iconst (v := 4) dX11_isSheet_5 (by decide) ?_
    refine T_icmp_ge (tgt := 13) dX11_isSheet_6 (by decide) (fun c6 => ?_) (fun c6 => ?_)
    · refine T_iconst (v := 0) dX11_isSheet_13 (by decide) ?_
      refine T_zret dX11_isSheet_14 rfl rfl (nb rfl) (nb rfl) ?_
      exact ⟨sI (by first | exact bI_t ⟨Int32.not_lt.mp c1, e.mp (Int32.not_le.mp c6)⟩ | exact bI_f (fun q => Int32.not_lt.mpr q.1 c1) | exact bI_f (fun q => Int32.not_le.mpr (e.mpr q.2) c6)), rfl⟩
    · refine T_iconst (v := 1) dX11_isSheet_9 (by decide) ?_
      refine T_goto (tgt := 14) dX11_isSheet_10 (by decide) ?_
      refine T_zret dX11_isSheet_14 rfl rfl (nb rfl) (nb rfl) ?_
      exact ⟨sI (by first | exact bI_t ⟨Int32.not_lt.mp c1, e.mp (Int32.not_le.mp c6)⟩ | exact bI_f (fun q => Int32.not_lt.mpr q.1 c1) | exact bI_f (fun q => Int32.not_le.mpr (e.mpr q.2) c6)), rfl⟩
theorem c_X11_isLane (k : Int32) : ConE M_X11_isLane [.int k] h (some (.int (bI (0 ≤ k ∧ k ≤ 2)))) h := by
  refine Con.of rfl (nb rfl) ?_
  have e : k < 3 ↔ k ≤ 2 := i32_s rfl
  refine T_iload_n dX11_isLane_0 rfl ?_
  refine T_if_lt (tgt := 13) dX11_isLane_1 (by decide) (fun c1 => ?_) (fun c1 => ?_)
  · refine T_iconst (v := 0) dX11_isLane_13 (by decide) ?_
    refine T_zret dX11_isLane_14 rfl rfl (nb rfl) (nb rfl) ?_
    exact ⟨sI (by first | exact bI_t ⟨Int32.not_lt.mp c1, e.mp (Int32.not_le.mp c6)⟩ | exact bI_f (fun q => Int32.not_lt.mpr q.1 c1) | exact bI_f (fun q => Int32.not_le.mpr (e.mpr q.2) c6)), rfl⟩
  · refine T_iload_n dX11_isLane_4 rfl ?_
    refine T_iconst (v := 3) dX11_isLane_5 (by decide) ?_
    refine T_icmp_ge (tgt := 13) dX11_isLane_6 (by decide) (fun c6 => ?_) (fun c6 => ?_)
    · refine T_iconst (v := 0) dX11_isLane_13 (by decide) ?_
      refine T_zret dX11_isLane_14 rfl rfl (nb rfl) (nb rfl) ?_
      exact ⟨sI (by first | exact bI_t ⟨Int32.not_lt.mp c1, e.mp (Int32.not_le.mp c6)⟩ | exact bI_f (fun q => Int32.not_lt.mpr q.1 c1) | exact bI_f (fun q => Int32.not_le.mpr (e.mpr q.2) c6)), rfl⟩
    · refine T_iconst (v := 1) dX11_isLane_9 (by decide) ?_
      refine T_goto (tgt := 14) dX11_isLane_10 (by decide) ?_
      refine T_zret dX11_isLane_14 rfl rfl (nb rfl) (nb rfl) ?_
      exact ⟨sI (by first | exact bI_t ⟨Int32.not_lt.mp c1, e.mp (Int32.not_le.mp c6)⟩ | exact bI_f (fun q => Int32.not_lt.mpr q.1 c1) | exact bI_f (fun q => Int32.not_le.mpr (e.mpr q.2) c6)), rfl⟩
theorem c_X11_isBoat {w il hh n : Nat} (h0 : h[0]? = some (cwO wy nw wt sp lf)) (hl : h[wt]? = some (lkO w il hh n wo fl)) (b : Int32) : ConE M_X11_isBoat [.ref 0, .int b] h (some (.int (bI (0 ≤ b ∧ b < nI n)))) h := by
  refine Con.of rfl (nb rfl) ?_
  refine T_iload_n dX11_isBoat_0 rfl ?_
  refine T_if_lt (tgt := 19) dX11_isBoat_1 (by decide) (fun c1 => ?_) (fun c1 => ?_)
  · refine T_iconst (v := 0) dX11_isBoat_19 (by decide) ?_
    refine T_zret dX11_isBoat_20 rfl rfl (nb rfl) (nb rfl) ?_
    exact ⟨sI (by first | exact bI_t ⟨Int32.not_lt.mp c1, Int32.not_le.mp c12⟩ | exact bI_f (fun q => Int32.not_lt.mpr q.1 c1) | exact bI_f (fun q => Int32.not_le.mpr q.2 c12)), rfl⟩
  · refine T_iload_n dX11_isBoat_4 rfl ?_
    refine T_aload_n dX11_isBoat_5 rfl ?_
    refine T_get dX11_isBoat_6 fl_X11_65_11 h0 rfl ?_
    refine T_get dX11_isBoat_9 fl_X11_118_1 hl rfl ?_
    refine T_icmp_ge (tgt := 19) dX11_isBoat_12 (by decide) (fun c12 => ?_) (fun c12 => ?_)
    · refine T_iconst (v := 0) dX11_isBoat_19 (by decide) ?_
      refine T_zret dX11_isBoat_20 rfl rfl (nb rfl) (nb rfl) ?_
      exact ⟨sI (by first | exact bI_t ⟨Int32.not_lt.mp c1, Int32.not_le.mp c12⟩ | exact bI_f (fun q => Int32.not_lt.mpr q.1 c1) | exact bI_f (fun q => Int32.not_le.mpr q.2 c12)), rfl⟩
    · refine T_iconst (v := 1) dX11_isBoat_15 (by decide) ?_
      refine T_goto (tgt := 20) dX11_isBoat_16 (by decide) ?_
      refine T_zret dX11_isBoat_20 rfl rfl (nb rfl) (nb rfl) ?_
      exact ⟨sI (by first | exact bI_t ⟨Int32.not_lt.mp c1, Int32.not_le.mp c12⟩ | exact bI_f (fun q => Int32.not_lt.mpr q.1 c1) | exact bI_f (fun q => Int32.not_le.mpr q.2 c12)), rfl⟩
theorem c_X11_isHour {w il hh n : Nat} (h0 : h[0]? = some (cwO wy nw wt sp lf)) (hl : h[wt]? = some (lkO w il hh n wo fl)) (b : Int32) : ConE M_X11_isHour [.ref 0, .int b] h (some (.int (bI (0 ≤ b ∧ b < nI hh)))) h := by
  refine Con.of rfl (nb rfl) ?_
  refine T_iload_n dX11_isHour_0 rfl ?_
  refine T_if_lt (tgt := 19) dX11_isHour_1 (by decide) (fun c1 => ?_) (fun c1 => ?_)
  · refine T_iconst (v := 0) dX11_isHour_19 (by decide) ?_
    refine T_zret dX11_isHour_20 rfl rfl (nb rfl) (nb rfl) ?_
    exact ⟨sI (by first | exact bI_t ⟨Int32.not_lt.mp c1, Int32.not_le.mp c12⟩ | exact bI_f (fun q => Int32.not_lt.mpr q.1 c1) | exact bI_f (fun q => Int32.not_le.mpr q.2 c12)), rfl⟩
  · refine T_iload_n dX11_isHour_4 rfl ?_
    refine T_aload_n dX11_isHour_5 rfl ?_
    refine T_get dX11_isHour_6 fl_X11_65_11 h0 rfl ?_
    refine T_get dX11_isHour_9 fl_X11_208_1 hl rfl ?_
    refine T_icmp_ge (tgt := 19) dX11_isHour_12 (by decide) (fun c12 => ?_) (fun c12 => ?_)
    · refine T_iconst (v := 0) dX11_isHour_19 (by decide) ?_
      refine T_zret dX11_isHour_20 rfl rfl (nb rfl) (nb rfl) ?_
      exact ⟨sI (by first | exact bI_t ⟨Int32.not_lt.mp c1, Int32.not_le.mp c12⟩ | exact bI_f (fun q => Int32.not_lt.mpr q.1 c1) | exact bI_f (fun q => Int32.not_le.mpr q.2 c12)), rfl⟩
    · refine T_iconst (v := 1) dX11_isHour_15 (by decide) ?_
      refine T_goto (tgt := 20) dX11_isHour_16 (by decide) ?_
      refine T_zret dX11_isHour_20 rfl rfl (nb rfl) (nb rfl) ?_
      exact ⟨sI (by first | exact bI_t ⟨Int32.not_lt.mp c1, Int32.not_le.mp c12⟩ | exact bI_f (fun q => Int32.not_lt.mpr q.1 c1) | exact bI_f (fun q => Int32.not_le.mpr q.2 c12)), rfl⟩
theorem c_X11_isSet {w il hh n : Nat} (h0 : h[0]? = some (cwO wy nw wt sp lf)) (hl : h[wt]? = some (lkO w il hh n wo fl)) (hn : n ≤ 3) (b : Int32) : ConE M_X11_isSet [.ref 0, .int b] h (some (.int (bI (0 ≤ b ∧ b ≤ nI (2 ^ n - 1))))) h := by
  refine Con.of rfl (nb rfl) ?_
  refine T_iload_n dX11_isSet_0 rfl ?_
  refine T_if_lt (tgt := 19) dX11_isSet_1 (by decide) (fun c1 => ?_) (fun c1 => ?_)
  · refine T_iconst (v := 0) dX11_isSet_19 (by decide) ?_
    refine T_zret dX11_isSet_20 rfl rfl (nb rfl) (nb rfl) ?_
    exact ⟨sI (by first | exact bI_t ⟨Int32.not_lt.mp c1, Int32.not_lt.mp c12⟩ | exact bI_f (fun q => Int32.not_lt.mpr q.1 c1) | exact bI_f (fun q => Int32.not_lt.mpr q.2 c12)), rfl⟩
  · refine T_iload_n dX11_isSet_4 rfl ?_
    refine T_aload_n dX11_isSet_5 rfl ?_
    refine T_get dX11_isSet_6 fl_X11_65_11 h0 rfl ?_
    refine T_v0e (cu2 := 0) (su2 := 0) dX11_isSet_9 lv_X11_228 rfl hl rfl (c_X1_allBoats hl hn) (nb rfl) (nb rfl) (nb rfl) (nb rfl) (nb rfl) ?_
    refine T_icmp_gt (tgt := 19) dX11_isSet_12 (by decide) (fun c12 => ?_) (fun c12 => ?_)
    · refine T_iconst (v := 0) dX11_isSet_19 (by decide) ?_
      refine T_zret dX11_isSet_20 rfl rfl (nb rfl) (nb rfl) ?_
      exact ⟨sI (by first | exact bI_t ⟨Int32.not_lt.mp c1, Int32.not_lt.mp c12⟩ | exact bI_f (fun q => Int32.not_lt.mpr q.1 c1) | exact bI_f (fun q => Int32.not_lt.mpr q.2 c12)), rfl⟩
    · refine T_iconst (v := 1) dX11_isSet_15 (by decide) ?_
      refine T_goto (tgt := 20) dX11_isSet_16 (by decide) ?_
      refine T_zret dX11_isSet_20 rfl rfl (nb rfl) (nb rfl) ?_
      exact ⟨sI (by first | exact bI_t ⟨Int32.not_lt.mp c1, Int32.not_lt.mp c12⟩ | exact bI_f (fun q => Int32.not_lt.mpr q.1 c1) | exact bI_f (fun q => Int32.not_lt.mpr q.2 c12)), rfl⟩
theorem c_X11_faulted (h0 : h[0]? = some (cwO wy nw wt sp lf)) (k : Int32) : ConE M_X11_faulted [.ref 0, .int k] h (some (.int (-10 - k))) (h.set 0 (cwO wy nw wt sp k)) := by
  refine Con.of rfl (nb rfl) ?_
  refine T_aload_n dX11_faulted_0 rfl ?_
  refine T_iload_n dX11_faulted_1 rfl ?_
  refine T_put dX11_faulted_2 fp_X11_72_11 h0 (nb rfl) (fun _ => ⟨rfl, rfl⟩) ?_
  refine T_bipush (v := (-10)) dX11_faulted_5 (by decide) ?_
  refine T_iload_n dX11_faulted_7 rfl ?_
  refine T_isub dX11_faulted_8 ?_
  refine T_iret dX11_faulted_9 rfl (nb rfl) (nb rfl) ?_
  exact ⟨rfl, rfl⟩
def ftC (lane size sort i n : Int32) : Int32 := if shF lane sort = 0 then (if n < 0 then 4 else if shH size i n then 0 else 3) else shF lane sort
theorem c_X11_faultOfText {s c : Nat} {lane size : Int32} (hs : h[s]? = some (shO lane size c)) (sort i n : Int32) : ConE M_X11_faultOfText [.ref s, .int sort, .int i, .int n] h (some (.int (ftC lane size sort i n))) h := by
  refine Con.of rfl (nb rfl) ?_
  refine T_aload_n dX11_faultOfText_0 rfl ?_
  refine T_iload_n dX11_faultOfText_1 rfl ?_
  refine T_v1e (cu2 := 0) (su2 := 0) dX11_faultOfText_2 lv_X11_121 rfl hs rfl (c_X5_faultAs hs _) (nb rfl) (nb rfl) (nb rfl) (nb rfl) (nb rfl) ?_
  refine T_istore dX11_faultOfText_5 (by decide) rfl ?_
  refine T_iload dX11_faultOfText_7 rfl ?_
  refine T_if_eq (tgt := 15) dX11_faultOfText_9 (by decide) (fun c9 => ?_) (fun c9 => ?_)
  · refine T_iload_n dX11_faultOfText_15 rfl ?_
    refine T_if_ge (tgt := 21) dX11_faultOfText_16 (by decide) (fun c16 => ?_) (fun c16 => ?_)
    · refine T_aload_n dX11_faultOfText_21 rfl ?_
      refine T_iload_n dX11_faultOfText_22 rfl ?_
      refine T_iload_n dX11_faultOfText_23 rfl ?_
      refine T_v2e (cu2 := 0) (su2 := 0) dX11_faultOfText_24 lv_X11_124 rfl hs rfl (c_X5_holds hs _ _) (nb rfl) (nb rfl) (nb rfl) (nb rfl) (nb rfl) ?_
      refine T_if_eqB (tgt := 34) dX11_faultOfText_27 (by decide) (fun c27 => ?_) (fun c27 => ?_)
      · refine T_iconst (v := 3) dX11_faultOfText_34 (by decide) ?_
        refine T_iret dX11_faultOfText_35 rfl (nb rfl) (nb rfl) ?_
        exact ⟨sI (by unfold ftC; rw [if_pos c9, if_neg (Int32.not_lt.mpr c16)]; first | rw [if_pos c27] | rw [if_neg c27]), rfl⟩
      · refine T_iconst (v := 0) dX11_faultOfText_30 (by decide) ?_
        refine T_goto (tgt := 35) dX11_faultOfText_31 (by decide) ?_
        refine T_iret dX11_faultOfText_35 rfl (nb rfl) (nb rfl) ?_
        exact ⟨sI (by unfold ftC; rw [if_pos c9, if_neg (Int32.not_lt.mpr c16)]; first | rw [if_pos c27] | rw [if_neg c27]), rfl⟩
    · refine T_iconst (v := 4) dX11_faultOfText_19 (by decide) ?_
      refine T_iret dX11_faultOfText_20 rfl (nb rfl) (nb rfl) ?_
      exact ⟨sI (by unfold ftC; rw [if_pos c9, if_pos (Int32.not_le.mp c16)]), rfl⟩
  · refine T_iload dX11_faultOfText_12 rfl ?_
    refine T_iret dX11_faultOfText_14 rfl (nb rfl) (nb rfl) ?_
    exact ⟨sI (by unfold ftC; rw [if_neg c9]), rfl⟩
def rrC (sh lane n : Int32) : Int32 := if 0 ≤ sh ∧ sh ≤ 3 then (if (0 ≤ lane ∧ lane ≤ 2) ∧ 0 ≤ n ∧ n ≤ 10 then 0 else -2) else -1
theorem c_X11_refusalOfRow (sh lane n : Int32) : ConE M_X11_refusalOfRow [.ref 0, .int sh, .int lane, .int n] h (some (.int (rrC sh lane n))) h := by
  refine Con.of rfl (nb rfl) ?_
  refine T_iload_n dX11_refusalOfRow_0 rfl ?_
  refine T_s1e (cu2 := 0) (su2 := 0) dX11_refusalOfRow_1 ls_X11_77 rfl (c_X11_isSheet _) (nb rfl) (nb rfl) (nb rfl) (nb rfl) (nb rfl) ?_
  refine T_if_neB (tgt := 9) dX11_refusalOfRow_4 (by decide) (fun c4 => ?_) (fun c4 => ?_)
  · refine T_iload_n dX11_refusalOfRow_9 rfl ?_
    refine T_s1e (cu2 := 0) (su2 := 0) dX11_refusalOfRow_10 ls_X11_81 rfl (c_X11_isLane _) (nb rfl) (nb rfl) (nb rfl) (nb rfl) (nb rfl) ?_
    refine T_if_eqB (tgt := 30) dX11_refusalOfRow_13 (by decide) (fun c13 => ?_) (fun c13 => ?_)
    · refine T_bipush (v := (-2)) dX11_refusalOfRow_30 (by decide) ?_
      refine T_iret dX11_refusalOfRow_32 rfl (nb rfl) (nb rfl) ?_
      refine ⟨sI ?_, rfl⟩
      unfold rrC
      rw [if_pos c4]
      first | exact (if_pos ⟨c13, Int32.not_lt.mp c17, Int32.not_lt.mp c23⟩).symm | exact (if_neg (fun q => c13 q.1)).symm | exact (if_neg (fun q => Int32.not_lt.mpr q.2.1 c17)).symm | exact (if_neg (fun q => Int32.not_lt.mpr q.2.2 c23)).symm
    · refine T_iload_n dX11_refusalOfRow_16 rfl ?_
      refine T_if_lt (tgt := 30) dX11_refusalOfRow_17 (by decide) (fun c17 => ?_) (fun c17 => ?_)
      · refine T_bipush (v := (-2)) dX11_refusalOfRow_30 (by decide) ?_
        refine T_iret dX11_refusalOfRow_32 rfl (nb rfl) (nb rfl) ?_
        refine ⟨sI ?_, rfl⟩
        unfold rrC
        rw [if_pos c4]
        first | exact (if_pos ⟨c13, Int32.not_lt.mp c17, Int32.not_lt.mp c23⟩).symm | exact (if_neg (fun q => c13 q.1)).symm | exact (if_neg (fun q => Int32.not_lt.mpr q.2.1 c17)).symm | exact (if_neg (fun q => Int32.not_lt.mpr q.2.2 c23)).symm
      · refine T_iload_n dX11_refusalOfRow_20 rfl ?_
        refine T_bipush (v := 10) dX11_refusalOfRow_21 (by decide) ?_
        refine T_icmp_gt (tgt := 30) dX11_refusalOfRow_23 (by decide) (fun c23 => ?_) (fun c23 => ?_)
        · refine T_bipush (v := (-2)) dX11_refusalOfRow_30 (by decide) ?_
          refine T_iret dX11_refusalOfRow_32 rfl (nb rfl) (nb rfl) ?_
          refine ⟨sI ?_, rfl⟩
          unfold rrC
          rw [if_pos c4]
          first | exact (if_pos ⟨c13, Int32.not_lt.mp c17, Int32.not_lt.mp c23⟩).symm | exact (if_neg (fun q => c13 q.1)).symm | exact (if_neg (fun q => Int32.not_lt.mpr q.2.1 c17)).symm | exact (if_neg (fun q => Int32.not_lt.mpr q.2.2 c23)).symm
        · refine T_iconst (v := 0) dX11_refusalOfRow_26 (by decide) ?_
          refine T_goto (tgt := 32) dX11_refusalOfRow_27 (by decide) ?_
          refine T_iret dX11_refusalOfRow_32 rfl (nb rfl) (nb rfl) ?_
          refine ⟨sI ?_, rfl⟩
          unfold rrC
          rw [if_pos c4]
          first | exact (if_pos ⟨c13, Int32.not_lt.mp c17, Int32.not_lt.mp c23⟩).symm | exact (if_neg (fun q => c13 q.1)).symm | exact (if_neg (fun q => Int32.not_lt.mpr q.2.1 c17)).symm | exact (if_neg (fun q => Int32.not_lt.mpr q.2.2 c23)).symm
  · refine T_iconst (v := (-1)) dX11_refusalOfRow_7 (by decide) ?_
    refine T_iret dX11_refusalOfRow_8 rfl (nb rfl) (nb rfl) ?_
    exact ⟨sI (by unfold rrC; rw [if_neg c4]), rfl⟩
theorem c_X11_isQuestion (k : Int32) : ConE M_X11_isQuestion [.int k] h (some (.int (bI (whatOk k)))) h := by
  refine Con.of rfl (nb rfl) ?_
  have e13 : k < 13 ↔ k ≤ 12 := i32_s rfl
  have e4 : k < 10 → ¬ (10 ≤ k) := fun q z => Int32.not_lt.mpr z q
  refine T_iload_n dX11_isQuestion_0 rfl ?_
  refine T_if_lt (tgt := 9) dX11_isQuestion_1 (by decide) (fun c1 => ?_) (fun c1 => ?_)
  · refine T_iload_n dX11_isQuestion_9 rfl ?_
    refine T_bipush (v := 10) dX11_isQuestion_10 (by decide) ?_
    refine T_icmp_lt (tgt := 25) dX11_isQuestion_12 (by decide) (fun c12 => ?_) (fun c12 => ?_)
    · refine T_iconst (v := 0) dX11_isQuestion_25 (by decide) ?_
      refine T_zret dX11_isQuestion_26 rfl rfl (nb rfl) (nb rfl) ?_
      refine ⟨sI ?_, rfl⟩
      first
        | exact bI_t (Or.inl ⟨Int32.not_lt.mp c1, c6⟩)
        | exact bI_t (Or.inr ⟨Int32.not_lt.mp c12, e13.mp (Int32.not_le.mp c18)⟩)
        | (refine bI_f (fun q => ?_)
           rcases q with q | q
           · first | exact Int32.not_lt.mpr q.1 c1 | exact c6 q.2
           · first | exact Int32.not_lt.mpr q.1 c12 | exact Int32.not_le.mpr (e13.mpr q.2) c18)
    · refine T_iload_n dX11_isQuestion_15 rfl ?_
      refine T_bipush (v := 13) dX11_isQuestion_16 (by decide) ?_
      refine T_icmp_ge (tgt := 25) dX11_isQuestion_18 (by decide) (fun c18 => ?_) (fun c18 => ?_)
      · refine T_iconst (v := 0) dX11_isQuestion_25 (by decide) ?_
        refine T_zret dX11_isQuestion_26 rfl rfl (nb rfl) (nb rfl) ?_
        refine ⟨sI ?_, rfl⟩
        first
          | exact bI_t (Or.inl ⟨Int32.not_lt.mp c1, c6⟩)
          | exact bI_t (Or.inr ⟨Int32.not_lt.mp c12, e13.mp (Int32.not_le.mp c18)⟩)
          | (refine bI_f (fun q => ?_)
             rcases q with q | q
             · first | exact Int32.not_lt.mpr q.1 c1 | exact c6 q.2
             · first | exact Int32.not_lt.mpr q.1 c12 | exact Int32.not_le.mpr (e13.mpr q.2) c18)
      · refine T_iconst (v := 1) dX11_isQuestion_21 (by decide) ?_
        refine T_goto (tgt := 26) dX11_isQuestion_22 (by decide) ?_
        refine T_zret dX11_isQuestion_26 rfl rfl (nb rfl) (nb rfl) ?_
        refine ⟨sI ?_, rfl⟩
        first
          | exact bI_t (Or.inl ⟨Int32.not_lt.mp c1, c6⟩)
          | exact bI_t (Or.inr ⟨Int32.not_lt.mp c12, e13.mp (Int32.not_le.mp c18)⟩)
          | (refine bI_f (fun q => ?_)
             rcases q with q | q
             · first | exact Int32.not_lt.mpr q.1 c1 | exact c6 q.2
             · first | exact Int32.not_lt.mpr q.1 c12 | exact Int32.not_le.mpr (e13.mpr q.2) c18)
  · refine T_iload_n dX11_isQuestion_4 rfl ?_
    refine T_iconst (v := 3) dX11_isQuestion_5 (by decide) ?_
    refine T_icmp_le (tgt := 21) dX11_isQuestion_6 (by decide) (fun c6 => ?_) (fun c6 => ?_)
    · refine T_iconst (v := 1) dX11_isQuestion_21 (by decide) ?_
      refine T_goto (tgt := 26) dX11_isQuestion_22 (by decide) ?_
      refine T_zret dX11_isQuestion_26 rfl rfl (nb rfl) (nb rfl) ?_
      refine ⟨sI ?_, rfl⟩
      first
        | exact bI_t (Or.inl ⟨Int32.not_lt.mp c1, c6⟩)
        | exact bI_t (Or.inr ⟨Int32.not_lt.mp c12, e13.mp (Int32.not_le.mp c18)⟩)
        | (refine bI_f (fun q => ?_)
           rcases q with q | q
           · first | exact Int32.not_lt.mpr q.1 c1 | exact c6 q.2
           · first | exact Int32.not_lt.mpr q.1 c12 | exact Int32.not_le.mpr (e13.mpr q.2) c18)
    · refine T_iload_n dX11_isQuestion_9 rfl ?_
      refine T_bipush (v := 10) dX11_isQuestion_10 (by decide) ?_
      refine T_icmp_lt (tgt := 25) dX11_isQuestion_12 (by decide) (fun c12 => ?_) (fun c12 => ?_)
      · refine T_iconst (v := 0) dX11_isQuestion_25 (by decide) ?_
        refine T_zret dX11_isQuestion_26 rfl rfl (nb rfl) (nb rfl) ?_
        refine ⟨sI ?_, rfl⟩
        first
          | exact bI_t (Or.inl ⟨Int32.not_lt.mp c1, c6⟩)
          | exact bI_t (Or.inr ⟨Int32.not_lt.mp c12, e13.mp (Int32.not_le.mp c18)⟩)
          | (refine bI_f (fun q => ?_)
             rcases q with q | q
             · first | exact Int32.not_lt.mpr q.1 c1 | exact c6 q.2
             · first | exact Int32.not_lt.mpr q.1 c12 | exact Int32.not_le.mpr (e13.mpr q.2) c18)
      · refine T_iload_n dX11_isQuestion_15 rfl ?_
        refine T_bipush (v := 13) dX11_isQuestion_16 (by decide) ?_
        refine T_icmp_ge (tgt := 25) dX11_isQuestion_18 (by decide) (fun c18 => ?_) (fun c18 => ?_)
        · refine T_iconst (v := 0) dX11_isQuestion_25 (by decide) ?_
          refine T_zret dX11_isQuestion_26 rfl rfl (nb rfl) (nb rfl) ?_
          refine ⟨sI ?_, rfl⟩
          first
            | exact bI_t (Or.inl ⟨Int32.not_lt.mp c1, c6⟩)
            | exact bI_t (Or.inr ⟨Int32.not_lt.mp c12, e13.mp (Int32.not_le.mp c18)⟩)
            | (refine bI_f (fun q => ?_)
               rcases q with q | q
               · first | exact Int32.not_lt.mpr q.1 c1 | exact c6 q.2
               · first | exact Int32.not_lt.mpr q.1 c12 | exact Int32.not_le.mpr (e13.mpr q.2) c18)
        · refine T_iconst (v := 1) dX11_isQuestion_21 (by decide) ?_
          refine T_goto (tgt := 26) dX11_isQuestion_22 (by decide) ?_
          refine T_zret dX11_isQuestion_26 rfl rfl (nb rfl) (nb rfl) ?_
          refine ⟨sI ?_, rfl⟩
          first
            | exact bI_t (Or.inl ⟨Int32.not_lt.mp c1, c6⟩)
            | exact bI_t (Or.inr ⟨Int32.not_lt.mp c12, e13.mp (Int32.not_le.mp c18)⟩)
            | (refine bI_f (fun q => ?_)
               rcases q with q | q
               · first | exact Int32.not_lt.mpr q.1 c1 | exact c6 q.2
               · first | exact Int32.not_lt.mpr q.1 c12 | exact Int32.not_le.mpr (e13.mpr q.2) c18)
theorem c_X11_takeSpareWater {q : Nat} {x0 x1 x2 : Int32} {rs : List Value} (h0 : h[0]? = some (cwO wy nw wt sp lf)) (h4 : h[4]? = some (rdO q)) (h10 : h[10]? = some (.inr (4, .int x0 :: rs))) : ConE M_X11_takeSpareWater [.ref 0] h none (((h.set 0 (cwO wy nw sp wt lf)).set 4 (rdO 0)).set 10 (.inr (4, .int 1 :: rs))) := by
  refine Con.of rfl (nb rfl) ?_
  refine T_aload_n dX11_takeSpareWater_0 rfl ?_
  refine T_get dX11_takeSpareWater_1 fl_X11_65_11 h0 rfl ?_
  refine T_astore_n dX11_takeSpareWater_4 (by decide) rfl ?_
  refine T_aload_n dX11_takeSpareWater_5 rfl ?_
  refine T_aload_n dX11_takeSpareWater_6 rfl ?_
  refine T_get dX11_takeSpareWater_7 fl_X11_69_11 h0 rfl ?_
  refine T_put dX11_takeSpareWater_10 fp_X11_65_11 h0 (nb rfl) (fun _ => ⟨rfl, rfl⟩) ?_
  refine T_aload_n dX11_takeSpareWater_13 rfl ?_
  refine T_aload_n dX11_takeSpareWater_14 rfl ?_
  refine T_put dX11_takeSpareWater_15 fp_X11_69_11 (gs_eq h0) (nb rfl) (fun _ => ⟨rfl, rfl⟩) ?_
  refine T_h (List.set_set ..) ?_
  refine T_aload_n dX11_takeSpareWater_18 rfl ?_
  refine T_get dX11_takeSpareWater_19 fl_X11_27_11 (gs_eq h0) rfl ?_
  refine T_iconst (v := nI 0) dX11_takeSpareWater_22 (by decide) ?_
  refine T_put dX11_takeSpareWater_23 fp_X11_128_3 (gs_tg h0 h4 rfl) (nb rfl) (fun _ => ⟨rfl, rfl⟩) ?_
  refine T_aload_n dX11_takeSpareWater_26 rfl ?_
  refine T_get dX11_takeSpareWater_27 fl_X11_41_11 (gs_tg (gs_tg h0 h4 rfl) (gs_eq h0) rfl) rfl ?_
  refine T_iconst (v := 1) dX11_takeSpareWater_30 (by decide) ?_
  refine T_put dX11_takeSpareWater_31 fp_X11_131_4 (gs_tg (gs_tg h0 h4 rfl) (gs_tg h0 h10 rfl) rfl) (nb rfl) (fun _ => ⟨rfl, rfl⟩) ?_
  refine T_vret dX11_takeSpareWater_34 rfl (nb rfl) (nb rfl) ?_
  exact ⟨rfl, rfl⟩
end C65
