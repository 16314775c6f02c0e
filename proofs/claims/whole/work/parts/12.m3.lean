/-! the reference: an hour -/
section M4
variable {A B : XH} {u : MSt} {h : XH} {Z : XZ}
theorem mH_id (j : Nat) : mH A u B = mH A (u.1, va_up u.2 j (u.2 j)) B := congrArg (fun x => mH A (u.1, x) B) (va_upS u.2 j)
def mBeg (P fr : Nat → Int32) (wide : Int32) : Nat → Nat → Int32
  | 0 => P
  | i + 1 => upd (mBeg P fr wide i) i (if fr i = 0 then 0 else wide)
theorem lp_X12_begins (hA : A.length = 67) {n i : Nat} {a : Int32} (hb : u.1 7 = nI n) (hn : n ≤ 3) (hi : i < n) (K : T M_X12_begins x_E Z 0 0 2 [(0, .ref 67), (1, .int a), (2, .int (nI (i + 1)))] [] (mH A (u.1, va_up u.2 20 (mBeg (u.2 20) (u.2 11) (u.1 5) (i + 1))) B)) : T M_X12_begins x_E Z 0 0 2 [(0, .ref 67), (1, .int a), (2, .int (nI i))] [] (mH A (u.1, va_up u.2 20 (mBeg (u.2 20) (u.2 11) (u.1 5) i)) B) := by
  refine T_iload_n dX12_begins_2 rfl ?_
  refine T_aload_n dX12_begins_3 rfl ?_
  refine T_get dX12_begins_4 fl_X12_75_12 (mH_get hA rfl) rfl ?_
  refine T_top hb ?_
  refine T_icmp_geN (tgt := 39) dX12_begins_7 (by decide) (by omega) (by omega) (fun c7 => ?_) (fun c7 => ?_)
  · omega
  · refine T_aload_n dX12_begins_10 rfl ?_
    refine T_get dX12_begins_11 fl_X12_44_12 (mH_get hA rfl) rfl ?_
    refine T_iload_n dX12_begins_14 rfl ?_
    refine T_aload_n dX12_begins_15 rfl ?_
    refine T_get dX12_begins_16 fl_X12_29_12 (mH_get hA rfl) rfl ?_
    refine T_iload_n dX12_begins_19 rfl ?_
    refine T_ialdN dX12_begins_20 (mH_get hA rfl) (by omega) (by decide) ?_
    refine T_if_ne (tgt := 28) dX12_begins_21 (by decide) (fun c21 => ?_) (fun c21 => ?_)
    · refine T_aload_n dX12_begins_28 rfl ?_
      refine T_get dX12_begins_29 fl_X12_108_12 (mH_get hA rfl) rfl ?_
      refine T_iastN dX12_begins_32 (mH_get hA rfl) (by omega) (by decide) ?_
      first | refine T_h (mT_20 hA) ?_ | refine T_h (mS_20 hA) ?_
      refine T_iincN dX12_begins_33 rfl (by decide) rfl ?_
      refine T_goto (tgt := 2) dX12_begins_36 (by decide) ?_
      first | exact T_eq K rfl (by rw [mBeg, if_pos (show u.2 11 i = 0 from c21)]; rfl) | exact T_eq K rfl (by rw [mBeg, if_neg (show ¬ u.2 11 i = 0 from c21)]; rfl)
    · refine T_iconst (v := 0) dX12_begins_24 (by decide) ?_
      refine T_goto (tgt := 32) dX12_begins_25 (by decide) ?_
      refine T_iastN dX12_begins_32 (mH_get hA rfl) (by omega) (by decide) ?_
      first | refine T_h (mT_20 hA) ?_ | refine T_h (mS_20 hA) ?_
      refine T_iincN dX12_begins_33 rfl (by decide) rfl ?_
      refine T_goto (tgt := 2) dX12_begins_36 (by decide) ?_
      first | exact T_eq K rfl (by rw [mBeg, if_pos (show u.2 11 i = 0 from c21)]; rfl) | exact T_eq K rfl (by rw [mBeg, if_neg (show ¬ u.2 11 i = 0 from c21)]; rfl)
theorem lp_X12_begins_e0 (hA : A.length = 67) {n : Nat} (hb : u.1 7 = nI n) (hn : n ≤ 3) : T M_X12_begins x_E (x_ZE M_X12_begins (some (.int 0)) (mH A (u.1, va_up u.2 20 (mBeg (u.2 20) (u.2 11) (u.1 5) n)) B)) 0 0 2 [(0, .ref 67), (1, .int 0), (2, .int (nI n))] [] (mH A (u.1, va_up u.2 20 (mBeg (u.2 20) (u.2 11) (u.1 5) n)) B) := by
  refine T_iload_n dX12_begins_2 rfl ?_
  refine T_aload_n dX12_begins_3 rfl ?_
  refine T_get dX12_begins_4 fl_X12_75_12 (mH_get hA rfl) rfl ?_
  refine T_top hb ?_
  refine T_icmp_geN (tgt := 39) dX12_begins_7 (by decide) (by omega) (by omega) (fun c7 => ?_) (fun c7 => ?_)
  · refine T_iload_n dX12_begins_39 rfl ?_
    refine T_if_eq (tgt := 50) dX12_begins_40 (by decide) (fun c40 => ?_) (fun c40 => ?_)
    · refine T_iconst (v := 0) dX12_begins_50 (by decide) ?_
      refine T_iret dX12_begins_51 rfl (nb rfl) (nb rfl) ?_
      exact ⟨rfl, rfl⟩
    · exact absurd rfl c40
  · omega
theorem c_X12_begins0 (hA : A.length = 67) {n : Nat} (hb : u.1 7 = nI n) (hn : n ≤ 3) : ConE M_X12_begins [.ref 67, .int 0] (mH A u B) (some (.int 0)) (mH A (u.1, va_up u.2 20 (mBeg (u.2 20) (u.2 11) (u.1 5) n)) B) := by
  refine Con.of rfl (nb rfl) ?_
  refine T_iconst (v := 0) dX12_begins_0 (by decide) ?_
  refine T_istore_n dX12_begins_1 (by decide) rfl ?_
  refine T_eq (T_up0 (L := fun i => [(0, .ref 67), (1, .int 0), (2, .int (nI i))]) (Hf := fun i => mH A (u.1, va_up u.2 20 (mBeg (u.2 20) (u.2 11) (u.1 5) i)) B) n ?_ fun i hi K => lp_X12_begins hA hb hn hi K) rfl (mH_id 20)
  exact lp_X12_begins_e0 hA hb hn
theorem lp_X12_begins_e1 (hA : A.length = 67) {n : Nat} (hb : u.1 7 = nI n) (hn : n ≤ 3) : T M_X12_begins x_E (x_ZE M_X12_begins (some (.int (mNum (mBeg (u.2 20) (u.2 11) (u.1 5) n) n n))) (mH A (u.1, va_up u.2 20 (mBeg (u.2 20) (u.2 11) (u.1 5) n)) B)) 0 0 2 [(0, .ref 67), (1, .int 1), (2, .int (nI n))] [] (mH A (u.1, va_up u.2 20 (mBeg (u.2 20) (u.2 11) (u.1 5) n)) B) := by
  refine T_iload_n dX12_begins_2 rfl ?_
  refine T_aload_n dX12_begins_3 rfl ?_
  refine T_get dX12_begins_4 fl_X12_75_12 (mH_get hA rfl) rfl ?_
  refine T_top hb ?_
  refine T_icmp_geN (tgt := 39) dX12_begins_7 (by decide) (by omega) (by omega) (fun c7 => ?_) (fun c7 => ?_)
  · refine T_iload_n dX12_begins_39 rfl ?_
    refine T_if_eq (tgt := 50) dX12_begins_40 (by decide) (fun c40 => ?_) (fun c40 => ?_)
    · exact absurd c40 (by decide)
    · refine T_aload_n dX12_begins_43 rfl ?_
      refine T_v0e (cu2 := 0) (su2 := 0) dX12_begins_44 lv_X12_140 rfl (mH_get hA rfl) rfl (c_X12_asNumber (n := n) hA hb hn) (nb rfl) (nb rfl) (nb rfl) (nb rfl) (nb rfl) ?_
      refine T_goto (tgt := 51) dX12_begins_47 (by decide) ?_
      refine T_iret dX12_begins_51 rfl (nb rfl) (nb rfl) ?_
      exact ⟨rfl, rfl⟩
  · omega
theorem c_X12_begins1 (hA : A.length = 67) {n : Nat} (hb : u.1 7 = nI n) (hn : n ≤ 3) : ConE M_X12_begins [.ref 67, .int 1] (mH A u B) (some (.int (mNum (mBeg (u.2 20) (u.2 11) (u.1 5) n) n n))) (mH A (u.1, va_up u.2 20 (mBeg (u.2 20) (u.2 11) (u.1 5) n)) B) := by
  refine Con.of rfl (nb rfl) ?_
  refine T_iconst (v := 0) dX12_begins_0 (by decide) ?_
  refine T_istore_n dX12_begins_1 (by decide) rfl ?_
  refine T_eq (T_up0 (L := fun i => [(0, .ref 67), (1, .int 1), (2, .int (nI i))]) (Hf := fun i => mH A (u.1, va_up u.2 20 (mBeg (u.2 20) (u.2 11) (u.1 5) i)) B) n ?_ fun i hi K => lp_X12_begins hA hb hn hi K) rfl (mH_id 20)
  exact lp_X12_begins_e1 hA hb hn
def mOvr (P fr : Nat → Int32) (wide : Int32) : Nat → Int32
  | 0 => 0
  | i + 1 => mOvr P fr wide i ||| (if mOver P fr wide i then (1 : Int32) <<< (nI i &&& 31) else 0)
theorem lp_X12_over (hA : A.length = 67) {n i : Nat} (hb : u.1 7 = nI n) (hn : n ≤ 3) (hi : i < n) (K : T M_X12_over x_E Z 0 0 4 [(0, .ref 67), (1, .int (mOvr (u.2 20) (u.2 11) (u.1 5) (i + 1))), (2, .int (nI (i + 1)))] [] (mH A u B)) : T M_X12_over x_E Z 0 0 4 [(0, .ref 67), (1, .int (mOvr (u.2 20) (u.2 11) (u.1 5) i)), (2, .int (nI i))] [] (mH A u B) := by
  refine T_iload_n dX12_over_4 rfl ?_
  refine T_aload_n dX12_over_5 rfl ?_
  refine T_get dX12_over_6 fl_X12_75_12 (mH_get hA rfl) rfl ?_
  refine T_top hb ?_
  refine T_icmp_geN (tgt := 36) dX12_over_9 (by decide) (by omega) (by omega) (fun c9 => ?_) (fun c9 => ?_)
  · omega
  · refine T_iload_n dX12_over_12 rfl ?_
    refine T_aload_n dX12_over_13 rfl ?_
    refine T_iload_n dX12_over_14 rfl ?_
    refine T_v1e (cu2 := 0) (su2 := 0) dX12_over_15 lv_X12_144 rfl (mH_get hA rfl) rfl (c_X12_isOver hA (by omega)) (nb rfl) (nb rfl) (nb rfl) (nb rfl) (nb rfl) ?_
    refine T_if_eqB (tgt := 27) dX12_over_18 (by decide) (fun c18 => ?_) (fun c18 => ?_)
    · refine T_iconst (v := 0) dX12_over_27 (by decide) ?_
      refine T_ior dX12_over_28 ?_
      refine T_istore_n dX12_over_29 (by decide) rfl ?_
      refine T_iincN dX12_over_30 rfl (by decide) rfl ?_
      refine T_goto (tgt := 4) dX12_over_33 (by decide) ?_
      first | exact T_eq K (by rw [mOvr, if_pos c18]; rfl) rfl | exact T_eq K (by rw [mOvr, if_neg c18]; rfl) rfl
    · refine T_iconst (v := 1) dX12_over_21 (by decide) ?_
      refine T_iload_n dX12_over_22 rfl ?_
      refine T_ishl dX12_over_23 ?_
      refine T_goto (tgt := 28) dX12_over_24 (by decide) ?_
      refine T_ior dX12_over_28 ?_
      refine T_istore_n dX12_over_29 (by decide) rfl ?_
      refine T_iincN dX12_over_30 rfl (by decide) rfl ?_
      refine T_goto (tgt := 4) dX12_over_33 (by decide) ?_
      first | exact T_eq K (by rw [mOvr, if_pos c18]; rfl) rfl | exact T_eq K (by rw [mOvr, if_neg c18]; rfl) rfl
theorem lp_X12_over_e (hA : A.length = 67) {n : Nat} (hb : u.1 7 = nI n) (hn : n ≤ 3) : T M_X12_over x_E (x_ZE M_X12_over (some (.int (mOvr (u.2 20) (u.2 11) (u.1 5) n))) (mH A u B)) 0 0 4 [(0, .ref 67), (1, .int (mOvr (u.2 20) (u.2 11) (u.1 5) n)), (2, .int (nI n))] [] (mH A u B) := by
  refine T_iload_n dX12_over_4 rfl ?_
  refine T_aload_n dX12_over_5 rfl ?_
  refine T_get dX12_over_6 fl_X12_75_12 (mH_get hA rfl) rfl ?_
  refine T_top hb ?_
  refine T_icmp_geN (tgt := 36) dX12_over_9 (by decide) (by omega) (by omega) (fun c9 => ?_) (fun c9 => ?_)
  · refine T_iload_n dX12_over_36 rfl ?_
    refine T_iret dX12_over_37 rfl (nb rfl) (nb rfl) ?_
    exact ⟨rfl, rfl⟩
  · omega
theorem c_X12_over (hA : A.length = 67) {n : Nat} (hb : u.1 7 = nI n) (hn : n ≤ 3) : ConE M_X12_over [.ref 67] (mH A u B) (some (.int (mOvr (u.2 20) (u.2 11) (u.1 5) n))) (mH A u B) := by
  refine Con.of rfl (nb rfl) ?_
  refine T_iconst (v := 0) dX12_over_0 (by decide) ?_
  refine T_istore_n dX12_over_1 (by decide) rfl ?_
  refine T_iconst (v := 0) dX12_over_2 (by decide) ?_
  refine T_istore_n dX12_over_3 (by decide) rfl ?_
  refine T_eq (T_up0 (L := fun i => [(0, .ref 67), (1, .int (mOvr (u.2 20) (u.2 11) (u.1 5) i)), (2, .int (nI i))]) (Hf := fun _ => mH A u B) n ?_ fun i hi K => lp_X12_over hA hb hn hi K) rfl rfl
  exact lp_X12_over_e hA hb hn
abbrev mBit (set : Int32) (i : Nat) : Prop := (set >>> (nI i &&& 31)) &&& 1 = 1
abbrev mCnt (P fr kd : Nat → Int32) (wide set w : Int32) (i : Nat) : Prop := mBit set i ∧ ¬ mOver P fr wide i ∧ w = fr i + 1 ∧ ¬ kd i = 2
def mFin (P fr kd : Nat → Int32) (wide set w : Int32) : Nat → Int32
  | 0 => 0
  | i + 1 => mFin P fr kd wide set w i + (if mCnt P fr kd wide set w i then 1 else 0)
def mFd (P fr kd : Nat → Int32) (wide set w : Int32) (n : Nat) : Int32 := if 2 ≤ mFin P fr kd wide set w n then mFin P fr kd wide set w n else 0
theorem lp_X12_finedBy (hA : A.length = 67) {n i : Nat} {set w : Int32} (hb : u.1 7 = nI n) (hn : n ≤ 3) (hi : i < n) (K : T M_X12_finedBy x_E Z 0 0 5 [(0, .ref 67), (1, .int set), (2, .int w), (3, .int (mFin (u.2 20) (u.2 11) (u.2 10) (u.1 5) set w (i + 1))), (4, .int (nI (i + 1)))] [] (mH A u B)) : T M_X12_finedBy x_E Z 0 0 5 [(0, .ref 67), (1, .int set), (2, .int w), (3, .int (mFin (u.2 20) (u.2 11) (u.2 10) (u.1 5) set w i)), (4, .int (nI i))] [] (mH A u B) := by
  refine T_iload dX12_finedBy_5 rfl ?_
  refine T_aload_n dX12_finedBy_7 rfl ?_
  refine T_get dX12_finedBy_8 fl_X12_75_12 (mH_get hA rfl) rfl ?_
  refine T_top hb ?_
  refine T_icmp_geN (tgt := 68) dX12_finedBy_11 (by decide) (by omega) (by omega) (fun c11 => ?_) (fun c11 => ?_)
  · omega
  · refine T_iload_n dX12_finedBy_14 rfl ?_
    refine T_iload_n dX12_finedBy_15 rfl ?_
    refine T_iload dX12_finedBy_16 rfl ?_
    refine T_ishr dX12_finedBy_18 ?_
    refine T_iconst (v := 1) dX12_finedBy_19 (by decide) ?_
    refine T_iand dX12_finedBy_20 ?_
    refine T_iconst (v := 1) dX12_finedBy_21 (by decide) ?_
    refine T_icmp_ne (tgt := 59) dX12_finedBy_22 (by decide) (fun c22 => ?_) (fun c22 => ?_)
    · refine T_iconst (v := 0) dX12_finedBy_59 (by decide) ?_
      refine T_iadd dX12_finedBy_60 ?_
      refine T_istore_n dX12_finedBy_61 (by decide) rfl ?_
      refine T_iincN dX12_finedBy_62 rfl (by decide) rfl ?_
      refine T_goto (tgt := 5) dX12_finedBy_65 (by decide) ?_
      first | exact T_eq K (by rw [mFin, if_pos ⟨c22, c31, c41, c52⟩]; rfl) rfl | exact T_eq K (by rw [mFin, if_neg (by rintro ⟨q1, q2, q3, q4⟩; first | exact c22 q1 | exact q2 c31 | exact c41 q3 | exact q4 c52)]; rfl) rfl
    · refine T_aload_n dX12_finedBy_25 rfl ?_
      refine T_iload dX12_finedBy_26 rfl ?_
      refine T_v1e (cu2 := 0) (su2 := 0) dX12_finedBy_28 lv_X12_144 rfl (mH_get hA rfl) rfl (c_X12_isOver hA (by omega)) (nb rfl) (nb rfl) (nb rfl) (nb rfl) (nb rfl) ?_
      refine T_if_neB (tgt := 59) dX12_finedBy_31 (by decide) (fun c31 => ?_) (fun c31 => ?_)
      · refine T_iconst (v := 0) dX12_finedBy_59 (by decide) ?_
        refine T_iadd dX12_finedBy_60 ?_
        refine T_istore_n dX12_finedBy_61 (by decide) rfl ?_
        refine T_iincN dX12_finedBy_62 rfl (by decide) rfl ?_
        refine T_goto (tgt := 5) dX12_finedBy_65 (by decide) ?_
        first | exact T_eq K (by rw [mFin, if_pos ⟨c22, c31, c41, c52⟩]; rfl) rfl | exact T_eq K (by rw [mFin, if_neg (by rintro ⟨q1, q2, q3, q4⟩; first | exact c22 q1 | exact q2 c31 | exact c41 q3 | exact q4 c52)]; rfl) rfl
      · refine T_aload_n dX12_finedBy_34 rfl ?_
        refine T_iload dX12_finedBy_35 rfl ?_
        refine T_iload_n dX12_finedBy_37 rfl ?_
        refine T_v2e (cu2 := 0) (su2 := 0) dX12_finedBy_38 lv_X12_147 rfl (mH_get hA rfl) rfl (c_X12_isWith hA _ (by omega)) (nb rfl) (nb rfl) (nb rfl) (nb rfl) (nb rfl) ?_
        refine T_if_eqB (tgt := 59) dX12_finedBy_41 (by decide) (fun c41 => ?_) (fun c41 => ?_)
        · refine T_iconst (v := 0) dX12_finedBy_59 (by decide) ?_
          refine T_iadd dX12_finedBy_60 ?_
          refine T_istore_n dX12_finedBy_61 (by decide) rfl ?_
          refine T_iincN dX12_finedBy_62 rfl (by decide) rfl ?_
          refine T_goto (tgt := 5) dX12_finedBy_65 (by decide) ?_
          first | exact T_eq K (by rw [mFin, if_pos ⟨c22, c31, c41, c52⟩]; rfl) rfl | exact T_eq K (by rw [mFin, if_neg (by rintro ⟨q1, q2, q3, q4⟩; first | exact c22 q1 | exact q2 c31 | exact c41 q3 | exact q4 c52)]; rfl) rfl
        · refine T_aload_n dX12_finedBy_44 rfl ?_
          refine T_get dX12_finedBy_45 fl_X12_26_12 (mH_get hA rfl) rfl ?_
          refine T_iload dX12_finedBy_48 rfl ?_
          refine T_ialdN dX12_finedBy_50 (mH_get hA rfl) (by omega) (by decide) ?_
          refine T_iconst (v := 2) dX12_finedBy_51 (by decide) ?_
          refine T_icmp_eq (tgt := 59) dX12_finedBy_52 (by decide) (fun c52 => ?_) (fun c52 => ?_)
          · refine T_iconst (v := 0) dX12_finedBy_59 (by decide) ?_
            refine T_iadd dX12_finedBy_60 ?_
            refine T_istore_n dX12_finedBy_61 (by decide) rfl ?_
            refine T_iincN dX12_finedBy_62 rfl (by decide) rfl ?_
            refine T_goto (tgt := 5) dX12_finedBy_65 (by decide) ?_
            first | exact T_eq K (by rw [mFin, if_pos ⟨c22, c31, c41, c52⟩]; rfl) rfl | exact T_eq K (by rw [mFin, if_neg (by rintro ⟨q1, q2, q3, q4⟩; first | exact c22 q1 | exact q2 c31 | exact c41 q3 | exact q4 c52)]; rfl) rfl
          · refine T_iconst (v := 1) dX12_finedBy_55 (by decide) ?_
            refine T_goto (tgt := 60) dX12_finedBy_56 (by decide) ?_
            refine T_iadd dX12_finedBy_60 ?_
            refine T_istore_n dX12_finedBy_61 (by decide) rfl ?_
            refine T_iincN dX12_finedBy_62 rfl (by decide) rfl ?_
            refine T_goto (tgt := 5) dX12_finedBy_65 (by decide) ?_
            first | exact T_eq K (by rw [mFin, if_pos ⟨c22, c31, c41, c52⟩]; rfl) rfl | exact T_eq K (by rw [mFin, if_neg (by rintro ⟨q1, q2, q3, q4⟩; first | exact c22 q1 | exact q2 c31 | exact c41 q3 | exact q4 c52)]; rfl) rfl
theorem lp_X12_finedBy_e (hA : A.length = 67) {n : Nat} {set w : Int32} (hb : u.1 7 = nI n) (hn : n ≤ 3) : T M_X12_finedBy x_E (x_ZE M_X12_finedBy (some (.int (mFd (u.2 20) (u.2 11) (u.2 10) (u.1 5) set w n))) (mH A u B)) 0 0 5 [(0, .ref 67), (1, .int set), (2, .int w), (3, .int (mFin (u.2 20) (u.2 11) (u.2 10) (u.1 5) set w n)), (4, .int (nI n))] [] (mH A u B) := by
  refine T_iload dX12_finedBy_5 rfl ?_
  refine T_aload_n dX12_finedBy_7 rfl ?_
  refine T_get dX12_finedBy_8 fl_X12_75_12 (mH_get hA rfl) rfl ?_
  refine T_top hb ?_
  refine T_icmp_geN (tgt := 68) dX12_finedBy_11 (by decide) (by omega) (by omega) (fun c11 => ?_) (fun c11 => ?_)
  · refine T_iload_n dX12_finedBy_68 rfl ?_
    refine T_iconst (v := 2) dX12_finedBy_69 (by decide) ?_
    refine T_icmp_ge (tgt := 77) dX12_finedBy_70 (by decide) (fun c70 => ?_) (fun c70 => ?_)
    · refine T_iload_n dX12_finedBy_77 rfl ?_
      refine T_iret dX12_finedBy_78 rfl (nb rfl) (nb rfl) ?_
      first | exact ⟨sI (by unfold mFd; rw [if_pos c70]), rfl⟩ | exact ⟨sI (by unfold mFd; rw [if_neg c70]), rfl⟩
    · refine T_iconst (v := 0) dX12_finedBy_73 (by decide) ?_
      refine T_goto (tgt := 78) dX12_finedBy_74 (by decide) ?_
      refine T_iret dX12_finedBy_78 rfl (nb rfl) (nb rfl) ?_
      first | exact ⟨sI (by unfold mFd; rw [if_pos c70]), rfl⟩ | exact ⟨sI (by unfold mFd; rw [if_neg c70]), rfl⟩
  · omega
theorem c_X12_finedBy (hA : A.length = 67) {n : Nat} (set w : Int32) (hb : u.1 7 = nI n) (hn : n ≤ 3) : ConE M_X12_finedBy [.ref 67, .int set, .int w] (mH A u B) (some (.int (mFd (u.2 20) (u.2 11) (u.2 10) (u.1 5) set w n))) (mH A u B) := by
  refine Con.of rfl (nb rfl) ?_
  refine T_iconst (v := 0) dX12_finedBy_0 (by decide) ?_
  refine T_istore_n dX12_finedBy_1 (by decide) rfl ?_
  refine T_iconst (v := 0) dX12_finedBy_2 (by decide) ?_
  refine T_istore dX12_finedBy_3 (by decide) rfl ?_
  refine T_eq (T_up0 (L := fun i => [(0, .ref 67), (1, .int set), (2, .int w), (3, .int (mFin (u.2 20) (u.2 11) (u.2 10) (u.1 5) set w i)), (4, .int (nI i))]) (Hf := fun _ => mH A u B) n ?_ fun i hi K => lp_X12_finedBy hA hb hn hi K) rfl rfl
  exact lp_X12_finedBy_e hA hb hn
end M4
