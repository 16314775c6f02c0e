/-! the reference: an hour for all boats; plans -/
section M5
variable {A B : XH} {u : MSt} {h : XH} {Z : XZ}
/-- the places, as a state's row 20 -/
abbrev mP (u : MSt) (P : Nat → Int32) : MSt := (u.1, va_up u.2 20 P)
theorem vp_in5 {x w : Int32} {wd : Nat} (hw : w = nI wd) (h4 : wd ≤ 4) (h1 : ¬ x ≤ 0) (h2 : ¬ w ≤ x) : vp_in x 5 := by
  rw [vp_in_iff]
  have e : w.toInt = wd := by rw [hw]; exact nI_toInt (by omega)
  simp only [Int32.le_iff_toInt_le] at h1 h2
  have : (0 : Int32).toInt = 0 := rfl
  omega
/-- what an hour makes of the boat i -/
def mStep (fr kd fs isl : Nat → Int32) (wide set w : Int32) (i : Nat) (P : Nat → Int32) : Nat → Int32 :=
  if mOver P fr wide i then P else
  if mBit set i then upd P i (mBounded wide (P i + (if fr i = 0 then 1 else -1) * (if kd i = 1 ∧ ¬ w = fr i + 1 then fs i + 1 else fs i)))
  else if ¬ P i ≤ 0 ∧ ¬ wide ≤ P i ∧ isl (P i).toNatClampNeg = 0 then upd P i (P i + (if w = 1 then 1 else -1)) else P
def mHr (fr kd fs isl : Nat → Int32) (wide set w : Int32) (P : Nat → Int32) : Nat → Nat → Int32
  | 0 => P
  | i + 1 => mStep fr kd fs isl wide set w i (mHr fr kd fs isl wide set w P i)
def mHour (fr kd fs isl : Nat → Int32) (wide set w : Int32) (n : Nat) (P : Nat → Int32) : Nat → Int32 := if w = 0 then P else mHr fr kd fs isl wide set w P n
theorem lp_X12_goHour (hA : A.length = 67) {n i wd : Nat} {set w : Int32} (hb : u.1 7 = nI n) (hn : n ≤ 3) (hw : u.1 5 = nI wd) (h4 : wd ≤ 4) (hw0 : ¬ w = 0) (hi : i < n) (P : Nat → Int32) (K : T M_X12_goHour x_E Z 0 0 2 [(0, .ref 67), (1, .int set), (2, .int w), (3, .int (nI (i + 1)))] [] (mH A (mP u (mStep (u.2 11) (u.2 10) (u.2 12) (u.2 8) (u.1 5) set w i P)) B)) : T M_X12_goHour x_E Z 0 0 2 [(0, .ref 67), (1, .int set), (2, .int w), (3, .int (nI i))] [] (mH A (mP u P) B) := by
  have a1 : mOver P (u.2 11) (u.1 5) i → mStep (u.2 11) (u.2 10) (u.2 12) (u.2 8) (u.1 5) set w i P = P := fun c => by unfold mStep; rw [if_pos c]
  have a2 : ¬ mOver P (u.2 11) (u.1 5) i → mBit set i → mStep (u.2 11) (u.2 10) (u.2 12) (u.2 8) (u.1 5) set w i P = upd P i (mBounded (u.1 5) (P i + (if u.2 11 i = 0 then 1 else -1) * (if u.2 10 i = 1 ∧ ¬ w = u.2 11 i + 1 then u.2 12 i + 1 else u.2 12 i))) := fun c d => by unfold mStep; rw [if_neg c, if_pos d]
  have a3 : ¬ mOver P (u.2 11) (u.1 5) i → ¬ mBit set i → mStep (u.2 11) (u.2 10) (u.2 12) (u.2 8) (u.1 5) set w i P = if ¬ P i ≤ 0 ∧ ¬ u.1 5 ≤ P i ∧ u.2 8 (P i).toNatClampNeg = 0 then upd P i (P i + (if w = 1 then 1 else -1)) else P := fun c d => by unfold mStep; rw [if_neg c, if_neg d]
  generalize mStep (u.2 11) (u.2 10) (u.2 12) (u.2 8) (u.1 5) set w i P = R at a1 a2 a3 K
  refine T_iload_n dX12_goHour_2 rfl ?_
  refine T_aload_n dX12_goHour_3 rfl ?_
  refine T_get dX12_goHour_4 fl_X12_75_12 (mH_get hA rfl) rfl ?_
  refine T_top hb ?_
  refine T_icmp_geN (tgt := 171) dX12_goHour_7 (by decide) (by omega) (by omega) (fun c7 => ?_) (fun c7 => ?_)
  · omega
  · refine T_iload_n dX12_goHour_10 rfl ?_
    refine T_if_eq (tgt := 171) dX12_goHour_11 (by decide) (fun c11 => ?_) (fun c11 => ?_)
    · exact absurd c11 hw0
    · refine T_aload_n dX12_goHour_14 rfl ?_
      refine T_iload_n dX12_goHour_15 rfl ?_
      refine T_v1e (cu2 := 0) (su2 := 0) dX12_goHour_16 lv_X12_144 rfl (mH_get hA rfl) rfl (c_X12_isOver hA (by omega)) (nb rfl) (nb rfl) (nb rfl) (nb rfl) (nb rfl) ?_
      refine T_if_neB (tgt := 165) dX12_goHour_19 (by decide) (fun c19 => ?_) (fun c19 => ?_)
      · refine T_iincN dX12_goHour_165 rfl (by decide) rfl ?_
        refine T_goto (tgt := 2) dX12_goHour_168 (by decide) ?_
        first
          | exact T_eq (T_pick [0, 1, 2, 3] (ls := _) K) rfl (by rw [a1 c19])
          | (rw [a1 c19] at K; exact T_pick [0, 1, 2, 3] K)
          | (rw [a2 c19 c44, if_pos (show u.2 11 i = 0 from c28)] at K; first | (rw [if_pos ⟨c54, c63⟩] at K; exact T_pick [0, 1, 2, 3] K) | (rw [if_neg (by rintro ⟨q1, q2⟩; first | exact c54 q1 | exact q2 c63)] at K; exact T_pick [0, 1, 2, 3] K))
          | (rw [a2 c19 c44, if_neg (show ¬ u.2 11 i = 0 from c28)] at K; first | (rw [if_pos ⟨c54, c63⟩] at K; exact T_pick [0, 1, 2, 3] K) | (rw [if_neg (by rintro ⟨q1, q2⟩; first | exact c54 q1 | exact q2 c63)] at K; exact T_pick [0, 1, 2, 3] K))
          | (rw [a3 c19 c44, if_neg (by rintro ⟨q1, q2, q3⟩; first | exact q1 c116 | exact q2 c129 | exact c143 q3)] at K; exact T_pick [0, 1, 2, 3] K)
          | (rw [a3 c19 c44, if_pos ⟨c116, c129, c143⟩, if_pos c155] at K; exact T_pick [0, 1, 2, 3] K)
          | (rw [a3 c19 c44, if_pos ⟨c116, c129, c143⟩, if_neg c155] at K; exact T_pick [0, 1, 2, 3] K)
      · refine T_aload_n dX12_goHour_22 rfl ?_
        refine T_get dX12_goHour_23 fl_X12_29_12 (mH_get hA rfl) rfl ?_
        refine T_iload_n dX12_goHour_26 rfl ?_
        refine T_ialdN dX12_goHour_27 (mH_get hA rfl) (by omega) (by decide) ?_
        refine T_if_ne (tgt := 35) dX12_goHour_28 (by decide) (fun c28 => ?_) (fun c28 => ?_)
        · refine T_iconst (v := (-1)) dX12_goHour_35 (by decide) ?_
          refine T_istore dX12_goHour_36 (by decide) rfl ?_
          refine T_iload_n dX12_goHour_38 rfl ?_
          refine T_iload_n dX12_goHour_39 rfl ?_
          refine T_ishr dX12_goHour_40 ?_
          refine T_iconst (v := 1) dX12_goHour_41 (by decide) ?_
          refine T_iand dX12_goHour_42 ?_
          refine T_iconst (v := 1) dX12_goHour_43 (by decide) ?_
          refine T_icmp_ne (tgt := 110) dX12_goHour_44 (by decide) (fun c44 => ?_) (fun c44 => ?_)
          · refine T_aload_n dX12_goHour_110 rfl ?_
            refine T_get dX12_goHour_111 fl_X12_44_12 (mH_get hA rfl) rfl ?_
            refine T_iload_n dX12_goHour_114 rfl ?_
            refine T_ialdN dX12_goHour_115 (mH_get hA rfl) (by omega) (by decide) ?_
            refine T_if_le (tgt := 165) dX12_goHour_116 (by decide) (fun c116 => ?_) (fun c116 => ?_)
            · refine T_iincN dX12_goHour_165 rfl (by decide) rfl ?_
              refine T_goto (tgt := 2) dX12_goHour_168 (by decide) ?_
              first
                | exact T_eq (T_pick [0, 1, 2, 3] (ls := _) K) rfl (by rw [a1 c19])
                | (rw [a1 c19] at K; exact T_pick [0, 1, 2, 3] K)
                | (rw [a2 c19 c44, if_pos (show u.2 11 i = 0 from c28)] at K; first | (rw [if_pos ⟨c54, c63⟩] at K; exact T_pick [0, 1, 2, 3] K) | (rw [if_neg (by rintro ⟨q1, q2⟩; first | exact c54 q1 | exact q2 c63)] at K; exact T_pick [0, 1, 2, 3] K))
                | (rw [a2 c19 c44, if_neg (show ¬ u.2 11 i = 0 from c28)] at K; first | (rw [if_pos ⟨c54, c63⟩] at K; exact T_pick [0, 1, 2, 3] K) | (rw [if_neg (by rintro ⟨q1, q2⟩; first | exact c54 q1 | exact q2 c63)] at K; exact T_pick [0, 1, 2, 3] K))
                | (rw [a3 c19 c44, if_neg (by rintro ⟨q1, q2, q3⟩; first | exact q1 c116 | exact q2 c129 | exact c143 q3)] at K; exact T_pick [0, 1, 2, 3] K)
                | (rw [a3 c19 c44, if_pos ⟨c116, c129, c143⟩, if_pos c155] at K; exact T_pick [0, 1, 2, 3] K)
                | (rw [a3 c19 c44, if_pos ⟨c116, c129, c143⟩, if_neg c155] at K; exact T_pick [0, 1, 2, 3] K)
            · refine T_aload_n dX12_goHour_119 rfl ?_
              refine T_get dX12_goHour_120 fl_X12_44_12 (mH_get hA rfl) rfl ?_
              refine T_iload_n dX12_goHour_123 rfl ?_
              refine T_ialdN dX12_goHour_124 (mH_get hA rfl) (by omega) (by decide) ?_
              refine T_aload_n dX12_goHour_125 rfl ?_
              refine T_get dX12_goHour_126 fl_X12_108_12 (mH_get hA rfl) rfl ?_
              refine T_icmp_ge (tgt := 165) dX12_goHour_129 (by decide) (fun c129 => ?_) (fun c129 => ?_)
              · refine T_iincN dX12_goHour_165 rfl (by decide) rfl ?_
                refine T_goto (tgt := 2) dX12_goHour_168 (by decide) ?_
                first
                  | exact T_eq (T_pick [0, 1, 2, 3] (ls := _) K) rfl (by rw [a1 c19])
                  | (rw [a1 c19] at K; exact T_pick [0, 1, 2, 3] K)
                  | (rw [a2 c19 c44, if_pos (show u.2 11 i = 0 from c28)] at K; first | (rw [if_pos ⟨c54, c63⟩] at K; exact T_pick [0, 1, 2, 3] K) | (rw [if_neg (by rintro ⟨q1, q2⟩; first | exact c54 q1 | exact q2 c63)] at K; exact T_pick [0, 1, 2, 3] K))
                  | (rw [a2 c19 c44, if_neg (show ¬ u.2 11 i = 0 from c28)] at K; first | (rw [if_pos ⟨c54, c63⟩] at K; exact T_pick [0, 1, 2, 3] K) | (rw [if_neg (by rintro ⟨q1, q2⟩; first | exact c54 q1 | exact q2 c63)] at K; exact T_pick [0, 1, 2, 3] K))
                  | (rw [a3 c19 c44, if_neg (by rintro ⟨q1, q2, q3⟩; first | exact q1 c116 | exact q2 c129 | exact c143 q3)] at K; exact T_pick [0, 1, 2, 3] K)
                  | (rw [a3 c19 c44, if_pos ⟨c116, c129, c143⟩, if_pos c155] at K; exact T_pick [0, 1, 2, 3] K)
                  | (rw [a3 c19 c44, if_pos ⟨c116, c129, c143⟩, if_neg c155] at K; exact T_pick [0, 1, 2, 3] K)
              · refine T_aload_n dX12_goHour_132 rfl ?_
                refine T_get dX12_goHour_133 fl_X12_19_12 (mH_get hA rfl) rfl ?_
                refine T_aload_n dX12_goHour_136 rfl ?_
                refine T_get dX12_goHour_137 fl_X12_44_12 (mH_get hA rfl) rfl ?_
                refine T_iload_n dX12_goHour_140 rfl ?_
                refine T_ialdN dX12_goHour_141 (mH_get hA rfl) (by omega) (by decide) ?_
                refine T_zald dX12_goHour_142 (mH_get hA rfl) (vp_in5 hw h4 c116 c129) ?_
                refine T_if_ne (tgt := 165) dX12_goHour_143 (by decide) (fun c143 => ?_) (fun c143 => ?_)
                · refine T_iincN dX12_goHour_165 rfl (by decide) rfl ?_
                  refine T_goto (tgt := 2) dX12_goHour_168 (by decide) ?_
                  first
                    | exact T_eq (T_pick [0, 1, 2, 3] (ls := _) K) rfl (by rw [a1 c19])
                    | (rw [a1 c19] at K; exact T_pick [0, 1, 2, 3] K)
                    | (rw [a2 c19 c44, if_pos (show u.2 11 i = 0 from c28)] at K; first | (rw [if_pos ⟨c54, c63⟩] at K; exact T_pick [0, 1, 2, 3] K) | (rw [if_neg (by rintro ⟨q1, q2⟩; first | exact c54 q1 | exact q2 c63)] at K; exact T_pick [0, 1, 2, 3] K))
                    | (rw [a2 c19 c44, if_neg (show ¬ u.2 11 i = 0 from c28)] at K; first | (rw [if_pos ⟨c54, c63⟩] at K; exact T_pick [0, 1, 2, 3] K) | (rw [if_neg (by rintro ⟨q1, q2⟩; first | exact c54 q1 | exact q2 c63)] at K; exact T_pick [0, 1, 2, 3] K))
                    | (rw [a3 c19 c44, if_neg (by rintro ⟨q1, q2, q3⟩; first | exact q1 c116 | exact q2 c129 | exact c143 q3)] at K; exact T_pick [0, 1, 2, 3] K)
                    | (rw [a3 c19 c44, if_pos ⟨c116, c129, c143⟩, if_pos c155] at K; exact T_pick [0, 1, 2, 3] K)
                    | (rw [a3 c19 c44, if_pos ⟨c116, c129, c143⟩, if_neg c155] at K; exact T_pick [0, 1, 2, 3] K)
                · refine T_aload_n dX12_goHour_146 rfl ?_
                  refine T_get dX12_goHour_147 fl_X12_44_12 (mH_get hA rfl) rfl ?_
                  refine T_iload_n dX12_goHour_150 rfl ?_
                  refine T_dup2 dX12_goHour_151 rfl rfl ?_
                  refine T_ialdN dX12_goHour_152 (mH_get hA rfl) (by omega) (by decide) ?_
                  refine T_iload_n dX12_goHour_153 rfl ?_
                  refine T_iconst (v := 1) dX12_goHour_154 (by decide) ?_
                  refine T_icmp_ne (tgt := 162) dX12_goHour_155 (by decide) (fun c155 => ?_) (fun c155 => ?_)
                  · refine T_iconst (v := (-1)) dX12_goHour_162 (by decide) ?_
                    refine T_iadd dX12_goHour_163 ?_
                    refine T_iastN dX12_goHour_164 (mH_get hA rfl) (by omega) (by decide) ?_
                    first | refine T_h (mT_20 hA) ?_ | refine T_h (mS_20 hA) ?_
                    refine T_iincN dX12_goHour_165 rfl (by decide) rfl ?_
                    refine T_goto (tgt := 2) dX12_goHour_168 (by decide) ?_
                    first
                      | exact T_eq (T_pick [0, 1, 2, 3] (ls := _) K) rfl (by rw [a1 c19])
                      | (rw [a1 c19] at K; exact T_pick [0, 1, 2, 3] K)
                      | (rw [a2 c19 c44, if_pos (show u.2 11 i = 0 from c28)] at K; first | (rw [if_pos ⟨c54, c63⟩] at K; exact T_pick [0, 1, 2, 3] K) | (rw [if_neg (by rintro ⟨q1, q2⟩; first | exact c54 q1 | exact q2 c63)] at K; exact T_pick [0, 1, 2, 3] K))
                      | (rw [a2 c19 c44, if_neg (show ¬ u.2 11 i = 0 from c28)] at K; first | (rw [if_pos ⟨c54, c63⟩] at K; exact T_pick [0, 1, 2, 3] K) | (rw [if_neg (by rintro ⟨q1, q2⟩; first | exact c54 q1 | exact q2 c63)] at K; exact T_pick [0, 1, 2, 3] K))
                      | (rw [a3 c19 c44, if_neg (by rintro ⟨q1, q2, q3⟩; first | exact q1 c116 | exact q2 c129 | exact c143 q3)] at K; exact T_pick [0, 1, 2, 3] K)
                      | (rw [a3 c19 c44, if_pos ⟨c116, c129, c143⟩, if_pos c155] at K; exact T_pick [0, 1, 2, 3] K)
                      | (rw [a3 c19 c44, if_pos ⟨c116, c129, c143⟩, if_neg c155] at K; exact T_pick [0, 1, 2, 3] K)
                  · refine T_iconst (v := 1) dX12_goHour_158 (by decide) ?_
                    refine T_goto (tgt := 163) dX12_goHour_159 (by decide) ?_
                    refine T_iadd dX12_goHour_163 ?_
                    refine T_iastN dX12_goHour_164 (mH_get hA rfl) (by omega) (by decide) ?_
                    first | refine T_h (mT_20 hA) ?_ | refine T_h (mS_20 hA) ?_
                    refine T_iincN dX12_goHour_165 rfl (by decide) rfl ?_
                    refine T_goto (tgt := 2) dX12_goHour_168 (by decide) ?_
                    first
                      | exact T_eq (T_pick [0, 1, 2, 3] (ls := _) K) rfl (by rw [a1 c19])
                      | (rw [a1 c19] at K; exact T_pick [0, 1, 2, 3] K)
                      | (rw [a2 c19 c44, if_pos (show u.2 11 i = 0 from c28)] at K; first | (rw [if_pos ⟨c54, c63⟩] at K; exact T_pick [0, 1, 2, 3] K) | (rw [if_neg (by rintro ⟨q1, q2⟩; first | exact c54 q1 | exact q2 c63)] at K; exact T_pick [0, 1, 2, 3] K))
                      | (rw [a2 c19 c44, if_neg (show ¬ u.2 11 i = 0 from c28)] at K; first | (rw [if_pos ⟨c54, c63⟩] at K; exact T_pick [0, 1, 2, 3] K) | (rw [if_neg (by rintro ⟨q1, q2⟩; first | exact c54 q1 | exact q2 c63)] at K; exact T_pick [0, 1, 2, 3] K))
                      | (rw [a3 c19 c44, if_neg (by rintro ⟨q1, q2, q3⟩; first | exact q1 c116 | exact q2 c129 | exact c143 q3)] at K; exact T_pick [0, 1, 2, 3] K)
                      | (rw [a3 c19 c44, if_pos ⟨c116, c129, c143⟩, if_pos c155] at K; exact T_pick [0, 1, 2, 3] K)
                      | (rw [a3 c19 c44, if_pos ⟨c116, c129, c143⟩, if_neg c155] at K; exact T_pick [0, 1, 2, 3] K)
          · refine T_aload_n dX12_goHour_47 rfl ?_
            refine T_get dX12_goHour_48 fl_X12_26_12 (mH_get hA rfl) rfl ?_
            refine T_iload_n dX12_goHour_51 rfl ?_
            refine T_ialdN dX12_goHour_52 (mH_get hA rfl) (by omega) (by decide) ?_
            refine T_iconst (v := 1) dX12_goHour_53 (by decide) ?_
            refine T_icmp_ne (tgt := 77) dX12_goHour_54 (by decide) (fun c54 => ?_) (fun c54 => ?_)
            · refine T_aload_n dX12_goHour_77 rfl ?_
              refine T_get dX12_goHour_78 fl_X12_32_12 (mH_get hA rfl) rfl ?_
              refine T_iload_n dX12_goHour_81 rfl ?_
              refine T_ialdN dX12_goHour_82 (mH_get hA rfl) (by omega) (by decide) ?_
              refine T_istore dX12_goHour_83 (by decide) rfl ?_
              refine T_aload_n dX12_goHour_85 rfl ?_
              refine T_get dX12_goHour_86 fl_X12_44_12 (mH_get hA rfl) rfl ?_
              refine T_iload_n dX12_goHour_89 rfl ?_
              refine T_aload_n dX12_goHour_90 rfl ?_
              refine T_aload_n dX12_goHour_91 rfl ?_
              refine T_get dX12_goHour_92 fl_X12_44_12 (mH_get hA rfl) rfl ?_
              refine T_iload_n dX12_goHour_95 rfl ?_
              refine T_ialdN dX12_goHour_96 (mH_get hA rfl) (by omega) (by decide) ?_
              refine T_iload dX12_goHour_97 rfl ?_
              refine T_iload dX12_goHour_99 rfl ?_
              refine T_imul dX12_goHour_101 ?_
              refine T_iadd dX12_goHour_102 ?_
              refine T_v1e (cu2 := 0) (su2 := 0) dX12_goHour_103 lv_X12_150 rfl (mH_get hA rfl) rfl (c_X12_bounded hA _) (nb rfl) (nb rfl) (nb rfl) (nb rfl) (nb rfl) ?_
              refine T_iastN dX12_goHour_106 (mH_get hA rfl) (by omega) (by decide) ?_
              first | refine T_h (mT_20 hA) ?_ | refine T_h (mS_20 hA) ?_
              refine T_goto (tgt := 165) dX12_goHour_107 (by decide) ?_
              refine T_iincN dX12_goHour_165 rfl (by decide) rfl ?_
              refine T_goto (tgt := 2) dX12_goHour_168 (by decide) ?_
              first
                | exact T_eq (T_pick [0, 1, 2, 3] (ls := _) K) rfl (by rw [a1 c19])
                | (rw [a1 c19] at K; exact T_pick [0, 1, 2, 3] K)
                | (rw [a2 c19 c44, if_pos (show u.2 11 i = 0 from c28)] at K; first | (rw [if_pos ⟨c54, c63⟩] at K; exact T_pick [0, 1, 2, 3] K) | (rw [if_neg (by rintro ⟨q1, q2⟩; first | exact c54 q1 | exact q2 c63)] at K; exact T_pick [0, 1, 2, 3] K))
                | (rw [a2 c19 c44, if_neg (show ¬ u.2 11 i = 0 from c28)] at K; first | (rw [if_pos ⟨c54, c63⟩] at K; exact T_pick [0, 1, 2, 3] K) | (rw [if_neg (by rintro ⟨q1, q2⟩; first | exact c54 q1 | exact q2 c63)] at K; exact T_pick [0, 1, 2, 3] K))
                | (rw [a3 c19 c44, if_neg (by rintro ⟨q1, q2, q3⟩; first | exact q1 c116 | exact q2 c129 | exact c143 q3)] at K; exact T_pick [0, 1, 2, 3] K)
                | (rw [a3 c19 c44, if_pos ⟨c116, c129, c143⟩, if_pos c155] at K; exact T_pick [0, 1, 2, 3] K)
                | (rw [a3 c19 c44, if_pos ⟨c116, c129, c143⟩, if_neg c155] at K; exact T_pick [0, 1, 2, 3] K)
            · refine T_aload_n dX12_goHour_57 rfl ?_
              refine T_iload_n dX12_goHour_58 rfl ?_
              refine T_iload_n dX12_goHour_59 rfl ?_
              refine T_v2e (cu2 := 0) (su2 := 0) dX12_goHour_60 lv_X12_147 rfl (mH_get hA rfl) rfl (c_X12_isWith hA _ (by omega)) (nb rfl) (nb rfl) (nb rfl) (nb rfl) (nb rfl) ?_
              refine T_if_neB (tgt := 77) dX12_goHour_63 (by decide) (fun c63 => ?_) (fun c63 => ?_)
              · refine T_aload_n dX12_goHour_77 rfl ?_
                refine T_get dX12_goHour_78 fl_X12_32_12 (mH_get hA rfl) rfl ?_
                refine T_iload_n dX12_goHour_81 rfl ?_
                refine T_ialdN dX12_goHour_82 (mH_get hA rfl) (by omega) (by decide) ?_
                refine T_istore dX12_goHour_83 (by decide) rfl ?_
                refine T_aload_n dX12_goHour_85 rfl ?_
                refine T_get dX12_goHour_86 fl_X12_44_12 (mH_get hA rfl) rfl ?_
                refine T_iload_n dX12_goHour_89 rfl ?_
                refine T_aload_n dX12_goHour_90 rfl ?_
                refine T_aload_n dX12_goHour_91 rfl ?_
                refine T_get dX12_goHour_92 fl_X12_44_12 (mH_get hA rfl) rfl ?_
                refine T_iload_n dX12_goHour_95 rfl ?_
                refine T_ialdN dX12_goHour_96 (mH_get hA rfl) (by omega) (by decide) ?_
                refine T_iload dX12_goHour_97 rfl ?_
                refine T_iload dX12_goHour_99 rfl ?_
                refine T_imul dX12_goHour_101 ?_
                refine T_iadd dX12_goHour_102 ?_
                refine T_v1e (cu2 := 0) (su2 := 0) dX12_goHour_103 lv_X12_150 rfl (mH_get hA rfl) rfl (c_X12_bounded hA _) (nb rfl) (nb rfl) (nb rfl) (nb rfl) (nb rfl) ?_
                refine T_iastN dX12_goHour_106 (mH_get hA rfl) (by omega) (by decide) ?_
                first | refine T_h (mT_20 hA) ?_ | refine T_h (mS_20 hA) ?_
                refine T_goto (tgt := 165) dX12_goHour_107 (by decide) ?_
                refine T_iincN dX12_goHour_165 rfl (by decide) rfl ?_
                refine T_goto (tgt := 2) dX12_goHour_168 (by decide) ?_
                first
                  | exact T_eq (T_pick [0, 1, 2, 3] (ls := _) K) rfl (by rw [a1 c19])
                  | (rw [a1 c19] at K; exact T_pick [0, 1, 2, 3] K)
                  | (rw [a2 c19 c44, if_pos (show u.2 11 i = 0 from c28)] at K; first | (rw [if_pos ⟨c54, c63⟩] at K; exact T_pick [0, 1, 2, 3] K) | (rw [if_neg (by rintro ⟨q1, q2⟩; first | exact c54 q1 | exact q2 c63)] at K; exact T_pick [0, 1, 2, 3] K))
                  | (rw [a2 c19 c44, if_neg (show ¬ u.2 11 i = 0 from c28)] at K; first | (rw [if_pos ⟨c54, c63⟩] at K; exact T_pick [0, 1, 2, 3] K) | (rw [if_neg (by rintro ⟨q1, q2⟩; first | exact c54 q1 | exact q2 c63)] at K; exact T_pick [0, 1, 2, 3] K))
                  | (rw [a3 c19 c44, if_neg (by rintro ⟨q1, q2, q3⟩; first | exact q1 c116 | exact q2 c129 | exact c143 q3)] at K; exact T_pick [0, 1, 2, 3] K)
                  | (rw [a3 c19 c44, if_pos ⟨c116, c129, c143⟩, if_pos c155] at K; exact T_pick [0, 1, 2, 3] K)
                  | (rw [a3 c19 c44, if_pos ⟨c116, c129, c143⟩, if_neg c155] at K; exact T_pick [0, 1, 2, 3] K)
              · refine T_aload_n dX12_goHour_66 rfl ?_
                refine T_get dX12_goHour_67 fl_X12_32_12 (mH_get hA rfl) rfl ?_
                refine T_iload_n dX12_goHour_70 rfl ?_
                refine T_ialdN dX12_goHour_71 (mH_get hA rfl) (by omega) (by decide) ?_
                refine T_iconst (v := 1) dX12_goHour_72 (by decide) ?_
                refine T_iadd dX12_goHour_73 ?_
                refine T_goto (tgt := 83) dX12_goHour_74 (by decide) ?_
                refine T_istore dX12_goHour_83 (by decide) rfl ?_
                refine T_aload_n dX12_goHour_85 rfl ?_
                refine T_get dX12_goHour_86 fl_X12_44_12 (mH_get hA rfl) rfl ?_
                refine T_iload_n dX12_goHour_89 rfl ?_
                refine T_aload_n dX12_goHour_90 rfl ?_
                refine T_aload_n dX12_goHour_91 rfl ?_
                refine T_get dX12_goHour_92 fl_X12_44_12 (mH_get hA rfl) rfl ?_
                refine T_iload_n dX12_goHour_95 rfl ?_
                refine T_ialdN dX12_goHour_96 (mH_get hA rfl) (by omega) (by decide) ?_
                refine T_iload dX12_goHour_97 rfl ?_
                refine T_iload dX12_goHour_99 rfl ?_
                refine T_imul dX12_goHour_101 ?_
                refine T_iadd dX12_goHour_102 ?_
                refine T_v1e (cu2 := 0) (su2 := 0) dX12_goHour_103 lv_X12_150 rfl (mH_get hA rfl) rfl (c_X12_bounded hA _) (nb rfl) (nb rfl) (nb rfl) (nb rfl) (nb rfl) ?_
                refine T_iastN dX12_goHour_106 (mH_get hA rfl) (by omega) (by decide) ?_
                first | refine T_h (mT_20 hA) ?_ | refine T_h (mS_20 hA) ?_
                refine T_goto (tgt := 165) dX12_goHour_107 (by decide) ?_
                refine T_iincN dX12_goHour_165 rfl (by decide) rfl ?_
                refine T_goto (tgt := 2) dX12_goHour_168 (by decide) ?_
                first
                  | exact T_eq (T_pick [0, 1, 2, 3] (ls := _) K) rfl (by rw [a1 c19])
                  | (rw [a1 c19] at K; exact T_pick [0, 1, 2, 3] K)
                  | (rw [a2 c19 c44, if_pos (show u.2 11 i = 0 from c28)] at K; first | (rw [if_pos ⟨c54, c63⟩] at K; exact T_pick [0, 1, 2, 3] K) | (rw [if_neg (by rintro ⟨q1, q2⟩; first | exact c54 q1 | exact q2 c63)] at K; exact T_pick [0, 1, 2, 3] K))
                  | (rw [a2 c19 c44, if_neg (show ¬ u.2 11 i = 0 from c28)] at K; first | (rw [if_pos ⟨c54, c63⟩] at K; exact T_pick [0, 1, 2, 3] K) | (rw [if_neg (by rintro ⟨q1, q2⟩; first | exact c54 q1 | exact q2 c63)] at K; exact T_pick [0, 1, 2, 3] K))
                  | (rw [a3 c19 c44, if_neg (by rintro ⟨q1, q2, q3⟩; first | exact q1 c116 | exact q2 c129 | exact c143 q3)] at K; exact T_pick [0, 1, 2, 3] K)
                  | (rw [a3 c19 c44, if_pos ⟨c116, c129, c143⟩, if_pos c155] at K; exact T_pick [0, 1, 2, 3] K)
                  | (rw [a3 c19 c44, if_pos ⟨c116, c129, c143⟩, if_neg c155] at K; exact T_pick [0, 1, 2, 3] K)
        · refine T_iconst (v := 1) dX12_goHour_31 (by decide) ?_
          refine T_goto (tgt := 36) dX12_goHour_32 (by decide) ?_
          refine T_istore dX12_goHour_36 (by decide) rfl ?_
          refine T_iload_n dX12_goHour_38 rfl ?_
          refine T_iload_n dX12_goHour_39 rfl ?_
          refine T_ishr dX12_goHour_40 ?_
          refine T_iconst (v := 1) dX12_goHour_41 (by decide) ?_
          refine T_iand dX12_goHour_42 ?_
          refine T_iconst (v := 1) dX12_goHour_43 (by decide) ?_
          refine T_icmp_ne (tgt := 110) dX12_goHour_44 (by decide) (fun c44 => ?_) (fun c44 => ?_)
          · refine T_aload_n dX12_goHour_110 rfl ?_
            refine T_get dX12_goHour_111 fl_X12_44_12 (mH_get hA rfl) rfl ?_
            refine T_iload_n dX12_goHour_114 rfl ?_
            refine T_ialdN dX12_goHour_115 (mH_get hA rfl) (by omega) (by decide) ?_
            refine T_if_le (tgt := 165) dX12_goHour_116 (by decide) (fun c116 => ?_) (fun c116 => ?_)
            · refine T_iincN dX12_goHour_165 rfl (by decide) rfl ?_
              refine T_goto (tgt := 2) dX12_goHour_168 (by decide) ?_
              first
                | exact T_eq (T_pick [0, 1, 2, 3] (ls := _) K) rfl (by rw [a1 c19])
                | (rw [a1 c19] at K; exact T_pick [0, 1, 2, 3] K)
                | (rw [a2 c19 c44, if_pos (show u.2 11 i = 0 from c28)] at K; first | (rw [if_pos ⟨c54, c63⟩] at K; exact T_pick [0, 1, 2, 3] K) | (rw [if_neg (by rintro ⟨q1, q2⟩; first | exact c54 q1 | exact q2 c63)] at K; exact T_pick [0, 1, 2, 3] K))
                | (rw [a2 c19 c44, if_neg (show ¬ u.2 11 i = 0 from c28)] at K; first | (rw [if_pos ⟨c54, c63⟩] at K; exact T_pick [0, 1, 2, 3] K) | (rw [if_neg (by rintro ⟨q1, q2⟩; first | exact c54 q1 | exact q2 c63)] at K; exact T_pick [0, 1, 2, 3] K))
                | (rw [a3 c19 c44, if_neg (by rintro ⟨q1, q2, q3⟩; first | exact q1 c116 | exact q2 c129 | exact c143 q3)] at K; exact T_pick [0, 1, 2, 3] K)
                | (rw [a3 c19 c44, if_pos ⟨c116, c129, c143⟩, if_pos c155] at K; exact T_pick [0, 1, 2, 3] K)
                | (rw [a3 c19 c44, if_pos ⟨c116, c129, c143⟩, if_neg c155] at K; exact T_pick [0, 1, 2, 3] K)
            · refine T_aload_n dX12_goHour_119 rfl ?_
              refine T_get dX12_goHour_120 fl_X12_44_12 (mH_get hA rfl) rfl ?_
              refine T_iload_n dX12_goHour_123 rfl ?_
              refine T_ialdN dX12_goHour_124 (mH_get hA rfl) (by omega) (by decide) ?_
              refine T_aload_n dX12_goHour_125 rfl ?_
              refine T_get dX12_goHour_126 fl_X12_108_12 (mH_get hA rfl) rfl ?_
              refine T_icmp_ge (tgt := 165) dX12_goHour_129 (by decide) (fun c129 => ?_) (fun c129 => ?_)
              · refine T_iincN dX12_goHour_165 rfl (by decide) rfl ?_
                refine T_goto (tgt := 2) dX12_goHour_168 (by decide) ?_
                first
                  | exact T_eq (T_pick [0, 1, 2, 3] (ls := _) K) rfl (by rw [a1 c19])
                  | (rw [a1 c19] at K; exact T_pick [0, 1, 2, 3] K)
                  | (rw [a2 c19 c44, if_pos (show u.2 11 i = 0 from c28)] at K; first | (rw [if_pos ⟨c54, c63⟩] at K; exact T_pick [0, 1, 2, 3] K) | (rw [if_neg (by rintro ⟨q1, q2⟩; first | exact c54 q1 | exact q2 c63)] at K; exact T_pick [0, 1, 2, 3] K))
                  | (rw [a2 c19 c44, if_neg (show ¬ u.2 11 i = 0 from c28)] at K; first | (rw [if_pos ⟨c54, c63⟩] at K; exact T_pick [0, 1, 2, 3] K) | (rw [if_neg (by rintro ⟨q1, q2⟩; first | exact c54 q1 | exact q2 c63)] at K; exact T_pick [0, 1, 2, 3] K))
                  | (rw [a3 c19 c44, if_neg (by rintro ⟨q1, q2, q3⟩; first | exact q1 c116 | exact q2 c129 | exact c143 q3)] at K; exact T_pick [0, 1, 2, 3] K)
                  | (rw [a3 c19 c44, if_pos ⟨c116, c129, c143⟩, if_pos c155] at K; exact T_pick [0, 1, 2, 3] K)
                  | (rw [a3 c19 c44, if_pos ⟨c116, c129, c143⟩, if_neg c155] at K; exact T_pick [0, 1, 2, 3] K)
              · refine T_aload_n dX12_goHour_132 rfl ?_
                refine T_get dX12_goHour_133 fl_X12_19_12 (mH_get hA rfl) rfl ?_
                refine T_aload_n dX12_goHour_136 rfl ?_
                refine T_get dX12_goHour_137 fl_X12_44_12 (mH_get hA rfl) rfl ?_
                refine T_iload_n dX12_goHour_140 rfl ?_
                refine T_ialdN dX12_goHour_141 (mH_get hA rfl) (by omega) (by decide) ?_
                refine T_zald dX12_goHour_142 (mH_get hA rfl) (vp_in5 hw h4 c116 c129) ?_
                refine T_if_ne (tgt := 165) dX12_goHour_143 (by decide) (fun c143 => ?_) (fun c143 => ?_)
                · refine T_iincN dX12_goHour_165 rfl (by decide) rfl ?_
                  refine T_goto (tgt := 2) dX12_goHour_168 (by decide) ?_
                  first
                    | exact T_eq (T_pick [0, 1, 2, 3] (ls := _) K) rfl (by rw [a1 c19])
                    | (rw [a1 c19] at K; exact T_pick [0, 1, 2, 3] K)
                    | (rw [a2 c19 c44, if_pos (show u.2 11 i = 0 from c28)] at K; first | (rw [if_pos ⟨c54, c63⟩] at K; exact T_pick [0, 1, 2, 3] K) | (rw [if_neg (by rintro ⟨q1, q2⟩; first | exact c54 q1 | exact q2 c63)] at K; exact T_pick [0, 1, 2, 3] K))
                    | (rw [a2 c19 c44, if_neg (show ¬ u.2 11 i = 0 from c28)] at K; first | (rw [if_pos ⟨c54, c63⟩] at K; exact T_pick [0, 1, 2, 3] K) | (rw [if_neg (by rintro ⟨q1, q2⟩; first | exact c54 q1 | exact q2 c63)] at K; exact T_pick [0, 1, 2, 3] K))
                    | (rw [a3 c19 c44, if_neg (by rintro ⟨q1, q2, q3⟩; first | exact q1 c116 | exact q2 c129 | exact c143 q3)] at K; exact T_pick [0, 1, 2, 3] K)
                    | (rw [a3 c19 c44, if_pos ⟨c116, c129, c143⟩, if_pos c155] at K; exact T_pick [0, 1, 2, 3] K)
                    | (rw [a3 c19 c44, if_pos ⟨c116, c129, c143⟩, if_neg c155] at K; exact T_pick [0, 1, 2, 3] K)
                · refine T_aload_n dX12_goHour_146 rfl ?_
                  refine T_get dX12_goHour_147 fl_X12_44_12 (mH_get hA rfl) rfl ?_
                  refine T_iload_n dX12_goHour_150 rfl ?_
                  refine T_dup2 dX12_goHour_151 rfl rfl ?_
                  refine T_ialdN dX12_goHour_152 (mH_get hA rfl) (by omega) (by decide) ?_
                  refine T_iload_n dX12_goHour_153 rfl ?_
                  refine T_iconst (v := 1) dX12_goHour_154 (by decide) ?_
                  refine T_icmp_ne (tgt := 162) dX12_goHour_155 (by decide) (fun c155 => ?_) (fun c155 => ?_)
                  · refine T_iconst (v := (-1)) dX12_goHour_162 (by decide) ?_
                    refine T_iadd dX12_goHour_163 ?_
                    refine T_iastN dX12_goHour_164 (mH_get hA rfl) (by omega) (by decide) ?_
                    first | refine T_h (mT_20 hA) ?_ | refine T_h (mS_20 hA) ?_
                    refine T_iincN dX12_goHour_165 rfl (by decide) rfl ?_
                    refine T_goto (tgt := 2) dX12_goHour_168 (by decide) ?_
                    first
                      | exact T_eq (T_pick [0, 1, 2, 3] (ls := _) K) rfl (by rw [a1 c19])
                      | (rw [a1 c19] at K; exact T_pick [0, 1, 2, 3] K)
                      | (rw [a2 c19 c44, if_pos (show u.2 11 i = 0 from c28)] at K; first | (rw [if_pos ⟨c54, c63⟩] at K; exact T_pick [0, 1, 2, 3] K) | (rw [if_neg (by rintro ⟨q1, q2⟩; first | exact c54 q1 | exact q2 c63)] at K; exact T_pick [0, 1, 2, 3] K))
                      | (rw [a2 c19 c44, if_neg (show ¬ u.2 11 i = 0 from c28)] at K; first | (rw [if_pos ⟨c54, c63⟩] at K; exact T_pick [0, 1, 2, 3] K) | (rw [if_neg (by rintro ⟨q1, q2⟩; first | exact c54 q1 | exact q2 c63)] at K; exact T_pick [0, 1, 2, 3] K))
                      | (rw [a3 c19 c44, if_neg (by rintro ⟨q1, q2, q3⟩; first | exact q1 c116 | exact q2 c129 | exact c143 q3)] at K; exact T_pick [0, 1, 2, 3] K)
                      | (rw [a3 c19 c44, if_pos ⟨c116, c129, c143⟩, if_pos c155] at K; exact T_pick [0, 1, 2, 3] K)
                      | (rw [a3 c19 c44, if_pos ⟨c116, c129, c143⟩, if_neg c155] at K; exact T_pick [0, 1, 2, 3] K)
                  · refine T_iconst (v := 1) dX12_goHour_158 (by decide) ?_
                    refine T_goto (tgt := 163) dX12_goHour_159 (by decide) ?_
                    refine T_iadd dX12_goHour_163 ?_
                    refine T_iastN dX12_goHour_164 (mH_get hA rfl) (by omega) (by decide) ?_
                    first | refine T_h (mT_20 hA) ?_ | refine T_h (mS_20 hA) ?_
                    refine T_iincN dX12_goHour_165 rfl (by decide) rfl ?_
                    refine T_goto (tgt := 2) dX12_goHour_168 (by decide) ?_
                    first
                      | exact T_eq (T_pick [0, 1, 2, 3] (ls := _) K) rfl (by rw [a1 c19])
                      | (rw [a1 c19] at K; exact T_pick [0, 1, 2, 3] K)
                      | (rw [a2 c19 c44, if_pos (show u.2 11 i = 0 from c28)] at K; first | (rw [if_pos ⟨c54, c63⟩] at K; exact T_pick [0, 1, 2, 3] K) | (rw [if_neg (by rintro ⟨q1, q2⟩; first | exact c54 q1 | exact q2 c63)] at K; exact T_pick [0, 1, 2, 3] K))
                      | (rw [a2 c19 c44, if_neg (show ¬ u.2 11 i = 0 from c28)] at K; first | (rw [if_pos ⟨c54, c63⟩] at K; exact T_pick [0, 1, 2, 3] K) | (rw [if_neg (by rintro ⟨q1, q2⟩; first | exact c54 q1 | exact q2 c63)] at K; exact T_pick [0, 1, 2, 3] K))
                      | (rw [a3 c19 c44, if_neg (by rintro ⟨q1, q2, q3⟩; first | exact q1 c116 | exact q2 c129 | exact c143 q3)] at K; exact T_pick [0, 1, 2, 3] K)
                      | (rw [a3 c19 c44, if_pos ⟨c116, c129, c143⟩, if_pos c155] at K; exact T_pick [0, 1, 2, 3] K)
                      | (rw [a3 c19 c44, if_pos ⟨c116, c129, c143⟩, if_neg c155] at K; exact T_pick [0, 1, 2, 3] K)
          · refine T_aload_n dX12_goHour_47 rfl ?_
            refine T_get dX12_goHour_48 fl_X12_26_12 (mH_get hA rfl) rfl ?_
            refine T_iload_n dX12_goHour_51 rfl ?_
            refine T_ialdN dX12_goHour_52 (mH_get hA rfl) (by omega) (by decide) ?_
            refine T_iconst (v := 1) dX12_goHour_53 (by decide) ?_
            refine T_icmp_ne (tgt := 77) dX12_goHour_54 (by decide) (fun c54 => ?_) (fun c54 => ?_)
            · refine T_aload_n dX12_goHour_77 rfl ?_
              refine T_get dX12_goHour_78 fl_X12_32_12 (mH_get hA rfl) rfl ?_
              refine T_iload_n dX12_goHour_81 rfl ?_
              refine T_ialdN dX12_goHour_82 (mH_get hA rfl) (by omega) (by decide) ?_
              refine T_istore dX12_goHour_83 (by decide) rfl ?_
              refine T_aload_n dX12_goHour_85 rfl ?_
              refine T_get dX12_goHour_86 fl_X12_44_12 (mH_get hA rfl) rfl ?_
              refine T_iload_n dX12_goHour_89 rfl ?_
              refine T_aload_n dX12_goHour_90 rfl ?_
              refine T_aload_n dX12_goHour_91 rfl ?_
              refine T_get dX12_goHour_92 fl_X12_44_12 (mH_get hA rfl) rfl ?_
              refine T_iload_n dX12_goHour_95 rfl ?_
              refine T_ialdN dX12_goHour_96 (mH_get hA rfl) (by omega) (by decide) ?_
              refine T_iload dX12_goHour_97 rfl ?_
              refine T_iload dX12_goHour_99 rfl ?_
              refine T_imul dX12_goHour_101 ?_
              refine T_iadd dX12_goHour_102 ?_
              refine T_v1e (cu2 := 0) (su2 := 0) dX12_goHour_103 lv_X12_150 rfl (mH_get hA rfl) rfl (c_X12_bounded hA _) (nb rfl) (nb rfl) (nb rfl) (nb rfl) (nb rfl) ?_
              refine T_iastN dX12_goHour_106 (mH_get hA rfl) (by omega) (by decide) ?_
              first | refine T_h (mT_20 hA) ?_ | refine T_h (mS_20 hA) ?_
              refine T_goto (tgt := 165) dX12_goHour_107 (by decide) ?_
              refine T_iincN dX12_goHour_165 rfl (by decide) rfl ?_
              refine T_goto (tgt := 2) dX12_goHour_168 (by decide) ?_
              first
                | exact T_eq (T_pick [0, 1, 2, 3] (ls := _) K) rfl (by rw [a1 c19])
                | (rw [a1 c19] at K; exact T_pick [0, 1, 2, 3] K)
                | (rw [a2 c19 c44, if_pos (show u.2 11 i = 0 from c28)] at K; first | (rw [if_pos ⟨c54, c63⟩] at K; exact T_pick [0, 1, 2, 3] K) | (rw [if_neg (by rintro ⟨q1, q2⟩; first | exact c54 q1 | exact q2 c63)] at K; exact T_pick [0, 1, 2, 3] K))
                | (rw [a2 c19 c44, if_neg (show ¬ u.2 11 i = 0 from c28)] at K; first | (rw [if_pos ⟨c54, c63⟩] at K; exact T_pick [0, 1, 2, 3] K) | (rw [if_neg (by rintro ⟨q1, q2⟩; first | exact c54 q1 | exact q2 c63)] at K; exact T_pick [0, 1, 2, 3] K))
                | (rw [a3 c19 c44, if_neg (by rintro ⟨q1, q2, q3⟩; first | exact q1 c116 | exact q2 c129 | exact c143 q3)] at K; exact T_pick [0, 1, 2, 3] K)
                | (rw [a3 c19 c44, if_pos ⟨c116, c129, c143⟩, if_pos c155] at K; exact T_pick [0, 1, 2, 3] K)
                | (rw [a3 c19 c44, if_pos ⟨c116, c129, c143⟩, if_neg c155] at K; exact T_pick [0, 1, 2, 3] K)
            · refine T_aload_n dX12_goHour_57 rfl ?_
              refine T_iload_n dX12_goHour_58 rfl ?_
              refine T_iload_n dX12_goHour_59 rfl ?_
              refine T_v2e (cu2 := 0) (su2 := 0) dX12_goHour_60 lv_X12_147 rfl (mH_get hA rfl) rfl (c_X12_isWith hA _ (by omega)) (nb rfl) (nb rfl) (nb rfl) (nb rfl) (nb rfl) ?_
              refine T_if_neB (tgt := 77) dX12_goHour_63 (by decide) (fun c63 => ?_) (fun c63 => ?_)
              · refine T_aload_n dX12_goHour_77 rfl ?_
                refine T_get dX12_goHour_78 fl_X12_32_12 (mH_get hA rfl) rfl ?_
                refine T_iload_n dX12_goHour_81 rfl ?_
                refine T_ialdN dX12_goHour_82 (mH_get hA rfl) (by omega) (by decide) ?_
                refine T_istore dX12_goHour_83 (by decide) rfl ?_
                refine T_aload_n dX12_goHour_85 rfl ?_
                refine T_get dX12_goHour_86 fl_X12_44_12 (mH_get hA rfl) rfl ?_
                refine T_iload_n dX12_goHour_89 rfl ?_
                refine T_aload_n dX12_goHour_90 rfl ?_
                refine T_aload_n dX12_goHour_91 rfl ?_
                refine T_get dX12_goHour_92 fl_X12_44_12 (mH_get hA rfl) rfl ?_
                refine T_iload_n dX12_goHour_95 rfl ?_
                refine T_ialdN dX12_goHour_96 (mH_get hA rfl) (by omega) (by decide) ?_
                refine T_iload dX12_goHour_97 rfl ?_
                refine T_iload dX12_goHour_99 rfl ?_
                refine T_imul dX12_goHour_101 ?_
                refine T_iadd dX12_goHour_102 ?_
                refine T_v1e (cu2 := 0) (su2 := 0) dX12_goHour_103 lv_X12_150 rfl (mH_get hA rfl) rfl (c_X12_bounded hA _) (nb rfl) (nb rfl) (nb rfl) (nb rfl) (nb rfl) ?_
                refine T_iastN dX12_goHour_106 (mH_get hA rfl) (by omega) (by decide) ?_
                first | refine T_h (mT_20 hA) ?_ | refine T_h (mS_20 hA) ?_
                refine T_goto (tgt := 165) dX12_goHour_107 (by decide) ?_
                refine T_iincN dX12_goHour_165 rfl (by decide) rfl ?_
                refine T_goto (tgt := 2) dX12_goHour_168 (by decide) ?_
                first
                  | exact T_eq (T_pick [0, 1, 2, 3] (ls := _) K) rfl (by rw [a1 c19])
                  | (rw [a1 c19] at K; exact T_pick [0, 1, 2, 3] K)
                  | (rw [a2 c19 c44, if_pos (show u.2 11 i = 0 from c28)] at K; first | (rw [if_pos ⟨c54, c63⟩] at K; exact T_pick [0, 1, 2, 3] K) | (rw [if_neg (by rintro ⟨q1, q2⟩; first | exact c54 q1 | exact q2 c63)] at K; exact T_pick [0, 1, 2, 3] K))
                  | (rw [a2 c19 c44, if_neg (show ¬ u.2 11 i = 0 from c28)] at K; first | (rw [if_pos ⟨c54, c63⟩] at K; exact T_pick [0, 1, 2, 3] K) | (rw [if_neg (by rintro ⟨q1, q2⟩; first | exact c54 q1 | exact q2 c63)] at K; exact T_pick [0, 1, 2, 3] K))
                  | (rw [a3 c19 c44, if_neg (by rintro ⟨q1, q2, q3⟩; first | exact q1 c116 | exact q2 c129 | exact c143 q3)] at K; exact T_pick [0, 1, 2, 3] K)
                  | (rw [a3 c19 c44, if_pos ⟨c116, c129, c143⟩, if_pos c155] at K; exact T_pick [0, 1, 2, 3] K)
                  | (rw [a3 c19 c44, if_pos ⟨c116, c129, c143⟩, if_neg c155] at K; exact T_pick [0, 1, 2, 3] K)
              · refine T_aload_n dX12_goHour_66 rfl ?_
                refine T_get dX12_goHour_67 fl_X12_32_12 (mH_get hA rfl) rfl ?_
                refine T_iload_n dX12_goHour_70 rfl ?_
                refine T_ialdN dX12_goHour_71 (mH_get hA rfl) (by omega) (by decide) ?_
                refine T_iconst (v := 1) dX12_goHour_72 (by decide) ?_
                refine T_iadd dX12_goHour_73 ?_
                refine T_goto (tgt := 83) dX12_goHour_74 (by decide) ?_
                refine T_istore dX12_goHour_83 (by decide) rfl ?_
                refine T_aload_n dX12_goHour_85 rfl ?_
                refine T_get dX12_goHour_86 fl_X12_44_12 (mH_get hA rfl) rfl ?_
                refine T_iload_n dX12_goHour_89 rfl ?_
                refine T_aload_n dX12_goHour_90 rfl ?_
                refine T_aload_n dX12_goHour_91 rfl ?_
                refine T_get dX12_goHour_92 fl_X12_44_12 (mH_get hA rfl) rfl ?_
                refine T_iload_n dX12_goHour_95 rfl ?_
                refine T_ialdN dX12_goHour_96 (mH_get hA rfl) (by omega) (by decide) ?_
                refine T_iload dX12_goHour_97 rfl ?_
                refine T_iload dX12_goHour_99 rfl ?_
                refine T_imul dX12_goHour_101 ?_
                refine T_iadd dX12_goHour_102 ?_
                refine T_v1e (cu2 := 0) (su2 := 0) dX12_goHour_103 lv_X12_150 rfl (mH_get hA rfl) rfl (c_X12_bounded hA _) (nb rfl) (nb rfl) (nb rfl) (nb rfl) (nb rfl) ?_
                refine T_iastN dX12_goHour_106 (mH_get hA rfl) (by omega) (by decide) ?_
                first | refine T_h (mT_20 hA) ?_ | refine T_h (mS_20 hA) ?_
                refine T_goto (tgt := 165) dX12_goHour_107 (by decide) ?_
                refine T_iincN dX12_goHour_165 rfl (by decide) rfl ?_
                refine T_goto (tgt := 2) dX12_goHour_168 (by decide) ?_
                first
                  | exact T_eq (T_pick [0, 1, 2, 3] (ls := _) K) rfl (by rw [a1 c19])
                  | (rw [a1 c19] at K; exact T_pick [0, 1, 2, 3] K)
                  | (rw [a2 c19 c44, if_pos (show u.2 11 i = 0 from c28)] at K; first | (rw [if_pos ⟨c54, c63⟩] at K; exact T_pick [0, 1, 2, 3] K) | (rw [if_neg (by rintro ⟨q1, q2⟩; first | exact c54 q1 | exact q2 c63)] at K; exact T_pick [0, 1, 2, 3] K))
                  | (rw [a2 c19 c44, if_neg (show ¬ u.2 11 i = 0 from c28)] at K; first | (rw [if_pos ⟨c54, c63⟩] at K; exact T_pick [0, 1, 2, 3] K) | (rw [if_neg (by rintro ⟨q1, q2⟩; first | exact c54 q1 | exact q2 c63)] at K; exact T_pick [0, 1, 2, 3] K))
                  | (rw [a3 c19 c44, if_neg (by rintro ⟨q1, q2, q3⟩; first | exact q1 c116 | exact q2 c129 | exact c143 q3)] at K; exact T_pick [0, 1, 2, 3] K)
                  | (rw [a3 c19 c44, if_pos ⟨c116, c129, c143⟩, if_pos c155] at K; exact T_pick [0, 1, 2, 3] K)
                  | (rw [a3 c19 c44, if_pos ⟨c116, c129, c143⟩, if_neg c155] at K; exact T_pick [0, 1, 2, 3] K)
theorem lp_X12_goHour_e (hA : A.length = 67) {n : Nat} {set w : Int32} (hb : u.1 7 = nI n) (hn : n ≤ 3) (P : Nat → Int32) : T M_X12_goHour x_E (x_ZE M_X12_goHour none (mH A (mP u P) B)) 0 0 2 [(0, .ref 67), (1, .int set), (2, .int w), (3, .int (nI n))] [] (mH A (mP u P) B) := by
  refine T_iload_n dX12_goHour_2 rfl ?_
  refine T_aload_n dX12_goHour_3 rfl ?_
  refine T_get dX12_goHour_4 fl_X12_75_12 (mH_get hA rfl) rfl ?_
  refine T_top hb ?_
  refine T_icmp_geN (tgt := 171) dX12_goHour_7 (by decide) (by omega) (by omega) (fun c7 => ?_) (fun c7 => ?_)
  · refine T_vret dX12_goHour_171 rfl (nb rfl) (nb rfl) ?_
    exact ⟨rfl, rfl⟩
  · omega
theorem lp_X12_goHour_0 (hA : A.length = 67) {n : Nat} {set : Int32} (hb : u.1 7 = nI n) (hn : n ≤ 3) : T M_X12_goHour x_E (x_ZE M_X12_goHour none (mH A u B)) 0 0 2 [(0, .ref 67), (1, .int set), (2, .int 0), (3, .int (nI 0))] [] (mH A u B) := by
  refine T_iload_n dX12_goHour_2 rfl ?_
  refine T_aload_n dX12_goHour_3 rfl ?_
  refine T_get dX12_goHour_4 fl_X12_75_12 (mH_get hA rfl) rfl ?_
  refine T_top hb ?_
  refine T_icmp_geN (tgt := 171) dX12_goHour_7 (by decide) (by omega) (by omega) (fun c7 => ?_) (fun c7 => ?_)
  · refine T_vret dX12_goHour_171 rfl (nb rfl) (nb rfl) ?_
    exact ⟨rfl, rfl⟩
  · refine T_iload_n dX12_goHour_10 rfl ?_
    refine T_if_eq (tgt := 171) dX12_goHour_11 (by decide) (fun c11 => ?_) (fun c11 => ?_)
    · refine T_vret dX12_goHour_171 rfl (nb rfl) (nb rfl) ?_
      exact ⟨rfl, rfl⟩
    · exact absurd rfl c11
theorem c_X12_goHour (hA : A.length = 67) {n wd : Nat} (set w : Int32) (hb : u.1 7 = nI n) (hn : n ≤ 3) (hw : u.1 5 = nI wd) (h4 : wd ≤ 4) : ConE M_X12_goHour [.ref 67, .int set, .int w] (mH A u B) none (mH A (mP u (mHour (u.2 11) (u.2 10) (u.2 12) (u.2 8) (u.1 5) set w n (u.2 20))) B) := by
  refine Con.of rfl (nb rfl) ?_
  unfold mHour
  by_cases hw0 : w = 0
  · rw [if_pos hw0]
    subst hw0
    refine T_iconst (v := 0) dX12_goHour_0 (by decide) ?_
    refine T_istore_n dX12_goHour_1 (by decide) rfl ?_
    exact T_eq (lp_X12_goHour_0 (u := mP u (u.2 20)) hA hb hn) rfl rfl
  · rw [if_neg hw0]
    refine T_iconst (v := 0) dX12_goHour_0 (by decide) ?_
    refine T_istore_n dX12_goHour_1 (by decide) rfl ?_
    exact T_eq (T_up0 (L := fun i => [(0, .ref 67), (1, .int set), (2, .int w), (3, .int (nI i))]) (Hf := fun i => mH A (mP u (mHr (u.2 11) (u.2 10) (u.2 12) (u.2 8) (u.1 5) set w (u.2 20) i)) B) n (lp_X12_goHour_e hA hb hn _) fun i hi K => lp_X12_goHour hA hb hn hw h4 hw0 hi _ K) rfl (mH_id 20)
theorem c_X12_isRow (s n : Int32) : ConE M_X12_isRow [.int s, .int n] h (some (.int (bI ((0 ≤ s ∧ s ≤ 2) ∧ 0 ≤ n ∧ n ≤ 10)))) h := by
  refine Con.of rfl (nb rfl) ?_
  refine T_iload_n dX12_isRow_0 rfl ?_
  refine T_s1e (cu2 := 0) (su2 := 0) dX12_isRow_1 ls_X12_88 rfl (c_X12_isSort _) (nb rfl) (nb rfl) (nb rfl) (nb rfl) (nb rfl) ?_
  refine T_if_eqB (tgt := 21) dX12_isRow_4 (by decide) (fun c4 => ?_) (fun c4 => ?_)
  · refine T_iconst (v := 0) dX12_isRow_21 (by decide) ?_
    refine T_zret dX12_isRow_22 rfl rfl (nb rfl) (nb rfl) ?_
    first | exact ⟨sI (bI_t ⟨c4, c14⟩), rfl⟩ | exact ⟨sI (bI_f (fun q => c14 q.2)), rfl⟩ | exact ⟨sI (bI_f (fun q => c4 q.1)), rfl⟩
  · refine T_iload_n dX12_isRow_7 rfl ?_
    refine T_iconst (v := 0) dX12_isRow_8 (by decide) ?_
    refine T_bipush (v := 10) dX12_isRow_9 (by decide) ?_
    refine T_s3e (cu2 := 0) (su2 := 0) dX12_isRow_11 ls_X12_71 rfl (c_X12_within _ _ _) (nb rfl) (nb rfl) (nb rfl) (nb rfl) (nb rfl) ?_
    refine T_if_eqB (tgt := 21) dX12_isRow_14 (by decide) (fun c14 => ?_) (fun c14 => ?_)
    · refine T_iconst (v := 0) dX12_isRow_21 (by decide) ?_
      refine T_zret dX12_isRow_22 rfl rfl (nb rfl) (nb rfl) ?_
      first | exact ⟨sI (bI_t ⟨c4, c14⟩), rfl⟩ | exact ⟨sI (bI_f (fun q => c14 q.2)), rfl⟩ | exact ⟨sI (bI_f (fun q => c4 q.1)), rfl⟩
    · refine T_iconst (v := 1) dX12_isRow_17 (by decide) ?_
      refine T_goto (tgt := 22) dX12_isRow_18 (by decide) ?_
      refine T_zret dX12_isRow_22 rfl rfl (nb rfl) (nb rfl) ?_
      first | exact ⟨sI (bI_t ⟨c4, c14⟩), rfl⟩ | exact ⟨sI (bI_f (fun q => c14 q.2)), rfl⟩ | exact ⟨sI (bI_f (fun q => c4 q.1)), rfl⟩
end M5
