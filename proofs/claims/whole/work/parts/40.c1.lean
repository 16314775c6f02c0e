/-! the component over any heap: sets and tags; Trace, boats, Lake -/
def tne (a b : XC) : Bool := match a, b with
  | .inl x, .inl y => !(Nat.beq x.1 y.1) || !(Nat.beq x.2.1 y.2.1)
  | .inr x, .inr y => !(Nat.beq x.1 y.1)
  | .inl _, .inr _ => true
  | .inr _, .inl _ => true
theorem tne_self (a : XC) : tne a a = false := by
  rcases a with x | x
  · show (!(Nat.beq x.1 x.1) || !(Nat.beq x.2.1 x.2.1)) = false
    rw [Nat.beq_refl, Nat.beq_refl]
    rfl
  · show (!(Nat.beq x.1 x.1)) = false
    rw [Nat.beq_refl]
    rfl
theorem gs_ne {h : XH} {k j : Nat} {c : XC} (e : k ≠ j) : (h.set k c)[j]? = h[j]? := List.getElem?_set_ne e
theorem gs_eq {h : XH} {k : Nat} {c0 c : XC} (hk : h[k]? = some c0) : (h.set k c)[k]? = some c := List.getElem?_set_self (List.getElem?_eq_some_iff.mp hk).1
theorem gs_tg {h : XH} {k j : Nat} {a b c : XC} (hk : h[k]? = some a) (hj : h[j]? = some b) (ht : tne a b = true) : (h.set k c)[j]? = some b := by
  rw [gs_ne]
  · exact hj
  · intro e
    subst e
    rw [hk] at hj
    cases hj
    rw [tne_self] at ht
    cases ht
section CR
variable {M : XM} {E : XE} {Z : XZ} {cu su pc : Nat} {ls : List (Nat × Value)} {st : List Value} {h : XH}
theorem T_if_leN {a : Nat} {off : Int} {tgt : Nat} (hd : decode M.2.1 pc = .ok (.ifCond .le off, 3)) (ht : (pc : Int) + off = (tgt : Int)) (ha : a < 2 ^ 31) (kt : a = 0 → T M E Z cu su tgt ls st h) (kf : 0 < a → T M E Z cu su (pc + 3) ls st h) : T M E Z cu su pc ls (.int (nI a) :: st) h :=
  T_if_le hd ht (fun c => kt (by have := (nI_leI ha (b := 0) (by decide)).mp c; omega)) (fun c => kf (Nat.pos_of_ne_zero fun q => c (by rw [q]; decide)))
theorem T_if_gtN {a : Nat} {off : Int} {tgt : Nat} (hd : decode M.2.1 pc = .ok (.ifCond .gt off, 3)) (ht : (pc : Int) + off = (tgt : Int)) (ha : a < 2 ^ 31) (kt : 0 < a → T M E Z cu su tgt ls st h) (kf : a = 0 → T M E Z cu su (pc + 3) ls st h) : T M E Z cu su pc ls (.int (nI a) :: st) h :=
  T_if_gt hd ht (fun c => kt ((nI_ltI (a := 0) (by decide) ha).mp c)) (fun c => kf (Nat.eq_zero_of_not_pos fun q => c ((nI_ltI (a := 0) (by decide) ha).mpr q)))
theorem T_if_ltN {a : Nat} {off : Int} {tgt : Nat} (hd : decode M.2.1 pc = .ok (.ifCond .lt off, 3)) (ht : (pc : Int) + off = (tgt : Int)) (ha : a < 2 ^ 31) (kt : False → T M E Z cu su tgt ls st h) (kf : True → T M E Z cu su (pc + 3) ls st h) : T M E Z cu su pc ls (.int (nI a) :: st) h :=
  T_if_lt hd ht (fun c => kt (nI_pos ha c)) (fun _ => kf trivial)
theorem T_if_geN {a : Nat} {off : Int} {tgt : Nat} (hd : decode M.2.1 pc = .ok (.ifCond .ge off, 3)) (ht : (pc : Int) + off = (tgt : Int)) (ha : a < 2 ^ 31) (kt : True → T M E Z cu su tgt ls st h) (kf : False → T M E Z cu su (pc + 3) ls st h) : T M E Z cu su pc ls (.int (nI a) :: st) h :=
  T_if_ge hd ht (fun _ => kt trivial) (fun c => kf (c (nI_pos' ha)))
end CR
theorem sN {a b : Nat} (e : a = b) : some (Value.int (nI a)) = some (Value.int (nI b)) := by rw [e]
section C1
variable {h : XH}
theorem c_X9_leave {m : Nat} {t : Int32} (hm : h[m]? = some (.inr (9, [.int t]))) (b : Int32) : ConE M_X9_leave [.ref m, .int b] h none (h.set m (.inr (9, [.int (31 * t + b)]))) := by
  refine Con.of rfl (nb rfl) ?_
  refine T_aload_n dX9_leave_0 rfl ?_
  refine T_bipush (v := 31) dX9_leave_1 (by decide) ?_
  refine T_aload_n dX9_leave_3 rfl ?_
  refine T_get dX9_leave_4 fl_X9_7_9 hm rfl ?_
  refine T_imul dX9_leave_7 ?_
  refine T_iload_n dX9_leave_8 rfl ?_
  refine T_iadd dX9_leave_9 ?_
  refine T_put dX9_leave_10 fp_X9_7_9 hm (nb rfl) (fun _ => ⟨rfl, rfl⟩) ?_
  refine T_vret dX9_leave_13 rfl (nb rfl) (nb rfl) ?_
  exact ⟨rfl, rfl⟩
abbrev bC (k : Nat) : Nat := match k with
  | 0 => 0
  | 1 => 2
  | _ => 8
abbrev bO (k nm fr fs : Nat) : XC := .inr (bC k, [.int (nI nm), .int (nI fr), .int (nI fs)])
theorem k3 {k : Nat} (h : k ≤ 2) : k = 0 ∨ k = 1 ∨ k = 2 := by omega
abbrev lkO (w isl hh n wo fl : Nat) : XC := .inr (1, [.int (nI w), .int (nI isl), .int (nI hh), .int (nI n), .ref wo, .ref fl])
theorem c_X0_kindNumber {b : Nat} : ConE M_X0_kindNumber [.ref b] h (some (.int 0)) h := by
  refine Con.of rfl (nb rfl) ?_
  refine T_iconst (v := 0) dX0_kindNumber_0 (by decide) ?_
  refine T_iret dX0_kindNumber_1 rfl (nb rfl) (nb rfl) ?_
  exact ⟨rfl, rfl⟩
theorem c_X2_kindNumber {b : Nat} : ConE M_X2_kindNumber [.ref b] h (some (.int 1)) h := by
  refine Con.of rfl (nb rfl) ?_
  refine T_iconst (v := 1) dX2_kindNumber_0 (by decide) ?_
  refine T_iret dX2_kindNumber_1 rfl (nb rfl) (nb rfl) ?_
  exact ⟨rfl, rfl⟩
theorem c_X8_kindNumber {b : Nat} : ConE M_X8_kindNumber [.ref b] h (some (.int 2)) h := by
  refine Con.of rfl (nb rfl) ?_
  refine T_iconst (v := 2) dX8_kindNumber_0 (by decide) ?_
  refine T_iret dX8_kindNumber_1 rfl (nb rfl) (nb rfl) ?_
  exact ⟨rfl, rfl⟩
theorem c_X0_counts {b : Nat} : ConE M_X0_counts [.ref b] h (some (.int 1)) h := by
  refine Con.of rfl (nb rfl) ?_
  refine T_iconst (v := 1) dX0_counts_0 (by decide) ?_
  refine T_zret dX0_counts_1 rfl rfl (nb rfl) (nb rfl) ?_
  exact ⟨rfl, rfl⟩
theorem c_X8_counts {b : Nat} : ConE M_X8_counts [.ref b] h (some (.int 0)) h := by
  refine Con.of rfl (nb rfl) ?_
  refine T_iconst (v := 0) dX8_counts_0 (by decide) ?_
  refine T_zret dX8_counts_1 rfl rfl (nb rfl) (nb rfl) ?_
  exact ⟨rfl, rfl⟩
theorem c_X0_goesAgainst {b nm fr fs : Nat} (hb : h[b]? = some (bO 0 nm fr fs)) : ConE M_X0_goesAgainst [.ref b] h (some (.int (nI fs))) h := by
  refine Con.of rfl (nb rfl) ?_
  refine T_aload_n dX0_goesAgainst_0 rfl ?_
  refine T_get dX0_goesAgainst_1 fl_X0_16_0 hb rfl ?_
  refine T_iret dX0_goesAgainst_4 rfl (nb rfl) (nb rfl) ?_
  exact ⟨rfl, rfl⟩
theorem c_X2_goesAgainst {b nm fr fs : Nat} (hb : h[b]? = some (bO 1 nm fr fs)) : ConE M_X2_goesAgainst [.ref b] h (some (.int (nI (fs + 1)))) h := by
  refine Con.of rfl (nb rfl) ?_
  refine T_aload_n dX2_goesAgainst_0 rfl ?_
  refine T_get dX2_goesAgainst_1 fl_X2_7_2 hb rfl ?_
  refine T_iconst (v := nI 1) dX2_goesAgainst_4 (by decide) ?_
  refine T_iaddN dX2_goesAgainst_5 ?_
  refine T_iret dX2_goesAgainst_6 rfl (nb rfl) (nb rfl) ?_
  exact ⟨rfl, rfl⟩
theorem c_X8_goesAgainst {b nm fr fs : Nat} (hb : h[b]? = some (bO 2 nm fr fs)) : ConE M_X8_goesAgainst [.ref b] h (some (.int (nI fs))) h := by
  refine Con.of rfl (nb rfl) ?_
  refine T_aload_n dX8_goesAgainst_0 rfl ?_
  refine T_get dX8_goesAgainst_1 fl_X8_7_8 hb rfl ?_
  refine T_iret dX8_goesAgainst_4 rfl (nb rfl) (nb rfl) ?_
  exact ⟨rfl, rfl⟩
theorem c_X0_tellingOfBoat_0 {b m nm fr fs : Nat} {t : Int32} (hb : h[b]? = some (bO 0 nm fr fs)) (hm : h[m]? = some (.inr (9, [.int t]))) : ConE M_X0_tellingOfBoat [.ref b, .ref m] h (some (.int (nI fs))) (h.set m (.inr (9, [.int (31 * t + 1)]))) := by
  refine Con.of rfl (nb rfl) ?_
  refine T_aload_n dX0_tellingOfBoat_0 rfl ?_
  refine T_iconst (v := 1) dX0_tellingOfBoat_1 (by decide) ?_
  refine T_v1e (cu2 := 0) (su2 := 0) dX0_tellingOfBoat_2 lv_X0_23 rfl hm rfl (c_X9_leave hm _) (nb rfl) (nb rfl) (nb rfl) (nb rfl) (nb rfl) ?_
  refine T_aload_n dX0_tellingOfBoat_5 rfl ?_
  refine T_get dX0_tellingOfBoat_6 fl_X0_16_0 (gs_tg hm hb rfl) rfl ?_
  refine T_iret dX0_tellingOfBoat_9 rfl (nb rfl) (nb rfl) ?_
  exact ⟨rfl, rfl⟩
theorem c_X0_telling_0 {b m nm fr fs : Nat} {t : Int32} (hb : h[b]? = some (bO 0 nm fr fs)) (hm : h[m]? = some (.inr (9, [.int t]))) : ConE M_X0_telling [.ref b, .ref m] h (some (.int (nI fs))) (h.set m (.inr (9, [.int (31 * t + 1)]))) := by
  refine Con.of rfl (nb rfl) ?_
  refine T_aload_n dX0_telling_0 rfl ?_
  refine T_aload_n dX0_telling_1 rfl ?_
  refine T_v1e (cu2 := 0) (su2 := 0) dX0_telling_2 lv_X0_19 rfl hb rfl (c_X0_tellingOfBoat_0 hb hm) (nb rfl) (nb rfl) (nb rfl) (nb rfl) (nb rfl) ?_
  refine T_iret dX0_telling_5 rfl (nb rfl) (nb rfl) ?_
  exact ⟨rfl, rfl⟩
theorem c_X0_tellingOfBoat_2 {b m nm fr fs : Nat} {t : Int32} (hb : h[b]? = some (bO 1 nm fr fs)) (hm : h[m]? = some (.inr (9, [.int t]))) : ConE M_X0_tellingOfBoat [.ref b, .ref m] h (some (.int (nI fs))) (h.set m (.inr (9, [.int (31 * t + 1)]))) := by
  refine Con.of rfl (nb rfl) ?_
  refine T_aload_n dX0_tellingOfBoat_0 rfl ?_
  refine T_iconst (v := 1) dX0_tellingOfBoat_1 (by decide) ?_
  refine T_v1e (cu2 := 0) (su2 := 0) dX0_tellingOfBoat_2 lv_X0_23 rfl hm rfl (c_X9_leave hm _) (nb rfl) (nb rfl) (nb rfl) (nb rfl) (nb rfl) ?_
  refine T_aload_n dX0_tellingOfBoat_5 rfl ?_
  refine T_get dX0_tellingOfBoat_6 fl_X0_16_2 (gs_tg hm hb rfl) rfl ?_
  refine T_iret dX0_tellingOfBoat_9 rfl (nb rfl) (nb rfl) ?_
  exact ⟨rfl, rfl⟩
theorem c_X0_telling_2 {b m nm fr fs : Nat} {t : Int32} (hb : h[b]? = some (bO 1 nm fr fs)) (hm : h[m]? = some (.inr (9, [.int t]))) : ConE M_X0_telling [.ref b, .ref m] h (some (.int (nI fs))) (h.set m (.inr (9, [.int (31 * t + 1)]))) := by
  refine Con.of rfl (nb rfl) ?_
  refine T_aload_n dX0_telling_0 rfl ?_
  refine T_aload_n dX0_telling_1 rfl ?_
  refine T_u1e (cu2 := 0) (su2 := 0) dX0_telling_2 lu_X0_19_X2 rfl hb rfl (c_X0_tellingOfBoat_2 hb hm) (nb rfl) (nb rfl) (nb rfl) (nb rfl) (nb rfl) ?_
  refine T_iret dX0_telling_5 rfl (nb rfl) (nb rfl) ?_
  exact ⟨rfl, rfl⟩
theorem c_X0_tellingOfBoat_8 {b m nm fr fs : Nat} {t : Int32} (hb : h[b]? = some (bO 2 nm fr fs)) (hm : h[m]? = some (.inr (9, [.int t]))) : ConE M_X0_tellingOfBoat [.ref b, .ref m] h (some (.int (nI fs))) (h.set m (.inr (9, [.int (31 * t + 1)]))) := by
  refine Con.of rfl (nb rfl) ?_
  refine T_aload_n dX0_tellingOfBoat_0 rfl ?_
  refine T_iconst (v := 1) dX0_tellingOfBoat_1 (by decide) ?_
  refine T_v1e (cu2 := 0) (su2 := 0) dX0_tellingOfBoat_2 lv_X0_23 rfl hm rfl (c_X9_leave hm _) (nb rfl) (nb rfl) (nb rfl) (nb rfl) (nb rfl) ?_
  refine T_aload_n dX0_tellingOfBoat_5 rfl ?_
  refine T_get dX0_tellingOfBoat_6 fl_X0_16_8 (gs_tg hm hb rfl) rfl ?_
  refine T_iret dX0_tellingOfBoat_9 rfl (nb rfl) (nb rfl) ?_
  exact ⟨rfl, rfl⟩
theorem c_X0_telling_8 {b m nm fr fs : Nat} {t : Int32} (hb : h[b]? = some (bO 2 nm fr fs)) (hm : h[m]? = some (.inr (9, [.int t]))) : ConE M_X0_telling [.ref b, .ref m] h (some (.int (nI fs))) (h.set m (.inr (9, [.int (31 * t + 1)]))) := by
  refine Con.of rfl (nb rfl) ?_
  refine T_aload_n dX0_telling_0 rfl ?_
  refine T_aload_n dX0_telling_1 rfl ?_
  refine T_u1e (cu2 := 0) (su2 := 0) dX0_telling_2 lu_X0_19_X8 rfl hb rfl (c_X0_tellingOfBoat_8 hb hm) (nb rfl) (nb rfl) (nb rfl) (nb rfl) (nb rfl) ?_
  refine T_iret dX0_telling_5 rfl (nb rfl) (nb rfl) ?_
  exact ⟨rfl, rfl⟩
theorem c_X0_hailing_0 {b m nm fr fs : Nat} {t : Int32} (hb : h[b]? = some (bO 0 nm fr fs)) (hm : h[m]? = some (.inr (9, [.int t]))) : ConE M_X0_hailing [.ref b, .ref m] h (some (.int (nI nm))) (h.set m (.inr (9, [.int (31 * t + 4)]))) := by
  refine Con.of rfl (nb rfl) ?_
  refine T_aload_n dX0_hailing_0 rfl ?_
  refine T_iconst (v := 4) dX0_hailing_1 (by decide) ?_
  refine T_v1e (cu2 := 0) (su2 := 0) dX0_hailing_2 lv_X0_23 rfl hm rfl (c_X9_leave hm _) (nb rfl) (nb rfl) (nb rfl) (nb rfl) (nb rfl) ?_
  refine T_aload_n dX0_hailing_5 rfl ?_
  refine T_get dX0_hailing_6 fl_X0_7_0 (gs_tg hm hb rfl) rfl ?_
  refine T_iret dX0_hailing_9 rfl (nb rfl) (nb rfl) ?_
  exact ⟨rfl, rfl⟩
theorem c_X0_hailing_2 {b m nm fr fs : Nat} {t : Int32} (hb : h[b]? = some (bO 1 nm fr fs)) (hm : h[m]? = some (.inr (9, [.int t]))) : ConE M_X0_hailing [.ref b, .ref m] h (some (.int (nI nm))) (h.set m (.inr (9, [.int (31 * t + 4)]))) := by
  refine Con.of rfl (nb rfl) ?_
  refine T_aload_n dX0_hailing_0 rfl ?_
  refine T_iconst (v := 4) dX0_hailing_1 (by decide) ?_
  refine T_v1e (cu2 := 0) (su2 := 0) dX0_hailing_2 lv_X0_23 rfl hm rfl (c_X9_leave hm _) (nb rfl) (nb rfl) (nb rfl) (nb rfl) (nb rfl) ?_
  refine T_aload_n dX0_hailing_5 rfl ?_
  refine T_get dX0_hailing_6 fl_X0_7_2 (gs_tg hm hb rfl) rfl ?_
  refine T_iret dX0_hailing_9 rfl (nb rfl) (nb rfl) ?_
  exact ⟨rfl, rfl⟩
theorem c_X8_hailing {b m : Nat} {t : Int32} (hm : h[m]? = some (.inr (9, [.int t]))) : ConE M_X8_hailing [.ref b, .ref m] h (some (.int 70)) (h.set m (.inr (9, [.int (31 * t + 5)]))) := by
  refine Con.of rfl (nb rfl) ?_
  refine T_aload_n dX8_hailing_0 rfl ?_
  refine T_iconst (v := 5) dX8_hailing_1 (by decide) ?_
  refine T_v1e (cu2 := 0) (su2 := 0) dX8_hailing_2 lv_X8_13 rfl hm rfl (c_X9_leave hm _) (nb rfl) (nb rfl) (nb rfl) (nb rfl) (nb rfl) ?_
  refine T_bipush (v := 70) dX8_hailing_5 (by decide) ?_
  refine T_iret dX8_hailing_7 rfl (nb rfl) (nb rfl) ?_
  exact ⟨rfl, rfl⟩
theorem c_X2_telling_2 {b m nm fr fs : Nat} {t : Int32} (hb : h[b]? = some (bO 1 nm fr fs)) (hm : h[m]? = some (.inr (9, [.int t]))) : ConE M_X2_telling [.ref b, .ref m] h (some (.int (nI fs + 100))) (h.set m (.inr (9, [.int (31 * (31 * t + 2) + 1)]))) := by
  refine Con.of rfl (nb rfl) ?_
  refine T_aload_n dX2_telling_0 rfl ?_
  refine T_iconst (v := 2) dX2_telling_1 (by decide) ?_
  refine T_v1e (cu2 := 0) (su2 := 0) dX2_telling_2 lv_X2_13 rfl hm rfl (c_X9_leave hm _) (nb rfl) (nb rfl) (nb rfl) (nb rfl) (nb rfl) ?_
  refine T_aload_n dX2_telling_5 rfl ?_
  refine T_aload_n dX2_telling_6 rfl ?_
  refine T_w1e (cu2 := 0) (su2 := 0) dX2_telling_7 lw_X2_19 rfl (gs_tg hm hb rfl) rfl (c_X0_telling_2 (gs_tg hm hb rfl) (gs_eq hm)) (nb rfl) (nb rfl) (nb rfl) (nb rfl) (nb rfl) ?_
  refine T_h (List.set_set ..) ?_
  refine T_bipush (v := 100) dX2_telling_10 (by decide) ?_
  refine T_iadd dX2_telling_12 ?_
  refine T_iret dX2_telling_13 rfl (nb rfl) (nb rfl) ?_
  exact ⟨rfl, rfl⟩
theorem c_X2_telling_8 {b m nm fr fs : Nat} {t : Int32} (hb : h[b]? = some (bO 2 nm fr fs)) (hm : h[m]? = some (.inr (9, [.int t]))) : ConE M_X2_telling [.ref b, .ref m] h (some (.int (nI fs + 100))) (h.set m (.inr (9, [.int (31 * (31 * t + 2) + 1)]))) := by
  refine Con.of rfl (nb rfl) ?_
  refine T_aload_n dX2_telling_0 rfl ?_
  refine T_iconst (v := 2) dX2_telling_1 (by decide) ?_
  refine T_v1e (cu2 := 0) (su2 := 0) dX2_telling_2 lv_X2_13 rfl hm rfl (c_X9_leave hm _) (nb rfl) (nb rfl) (nb rfl) (nb rfl) (nb rfl) ?_
  refine T_aload_n dX2_telling_5 rfl ?_
  refine T_aload_n dX2_telling_6 rfl ?_
  refine T_w1e (cu2 := 0) (su2 := 0) dX2_telling_7 lw_X2_19 rfl (gs_tg hm hb rfl) rfl (c_X0_telling_8 (gs_tg hm hb rfl) (gs_eq hm)) (nb rfl) (nb rfl) (nb rfl) (nb rfl) (nb rfl) ?_
  refine T_h (List.set_set ..) ?_
  refine T_bipush (v := 100) dX2_telling_10 (by decide) ?_
  refine T_iadd dX2_telling_12 ?_
  refine T_iret dX2_telling_13 rfl (nb rfl) (nb rfl) ?_
  exact ⟨rfl, rfl⟩
theorem lu_X8_23_X8 : x_LU RX8 23 RX8 RX0 ⟨"LakeWind$Towed", "tellingOfBoat", "(LLakeWind$Trace;)I"⟩ M_X0_tellingOfBoat 1 := ⟨xn_X0_tellingOfBoat, x_gm (List.mem_append_right _ (List.mem_of_getElem? (i := 758) (by decide +kernel))) rfl, x_gm (List.mem_append_right _ (List.mem_of_getElem? (i := 759) (by decide +kernel))) rfl, fun U hU _ => va_Decl.of (hU _ (x_gm (List.mem_append_right _ (List.mem_of_getElem? (i := 762) (by decide +kernel))) rfl)) (hU _ xn_X0_tellingOfBoat.1), x_gm (List.mem_append_right _ (List.mem_of_getElem? (i := 761) (by decide +kernel))) rfl, x_gm (List.mem_append_right _ (List.mem_of_getElem? (i := 762) (by decide +kernel))) rfl, ⟨by decide +kernel, by decide +kernel⟩, by decide +kernel⟩
theorem c_X8_telling {b m nm fr fs : Nat} {t : Int32} (hb : h[b]? = some (bO 2 nm fr fs)) (hm : h[m]? = some (.inr (9, [.int t]))) : ConE M_X8_telling [.ref b, .ref m] h (some (.int (nI fs + 100 + nI fs))) (h.set m (.inr (9, [.int (31 * (31 * (31 * (31 * t + 3) + 2) + 1) + 1)]))) := by
  refine Con.of rfl (nb rfl) ?_
  refine T_aload_n dX8_telling_0 rfl ?_
  refine T_iconst (v := 3) dX8_telling_1 (by decide) ?_
  refine T_v1e (cu2 := 0) (su2 := 0) dX8_telling_2 lv_X8_13 rfl hm rfl (c_X9_leave hm _) (nb rfl) (nb rfl) (nb rfl) (nb rfl) (nb rfl) ?_
  refine T_aload_n dX8_telling_5 rfl ?_
  refine T_aload_n dX8_telling_6 rfl ?_
  refine T_w1e (cu2 := 0) (su2 := 0) dX8_telling_7 lw_X8_19 rfl (gs_tg hm hb rfl) rfl (c_X2_telling_8 (gs_tg hm hb rfl) (gs_eq hm)) (nb rfl) (nb rfl) (nb rfl) (nb rfl) (nb rfl) ?_
  refine T_h (List.set_set ..) ?_
  refine T_istore_n dX8_telling_10 (by decide) rfl ?_
  refine T_iload_n dX8_telling_11 rfl ?_
  refine T_aload_n dX8_telling_12 rfl ?_
  refine T_aload_n dX8_telling_13 rfl ?_
  refine T_u1e (cu2 := 0) (su2 := 0) dX8_telling_14 lu_X8_23_X8 rfl (gs_tg hm hb rfl) rfl (c_X0_tellingOfBoat_8 (gs_tg hm hb rfl) (gs_eq hm)) (nb rfl) (nb rfl) (nb rfl) (nb rfl) (nb rfl) ?_
  refine T_h (List.set_set ..) ?_
  refine T_iadd dX8_telling_17 ?_
  refine T_iret dX8_telling_18 rfl (nb rfl) (nb rfl) ?_
  exact ⟨rfl, rfl⟩
end C1
