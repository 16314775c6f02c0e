/-! Arrays.fill, Sheet, Readings -/
theorem dA_fill_0 : decode prog_17_method_103_code 0 = .ok (.iconst 0, 1) := by decide +kernel
theorem dA_fill_1 : decode prog_17_method_103_code 1 = .ok (.istore_n 2, 1) := by decide +kernel
theorem dA_fill_2 : decode prog_17_method_103_code 2 = .ok (.aload_n 0, 1) := by decide +kernel
theorem dA_fill_3 : decode prog_17_method_103_code 3 = .ok (.arraylength, 1) := by decide +kernel
theorem dA_fill_4 : decode prog_17_method_103_code 4 = .ok (.istore_n 3, 1) := by decide +kernel
theorem dA_fill_5 : decode prog_17_method_103_code 5 = .ok (.iload_n 2, 1) := by decide +kernel
theorem dA_fill_6 : decode prog_17_method_103_code 6 = .ok (.iload_n 3, 1) := by decide +kernel
theorem dA_fill_7 : decode prog_17_method_103_code 7 = .ok (.if_icmp .ge 13, 3) := by decide +kernel
theorem dA_fill_10 : decode prog_17_method_103_code 10 = .ok (.aload_n 0, 1) := by decide +kernel
theorem dA_fill_11 : decode prog_17_method_103_code 11 = .ok (.iload_n 2, 1) := by decide +kernel
theorem dA_fill_12 : decode prog_17_method_103_code 12 = .ok (.iload_n 1, 1) := by decide +kernel
theorem dA_fill_13 : decode prog_17_method_103_code 13 = .ok (.iastore, 1) := by decide +kernel
theorem dA_fill_14 : decode prog_17_method_103_code 14 = .ok (.iinc 2 1, 3) := by decide +kernel
theorem dA_fill_17 : decode prog_17_method_103_code 17 = .ok (.goto (-12), 3) := by decide +kernel
theorem dA_fill_20 : decode prog_17_method_103_code 20 = .ok (.return_, 1) := by decide +kernel
section C3
variable {h : XH}
def fil (f : Nat → Int32) (v : Int32) (m : Nat) : Nat → Int32 := fun i => if i < m then v else f i
theorem fil_s (f : Nat → Int32) (v : Int32) (m : Nat) : upd (fil f v m) m v = fil f v (m + 1) := by
  funext i
  by_cases e : i = m
  · subst e
    rw [upd_s]
    unfold fil
    rw [if_pos (by omega)]
  · rw [upd_n e]
    unfold fil
    by_cases c : i < m
    · rw [if_pos c, if_pos (by omega)]
    · rw [if_neg c, if_neg (by omega)]
theorem fil_0 (f : Nat → Int32) (v : Int32) : fil f v 0 = f := by
  funext i
  unfold fil
  rw [if_neg (by omega)]
theorem fil_in {f : Nat → Int32} {v : Int32} {m i : Nat} (hi : i < m) : fil f v m i = v := if_pos hi
theorem lp_A_fill {Z : XZ} {a n i : Nat} {f : Nat → Int32} {v : Int32} (hn : n < 2 ^ 31) (ha : h[a]? = some (.inl (0, n, .inl f))) (hi : i < n) (K : T M_A_fill x_E Z 0 0 5 [(0, .ref a), (1, .int v), (2, .int (nI (i + 1))), (3, .int (nI n))] [] (h.set a (.inl (0, n, .inl (fil f v (i + 1)))))) : T M_A_fill x_E Z 0 0 5 [(0, .ref a), (1, .int v), (2, .int (nI i)), (3, .int (nI n))] [] (h.set a (.inl (0, n, .inl (fil f v i)))) := by
  refine T_iload_n dA_fill_5 rfl ?_
  refine T_iload_n dA_fill_6 rfl ?_
  refine T_icmp_geN (tgt := 20) dA_fill_7 (by decide) (by omega) (by omega) (fun c7 => ?_) (fun c7 => ?_)
  · exact absurd c7 (by omega)
  · refine T_aload_n dA_fill_10 rfl ?_
    refine T_iload_n dA_fill_11 rfl ?_
    refine T_iload_n dA_fill_12 rfl ?_
    refine T_iastN dA_fill_13 (gs_eq ha) hi hn ?_
    refine T_h (List.set_set ..) ?_
    rw [fil_s]
    refine T_iincN dA_fill_14 rfl (by decide) rfl ?_
    refine T_goto (tgt := 5) dA_fill_17 (by decide) ?_
    exact K
theorem c_A_fill {a n : Nat} {f : Nat → Int32} (hn : n < 2 ^ 31) (ha : h[a]? = some (.inl (0, n, .inl f))) (v : Int32) : ConE M_A_fill [.ref a, .int v] h none (h.set a (.inl (0, n, .inl (fil f v n)))) := by
  refine Con.of rfl (nb rfl) ?_
  have e0 : h = h.set a (.inl (0, n, .inl (fil f v 0))) := by
    rw [fil_0]
    refine List.ext_getElem? fun j => ?_
    by_cases e : a = j
    · subst e
      rw [gs_eq ha, ha]
    · rw [gs_ne e]
  refine T_iconst (v := nI 0) dA_fill_0 (by decide) ?_
  refine T_istore_n dA_fill_1 (by decide) rfl ?_
  refine T_aload_n dA_fill_2 rfl ?_
  refine T_alen (v := nI n) dA_fill_3 ha (fun G => rfl) rfl ?_
  refine T_istore_n dA_fill_4 (by decide) rfl ?_
  refine T_h e0 ?_
  refine T_up0 (L := fun i => [(0, .ref a), (1, .int v), (2, .int (nI i)), (3, .int (nI n))]) (Hf := fun i => h.set a (.inl (0, n, .inl (fil f v i)))) n ?_ (fun i hi K => lp_A_fill hn ha hi K)
  refine T_iload_n dA_fill_5 rfl ?_
  refine T_iload_n dA_fill_6 rfl ?_
  refine T_icmp_geN (tgt := 20) dA_fill_7 (by decide) (by omega) (by omega) (fun c7 => ?_) (fun c7 => ?_)
  · refine T_vret dA_fill_20 rfl (nb rfl) (nb rfl) ?_
    exact ⟨rfl, rfl⟩
  · exact absurd c7 (by omega)
abbrev shO (lane size : Int32) (c : Nat) : XC := .inr (5, [.int lane, .int size, .ref c])
theorem c_X5_hasRow {s c : Nat} {lane size : Int32} (hs : h[s]? = some (shO lane size c)) : ConE M_X5_hasRow [.ref s] h (some (.int (bI (¬ lane = -1)))) h := by
  refine Con.of rfl (nb rfl) ?_
  refine T_aload_n dX5_hasRow_0 rfl ?_
  refine T_get dX5_hasRow_1 fl_X5_11_5 hs rfl ?_
  refine T_iconst (v := (-1)) dX5_hasRow_4 (by decide) ?_
  refine T_icmp_eq (tgt := 12) dX5_hasRow_5 (by decide) (fun c5 => ?_) (fun c5 => ?_)
  · refine T_iconst (v := 0) dX5_hasRow_12 (by decide) ?_
    refine T_zret dX5_hasRow_13 rfl rfl (nb rfl) (nb rfl) ?_
    exact ⟨sI (by first | exact bI_t (by assumption) | exact bI_f (fun q => q (by assumption))), rfl⟩
  · refine T_iconst (v := 1) dX5_hasRow_8 (by decide) ?_
    refine T_goto (tgt := 13) dX5_hasRow_9 (by decide) ?_
    refine T_zret dX5_hasRow_13 rfl rfl (nb rfl) (nb rfl) ?_
    exact ⟨sI (by first | exact bI_t (by assumption) | exact bI_f (fun q => q (by assumption))), rfl⟩
def shF (lane w : Int32) : Int32 := if lane = -1 then 1 else if lane = w then 0 else 2
theorem c_X5_faultAs {s c : Nat} {lane size : Int32} (hs : h[s]? = some (shO lane size c)) (w : Int32) : ConE M_X5_faultAs [.ref s, .int w] h (some (.int (shF lane w))) h := by
  refine Con.of rfl (nb rfl) ?_
  refine T_aload_n dX5_faultAs_0 rfl ?_
  refine T_v0e (cu2 := 0) (su2 := 0) dX5_faultAs_1 lv_X5_28 rfl hs rfl (c_X5_hasRow hs) (nb rfl) (nb rfl) (nb rfl) (nb rfl) (nb rfl) ?_
  refine T_if_neB (tgt := 9) dX5_faultAs_4 (by decide) (fun c4 => ?_) (fun c4 => ?_)
  · refine T_aload_n dX5_faultAs_9 rfl ?_
    refine T_get dX5_faultAs_10 fl_X5_11_5 hs rfl ?_
    refine T_iload_n dX5_faultAs_13 rfl ?_
    refine T_icmp_ne (tgt := 21) dX5_faultAs_14 (by decide) (fun c14 => ?_) (fun c14 => ?_)
    · refine T_iconst (v := 2) dX5_faultAs_21 (by decide) ?_
      refine T_iret dX5_faultAs_22 rfl (nb rfl) (nb rfl) ?_
      refine ⟨sI ?_, rfl⟩
      unfold shF
      repeat' split
      all_goals first | rfl | (exfalso; simp_all; done) | (exfalso; simp only [Int32.lt_iff_toInt_lt, Int32.le_iff_toInt_le, ← Int32.toInt_inj] at *; omega)
    · refine T_iconst (v := 0) dX5_faultAs_17 (by decide) ?_
      refine T_goto (tgt := 22) dX5_faultAs_18 (by decide) ?_
      refine T_iret dX5_faultAs_22 rfl (nb rfl) (nb rfl) ?_
      refine ⟨sI ?_, rfl⟩
      unfold shF
      repeat' split
      all_goals first | rfl | (exfalso; simp_all; done) | (exfalso; simp only [Int32.lt_iff_toInt_lt, Int32.le_iff_toInt_le, ← Int32.toInt_inj] at *; omega)
  · refine T_iconst (v := 1) dX5_faultAs_7 (by decide) ?_
    refine T_iret dX5_faultAs_8 rfl (nb rfl) (nb rfl) ?_
    refine ⟨sI ?_, rfl⟩
    unfold shF
    repeat' split
    all_goals first | rfl | (exfalso; simp_all; done) | (exfalso; simp only [Int32.lt_iff_toInt_lt, Int32.le_iff_toInt_le, ← Int32.toInt_inj] at *; omega)
abbrev shH (size i n : Int32) : Prop := 0 ≤ n ∧ 0 ≤ i ∧ i ≤ size ∧ n ≤ size - i
theorem c_X5_holds {s c : Nat} {lane size : Int32} (hs : h[s]? = some (shO lane size c)) (i n : Int32) : ConE M_X5_holds [.ref s, .int i, .int n] h (some (.int (bI (shH size i n)))) h := by
  refine Con.of rfl (nb rfl) ?_
  refine T_iload_n dX5_holds_0 rfl ?_
  refine T_if_lt (tgt := 30) dX5_holds_1 (by decide) (fun c1 => ?_) (fun c1 => ?_)
  · refine T_iconst (v := 0) dX5_holds_30 (by decide) ?_
    refine T_zret dX5_holds_31 rfl rfl (nb rfl) (nb rfl) ?_
    exact ⟨sI (by first | exact bI_t ⟨Int32.not_lt.mp c1, Int32.not_lt.mp c5, Int32.not_lt.mp c13, Int32.not_lt.mp c23⟩ | exact bI_f (fun q => Int32.not_lt.mpr q.1 c1) | exact bI_f (fun q => Int32.not_lt.mpr q.2.1 c5) | exact bI_f (fun q => Int32.not_lt.mpr q.2.2.1 c13) | exact bI_f (fun q => Int32.not_lt.mpr q.2.2.2 c23)), rfl⟩
  · refine T_iload_n dX5_holds_4 rfl ?_
    refine T_if_lt (tgt := 30) dX5_holds_5 (by decide) (fun c5 => ?_) (fun c5 => ?_)
    · refine T_iconst (v := 0) dX5_holds_30 (by decide) ?_
      refine T_zret dX5_holds_31 rfl rfl (nb rfl) (nb rfl) ?_
      exact ⟨sI (by first | exact bI_t ⟨Int32.not_lt.mp c1, Int32.not_lt.mp c5, Int32.not_lt.mp c13, Int32.not_lt.mp c23⟩ | exact bI_f (fun q => Int32.not_lt.mpr q.1 c1) | exact bI_f (fun q => Int32.not_lt.mpr q.2.1 c5) | exact bI_f (fun q => Int32.not_lt.mpr q.2.2.1 c13) | exact bI_f (fun q => Int32.not_lt.mpr q.2.2.2 c23)), rfl⟩
    · refine T_iload_n dX5_holds_8 rfl ?_
      refine T_aload_n dX5_holds_9 rfl ?_
      refine T_get dX5_holds_10 fl_X5_15_5 hs rfl ?_
      refine T_icmp_gt (tgt := 30) dX5_holds_13 (by decide) (fun c13 => ?_) (fun c13 => ?_)
      · refine T_iconst (v := 0) dX5_holds_30 (by decide) ?_
        refine T_zret dX5_holds_31 rfl rfl (nb rfl) (nb rfl) ?_
        exact ⟨sI (by first | exact bI_t ⟨Int32.not_lt.mp c1, Int32.not_lt.mp c5, Int32.not_lt.mp c13, Int32.not_lt.mp c23⟩ | exact bI_f (fun q => Int32.not_lt.mpr q.1 c1) | exact bI_f (fun q => Int32.not_lt.mpr q.2.1 c5) | exact bI_f (fun q => Int32.not_lt.mpr q.2.2.1 c13) | exact bI_f (fun q => Int32.not_lt.mpr q.2.2.2 c23)), rfl⟩
      · refine T_iload_n dX5_holds_16 rfl ?_
        refine T_aload_n dX5_holds_17 rfl ?_
        refine T_get dX5_holds_18 fl_X5_15_5 hs rfl ?_
        refine T_iload_n dX5_holds_21 rfl ?_
        refine T_isub dX5_holds_22 ?_
        refine T_icmp_gt (tgt := 30) dX5_holds_23 (by decide) (fun c23 => ?_) (fun c23 => ?_)
        · refine T_iconst (v := 0) dX5_holds_30 (by decide) ?_
          refine T_zret dX5_holds_31 rfl rfl (nb rfl) (nb rfl) ?_
          exact ⟨sI (by first | exact bI_t ⟨Int32.not_lt.mp c1, Int32.not_lt.mp c5, Int32.not_lt.mp c13, Int32.not_lt.mp c23⟩ | exact bI_f (fun q => Int32.not_lt.mpr q.1 c1) | exact bI_f (fun q => Int32.not_lt.mpr q.2.1 c5) | exact bI_f (fun q => Int32.not_lt.mpr q.2.2.1 c13) | exact bI_f (fun q => Int32.not_lt.mpr q.2.2.2 c23)), rfl⟩
        · refine T_iconst (v := 1) dX5_holds_26 (by decide) ?_
          refine T_goto (tgt := 31) dX5_holds_27 (by decide) ?_
          refine T_zret dX5_holds_31 rfl rfl (nb rfl) (nb rfl) ?_
          exact ⟨sI (by first | exact bI_t ⟨Int32.not_lt.mp c1, Int32.not_lt.mp c5, Int32.not_lt.mp c13, Int32.not_lt.mp c23⟩ | exact bI_f (fun q => Int32.not_lt.mpr q.1 c1) | exact bI_f (fun q => Int32.not_lt.mpr q.2.1 c5) | exact bI_f (fun q => Int32.not_lt.mpr q.2.2.1 c13) | exact bI_f (fun q => Int32.not_lt.mpr q.2.2.2 c23)), rfl⟩
def shC (lane v : Int32) : Int32 := if lane = 0 then v.toInt8.toInt32 else if lane = 1 then v.toInt16.toInt32 else v
theorem c_X5_cut {s c : Nat} {lane size : Int32} (hs : h[s]? = some (shO lane size c)) (v : Int32) : ConE M_X5_cut [.ref s, .int v] h (some (.int (shC lane v))) h := by
  refine Con.of rfl (nb rfl) ?_
  refine T_aload_n dX5_cut_0 rfl ?_
  refine T_get dX5_cut_1 fl_X5_11_5 hs rfl ?_
  refine T_lk01 (t1 := 32) (t2 := 35) (td := 38) dX5_cut_4 (by decide) (by decide) (by decide) (fun c4 => ?_) (fun c4 => ?_) (fun c4_0 c4_1 => ?_)
  · refine T_iload_n dX5_cut_32 rfl ?_
    refine T_i2b dX5_cut_33 ?_
    refine T_iret dX5_cut_34 rfl (nb rfl) (nb rfl) ?_
    refine ⟨sI ?_, rfl⟩
    unfold shC
    repeat' split
    all_goals first | rfl | (exfalso; simp_all; done) | (exfalso; simp only [Int32.lt_iff_toInt_lt, Int32.le_iff_toInt_le, ← Int32.toInt_inj] at *; omega)
  · refine T_iload_n dX5_cut_35 rfl ?_
    refine T_i2s dX5_cut_36 ?_
    refine T_iret dX5_cut_37 rfl (nb rfl) (nb rfl) ?_
    refine ⟨sI ?_, rfl⟩
    unfold shC
    repeat' split
    all_goals first | rfl | (exfalso; simp_all; done) | (exfalso; simp only [Int32.lt_iff_toInt_lt, Int32.le_iff_toInt_le, ← Int32.toInt_inj] at *; omega)
  · refine T_iload_n dX5_cut_38 rfl ?_
    refine T_iret dX5_cut_39 rfl (nb rfl) (nb rfl) ?_
    refine ⟨sI ?_, rfl⟩
    unfold shC
    repeat' split
    all_goals first | rfl | (exfalso; simp_all; done) | (exfalso; simp only [Int32.lt_iff_toInt_lt, Int32.le_iff_toInt_le, ← Int32.toInt_inj] at *; omega)
theorem c_X5_renew {s c : Nat} {lane size : Int32} {f : Nat → Int32} (hs : h[s]? = some (shO lane size c)) (hc : h[c]? = some (.inl (0, 60, .inl f))) (l2 n : Int32) : ConE M_X5_renew [.ref s, .int l2, .int n] h none ((h.set s (shO l2 n c)).set c (.inl (0, 60, .inl (fil f 0 60)))) := by
  refine Con.of rfl (nb rfl) ?_
  refine T_aload_n dX5_renew_0 rfl ?_
  refine T_iload_n dX5_renew_1 rfl ?_
  refine T_put dX5_renew_2 fp_X5_11_5 hs (nb rfl) (fun _ => ⟨rfl, rfl⟩) ?_
  try refine T_h (List.set_set ..) ?_
  refine T_aload_n dX5_renew_5 rfl ?_
  refine T_iload_n dX5_renew_6 rfl ?_
  refine T_put dX5_renew_7 fp_X5_15_5 (gs_eq hs) (nb rfl) (fun _ => ⟨rfl, rfl⟩) ?_
  try refine T_h (List.set_set ..) ?_
  refine T_aload_n dX5_renew_10 rfl ?_
  refine T_get dX5_renew_11 fl_X5_18_5 (gs_eq hs) rfl ?_
  refine T_iconst (v := 0) dX5_renew_14 (by decide) ?_
  refine T_s2e (cu2 := 0) (su2 := 0) dX5_renew_15 ls_X5_22 rfl (c_A_fill (by decide) (gs_tg hs hc rfl) _) (nb rfl) (nb rfl) (nb rfl) (nb rfl) (nb rfl) ?_
  refine T_vret dX5_renew_18 rfl (nb rfl) (nb rfl) ?_
  exact ⟨rfl, rfl⟩
/-- readings: their object at 4, their rows at 5, 6, 7 -/
abbrev rdO (q : Nat) : XC := .inr (3, [.int (nI q), .ref 5, .ref 6, .ref 7])
abbrev r8 (f : Nat → Int32) : XC := .inl (0, 8, .inl f)
theorem c_X3_add_full (h4 : h[4]? = some (rdO 8)) (b g c : Int32) : ConE M_X3_add [.ref 4, .int b, .int g, .int c] h (some (.int (-4))) h := by
  refine Con.of rfl (nb rfl) ?_
  refine T_aload_n dX3_add_0 rfl ?_
  refine T_get dX3_add_1 fl_X3_9_3 h4 rfl ?_
  refine T_bipush (v := nI 8) dX3_add_4 (by decide) ?_
  refine T_icmp_ltN (tgt := 12) dX3_add_6 (by decide) (by omega) (by omega) (fun c6 => ?_) (fun c6 => ?_)
  · exact absurd c6 (by omega)
  · refine T_bipush (v := (-4)) dX3_add_9 (by decide) ?_
    refine T_iret dX3_add_11 rfl (nb rfl) (nb rfl) ?_
    exact ⟨rfl, rfl⟩
theorem c_X3_add {q : Nat} {fb fg fc : Nat → Int32} (hq : q < 8) (h4 : h[4]? = some (rdO q)) (h5 : h[5]? = some (r8 fb)) (h6 : h[6]? = some (r8 fg)) (h7 : h[7]? = some (r8 fc)) (b g c : Int32) : ConE M_X3_add [.ref 4, .int b, .int g, .int c] h (some (.int (nI q))) ((((h.set 5 (r8 (upd fb q b))).set 6 (r8 (upd fg q g))).set 7 (r8 (upd fc q c))).set 4 (rdO (q + 1))) := by
  refine Con.of rfl (nb rfl) ?_
  have a1 : (h.set 5 (r8 (upd fb q b)))[4]? = some (rdO q) := gs_tg h5 h4 rfl
  have a2 : (h.set 5 (r8 (upd fb q b)))[6]? = some (r8 fg) := (gs_ne (by decide)).trans h6
  have a3 : ((h.set 5 (r8 (upd fb q b))).set 6 (r8 (upd fg q g)))[4]? = some (rdO q) := gs_tg a2 a1 rfl
  have a4 : ((h.set 5 (r8 (upd fb q b))).set 6 (r8 (upd fg q g)))[7]? = some (r8 fc) := (gs_ne (by decide)).trans ((gs_ne (by decide)).trans h7)
  have a5 : (((h.set 5 (r8 (upd fb q b))).set 6 (r8 (upd fg q g))).set 7 (r8 (upd fc q c)))[4]? = some (rdO q) := gs_tg a4 a3 rfl
  refine T_aload_n dX3_add_0 rfl ?_
  refine T_get dX3_add_1 fl_X3_9_3 h4 rfl ?_
  refine T_bipush (v := nI 8) dX3_add_4 (by decide) ?_
  refine T_icmp_ltN (tgt := 12) dX3_add_6 (by decide) (by omega) (by omega) (fun c6 => ?_) (fun c6 => ?_)
  · refine T_aload_n dX3_add_12 rfl ?_
    refine T_get dX3_add_13 fl_X3_15_3 h4 rfl ?_
    refine T_aload_n dX3_add_16 rfl ?_
    refine T_get dX3_add_17 fl_X3_9_3 h4 rfl ?_
    refine T_iload_n dX3_add_20 rfl ?_
    refine T_iastN dX3_add_21 h5 (by omega) (by decide) ?_
    refine T_aload_n dX3_add_22 rfl ?_
    refine T_get dX3_add_23 fl_X3_19_3 a1 rfl ?_
    refine T_aload_n dX3_add_26 rfl ?_
    refine T_get dX3_add_27 fl_X3_9_3 a1 rfl ?_
    refine T_iload_n dX3_add_30 rfl ?_
    refine T_iastN dX3_add_31 a2 (by omega) (by decide) ?_
    refine T_aload_n dX3_add_32 rfl ?_
    refine T_get dX3_add_33 fl_X3_22_3 a3 rfl ?_
    refine T_aload_n dX3_add_36 rfl ?_
    refine T_get dX3_add_37 fl_X3_9_3 a3 rfl ?_
    refine T_iload_n dX3_add_40 rfl ?_
    refine T_iastN dX3_add_41 a4 (by omega) (by decide) ?_
    refine T_aload_n dX3_add_42 rfl ?_
    refine T_dup dX3_add_43 rfl ?_
    refine T_get dX3_add_44 fl_X3_9_3 a5 rfl ?_
    refine T_iconst (v := nI 1) dX3_add_47 (by decide) ?_
    refine T_iaddN dX3_add_48 ?_
    refine T_put dX3_add_49 fp_X3_9_3 a5 (nb rfl) (fun _ => ⟨rfl, rfl⟩) ?_
    refine T_aload_n dX3_add_52 rfl ?_
    refine T_get dX3_add_53 fl_X3_9_3 (gs_eq a5) rfl ?_
    refine T_iconst (v := nI 1) dX3_add_56 (by decide) ?_
    refine T_isubN dX3_add_57 (by omega) ?_
    refine T_iret dX3_add_58 rfl (nb rfl) (nb rfl) ?_
    exact ⟨rfl, rfl⟩
  · exact absurd c6 (by omega)
theorem lp_X3_areWithin {Z : XZ} {q i n : Nat} {fg : Nat → Int32} {rh : Nat → Nat} (hq : q ≤ 8) (hn : n ≤ 10) (h4 : h[4]? = some (rdO q)) (h6 : h[6]? = some (r8 fg)) (hr : ∀ r, r < q → fg r = nI (rh r) ∧ rh r < 10) (hi : i < q) (Kb : ¬ rh i < n → T M_X3_areWithin x_E Z 0 0 20 [] [] h) (K : rh i < n → T M_X3_areWithin x_E Z 0 0 2 [(0, .ref 4), (1, .int (nI n)), (2, .int (nI (i + 1)))] [] h) : T M_X3_areWithin x_E Z 0 0 2 [(0, .ref 4), (1, .int (nI n)), (2, .int (nI i))] [] h := by
  have hr2 := (hr i hi).2
  refine T_iload_n dX3_areWithin_2 rfl ?_
  refine T_aload_n dX3_areWithin_3 rfl ?_
  refine T_get dX3_areWithin_4 fl_X3_9_3 h4 rfl ?_
  refine T_icmp_geN (tgt := 28) dX3_areWithin_7 (by decide) (by omega) (by omega) (fun c7 => ?_) (fun c7 => ?_)
  · exact absurd c7 (by omega)
  · refine T_aload_n dX3_areWithin_10 rfl ?_
    refine T_get dX3_areWithin_11 fl_X3_19_3 h4 rfl ?_
    refine T_iload_n dX3_areWithin_14 rfl ?_
    refine T_ialdN dX3_areWithin_15 h6 (by omega) (by decide) ?_
    refine T_top (hr i hi).1 ?_
    refine T_iload_n dX3_areWithin_16 rfl ?_
    refine T_icmp_ltN (tgt := 22) dX3_areWithin_17 (by decide) (by omega) (by omega) (fun c17 => ?_) (fun c17 => ?_)
    · refine T_iincN dX3_areWithin_22 rfl (by decide) rfl ?_
      refine T_goto (tgt := 2) dX3_areWithin_25 (by decide) ?_
      exact K c17
    · exact T_pick [] (Kb (by omega))
theorem c_X3_areWithin {q n : Nat} {fg : Nat → Int32} {rh : Nat → Nat} (hq : q ≤ 8) (hn : n ≤ 10) (h4 : h[4]? = some (rdO q)) (h6 : h[6]? = some (r8 fg)) (hr : ∀ r, r < q → fg r = nI (rh r) ∧ rh r < 10) : Con M_X3_areWithin [.ref 4, .int (nI n)] h (fun a h' => (∃ v, a = some (.int v) ∧ yn (∀ r, r < q → rh r < n) v) ∧ h' = h) := by
  refine Con.of rfl (nb rfl) ?_
  have key : ∀ m i, i + m = q → (∀ r, r < i → rh r < n) → T M_X3_areWithin x_E (x_Z M_X3_areWithin (fun a h' => (∃ v, a = some (.int v) ∧ yn (∀ r, r < q → rh r < n) v) ∧ h' = h)) 0 0 2 [(0, .ref 4), (1, .int (nI n)), (2, .int (nI i))] [] h := by
    intro m
    induction m with
    | zero =>
      intro i hi ha
      refine T_iload_n dX3_areWithin_2 rfl ?_
      refine T_aload_n dX3_areWithin_3 rfl ?_
      refine T_get dX3_areWithin_4 fl_X3_9_3 h4 rfl ?_
      refine T_icmp_geN (tgt := 28) dX3_areWithin_7 (by decide) (by omega) (by omega) (fun c7 => ?_) (fun c7 => ?_)
      · refine T_iconst (v := 1) dX3_areWithin_28 (by decide) ?_
        refine T_zret dX3_areWithin_29 rfl rfl (nb rfl) (nb rfl) ?_
        exact ⟨⟨_, rfl, Or.inl ⟨rfl, fun r hr => ha r (by omega)⟩⟩, rfl⟩
      · exact absurd c7 (by omega)
    | succ m ih =>
      intro i hi ha
      refine lp_X3_areWithin hq hn h4 h6 hr (by omega) (fun hb => ?_) (fun hb => ih (i + 1) (by omega) (fun r hr => ?_))
      · refine T_iconst (v := 0) dX3_areWithin_20 (by decide) ?_
        refine T_zret dX3_areWithin_21 rfl rfl (nb rfl) (nb rfl) ?_
        exact ⟨⟨_, rfl, Or.inr ⟨rfl, fun q => hb (q i (by omega))⟩⟩, rfl⟩
      · rcases Nat.lt_succ_iff_lt_or_eq.mp hr with e | e
        · exact ha r e
        · rw [e]; exact hb
  refine T_iconst (v := nI 0) dX3_areWithin_0 (by decide) ?_
  refine T_istore_n dX3_areWithin_1 (by decide) rfl ?_
  exact key q 0 (by omega) (fun r hr => absurd hr (by omega))
/-- readings of a boat each below nb, in cells of the row at vc -/
theorem lp_X3_areSo {Z : XZ} {q i g vc : Nat} {fb fg fc P : Nat → Int32} {rb rh rc p : Nat → Nat} (hq : q ≤ 8) (hg : g < 10) (h4 : h[4]? = some (rdO q)) (h5 : h[5]? = some (r8 fb)) (h6 : h[6]? = some (r8 fg)) (h7 : h[7]? = some (r8 fc)) (hv : h[vc]? = some (.inl (0, 3, .inl P))) (hr : ∀ r, r < q → fb r = nI (rb r) ∧ rb r < 3 ∧ fg r = nI (rh r) ∧ rh r < 10 ∧ fc r = nI (rc r) ∧ rc r ≤ 4 ∧ P (rb r) = nI (p (rb r)) ∧ p (rb r) ≤ 4) (hi : i < q)
    (Kb : rh i = g → ¬ p (rb i) = rc i → T M_X3_areSo x_E Z 0 0 37 [] [] h) (K : (rh i = g → p (rb i) = rc i) → T M_X3_areSo x_E Z 0 0 2 [(0, .ref 4), (1, .int (nI g)), (2, .ref vc), (3, .int (nI (i + 1)))] [] h) : T M_X3_areSo x_E Z 0 0 2 [(0, .ref 4), (1, .int (nI g)), (2, .ref vc), (3, .int (nI i))] [] h := by
  obtain ⟨r1, r2, r3, r4, r5, r6, r7, r8⟩ := hr i hi
  refine T_iload_n dX3_areSo_2 rfl ?_
  refine T_aload_n dX3_areSo_3 rfl ?_
  refine T_get dX3_areSo_4 fl_X3_9_3 h4 rfl ?_
  refine T_icmp_geN (tgt := 45) dX3_areSo_7 (by decide) (by omega) (by omega) (fun c7 => ?_) (fun c7 => ?_)
  · exact absurd c7 (by omega)
  · refine T_aload_n dX3_areSo_10 rfl ?_
    refine T_get dX3_areSo_11 fl_X3_19_3 h4 rfl ?_
    refine T_iload_n dX3_areSo_14 rfl ?_
    refine T_ialdN dX3_areSo_15 h6 (by omega) (by decide) ?_
    refine T_top r3 ?_
    refine T_iload_n dX3_areSo_16 rfl ?_
    refine T_icmp_neN (tgt := 39) dX3_areSo_17 (by decide) (by omega) (by omega) (fun c17 => ?_) (fun c17 => ?_)
    · refine T_iincN dX3_areSo_39 rfl (by decide) rfl ?_
      refine T_goto (tgt := 2) dX3_areSo_42 (by decide) ?_
      exact K (by omega)
    · refine T_aload_n dX3_areSo_20 rfl ?_
      refine T_aload_n dX3_areSo_21 rfl ?_
      refine T_get dX3_areSo_22 fl_X3_15_3 h4 rfl ?_
      refine T_iload_n dX3_areSo_25 rfl ?_
      refine T_ialdN dX3_areSo_26 h5 (by omega) (by decide) ?_
      refine T_top r1 ?_
      refine T_ialdN dX3_areSo_27 hv (by omega) (by decide) ?_
      refine T_top r7 ?_
      refine T_aload_n dX3_areSo_28 rfl ?_
      refine T_get dX3_areSo_29 fl_X3_22_3 h4 rfl ?_
      refine T_iload_n dX3_areSo_32 rfl ?_
      refine T_ialdN dX3_areSo_33 h7 (by omega) (by decide) ?_
      refine T_top r5 ?_
      refine T_icmp_eqN (tgt := 39) dX3_areSo_34 (by decide) (by omega) (by omega) (fun c34 => ?_) (fun c34 => ?_)
      · refine T_iincN dX3_areSo_39 rfl (by decide) rfl ?_
        refine T_goto (tgt := 2) dX3_areSo_42 (by decide) ?_
        exact K (by omega)
      · exact T_pick [] (Kb c17 c34)
theorem c_X3_areSo {q g vc : Nat} {fb fg fc P : Nat → Int32} {rb rh rc p : Nat → Nat} (hq : q ≤ 8) (hg : g < 10) (h4 : h[4]? = some (rdO q)) (h5 : h[5]? = some (r8 fb)) (h6 : h[6]? = some (r8 fg)) (h7 : h[7]? = some (r8 fc)) (hv : h[vc]? = some (.inl (0, 3, .inl P))) (hr : ∀ r, r < q → fb r = nI (rb r) ∧ rb r < 3 ∧ fg r = nI (rh r) ∧ rh r < 10 ∧ fc r = nI (rc r) ∧ rc r ≤ 4 ∧ P (rb r) = nI (p (rb r)) ∧ p (rb r) ≤ 4) : Con M_X3_areSo [.ref 4, .int (nI g), .ref vc] h (fun a h' => (∃ v, a = some (.int v) ∧ yn (∀ r, r < q → rh r = g → p (rb r) = rc r) v) ∧ h' = h) := by
  refine Con.of rfl (nb rfl) ?_
  have key : ∀ m i, i + m = q → (∀ r, r < i → rh r = g → p (rb r) = rc r) → T M_X3_areSo x_E (x_Z M_X3_areSo (fun a h' => (∃ v, a = some (.int v) ∧ yn (∀ r, r < q → rh r = g → p (rb r) = rc r) v) ∧ h' = h)) 0 0 2 [(0, .ref 4), (1, .int (nI g)), (2, .ref vc), (3, .int (nI i))] [] h := by
    intro m
    induction m with
    | zero =>
      intro i hi ha
      refine T_iload_n dX3_areSo_2 rfl ?_
      refine T_aload_n dX3_areSo_3 rfl ?_
      refine T_get dX3_areSo_4 fl_X3_9_3 h4 rfl ?_
      refine T_icmp_geN (tgt := 45) dX3_areSo_7 (by decide) (by omega) (by omega) (fun c7 => ?_) (fun c7 => ?_)
      · refine T_iconst (v := 1) dX3_areSo_45 (by decide) ?_
        refine T_zret dX3_areSo_46 rfl rfl (nb rfl) (nb rfl) ?_
        exact ⟨⟨_, rfl, Or.inl ⟨rfl, fun r hr => ha r (by omega)⟩⟩, rfl⟩
      · exact absurd c7 (by omega)
    | succ m ih =>
      intro i hi ha
      refine lp_X3_areSo hq hg h4 h5 h6 h7 hv hr (by omega) (fun hb hc => ?_) (fun hb => ih (i + 1) (by omega) (fun r hr => ?_))
      · refine T_iconst (v := 0) dX3_areSo_37 (by decide) ?_
        refine T_zret dX3_areSo_38 rfl rfl (nb rfl) (nb rfl) ?_
        exact ⟨⟨_, rfl, Or.inr ⟨rfl, fun q => hc (q i (by omega) hb)⟩⟩, rfl⟩
      · rcases Nat.lt_succ_iff_lt_or_eq.mp hr with e | e
        · exact ha r e
        · rw [e]; exact hb
  refine T_iconst (v := nI 0) dX3_areSo_0 (by decide) ?_
  refine T_istore_n dX3_areSo_1 (by decide) rfl ?_
  exact key q 0 (by omega) (fun r hr => absurd hr (by omega))
end C3
