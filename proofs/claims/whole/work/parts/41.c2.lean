/-! Lake: what it reads -/
section C2
variable {h : XH} {L : LK}
/-- the isles, as bits -/
def IsR (isl : Nat) (L : LK) : Prop := isl < 32 ∧ ∀ c, c < 5 → (isl.testBit c = true ↔ L_is L c = 1)
abbrev lkC (L : LK) (isl wo fl : Nat) : XC := lkO (L_w L) isl (L_h L) (L_n L) wo fl
abbrev bCL (L : LK) (i : Nat) : XC := bO (L_kd L i) i (L_fr L i) (L_fs L i)
theorem c_X1_drain {p wo fl : Nat} {a b c d : Int32} (hp : h[p]? = some (.inr (1, [.int a, .int b, .int c, .int d, .ref wo, .ref fl]))) : ConE M_X1_drain [.ref p] h none (h.set p (lkO 0 0 0 0 wo fl)) := by
  refine Con.of rfl (nb rfl) ?_
  refine T_aload_n dX1_drain_0 rfl ?_
  refine T_iconst (v := 0) dX1_drain_1 (by decide) ?_
  refine T_put dX1_drain_2 fp_X1_9_1 hp (nb rfl) (fun _ => ⟨rfl, rfl⟩) ?_
  try refine T_h (List.set_set ..) ?_
  refine T_aload_n dX1_drain_5 rfl ?_
  refine T_iconst (v := 0) dX1_drain_6 (by decide) ?_
  refine T_put dX1_drain_7 fp_X1_15_1 (gs_eq hp) (nb rfl) (fun _ => ⟨rfl, rfl⟩) ?_
  try refine T_h (List.set_set ..) ?_
  refine T_aload_n dX1_drain_10 rfl ?_
  refine T_iconst (v := 0) dX1_drain_11 (by decide) ?_
  refine T_put dX1_drain_12 fp_X1_18_1 (gs_eq hp) (nb rfl) (fun _ => ⟨rfl, rfl⟩) ?_
  try refine T_h (List.set_set ..) ?_
  refine T_aload_n dX1_drain_15 rfl ?_
  refine T_iconst (v := 0) dX1_drain_16 (by decide) ?_
  refine T_put dX1_drain_17 fp_X1_21_1 (gs_eq hp) (nb rfl) (fun _ => ⟨rfl, rfl⟩) ?_
  try refine T_h (List.set_set ..) ?_
  refine T_vret dX1_drain_20 rfl (nb rfl) (nb rfl) ?_
  exact ⟨rfl, rfl⟩
theorem c_X1_isThere {p w isl hh n wo fl : Nat} (hp : h[p]? = some (lkO w isl hh n wo fl)) (hn : n ≤ 3) : ConE M_X1_isThere [.ref p] h (some (.int (bI (0 < n)))) h := by
  refine Con.of rfl (nb rfl) ?_
  refine T_aload_n dX1_isThere_0 rfl ?_
  refine T_get dX1_isThere_1 fl_X1_21_1 hp rfl ?_
  refine T_if_leN (tgt := 11) dX1_isThere_4 (by decide) (by omega) (fun c4 => ?_) (fun c4 => ?_)
  · refine T_iconst (v := 0) dX1_isThere_11 (by decide) ?_
    refine T_zret dX1_isThere_12 rfl rfl (nb rfl) (nb rfl) ?_
    exact ⟨sI (by first | (unfold bI; simp_all; done) | (unfold bI; split <;> first | rfl | (exfalso; simp only [Int32.lt_iff_toInt_lt, Int32.le_iff_toInt_le] at *; omega))), rfl⟩
  · refine T_iconst (v := 1) dX1_isThere_7 (by decide) ?_
    refine T_goto (tgt := 12) dX1_isThere_8 (by decide) ?_
    refine T_zret dX1_isThere_12 rfl rfl (nb rfl) (nb rfl) ?_
    exact ⟨sI (by first | (unfold bI; simp_all; done) | (unfold bI; split <;> first | rfl | (exfalso; simp only [Int32.lt_iff_toInt_lt, Int32.le_iff_toInt_le] at *; omega))), rfl⟩
theorem c_X1_allBoats {p w isl hh n wo fl : Nat} (hp : h[p]? = some (lkO w isl hh n wo fl)) (hn : n ≤ 3) : ConE M_X1_allBoats [.ref p] h (some (.int (nI (2 ^ n - 1)))) h := by
  refine Con.of rfl (nb rfl) ?_
  refine T_iconst (v := 1) dX1_allBoats_0 (by decide) ?_
  refine T_aload_n dX1_allBoats_1 rfl ?_
  refine T_get dX1_allBoats_2 fl_X1_21_1 hp rfl ?_
  refine T_ishl dX1_allBoats_5 ?_
  refine T_iconst (v := 1) dX1_allBoats_6 (by decide) ?_
  refine T_isub dX1_allBoats_7 ?_
  refine T_iret dX1_allBoats_8 rfl (nb rfl) (nb rfl) ?_
  exact ⟨sI (all_N _ hn), rfl⟩
theorem isl_N : ∀ isl, isl < 32 → ∀ c, c < 5 → (((nI isl >>> (nI c &&& 31)) &&& 1 = 1) ↔ isl.testBit c = true) := by decide
theorem c_X1_hasIsle {p w isl hh n wo fl c : Nat} (hp : h[p]? = some (lkO w isl hh n wo fl)) (hi : isl < 32) (hc : c < 5) : ConE M_X1_hasIsle [.ref p, .int (nI c)] h (some (.int (bI (isl.testBit c = true)))) h := by
  refine Con.of rfl (nb rfl) ?_
  have e := isl_N isl hi c hc
  refine T_aload_n dX1_hasIsle_0 rfl ?_
  refine T_get dX1_hasIsle_1 fl_X1_15_1 hp rfl ?_
  refine T_iload_n dX1_hasIsle_4 rfl ?_
  refine T_ishr dX1_hasIsle_5 ?_
  refine T_iconst (v := 1) dX1_hasIsle_6 (by decide) ?_
  refine T_iand dX1_hasIsle_7 ?_
  refine T_iconst (v := 1) dX1_hasIsle_8 (by decide) ?_
  refine T_icmp_ne (tgt := 16) dX1_hasIsle_9 (by decide) (fun c9 => ?_) (fun c9 => ?_)
  · refine T_iconst (v := 0) dX1_hasIsle_16 (by decide) ?_
    refine T_zret dX1_hasIsle_17 rfl rfl (nb rfl) (nb rfl) ?_
    exact ⟨sI (by first | exact bI_t (e.mp (by assumption)) | exact bI_f (fun q => absurd (e.mpr q) (by assumption))), rfl⟩
  · refine T_iconst (v := 1) dX1_hasIsle_12 (by decide) ?_
    refine T_goto (tgt := 17) dX1_hasIsle_13 (by decide) ?_
    refine T_zret dX1_hasIsle_17 rfl rfl (nb rfl) (nb rfl) ?_
    exact ⟨sI (by first | exact bI_t (e.mp (by assumption)) | exact bI_f (fun q => absurd (e.mpr q) (by assumption))), rfl⟩
theorem c_X1_startOf_0 {p b w isl hh n wo fl nm fr fs : Nat} (hp : h[p]? = some (lkO w isl hh n wo fl)) (hb : h[b]? = some (bO 0 nm fr fs)) (hf : fr ≤ 1) : ConE M_X1_startOf [.ref p, .ref b] h (some (.int (nI (if fr = 0 then 0 else w)))) h := by
  refine Con.of rfl (nb rfl) ?_
  refine T_aload_n dX1_startOf_0 rfl ?_
  refine T_get dX1_startOf_1 fl_X1_37_0 hb rfl ?_
  refine T_if_neN (tgt := 11) dX1_startOf_4 (by decide) (by omega) (fun c4 => ?_) (fun c4 => ?_)
  · refine T_aload_n dX1_startOf_11 rfl ?_
    refine T_get dX1_startOf_12 fl_X1_9_1 hp rfl ?_
    refine T_iret dX1_startOf_15 rfl (nb rfl) (nb rfl) ?_
    exact ⟨sN (by first | rw [if_pos (by assumption)] | rw [if_neg (by assumption)]), rfl⟩
  · refine T_iconst (v := nI 0) dX1_startOf_7 (by decide) ?_
    refine T_goto (tgt := 15) dX1_startOf_8 (by decide) ?_
    refine T_iret dX1_startOf_15 rfl (nb rfl) (nb rfl) ?_
    exact ⟨sN (by first | rw [if_pos (by assumption)] | rw [if_neg (by assumption)]), rfl⟩
theorem c_X1_startOf_2 {p b w isl hh n wo fl nm fr fs : Nat} (hp : h[p]? = some (lkO w isl hh n wo fl)) (hb : h[b]? = some (bO 1 nm fr fs)) (hf : fr ≤ 1) : ConE M_X1_startOf [.ref p, .ref b] h (some (.int (nI (if fr = 0 then 0 else w)))) h := by
  refine Con.of rfl (nb rfl) ?_
  refine T_aload_n dX1_startOf_0 rfl ?_
  refine T_get dX1_startOf_1 fl_X1_37_2 hb rfl ?_
  refine T_if_neN (tgt := 11) dX1_startOf_4 (by decide) (by omega) (fun c4 => ?_) (fun c4 => ?_)
  · refine T_aload_n dX1_startOf_11 rfl ?_
    refine T_get dX1_startOf_12 fl_X1_9_1 hp rfl ?_
    refine T_iret dX1_startOf_15 rfl (nb rfl) (nb rfl) ?_
    exact ⟨sN (by first | rw [if_pos (by assumption)] | rw [if_neg (by assumption)]), rfl⟩
  · refine T_iconst (v := nI 0) dX1_startOf_7 (by decide) ?_
    refine T_goto (tgt := 15) dX1_startOf_8 (by decide) ?_
    refine T_iret dX1_startOf_15 rfl (nb rfl) (nb rfl) ?_
    exact ⟨sN (by first | rw [if_pos (by assumption)] | rw [if_neg (by assumption)]), rfl⟩
theorem c_X1_startOf_8 {p b w isl hh n wo fl nm fr fs : Nat} (hp : h[p]? = some (lkO w isl hh n wo fl)) (hb : h[b]? = some (bO 2 nm fr fs)) (hf : fr ≤ 1) : ConE M_X1_startOf [.ref p, .ref b] h (some (.int (nI (if fr = 0 then 0 else w)))) h := by
  refine Con.of rfl (nb rfl) ?_
  refine T_aload_n dX1_startOf_0 rfl ?_
  refine T_get dX1_startOf_1 fl_X1_37_8 hb rfl ?_
  refine T_if_neN (tgt := 11) dX1_startOf_4 (by decide) (by omega) (fun c4 => ?_) (fun c4 => ?_)
  · refine T_aload_n dX1_startOf_11 rfl ?_
    refine T_get dX1_startOf_12 fl_X1_9_1 hp rfl ?_
    refine T_iret dX1_startOf_15 rfl (nb rfl) (nb rfl) ?_
    exact ⟨sN (by first | rw [if_pos (by assumption)] | rw [if_neg (by assumption)]), rfl⟩
  · refine T_iconst (v := nI 0) dX1_startOf_7 (by decide) ?_
    refine T_goto (tgt := 15) dX1_startOf_8 (by decide) ?_
    refine T_iret dX1_startOf_15 rfl (nb rfl) (nb rfl) ?_
    exact ⟨sN (by first | rw [if_pos (by assumption)] | rw [if_neg (by assumption)]), rfl⟩
theorem c_X1_startOf {p b w isl hh n wo fl nm fr fs k : Nat} (hp : h[p]? = some (lkO w isl hh n wo fl)) (hb : h[b]? = some (bO k nm fr fs)) (hk : k ≤ 2) (hf : fr ≤ 1) : ConE M_X1_startOf [.ref p, .ref b] h (some (.int (nI (if fr = 0 then 0 else w)))) h := by
  rcases k3 hk with rfl | rfl | rfl
  · exact c_X1_startOf_0 hp hb hf
  · exact c_X1_startOf_2 hp hb hf
  · exact c_X1_startOf_8 hp hb hf
theorem c_X1_goalOf_0 {p b w isl hh n wo fl nm fr fs : Nat} (hp : h[p]? = some (lkO w isl hh n wo fl)) (hb : h[b]? = some (bO 0 nm fr fs)) (hf : fr ≤ 1) : ConE M_X1_goalOf [.ref p, .ref b] h (some (.int (nI (if fr = 0 then w else 0)))) h := by
  refine Con.of rfl (nb rfl) ?_
  refine T_aload_n dX1_goalOf_0 rfl ?_
  refine T_get dX1_goalOf_1 fl_X1_37_0 hb rfl ?_
  refine T_if_neN (tgt := 14) dX1_goalOf_4 (by decide) (by omega) (fun c4 => ?_) (fun c4 => ?_)
  · refine T_iconst (v := nI 0) dX1_goalOf_14 (by decide) ?_
    refine T_iret dX1_goalOf_15 rfl (nb rfl) (nb rfl) ?_
    exact ⟨sN (by first | rw [if_pos (by assumption)] | rw [if_neg (by assumption)]), rfl⟩
  · refine T_aload_n dX1_goalOf_7 rfl ?_
    refine T_get dX1_goalOf_8 fl_X1_9_1 hp rfl ?_
    refine T_goto (tgt := 15) dX1_goalOf_11 (by decide) ?_
    refine T_iret dX1_goalOf_15 rfl (nb rfl) (nb rfl) ?_
    exact ⟨sN (by first | rw [if_pos (by assumption)] | rw [if_neg (by assumption)]), rfl⟩
theorem c_X1_goalOf_2 {p b w isl hh n wo fl nm fr fs : Nat} (hp : h[p]? = some (lkO w isl hh n wo fl)) (hb : h[b]? = some (bO 1 nm fr fs)) (hf : fr ≤ 1) : ConE M_X1_goalOf [.ref p, .ref b] h (some (.int (nI (if fr = 0 then w else 0)))) h := by
  refine Con.of rfl (nb rfl) ?_
  refine T_aload_n dX1_goalOf_0 rfl ?_
  refine T_get dX1_goalOf_1 fl_X1_37_2 hb rfl ?_
  refine T_if_neN (tgt := 14) dX1_goalOf_4 (by decide) (by omega) (fun c4 => ?_) (fun c4 => ?_)
  · refine T_iconst (v := nI 0) dX1_goalOf_14 (by decide) ?_
    refine T_iret dX1_goalOf_15 rfl (nb rfl) (nb rfl) ?_
    exact ⟨sN (by first | rw [if_pos (by assumption)] | rw [if_neg (by assumption)]), rfl⟩
  · refine T_aload_n dX1_goalOf_7 rfl ?_
    refine T_get dX1_goalOf_8 fl_X1_9_1 hp rfl ?_
    refine T_goto (tgt := 15) dX1_goalOf_11 (by decide) ?_
    refine T_iret dX1_goalOf_15 rfl (nb rfl) (nb rfl) ?_
    exact ⟨sN (by first | rw [if_pos (by assumption)] | rw [if_neg (by assumption)]), rfl⟩
theorem c_X1_goalOf_8 {p b w isl hh n wo fl nm fr fs : Nat} (hp : h[p]? = some (lkO w isl hh n wo fl)) (hb : h[b]? = some (bO 2 nm fr fs)) (hf : fr ≤ 1) : ConE M_X1_goalOf [.ref p, .ref b] h (some (.int (nI (if fr = 0 then w else 0)))) h := by
  refine Con.of rfl (nb rfl) ?_
  refine T_aload_n dX1_goalOf_0 rfl ?_
  refine T_get dX1_goalOf_1 fl_X1_37_8 hb rfl ?_
  refine T_if_neN (tgt := 14) dX1_goalOf_4 (by decide) (by omega) (fun c4 => ?_) (fun c4 => ?_)
  · refine T_iconst (v := nI 0) dX1_goalOf_14 (by decide) ?_
    refine T_iret dX1_goalOf_15 rfl (nb rfl) (nb rfl) ?_
    exact ⟨sN (by first | rw [if_pos (by assumption)] | rw [if_neg (by assumption)]), rfl⟩
  · refine T_aload_n dX1_goalOf_7 rfl ?_
    refine T_get dX1_goalOf_8 fl_X1_9_1 hp rfl ?_
    refine T_goto (tgt := 15) dX1_goalOf_11 (by decide) ?_
    refine T_iret dX1_goalOf_15 rfl (nb rfl) (nb rfl) ?_
    exact ⟨sN (by first | rw [if_pos (by assumption)] | rw [if_neg (by assumption)]), rfl⟩
theorem c_X1_goalOf {p b w isl hh n wo fl nm fr fs k : Nat} (hp : h[p]? = some (lkO w isl hh n wo fl)) (hb : h[b]? = some (bO k nm fr fs)) (hk : k ≤ 2) (hf : fr ≤ 1) : ConE M_X1_goalOf [.ref p, .ref b] h (some (.int (nI (if fr = 0 then w else 0)))) h := by
  rcases k3 hk with rfl | rfl | rfl
  · exact c_X1_goalOf_0 hp hb hf
  · exact c_X1_goalOf_2 hp hb hf
  · exact c_X1_goalOf_8 hp hb hf
theorem c_X1_isWith_0 {p b nm fr fs wd : Nat} (hb : h[b]? = some (bO 0 nm fr fs)) (hf : fr ≤ 1) (hw : wd ≤ 2) : ConE M_X1_isWith [.ref p, .ref b, .int (nI wd)] h (some (.int (bI (wd = fr + 1)))) h := by
  refine Con.of rfl (nb rfl) ?_
  refine T_iload_n dX1_isWith_0 rfl ?_
  refine T_aload_n dX1_isWith_1 rfl ?_
  refine T_get dX1_isWith_2 fl_X1_37_0 hb rfl ?_
  refine T_if_neN (tgt := 12) dX1_isWith_5 (by decide) (by omega) (fun c5 => ?_) (fun c5 => ?_)
  · refine T_iconst (v := nI 2) dX1_isWith_12 (by decide) ?_
    refine T_icmp_neN (tgt := 20) dX1_isWith_13 (by decide) (by omega) (by omega) (fun c13 => ?_) (fun c13 => ?_)
    · refine T_iconst (v := 0) dX1_isWith_20 (by decide) ?_
      refine T_zret dX1_isWith_21 rfl rfl (nb rfl) (nb rfl) ?_
      exact ⟨sI (by first | exact bI_t (by omega) | exact bI_f (by omega)), rfl⟩
    · refine T_iconst (v := 1) dX1_isWith_16 (by decide) ?_
      refine T_goto (tgt := 21) dX1_isWith_17 (by decide) ?_
      refine T_zret dX1_isWith_21 rfl rfl (nb rfl) (nb rfl) ?_
      exact ⟨sI (by first | exact bI_t (by omega) | exact bI_f (by omega)), rfl⟩
  · refine T_iconst (v := nI 1) dX1_isWith_8 (by decide) ?_
    refine T_goto (tgt := 13) dX1_isWith_9 (by decide) ?_
    refine T_icmp_neN (tgt := 20) dX1_isWith_13 (by decide) (by omega) (by omega) (fun c13 => ?_) (fun c13 => ?_)
    · refine T_iconst (v := 0) dX1_isWith_20 (by decide) ?_
      refine T_zret dX1_isWith_21 rfl rfl (nb rfl) (nb rfl) ?_
      exact ⟨sI (by first | exact bI_t (by omega) | exact bI_f (by omega)), rfl⟩
    · refine T_iconst (v := 1) dX1_isWith_16 (by decide) ?_
      refine T_goto (tgt := 21) dX1_isWith_17 (by decide) ?_
      refine T_zret dX1_isWith_21 rfl rfl (nb rfl) (nb rfl) ?_
      exact ⟨sI (by first | exact bI_t (by omega) | exact bI_f (by omega)), rfl⟩
theorem c_X1_isWith_2 {p b nm fr fs wd : Nat} (hb : h[b]? = some (bO 1 nm fr fs)) (hf : fr ≤ 1) (hw : wd ≤ 2) : ConE M_X1_isWith [.ref p, .ref b, .int (nI wd)] h (some (.int (bI (wd = fr + 1)))) h := by
  refine Con.of rfl (nb rfl) ?_
  refine T_iload_n dX1_isWith_0 rfl ?_
  refine T_aload_n dX1_isWith_1 rfl ?_
  refine T_get dX1_isWith_2 fl_X1_37_2 hb rfl ?_
  refine T_if_neN (tgt := 12) dX1_isWith_5 (by decide) (by omega) (fun c5 => ?_) (fun c5 => ?_)
  · refine T_iconst (v := nI 2) dX1_isWith_12 (by decide) ?_
    refine T_icmp_neN (tgt := 20) dX1_isWith_13 (by decide) (by omega) (by omega) (fun c13 => ?_) (fun c13 => ?_)
    · refine T_iconst (v := 0) dX1_isWith_20 (by decide) ?_
      refine T_zret dX1_isWith_21 rfl rfl (nb rfl) (nb rfl) ?_
      exact ⟨sI (by first | exact bI_t (by omega) | exact bI_f (by omega)), rfl⟩
    · refine T_iconst (v := 1) dX1_isWith_16 (by decide) ?_
      refine T_goto (tgt := 21) dX1_isWith_17 (by decide) ?_
      refine T_zret dX1_isWith_21 rfl rfl (nb rfl) (nb rfl) ?_
      exact ⟨sI (by first | exact bI_t (by omega) | exact bI_f (by omega)), rfl⟩
  · refine T_iconst (v := nI 1) dX1_isWith_8 (by decide) ?_
    refine T_goto (tgt := 13) dX1_isWith_9 (by decide) ?_
    refine T_icmp_neN (tgt := 20) dX1_isWith_13 (by decide) (by omega) (by omega) (fun c13 => ?_) (fun c13 => ?_)
    · refine T_iconst (v := 0) dX1_isWith_20 (by decide) ?_
      refine T_zret dX1_isWith_21 rfl rfl (nb rfl) (nb rfl) ?_
      exact ⟨sI (by first | exact bI_t (by omega) | exact bI_f (by omega)), rfl⟩
    · refine T_iconst (v := 1) dX1_isWith_16 (by decide) ?_
      refine T_goto (tgt := 21) dX1_isWith_17 (by decide) ?_
      refine T_zret dX1_isWith_21 rfl rfl (nb rfl) (nb rfl) ?_
      exact ⟨sI (by first | exact bI_t (by omega) | exact bI_f (by omega)), rfl⟩
theorem c_X1_isWith_8 {p b nm fr fs wd : Nat} (hb : h[b]? = some (bO 2 nm fr fs)) (hf : fr ≤ 1) (hw : wd ≤ 2) : ConE M_X1_isWith [.ref p, .ref b, .int (nI wd)] h (some (.int (bI (wd = fr + 1)))) h := by
  refine Con.of rfl (nb rfl) ?_
  refine T_iload_n dX1_isWith_0 rfl ?_
  refine T_aload_n dX1_isWith_1 rfl ?_
  refine T_get dX1_isWith_2 fl_X1_37_8 hb rfl ?_
  refine T_if_neN (tgt := 12) dX1_isWith_5 (by decide) (by omega) (fun c5 => ?_) (fun c5 => ?_)
  · refine T_iconst (v := nI 2) dX1_isWith_12 (by decide) ?_
    refine T_icmp_neN (tgt := 20) dX1_isWith_13 (by decide) (by omega) (by omega) (fun c13 => ?_) (fun c13 => ?_)
    · refine T_iconst (v := 0) dX1_isWith_20 (by decide) ?_
      refine T_zret dX1_isWith_21 rfl rfl (nb rfl) (nb rfl) ?_
      exact ⟨sI (by first | exact bI_t (by omega) | exact bI_f (by omega)), rfl⟩
    · refine T_iconst (v := 1) dX1_isWith_16 (by decide) ?_
      refine T_goto (tgt := 21) dX1_isWith_17 (by decide) ?_
      refine T_zret dX1_isWith_21 rfl rfl (nb rfl) (nb rfl) ?_
      exact ⟨sI (by first | exact bI_t (by omega) | exact bI_f (by omega)), rfl⟩
  · refine T_iconst (v := nI 1) dX1_isWith_8 (by decide) ?_
    refine T_goto (tgt := 13) dX1_isWith_9 (by decide) ?_
    refine T_icmp_neN (tgt := 20) dX1_isWith_13 (by decide) (by omega) (by omega) (fun c13 => ?_) (fun c13 => ?_)
    · refine T_iconst (v := 0) dX1_isWith_20 (by decide) ?_
      refine T_zret dX1_isWith_21 rfl rfl (nb rfl) (nb rfl) ?_
      exact ⟨sI (by first | exact bI_t (by omega) | exact bI_f (by omega)), rfl⟩
    · refine T_iconst (v := 1) dX1_isWith_16 (by decide) ?_
      refine T_goto (tgt := 21) dX1_isWith_17 (by decide) ?_
      refine T_zret dX1_isWith_21 rfl rfl (nb rfl) (nb rfl) ?_
      exact ⟨sI (by first | exact bI_t (by omega) | exact bI_f (by omega)), rfl⟩
theorem c_X1_isWith {p b nm fr fs wd k : Nat} (hb : h[b]? = some (bO k nm fr fs)) (hk : k ≤ 2) (hf : fr ≤ 1) (hw : wd ≤ 2) : ConE M_X1_isWith [.ref p, .ref b, .int (nI wd)] h (some (.int (bI (wd = fr + 1)))) h := by
  rcases k3 hk with rfl | rfl | rfl
  · exact c_X1_isWith_0 hb hf hw
  · exact c_X1_isWith_2 hb hf hw
  · exact c_X1_isWith_8 hb hf hw
theorem c_X1_countsWith_0 {p b w isl hh n wo fl nm fr fs wd : Nat} (hp : h[p]? = some (lkO w isl hh n wo fl)) (hb : h[b]? = some (bO 0 nm fr fs)) (hf : fr ≤ 1) (hw : wd ≤ 2) : ConE M_X1_countsWith [.ref p, .ref b, .int (nI wd)] h (some (.int (bI (¬ (0 : Nat) = 2 ∧ wd = fr + 1)))) h := by
  refine Con.of rfl (nb rfl) ?_
  refine T_aload_n dX1_countsWith_0 rfl ?_
  refine T_v0e (cu2 := 0) (su2 := 0) dX1_countsWith_1 lv_X1_40 rfl hb rfl c_X0_counts (nb rfl) (nb rfl) (nb rfl) (nb rfl) (nb rfl) ?_
  refine T_if_eq (tgt := 20) dX1_countsWith_4 (by decide) (fun c4 => ?_) (fun c4 => ?_)
  · exact absurd c4 (by decide)
  · refine T_aload_n dX1_countsWith_7 rfl ?_
    refine T_aload_n dX1_countsWith_8 rfl ?_
    refine T_iload_n dX1_countsWith_9 rfl ?_
    refine T_v2e (cu2 := 0) (su2 := 0) dX1_countsWith_10 lv_X1_44 rfl hp rfl (c_X1_isWith_0 hb hf hw) (nb rfl) (nb rfl) (nb rfl) (nb rfl) (nb rfl) ?_
    refine T_if_eqB (tgt := 20) dX1_countsWith_13 (by decide) (fun c13 => ?_) (fun c13 => ?_)
    · refine T_iconst (v := 0) dX1_countsWith_20 (by decide) ?_
      refine T_zret dX1_countsWith_21 rfl rfl (nb rfl) (nb rfl) ?_
      exact ⟨sI (by first | exact bI_t ⟨by decide, by assumption⟩ | exact bI_f (fun q => absurd q.2 (by assumption)) | exact bI_f (fun q => q.1 rfl)), rfl⟩
    · refine T_iconst (v := 1) dX1_countsWith_16 (by decide) ?_
      refine T_goto (tgt := 21) dX1_countsWith_17 (by decide) ?_
      refine T_zret dX1_countsWith_21 rfl rfl (nb rfl) (nb rfl) ?_
      exact ⟨sI (by first | exact bI_t ⟨by decide, by assumption⟩ | exact bI_f (fun q => absurd q.2 (by assumption)) | exact bI_f (fun q => q.1 rfl)), rfl⟩
theorem c_X1_countsWith_2 {p b w isl hh n wo fl nm fr fs wd : Nat} (hp : h[p]? = some (lkO w isl hh n wo fl)) (hb : h[b]? = some (bO 1 nm fr fs)) (hf : fr ≤ 1) (hw : wd ≤ 2) : ConE M_X1_countsWith [.ref p, .ref b, .int (nI wd)] h (some (.int (bI (¬ (1 : Nat) = 2 ∧ wd = fr + 1)))) h := by
  refine Con.of rfl (nb rfl) ?_
  refine T_aload_n dX1_countsWith_0 rfl ?_
  refine T_u0e (cu2 := 0) (su2 := 0) dX1_countsWith_1 lu_X1_40_X2 rfl hb rfl c_X0_counts (nb rfl) (nb rfl) (nb rfl) (nb rfl) (nb rfl) ?_
  refine T_if_eq (tgt := 20) dX1_countsWith_4 (by decide) (fun c4 => ?_) (fun c4 => ?_)
  · exact absurd c4 (by decide)
  · refine T_aload_n dX1_countsWith_7 rfl ?_
    refine T_aload_n dX1_countsWith_8 rfl ?_
    refine T_iload_n dX1_countsWith_9 rfl ?_
    refine T_v2e (cu2 := 0) (su2 := 0) dX1_countsWith_10 lv_X1_44 rfl hp rfl (c_X1_isWith_2 hb hf hw) (nb rfl) (nb rfl) (nb rfl) (nb rfl) (nb rfl) ?_
    refine T_if_eqB (tgt := 20) dX1_countsWith_13 (by decide) (fun c13 => ?_) (fun c13 => ?_)
    · refine T_iconst (v := 0) dX1_countsWith_20 (by decide) ?_
      refine T_zret dX1_countsWith_21 rfl rfl (nb rfl) (nb rfl) ?_
      exact ⟨sI (by first | exact bI_t ⟨by decide, by assumption⟩ | exact bI_f (fun q => absurd q.2 (by assumption)) | exact bI_f (fun q => q.1 rfl)), rfl⟩
    · refine T_iconst (v := 1) dX1_countsWith_16 (by decide) ?_
      refine T_goto (tgt := 21) dX1_countsWith_17 (by decide) ?_
      refine T_zret dX1_countsWith_21 rfl rfl (nb rfl) (nb rfl) ?_
      exact ⟨sI (by first | exact bI_t ⟨by decide, by assumption⟩ | exact bI_f (fun q => absurd q.2 (by assumption)) | exact bI_f (fun q => q.1 rfl)), rfl⟩
theorem c_X1_countsWith_8 {p b w isl hh n wo fl nm fr fs wd : Nat} (hp : h[p]? = some (lkO w isl hh n wo fl)) (hb : h[b]? = some (bO 2 nm fr fs)) (hf : fr ≤ 1) (hw : wd ≤ 2) : ConE M_X1_countsWith [.ref p, .ref b, .int (nI wd)] h (some (.int (bI (¬ (2 : Nat) = 2 ∧ wd = fr + 1)))) h := by
  refine Con.of rfl (nb rfl) ?_
  refine T_aload_n dX1_countsWith_0 rfl ?_
  refine T_u0e (cu2 := 0) (su2 := 0) dX1_countsWith_1 lu_X1_40_X8 rfl hb rfl c_X8_counts (nb rfl) (nb rfl) (nb rfl) (nb rfl) (nb rfl) ?_
  refine T_if_eq (tgt := 20) dX1_countsWith_4 (by decide) (fun c4 => ?_) (fun c4 => ?_)
  · refine T_iconst (v := 0) dX1_countsWith_20 (by decide) ?_
    refine T_zret dX1_countsWith_21 rfl rfl (nb rfl) (nb rfl) ?_
    exact ⟨sI (by first | exact bI_t ⟨by decide, by assumption⟩ | exact bI_f (fun q => absurd q.2 (by assumption)) | exact bI_f (fun q => q.1 rfl)), rfl⟩
  · exact absurd (rfl : (0 : Int32) = 0) c4
theorem c_X1_countsWith {p b w isl hh n wo fl nm fr fs wd k : Nat} (hp : h[p]? = some (lkO w isl hh n wo fl)) (hb : h[b]? = some (bO k nm fr fs)) (hk : k ≤ 2) (hf : fr ≤ 1) (hw : wd ≤ 2) : ConE M_X1_countsWith [.ref p, .ref b, .int (nI wd)] h (some (.int (bI (¬ k = 2 ∧ wd = fr + 1)))) h := by
  rcases k3 hk with rfl | rfl | rfl
  · exact c_X1_countsWith_0 hp hb hf hw
  · exact c_X1_countsWith_2 hp hb hf hw
  · exact c_X1_countsWith_8 hp hb hf hw
theorem min_N {a b : Nat} (ha : a < 100) (hb : b < 100) : (if nI b < nI a then nI b else nI a) = nI (min a b) := by
  by_cases c : b < a
  · rw [if_pos ((nI_ltI (by omega) (by omega)).mpr c)]
    congr 1
    omega
  · rw [if_neg (fun q => c ((nI_ltI (by omega) (by omega)).mp q))]
    congr 1
    omega
theorem max_N : ∀ a, a < 5 → ∀ b, b < 5 → (if 0 < nI a - nI b then nI a - nI b else 0) = nI (a - b) := by decide
theorem c_X1_cellAfter_0 {p b isl wo fl i cc wd : Nat} (hL : LOk L) (hi : i < L_n L) (hk : L_kd L i = 0) (hI : IsR isl L) (hp : h[p]? = some (lkC L isl wo fl)) (hb : h[b]? = some (bO 0 i (L_fr L i) (L_fs L i))) (hc : cc ≤ L_w L) (hw : wd ≤ 2) (go : Bool) : ConE M_X1_cellAfter [.ref p, .ref b, .int (nI cc), .int (nI wd), .int (bI (go = true))] h (some (.int (nI (aft L wd go i cc)))) h := by
  obtain ⟨l4, -, l3, lb, li⟩ := hL
  obtain ⟨q1, -, q3, q4⟩ := lb i hi
  have hfar : far L wd i < 5 := by unfold far; split <;> omega
  have hgo : goal L i ≤ 4 := by unfold goal; split <;> omega
  have e7 : ConE M_X1_goalOf [.ref p, .ref b] h (some (.int (nI (goal L i)))) h := c_X1_goalOf_0 hp hb q1
  refine Con.of rfl (nb rfl) ?_
  refine T_iload_n dX1_cellAfter_0 rfl ?_
  refine T_if_eqN (tgt := 13) dX1_cellAfter_1 (by decide) (by omega) (fun c1 => ?_) (fun c1 => ?_)
  · refine T_iload_n dX1_cellAfter_13 rfl ?_
    refine T_iret dX1_cellAfter_14 rfl (nb rfl) (nb rfl) ?_
    exact ⟨sN (by unfold aft; first | rw [if_pos (Or.inl (by assumption))] | rw [if_pos (Or.inr (by assumption))]), rfl⟩
  · refine T_iload_n dX1_cellAfter_4 rfl ?_
    refine T_aload_n dX1_cellAfter_5 rfl ?_
    refine T_aload_n dX1_cellAfter_6 rfl ?_
    refine T_v1e (cu2 := 0) (su2 := 0) dX1_cellAfter_7 lv_X1_48 rfl hp rfl e7 (nb rfl) (nb rfl) (nb rfl) (nb rfl) (nb rfl) ?_
    refine T_icmp_neN (tgt := 15) dX1_cellAfter_10 (by decide) (by omega) (by omega) (fun c10 => ?_) (fun c10 => ?_)
    · refine T_iload dX1_cellAfter_15 rfl ?_
      refine T_if_eqB (tgt := 72) dX1_cellAfter_17 (by decide) (fun c17 => ?_) (fun c17 => ?_)
      · refine T_iload_n dX1_cellAfter_72 rfl ?_
        refine T_if_eqN (tgt := 92) dX1_cellAfter_73 (by decide) (by omega) (fun c73 => ?_) (fun c73 => ?_)
        · refine T_iload_n dX1_cellAfter_92 rfl ?_
          refine T_iret dX1_cellAfter_93 rfl (nb rfl) (nb rfl) ?_
          unfold aft
          rw [if_neg (by omega), if_neg (by assumption), if_neg]
          · exact ⟨rfl, rfl⟩
          · first | omega | exact fun q => absurd q.2.2 (fun z => by have := (hI.2 cc (by omega)).mp (by assumption); omega)
        · refine T_iload_n dX1_cellAfter_76 rfl ?_
          refine T_aload_n dX1_cellAfter_77 rfl ?_
          refine T_get dX1_cellAfter_78 fl_X1_9_1 hp rfl ?_
          refine T_icmp_eqN (tgt := 92) dX1_cellAfter_81 (by decide) (by omega) (by omega) (fun c81 => ?_) (fun c81 => ?_)
          · refine T_iload_n dX1_cellAfter_92 rfl ?_
            refine T_iret dX1_cellAfter_93 rfl (nb rfl) (nb rfl) ?_
            unfold aft
            rw [if_neg (by omega), if_neg (by assumption), if_neg]
            · exact ⟨rfl, rfl⟩
            · first | omega | exact fun q => absurd q.2.2 (fun z => by have := (hI.2 cc (by omega)).mp (by assumption); omega)
          · refine T_aload_n dX1_cellAfter_84 rfl ?_
            refine T_iload_n dX1_cellAfter_85 rfl ?_
            refine T_v1e (cu2 := 0) (su2 := 0) dX1_cellAfter_86 lv_X1_68 rfl hp rfl (c_X1_hasIsle hp hI.1 (by omega)) (nb rfl) (nb rfl) (nb rfl) (nb rfl) (nb rfl) ?_
            refine T_if_eqB (tgt := 94) dX1_cellAfter_89 (by decide) (fun c89 => ?_) (fun c89 => ?_)
            · refine T_iload_n dX1_cellAfter_94 rfl ?_
              refine T_iconst (v := nI 1) dX1_cellAfter_95 (by decide) ?_
              refine T_icmp_neN (tgt := 105) dX1_cellAfter_96 (by decide) (by omega) (by omega) (fun c96 => ?_) (fun c96 => ?_)
              · refine T_iload_n dX1_cellAfter_105 rfl ?_
                refine T_iconst (v := nI 1) dX1_cellAfter_106 (by decide) ?_
                refine T_isubN dX1_cellAfter_107 (by omega) ?_
                refine T_iret dX1_cellAfter_108 rfl (nb rfl) (nb rfl) ?_
                have hz : L_is L cc = 0 := by
                  have h1 := li cc (by omega)
                  rcases Nat.lt_or_ge (L_is L cc) 1 with q | q
                  · omega
                  · exact absurd ((hI.2 cc (by omega)).mpr (by omega)) (by assumption)
                unfold aft
                rw [if_neg (by omega), if_neg (by assumption), if_pos ⟨by omega, by omega, hz⟩]
                first | rw [if_pos (by assumption)] | rw [if_neg (by assumption)]
                exact ⟨rfl, rfl⟩
              · refine T_iload_n dX1_cellAfter_99 rfl ?_
                refine T_iconst (v := nI 1) dX1_cellAfter_100 (by decide) ?_
                refine T_iaddN dX1_cellAfter_101 ?_
                refine T_goto (tgt := 108) dX1_cellAfter_102 (by decide) ?_
                refine T_iret dX1_cellAfter_108 rfl (nb rfl) (nb rfl) ?_
                have hz : L_is L cc = 0 := by
                  have h1 := li cc (by omega)
                  rcases Nat.lt_or_ge (L_is L cc) 1 with q | q
                  · omega
                  · exact absurd ((hI.2 cc (by omega)).mpr (by omega)) (by assumption)
                unfold aft
                rw [if_neg (by omega), if_neg (by assumption), if_pos ⟨by omega, by omega, hz⟩]
                first | rw [if_pos (by assumption)] | rw [if_neg (by assumption)]
                exact ⟨rfl, rfl⟩
            · refine T_iload_n dX1_cellAfter_92 rfl ?_
              refine T_iret dX1_cellAfter_93 rfl (nb rfl) (nb rfl) ?_
              unfold aft
              rw [if_neg (by omega), if_neg (by assumption), if_neg]
              · exact ⟨rfl, rfl⟩
              · first | omega | exact fun q => absurd q.2.2 (fun z => by have := (hI.2 cc (by omega)).mp (by assumption); omega)
      · refine T_aload_n dX1_cellAfter_20 rfl ?_
        refine T_aload_n dX1_cellAfter_21 rfl ?_
        refine T_iload_n dX1_cellAfter_22 rfl ?_
        refine T_v2e (cu2 := 0) (su2 := 0) dX1_cellAfter_23 lv_X1_44 rfl hp rfl (c_X1_isWith_0 hb q1 hw) (nb rfl) (nb rfl) (nb rfl) (nb rfl) (nb rfl) ?_
        refine T_if_eqB (tgt := 36) dX1_cellAfter_26 (by decide) (fun c26 => ?_) (fun c26 => ?_)
        · refine T_aload_n dX1_cellAfter_36 rfl ?_
          refine T_v0e (cu2 := 0) (su2 := 0) dX1_cellAfter_37 lv_X1_55 rfl hb rfl (c_X0_goesAgainst hb) (nb rfl) (nb rfl) (nb rfl) (nb rfl) (nb rfl) ?_
          refine T_istore dX1_cellAfter_40 (by decide) rfl ?_
          refine T_ls (ls2 := [(0, .ref p), (1, .ref b), (2, .int (nI cc)), (3, .int (nI wd)), (4, .int (bI (go = true))), (5, .int (nI (far L wd i)))]) (by unfold far; first | (rw [if_neg (by omega)]; rfl) | (rw [if_pos ⟨hk, by omega⟩]; rfl)) ?_
          refine T_aload_n dX1_cellAfter_42 rfl ?_
          refine T_get dX1_cellAfter_43 fl_X1_37_0 hb rfl ?_
          refine T_if_neN (tgt := 63) dX1_cellAfter_46 (by decide) (by omega) (fun c46 => ?_) (fun c46 => ?_)
          · refine T_iconst (v := 0) dX1_cellAfter_63 (by decide) ?_
            refine T_iload_n dX1_cellAfter_64 rfl ?_
            refine T_iload dX1_cellAfter_65 rfl ?_
            refine T_isub dX1_cellAfter_67 ?_
            refine T_max dX1_cellAfter_68 jl_X1_65 jm_max_1 jm_0 jm_max_2 (nb rfl) (nb rfl) (nb rfl) (nb rfl) ?_
            refine T_top (max_N _ (by omega) _ (by omega)) ?_
            refine T_iret dX1_cellAfter_71 rfl (nb rfl) (nb rfl) ?_
            unfold aft
            rw [if_neg (by omega), if_pos (by assumption)]
            first | rw [if_pos (by assumption)] | rw [if_neg (by assumption)]
            exact ⟨rfl, rfl⟩
          · refine T_aload_n dX1_cellAfter_49 rfl ?_
            refine T_get dX1_cellAfter_50 fl_X1_9_1 hp rfl ?_
            refine T_iload_n dX1_cellAfter_53 rfl ?_
            refine T_iload dX1_cellAfter_54 rfl ?_
            refine T_iaddN dX1_cellAfter_56 ?_
            refine T_min dX1_cellAfter_57 jl_X1_59 jm_min_1 jm_0 jm_min_2 (nb rfl) (nb rfl) (nb rfl) (nb rfl) ?_
            refine T_top (min_N (by omega) (by omega)) ?_
            refine T_goto (tgt := 71) dX1_cellAfter_60 (by decide) ?_
            refine T_iret dX1_cellAfter_71 rfl (nb rfl) (nb rfl) ?_
            unfold aft
            rw [if_neg (by omega), if_pos (by assumption)]
            first | rw [if_pos (by assumption)] | rw [if_neg (by assumption)]
            exact ⟨rfl, rfl⟩
        · refine T_aload_n dX1_cellAfter_29 rfl ?_
          refine T_get dX1_cellAfter_30 fl_X1_52_0 hb rfl ?_
          refine T_goto (tgt := 40) dX1_cellAfter_33 (by decide) ?_
          refine T_istore dX1_cellAfter_40 (by decide) rfl ?_
          refine T_ls (ls2 := [(0, .ref p), (1, .ref b), (2, .int (nI cc)), (3, .int (nI wd)), (4, .int (bI (go = true))), (5, .int (nI (far L wd i)))]) (by unfold far; first | (rw [if_neg (by omega)]; rfl) | (rw [if_pos ⟨hk, by omega⟩]; rfl)) ?_
          refine T_aload_n dX1_cellAfter_42 rfl ?_
          refine T_get dX1_cellAfter_43 fl_X1_37_0 hb rfl ?_
          refine T_if_neN (tgt := 63) dX1_cellAfter_46 (by decide) (by omega) (fun c46 => ?_) (fun c46 => ?_)
          · refine T_iconst (v := 0) dX1_cellAfter_63 (by decide) ?_
            refine T_iload_n dX1_cellAfter_64 rfl ?_
            refine T_iload dX1_cellAfter_65 rfl ?_
            refine T_isub dX1_cellAfter_67 ?_
            refine T_max dX1_cellAfter_68 jl_X1_65 jm_max_1 jm_0 jm_max_2 (nb rfl) (nb rfl) (nb rfl) (nb rfl) ?_
            refine T_top (max_N _ (by omega) _ (by omega)) ?_
            refine T_iret dX1_cellAfter_71 rfl (nb rfl) (nb rfl) ?_
            unfold aft
            rw [if_neg (by omega), if_pos (by assumption)]
            first | rw [if_pos (by assumption)] | rw [if_neg (by assumption)]
            exact ⟨rfl, rfl⟩
          · refine T_aload_n dX1_cellAfter_49 rfl ?_
            refine T_get dX1_cellAfter_50 fl_X1_9_1 hp rfl ?_
            refine T_iload_n dX1_cellAfter_53 rfl ?_
            refine T_iload dX1_cellAfter_54 rfl ?_
            refine T_iaddN dX1_cellAfter_56 ?_
            refine T_min dX1_cellAfter_57 jl_X1_59 jm_min_1 jm_0 jm_min_2 (nb rfl) (nb rfl) (nb rfl) (nb rfl) ?_
            refine T_top (min_N (by omega) (by omega)) ?_
            refine T_goto (tgt := 71) dX1_cellAfter_60 (by decide) ?_
            refine T_iret dX1_cellAfter_71 rfl (nb rfl) (nb rfl) ?_
            unfold aft
            rw [if_neg (by omega), if_pos (by assumption)]
            first | rw [if_pos (by assumption)] | rw [if_neg (by assumption)]
            exact ⟨rfl, rfl⟩
    · refine T_iload_n dX1_cellAfter_13 rfl ?_
      refine T_iret dX1_cellAfter_14 rfl (nb rfl) (nb rfl) ?_
      exact ⟨sN (by unfold aft; first | rw [if_pos (Or.inl (by assumption))] | rw [if_pos (Or.inr (by assumption))]), rfl⟩
theorem c_X1_cellAfter_2 {p b isl wo fl i cc wd : Nat} (hL : LOk L) (hi : i < L_n L) (hk : L_kd L i = 1) (hI : IsR isl L) (hp : h[p]? = some (lkC L isl wo fl)) (hb : h[b]? = some (bO 1 i (L_fr L i) (L_fs L i))) (hc : cc ≤ L_w L) (hw : wd ≤ 2) (go : Bool) : ConE M_X1_cellAfter [.ref p, .ref b, .int (nI cc), .int (nI wd), .int (bI (go = true))] h (some (.int (nI (aft L wd go i cc)))) h := by
  obtain ⟨l4, -, l3, lb, li⟩ := hL
  obtain ⟨q1, -, q3, q4⟩ := lb i hi
  have hfar : far L wd i < 5 := by unfold far; split <;> omega
  have hgo : goal L i ≤ 4 := by unfold goal; split <;> omega
  have e7 : ConE M_X1_goalOf [.ref p, .ref b] h (some (.int (nI (goal L i)))) h := c_X1_goalOf_2 hp hb q1
  refine Con.of rfl (nb rfl) ?_
  refine T_iload_n dX1_cellAfter_0 rfl ?_
  refine T_if_eqN (tgt := 13) dX1_cellAfter_1 (by decide) (by omega) (fun c1 => ?_) (fun c1 => ?_)
  · refine T_iload_n dX1_cellAfter_13 rfl ?_
    refine T_iret dX1_cellAfter_14 rfl (nb rfl) (nb rfl) ?_
    exact ⟨sN (by unfold aft; first | rw [if_pos (Or.inl (by assumption))] | rw [if_pos (Or.inr (by assumption))]), rfl⟩
  · refine T_iload_n dX1_cellAfter_4 rfl ?_
    refine T_aload_n dX1_cellAfter_5 rfl ?_
    refine T_aload_n dX1_cellAfter_6 rfl ?_
    refine T_v1e (cu2 := 0) (su2 := 0) dX1_cellAfter_7 lv_X1_48 rfl hp rfl e7 (nb rfl) (nb rfl) (nb rfl) (nb rfl) (nb rfl) ?_
    refine T_icmp_neN (tgt := 15) dX1_cellAfter_10 (by decide) (by omega) (by omega) (fun c10 => ?_) (fun c10 => ?_)
    · refine T_iload dX1_cellAfter_15 rfl ?_
      refine T_if_eqB (tgt := 72) dX1_cellAfter_17 (by decide) (fun c17 => ?_) (fun c17 => ?_)
      · refine T_iload_n dX1_cellAfter_72 rfl ?_
        refine T_if_eqN (tgt := 92) dX1_cellAfter_73 (by decide) (by omega) (fun c73 => ?_) (fun c73 => ?_)
        · refine T_iload_n dX1_cellAfter_92 rfl ?_
          refine T_iret dX1_cellAfter_93 rfl (nb rfl) (nb rfl) ?_
          unfold aft
          rw [if_neg (by omega), if_neg (by assumption), if_neg]
          · exact ⟨rfl, rfl⟩
          · first | omega | exact fun q => absurd q.2.2 (fun z => by have := (hI.2 cc (by omega)).mp (by assumption); omega)
        · refine T_iload_n dX1_cellAfter_76 rfl ?_
          refine T_aload_n dX1_cellAfter_77 rfl ?_
          refine T_get dX1_cellAfter_78 fl_X1_9_1 hp rfl ?_
          refine T_icmp_eqN (tgt := 92) dX1_cellAfter_81 (by decide) (by omega) (by omega) (fun c81 => ?_) (fun c81 => ?_)
          · refine T_iload_n dX1_cellAfter_92 rfl ?_
            refine T_iret dX1_cellAfter_93 rfl (nb rfl) (nb rfl) ?_
            unfold aft
            rw [if_neg (by omega), if_neg (by assumption), if_neg]
            · exact ⟨rfl, rfl⟩
            · first | omega | exact fun q => absurd q.2.2 (fun z => by have := (hI.2 cc (by omega)).mp (by assumption); omega)
          · refine T_aload_n dX1_cellAfter_84 rfl ?_
            refine T_iload_n dX1_cellAfter_85 rfl ?_
            refine T_v1e (cu2 := 0) (su2 := 0) dX1_cellAfter_86 lv_X1_68 rfl hp rfl (c_X1_hasIsle hp hI.1 (by omega)) (nb rfl) (nb rfl) (nb rfl) (nb rfl) (nb rfl) ?_
            refine T_if_eqB (tgt := 94) dX1_cellAfter_89 (by decide) (fun c89 => ?_) (fun c89 => ?_)
            · refine T_iload_n dX1_cellAfter_94 rfl ?_
              refine T_iconst (v := nI 1) dX1_cellAfter_95 (by decide) ?_
              refine T_icmp_neN (tgt := 105) dX1_cellAfter_96 (by decide) (by omega) (by omega) (fun c96 => ?_) (fun c96 => ?_)
              · refine T_iload_n dX1_cellAfter_105 rfl ?_
                refine T_iconst (v := nI 1) dX1_cellAfter_106 (by decide) ?_
                refine T_isubN dX1_cellAfter_107 (by omega) ?_
                refine T_iret dX1_cellAfter_108 rfl (nb rfl) (nb rfl) ?_
                have hz : L_is L cc = 0 := by
                  have h1 := li cc (by omega)
                  rcases Nat.lt_or_ge (L_is L cc) 1 with q | q
                  · omega
                  · exact absurd ((hI.2 cc (by omega)).mpr (by omega)) (by assumption)
                unfold aft
                rw [if_neg (by omega), if_neg (by assumption), if_pos ⟨by omega, by omega, hz⟩]
                first | rw [if_pos (by assumption)] | rw [if_neg (by assumption)]
                exact ⟨rfl, rfl⟩
              · refine T_iload_n dX1_cellAfter_99 rfl ?_
                refine T_iconst (v := nI 1) dX1_cellAfter_100 (by decide) ?_
                refine T_iaddN dX1_cellAfter_101 ?_
                refine T_goto (tgt := 108) dX1_cellAfter_102 (by decide) ?_
                refine T_iret dX1_cellAfter_108 rfl (nb rfl) (nb rfl) ?_
                have hz : L_is L cc = 0 := by
                  have h1 := li cc (by omega)
                  rcases Nat.lt_or_ge (L_is L cc) 1 with q | q
                  · omega
                  · exact absurd ((hI.2 cc (by omega)).mpr (by omega)) (by assumption)
                unfold aft
                rw [if_neg (by omega), if_neg (by assumption), if_pos ⟨by omega, by omega, hz⟩]
                first | rw [if_pos (by assumption)] | rw [if_neg (by assumption)]
                exact ⟨rfl, rfl⟩
            · refine T_iload_n dX1_cellAfter_92 rfl ?_
              refine T_iret dX1_cellAfter_93 rfl (nb rfl) (nb rfl) ?_
              unfold aft
              rw [if_neg (by omega), if_neg (by assumption), if_neg]
              · exact ⟨rfl, rfl⟩
              · first | omega | exact fun q => absurd q.2.2 (fun z => by have := (hI.2 cc (by omega)).mp (by assumption); omega)
      · refine T_aload_n dX1_cellAfter_20 rfl ?_
        refine T_aload_n dX1_cellAfter_21 rfl ?_
        refine T_iload_n dX1_cellAfter_22 rfl ?_
        refine T_v2e (cu2 := 0) (su2 := 0) dX1_cellAfter_23 lv_X1_44 rfl hp rfl (c_X1_isWith_2 hb q1 hw) (nb rfl) (nb rfl) (nb rfl) (nb rfl) (nb rfl) ?_
        refine T_if_eqB (tgt := 36) dX1_cellAfter_26 (by decide) (fun c26 => ?_) (fun c26 => ?_)
        · refine T_aload_n dX1_cellAfter_36 rfl ?_
          refine T_u0e (cu2 := 0) (su2 := 0) dX1_cellAfter_37 lu_X1_55_X2 rfl hb rfl (c_X2_goesAgainst hb) (nb rfl) (nb rfl) (nb rfl) (nb rfl) (nb rfl) ?_
          refine T_istore dX1_cellAfter_40 (by decide) rfl ?_
          refine T_ls (ls2 := [(0, .ref p), (1, .ref b), (2, .int (nI cc)), (3, .int (nI wd)), (4, .int (bI (go = true))), (5, .int (nI (far L wd i)))]) (by unfold far; first | (rw [if_neg (by omega)]; rfl) | (rw [if_pos ⟨hk, by omega⟩]; rfl)) ?_
          refine T_aload_n dX1_cellAfter_42 rfl ?_
          refine T_get dX1_cellAfter_43 fl_X1_37_2 hb rfl ?_
          refine T_if_neN (tgt := 63) dX1_cellAfter_46 (by decide) (by omega) (fun c46 => ?_) (fun c46 => ?_)
          · refine T_iconst (v := 0) dX1_cellAfter_63 (by decide) ?_
            refine T_iload_n dX1_cellAfter_64 rfl ?_
            refine T_iload dX1_cellAfter_65 rfl ?_
            refine T_isub dX1_cellAfter_67 ?_
            refine T_max dX1_cellAfter_68 jl_X1_65 jm_max_1 jm_0 jm_max_2 (nb rfl) (nb rfl) (nb rfl) (nb rfl) ?_
            refine T_top (max_N _ (by omega) _ (by omega)) ?_
            refine T_iret dX1_cellAfter_71 rfl (nb rfl) (nb rfl) ?_
            unfold aft
            rw [if_neg (by omega), if_pos (by assumption)]
            first | rw [if_pos (by assumption)] | rw [if_neg (by assumption)]
            exact ⟨rfl, rfl⟩
          · refine T_aload_n dX1_cellAfter_49 rfl ?_
            refine T_get dX1_cellAfter_50 fl_X1_9_1 hp rfl ?_
            refine T_iload_n dX1_cellAfter_53 rfl ?_
            refine T_iload dX1_cellAfter_54 rfl ?_
            refine T_iaddN dX1_cellAfter_56 ?_
            refine T_min dX1_cellAfter_57 jl_X1_59 jm_min_1 jm_0 jm_min_2 (nb rfl) (nb rfl) (nb rfl) (nb rfl) ?_
            refine T_top (min_N (by omega) (by omega)) ?_
            refine T_goto (tgt := 71) dX1_cellAfter_60 (by decide) ?_
            refine T_iret dX1_cellAfter_71 rfl (nb rfl) (nb rfl) ?_
            unfold aft
            rw [if_neg (by omega), if_pos (by assumption)]
            first | rw [if_pos (by assumption)] | rw [if_neg (by assumption)]
            exact ⟨rfl, rfl⟩
        · refine T_aload_n dX1_cellAfter_29 rfl ?_
          refine T_get dX1_cellAfter_30 fl_X1_52_2 hb rfl ?_
          refine T_goto (tgt := 40) dX1_cellAfter_33 (by decide) ?_
          refine T_istore dX1_cellAfter_40 (by decide) rfl ?_
          refine T_ls (ls2 := [(0, .ref p), (1, .ref b), (2, .int (nI cc)), (3, .int (nI wd)), (4, .int (bI (go = true))), (5, .int (nI (far L wd i)))]) (by unfold far; first | (rw [if_neg (by omega)]; rfl) | (rw [if_pos ⟨hk, by omega⟩]; rfl)) ?_
          refine T_aload_n dX1_cellAfter_42 rfl ?_
          refine T_get dX1_cellAfter_43 fl_X1_37_2 hb rfl ?_
          refine T_if_neN (tgt := 63) dX1_cellAfter_46 (by decide) (by omega) (fun c46 => ?_) (fun c46 => ?_)
          · refine T_iconst (v := 0) dX1_cellAfter_63 (by decide) ?_
            refine T_iload_n dX1_cellAfter_64 rfl ?_
            refine T_iload dX1_cellAfter_65 rfl ?_
            refine T_isub dX1_cellAfter_67 ?_
            refine T_max dX1_cellAfter_68 jl_X1_65 jm_max_1 jm_0 jm_max_2 (nb rfl) (nb rfl) (nb rfl) (nb rfl) ?_
            refine T_top (max_N _ (by omega) _ (by omega)) ?_
            refine T_iret dX1_cellAfter_71 rfl (nb rfl) (nb rfl) ?_
            unfold aft
            rw [if_neg (by omega), if_pos (by assumption)]
            first | rw [if_pos (by assumption)] | rw [if_neg (by assumption)]
            exact ⟨rfl, rfl⟩
          · refine T_aload_n dX1_cellAfter_49 rfl ?_
            refine T_get dX1_cellAfter_50 fl_X1_9_1 hp rfl ?_
            refine T_iload_n dX1_cellAfter_53 rfl ?_
            refine T_iload dX1_cellAfter_54 rfl ?_
            refine T_iaddN dX1_cellAfter_56 ?_
            refine T_min dX1_cellAfter_57 jl_X1_59 jm_min_1 jm_0 jm_min_2 (nb rfl) (nb rfl) (nb rfl) (nb rfl) ?_
            refine T_top (min_N (by omega) (by omega)) ?_
            refine T_goto (tgt := 71) dX1_cellAfter_60 (by decide) ?_
            refine T_iret dX1_cellAfter_71 rfl (nb rfl) (nb rfl) ?_
            unfold aft
            rw [if_neg (by omega), if_pos (by assumption)]
            first | rw [if_pos (by assumption)] | rw [if_neg (by assumption)]
            exact ⟨rfl, rfl⟩
    · refine T_iload_n dX1_cellAfter_13 rfl ?_
      refine T_iret dX1_cellAfter_14 rfl (nb rfl) (nb rfl) ?_
      exact ⟨sN (by unfold aft; first | rw [if_pos (Or.inl (by assumption))] | rw [if_pos (Or.inr (by assumption))]), rfl⟩
theorem c_X1_cellAfter_8 {p b isl wo fl i cc wd : Nat} (hL : LOk L) (hi : i < L_n L) (hk : L_kd L i = 2) (hI : IsR isl L) (hp : h[p]? = some (lkC L isl wo fl)) (hb : h[b]? = some (bO 2 i (L_fr L i) (L_fs L i))) (hc : cc ≤ L_w L) (hw : wd ≤ 2) (go : Bool) : ConE M_X1_cellAfter [.ref p, .ref b, .int (nI cc), .int (nI wd), .int (bI (go = true))] h (some (.int (nI (aft L wd go i cc)))) h := by
  obtain ⟨l4, -, l3, lb, li⟩ := hL
  obtain ⟨q1, -, q3, q4⟩ := lb i hi
  have hfar : far L wd i < 5 := by unfold far; split <;> omega
  have hgo : goal L i ≤ 4 := by unfold goal; split <;> omega
  have e7 : ConE M_X1_goalOf [.ref p, .ref b] h (some (.int (nI (goal L i)))) h := c_X1_goalOf_8 hp hb q1
  refine Con.of rfl (nb rfl) ?_
  refine T_iload_n dX1_cellAfter_0 rfl ?_
  refine T_if_eqN (tgt := 13) dX1_cellAfter_1 (by decide) (by omega) (fun c1 => ?_) (fun c1 => ?_)
  · refine T_iload_n dX1_cellAfter_13 rfl ?_
    refine T_iret dX1_cellAfter_14 rfl (nb rfl) (nb rfl) ?_
    exact ⟨sN (by unfold aft; first | rw [if_pos (Or.inl (by assumption))] | rw [if_pos (Or.inr (by assumption))]), rfl⟩
  · refine T_iload_n dX1_cellAfter_4 rfl ?_
    refine T_aload_n dX1_cellAfter_5 rfl ?_
    refine T_aload_n dX1_cellAfter_6 rfl ?_
    refine T_v1e (cu2 := 0) (su2 := 0) dX1_cellAfter_7 lv_X1_48 rfl hp rfl e7 (nb rfl) (nb rfl) (nb rfl) (nb rfl) (nb rfl) ?_
    refine T_icmp_neN (tgt := 15) dX1_cellAfter_10 (by decide) (by omega) (by omega) (fun c10 => ?_) (fun c10 => ?_)
    · refine T_iload dX1_cellAfter_15 rfl ?_
      refine T_if_eqB (tgt := 72) dX1_cellAfter_17 (by decide) (fun c17 => ?_) (fun c17 => ?_)
      · refine T_iload_n dX1_cellAfter_72 rfl ?_
        refine T_if_eqN (tgt := 92) dX1_cellAfter_73 (by decide) (by omega) (fun c73 => ?_) (fun c73 => ?_)
        · refine T_iload_n dX1_cellAfter_92 rfl ?_
          refine T_iret dX1_cellAfter_93 rfl (nb rfl) (nb rfl) ?_
          unfold aft
          rw [if_neg (by omega), if_neg (by assumption), if_neg]
          · exact ⟨rfl, rfl⟩
          · first | omega | exact fun q => absurd q.2.2 (fun z => by have := (hI.2 cc (by omega)).mp (by assumption); omega)
        · refine T_iload_n dX1_cellAfter_76 rfl ?_
          refine T_aload_n dX1_cellAfter_77 rfl ?_
          refine T_get dX1_cellAfter_78 fl_X1_9_1 hp rfl ?_
          refine T_icmp_eqN (tgt := 92) dX1_cellAfter_81 (by decide) (by omega) (by omega) (fun c81 => ?_) (fun c81 => ?_)
          · refine T_iload_n dX1_cellAfter_92 rfl ?_
            refine T_iret dX1_cellAfter_93 rfl (nb rfl) (nb rfl) ?_
            unfold aft
            rw [if_neg (by omega), if_neg (by assumption), if_neg]
            · exact ⟨rfl, rfl⟩
            · first | omega | exact fun q => absurd q.2.2 (fun z => by have := (hI.2 cc (by omega)).mp (by assumption); omega)
          · refine T_aload_n dX1_cellAfter_84 rfl ?_
            refine T_iload_n dX1_cellAfter_85 rfl ?_
            refine T_v1e (cu2 := 0) (su2 := 0) dX1_cellAfter_86 lv_X1_68 rfl hp rfl (c_X1_hasIsle hp hI.1 (by omega)) (nb rfl) (nb rfl) (nb rfl) (nb rfl) (nb rfl) ?_
            refine T_if_eqB (tgt := 94) dX1_cellAfter_89 (by decide) (fun c89 => ?_) (fun c89 => ?_)
            · refine T_iload_n dX1_cellAfter_94 rfl ?_
              refine T_iconst (v := nI 1) dX1_cellAfter_95 (by decide) ?_
              refine T_icmp_neN (tgt := 105) dX1_cellAfter_96 (by decide) (by omega) (by omega) (fun c96 => ?_) (fun c96 => ?_)
              · refine T_iload_n dX1_cellAfter_105 rfl ?_
                refine T_iconst (v := nI 1) dX1_cellAfter_106 (by decide) ?_
                refine T_isubN dX1_cellAfter_107 (by omega) ?_
                refine T_iret dX1_cellAfter_108 rfl (nb rfl) (nb rfl) ?_
                have hz : L_is L cc = 0 := by
                  have h1 := li cc (by omega)
                  rcases Nat.lt_or_ge (L_is L cc) 1 with q | q
                  · omega
                  · exact absurd ((hI.2 cc (by omega)).mpr (by omega)) (by assumption)
                unfold aft
                rw [if_neg (by omega), if_neg (by assumption), if_pos ⟨by omega, by omega, hz⟩]
                first | rw [if_pos (by assumption)] | rw [if_neg (by assumption)]
                exact ⟨rfl, rfl⟩
              · refine T_iload_n dX1_cellAfter_99 rfl ?_
                refine T_iconst (v := nI 1) dX1_cellAfter_100 (by decide) ?_
                refine T_iaddN dX1_cellAfter_101 ?_
                refine T_goto (tgt := 108) dX1_cellAfter_102 (by decide) ?_
                refine T_iret dX1_cellAfter_108 rfl (nb rfl) (nb rfl) ?_
                have hz : L_is L cc = 0 := by
                  have h1 := li cc (by omega)
                  rcases Nat.lt_or_ge (L_is L cc) 1 with q | q
                  · omega
                  · exact absurd ((hI.2 cc (by omega)).mpr (by omega)) (by assumption)
                unfold aft
                rw [if_neg (by omega), if_neg (by assumption), if_pos ⟨by omega, by omega, hz⟩]
                first | rw [if_pos (by assumption)] | rw [if_neg (by assumption)]
                exact ⟨rfl, rfl⟩
            · refine T_iload_n dX1_cellAfter_92 rfl ?_
              refine T_iret dX1_cellAfter_93 rfl (nb rfl) (nb rfl) ?_
              unfold aft
              rw [if_neg (by omega), if_neg (by assumption), if_neg]
              · exact ⟨rfl, rfl⟩
              · first | omega | exact fun q => absurd q.2.2 (fun z => by have := (hI.2 cc (by omega)).mp (by assumption); omega)
      · refine T_aload_n dX1_cellAfter_20 rfl ?_
        refine T_aload_n dX1_cellAfter_21 rfl ?_
        refine T_iload_n dX1_cellAfter_22 rfl ?_
        refine T_v2e (cu2 := 0) (su2 := 0) dX1_cellAfter_23 lv_X1_44 rfl hp rfl (c_X1_isWith_8 hb q1 hw) (nb rfl) (nb rfl) (nb rfl) (nb rfl) (nb rfl) ?_
        refine T_if_eqB (tgt := 36) dX1_cellAfter_26 (by decide) (fun c26 => ?_) (fun c26 => ?_)
        · refine T_aload_n dX1_cellAfter_36 rfl ?_
          refine T_u0e (cu2 := 0) (su2 := 0) dX1_cellAfter_37 lu_X1_55_X8 rfl hb rfl (c_X8_goesAgainst hb) (nb rfl) (nb rfl) (nb rfl) (nb rfl) (nb rfl) ?_
          refine T_istore dX1_cellAfter_40 (by decide) rfl ?_
          refine T_ls (ls2 := [(0, .ref p), (1, .ref b), (2, .int (nI cc)), (3, .int (nI wd)), (4, .int (bI (go = true))), (5, .int (nI (far L wd i)))]) (by unfold far; first | (rw [if_neg (by omega)]; rfl) | (rw [if_pos ⟨hk, by omega⟩]; rfl)) ?_
          refine T_aload_n dX1_cellAfter_42 rfl ?_
          refine T_get dX1_cellAfter_43 fl_X1_37_8 hb rfl ?_
          refine T_if_neN (tgt := 63) dX1_cellAfter_46 (by decide) (by omega) (fun c46 => ?_) (fun c46 => ?_)
          · refine T_iconst (v := 0) dX1_cellAfter_63 (by decide) ?_
            refine T_iload_n dX1_cellAfter_64 rfl ?_
            refine T_iload dX1_cellAfter_65 rfl ?_
            refine T_isub dX1_cellAfter_67 ?_
            refine T_max dX1_cellAfter_68 jl_X1_65 jm_max_1 jm_0 jm_max_2 (nb rfl) (nb rfl) (nb rfl) (nb rfl) ?_
            refine T_top (max_N _ (by omega) _ (by omega)) ?_
            refine T_iret dX1_cellAfter_71 rfl (nb rfl) (nb rfl) ?_
            unfold aft
            rw [if_neg (by omega), if_pos (by assumption)]
            first | rw [if_pos (by assumption)] | rw [if_neg (by assumption)]
            exact ⟨rfl, rfl⟩
          · refine T_aload_n dX1_cellAfter_49 rfl ?_
            refine T_get dX1_cellAfter_50 fl_X1_9_1 hp rfl ?_
            refine T_iload_n dX1_cellAfter_53 rfl ?_
            refine T_iload dX1_cellAfter_54 rfl ?_
            refine T_iaddN dX1_cellAfter_56 ?_
            refine T_min dX1_cellAfter_57 jl_X1_59 jm_min_1 jm_0 jm_min_2 (nb rfl) (nb rfl) (nb rfl) (nb rfl) ?_
            refine T_top (min_N (by omega) (by omega)) ?_
            refine T_goto (tgt := 71) dX1_cellAfter_60 (by decide) ?_
            refine T_iret dX1_cellAfter_71 rfl (nb rfl) (nb rfl) ?_
            unfold aft
            rw [if_neg (by omega), if_pos (by assumption)]
            first | rw [if_pos (by assumption)] | rw [if_neg (by assumption)]
            exact ⟨rfl, rfl⟩
        · refine T_aload_n dX1_cellAfter_29 rfl ?_
          refine T_get dX1_cellAfter_30 fl_X1_52_8 hb rfl ?_
          refine T_goto (tgt := 40) dX1_cellAfter_33 (by decide) ?_
          refine T_istore dX1_cellAfter_40 (by decide) rfl ?_
          refine T_ls (ls2 := [(0, .ref p), (1, .ref b), (2, .int (nI cc)), (3, .int (nI wd)), (4, .int (bI (go = true))), (5, .int (nI (far L wd i)))]) (by unfold far; first | (rw [if_neg (by omega)]; rfl) | (rw [if_pos ⟨hk, by omega⟩]; rfl)) ?_
          refine T_aload_n dX1_cellAfter_42 rfl ?_
          refine T_get dX1_cellAfter_43 fl_X1_37_8 hb rfl ?_
          refine T_if_neN (tgt := 63) dX1_cellAfter_46 (by decide) (by omega) (fun c46 => ?_) (fun c46 => ?_)
          · refine T_iconst (v := 0) dX1_cellAfter_63 (by decide) ?_
            refine T_iload_n dX1_cellAfter_64 rfl ?_
            refine T_iload dX1_cellAfter_65 rfl ?_
            refine T_isub dX1_cellAfter_67 ?_
            refine T_max dX1_cellAfter_68 jl_X1_65 jm_max_1 jm_0 jm_max_2 (nb rfl) (nb rfl) (nb rfl) (nb rfl) ?_
            refine T_top (max_N _ (by omega) _ (by omega)) ?_
            refine T_iret dX1_cellAfter_71 rfl (nb rfl) (nb rfl) ?_
            unfold aft
            rw [if_neg (by omega), if_pos (by assumption)]
            first | rw [if_pos (by assumption)] | rw [if_neg (by assumption)]
            exact ⟨rfl, rfl⟩
          · refine T_aload_n dX1_cellAfter_49 rfl ?_
            refine T_get dX1_cellAfter_50 fl_X1_9_1 hp rfl ?_
            refine T_iload_n dX1_cellAfter_53 rfl ?_
            refine T_iload dX1_cellAfter_54 rfl ?_
            refine T_iaddN dX1_cellAfter_56 ?_
            refine T_min dX1_cellAfter_57 jl_X1_59 jm_min_1 jm_0 jm_min_2 (nb rfl) (nb rfl) (nb rfl) (nb rfl) ?_
            refine T_top (min_N (by omega) (by omega)) ?_
            refine T_goto (tgt := 71) dX1_cellAfter_60 (by decide) ?_
            refine T_iret dX1_cellAfter_71 rfl (nb rfl) (nb rfl) ?_
            unfold aft
            rw [if_neg (by omega), if_pos (by assumption)]
            first | rw [if_pos (by assumption)] | rw [if_neg (by assumption)]
            exact ⟨rfl, rfl⟩
    · refine T_iload_n dX1_cellAfter_13 rfl ?_
      refine T_iret dX1_cellAfter_14 rfl (nb rfl) (nb rfl) ?_
      exact ⟨sN (by unfold aft; first | rw [if_pos (Or.inl (by assumption))] | rw [if_pos (Or.inr (by assumption))]), rfl⟩
theorem c_X1_cellAfter {p b isl wo fl i cc wd : Nat} (hL : LOk L) (hi : i < L_n L) (hI : IsR isl L) (hp : h[p]? = some (lkC L isl wo fl)) (hb : h[b]? = some (bCL L i)) (hc : cc ≤ L_w L) (hw : wd ≤ 2) (go : Bool) : ConE M_X1_cellAfter [.ref p, .ref b, .int (nI cc), .int (nI wd), .int (bI (go = true))] h (some (.int (nI (aft L wd go i cc)))) h := by
  have hk := (hL.2.2.2.1 i hi).2.1
  unfold bCL at hb
  rcases k3 hk with e | e | e
  · rw [e] at hb; exact c_X1_cellAfter_0 hL hi e hI hp hb hc hw go
  · rw [e] at hb; exact c_X1_cellAfter_2 hL hi e hI hp hb hc hw go
  · rw [e] at hb; exact c_X1_cellAfter_8 hL hi e hI hp hb hc hw go
theorem lp_X1_states {p isl wo fl : Nat} {Z : XZ} (hL : LOk L) (hp : h[p]? = some (lkC L isl wo fl)) {i : Nat} (hi : i < L_n L) (K : T M_X1_states x_E Z 0 0 4 [(0, .ref p), (1, .int (nI ((L_w L + 1) ^ (i + 1)))), (2, .int (nI (i + 1)))] [] h) : T M_X1_states x_E Z 0 0 4 [(0, .ref p), (1, .int (nI ((L_w L + 1) ^ i))), (2, .int (nI i))] [] h := by
  have h3 := hL.2.2.1
  refine T_iload_n dX1_states_4 rfl ?_
  refine T_aload_n dX1_states_5 rfl ?_
  refine T_get dX1_states_6 fl_X1_21_1 hp rfl ?_
  refine T_icmp_geN (tgt := 27) dX1_states_9 (by decide) (by omega) (by omega) (fun c9 => ?_) (fun c9 => ?_)
  · exact absurd c9 (by omega)
  · refine T_iload_n dX1_states_12 rfl ?_
    refine T_aload_n dX1_states_13 rfl ?_
    refine T_get dX1_states_14 fl_X1_9_1 hp rfl ?_
    refine T_iconst (v := nI 1) dX1_states_17 (by decide) ?_
    refine T_iaddN dX1_states_18 ?_
    refine T_imulN dX1_states_19 ?_
    refine T_istore_n dX1_states_20 (by decide) rfl ?_
    refine T_iincN dX1_states_21 rfl (by decide) rfl ?_
    refine T_goto (tgt := 4) dX1_states_24 (by decide) ?_
    exact K
theorem c_X1_states {p isl wo fl : Nat} (hL : LOk L) (hp : h[p]? = some (lkC L isl wo fl)) : ConE M_X1_states [.ref p] h (some (.int (nI ((L_w L + 1) ^ L_n L)))) h := by
  have h3 := hL.2.2.1
  refine Con.of rfl (nb rfl) ?_
  refine T_iconst (v := nI 1) dX1_states_0 (by decide) ?_
  refine T_istore_n dX1_states_1 (by decide) rfl ?_
  refine T_iconst (v := nI 0) dX1_states_2 (by decide) ?_
  refine T_istore_n dX1_states_3 (by decide) rfl ?_
  refine T_up0 (L := fun i => [(0, .ref p), (1, .int (nI ((L_w L + 1) ^ i))), (2, .int (nI i))]) (Hf := fun _ => h) (L_n L) ?_ (fun i hi K => lp_X1_states hL hp hi K)
  refine T_iload_n dX1_states_4 rfl ?_
  refine T_aload_n dX1_states_5 rfl ?_
  refine T_get dX1_states_6 fl_X1_21_1 hp rfl ?_
  refine T_icmp_geN (tgt := 27) dX1_states_9 (by decide) (by omega) (by omega) (fun c9 => ?_) (fun c9 => ?_)
  · refine T_iload_n dX1_states_27 rfl ?_
    refine T_iret dX1_states_28 rfl (nb rfl) (nb rfl) ?_
    exact ⟨rfl, rfl⟩
  · exact absurd c9 (by omega)
end C2
