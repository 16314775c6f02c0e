/-! Text: a code, a digit, a sign -/
section C61
variable {h : XH} {Z : XZ} {g : Nat → Int32} {a c f n : Nat}
abbrev txO (a c f n : Nat) : XC := .inr (7, [.int (nI a), .ref c, .int (nI f), .int (nI n)])
abbrev r60 (g : Nat → Int32) : XC := .inl (0, 60, .inl g)
theorem c_X7_begin {a0 f0 n0 : Int32} {c0 : Nat} (h2 : h[2]? = some (.inr (7, [.int a0, .ref c0, .int f0, .int n0]))) : ConE M_X7_begin [.ref 2, .ref c, .int (nI f), .int (nI n)] h none (h.set 2 (txO 0 c f n)) := by
  refine Con.of rfl (nb rfl) ?_
  refine T_aload_n dX7_begin_0 rfl ?_
  refine T_aload_n dX7_begin_1 rfl ?_
  refine T_put dX7_begin_2 fp_X7_15_7 h2 (nb rfl) (fun _ => ⟨rfl, rfl⟩) ?_
  try refine T_h (List.set_set ..) ?_
  refine T_aload_n dX7_begin_5 rfl ?_
  refine T_iload_n dX7_begin_6 rfl ?_
  refine T_put dX7_begin_7 fp_X7_19_7 (gs_eq h2) (nb rfl) (fun _ => ⟨rfl, rfl⟩) ?_
  try refine T_h (List.set_set ..) ?_
  refine T_aload_n dX7_begin_10 rfl ?_
  refine T_iconst (v := 0) dX7_begin_11 (by decide) ?_
  refine T_put dX7_begin_12 fp_X7_9_7 (gs_eq h2) (nb rfl) (fun _ => ⟨rfl, rfl⟩) ?_
  try refine T_h (List.set_set ..) ?_
  refine T_aload_n dX7_begin_15 rfl ?_
  refine T_iload_n dX7_begin_16 rfl ?_
  refine T_put dX7_begin_17 fp_X7_22_7 (gs_eq h2) (nb rfl) (fun _ => ⟨rfl, rfl⟩) ?_
  try refine T_h (List.set_set ..) ?_
  refine T_vret dX7_begin_20 rfl (nb rfl) (nb rfl) ?_
  exact ⟨rfl, rfl⟩
theorem c_X7_isNext (h2 : h[2]? = some (txO a c f n)) (hc : h[c]? = some (r60 g)) (ha : a ≤ n) (hn : f + n ≤ 60) (code : Int32) : ConE M_X7_isNext [.ref 2, .int code] h (some (.int (bI (sgP g (f + n) (f + a) code)))) h := by
  refine Con.of rfl (nb rfl) ?_
  refine T_aload_n dX7_isNext_0 rfl ?_
  refine T_get dX7_isNext_1 fl_X7_9_7 h2 rfl ?_
  refine T_aload_n dX7_isNext_4 rfl ?_
  refine T_get dX7_isNext_5 fl_X7_22_7 h2 rfl ?_
  refine T_icmp_geN (tgt := 33) dX7_isNext_8 (by decide) (by omega) (by omega) (fun c8 => ?_) (fun c8 => ?_)
  · refine T_iconst (v := 0) dX7_isNext_33 (by decide) ?_
    refine T_zret dX7_isNext_34 rfl rfl (nb rfl) (nb rfl) ?_
    exact ⟨sI (by first | exact bI_t ⟨by omega, c26⟩ | exact bI_f (fun q => c26 q.2) | exact bI_f (fun q => by have := q.1; omega)), rfl⟩
  · refine T_aload_n dX7_isNext_11 rfl ?_
    refine T_get dX7_isNext_12 fl_X7_15_7 h2 rfl ?_
    refine T_aload_n dX7_isNext_15 rfl ?_
    refine T_get dX7_isNext_16 fl_X7_19_7 h2 rfl ?_
    refine T_aload_n dX7_isNext_19 rfl ?_
    refine T_get dX7_isNext_20 fl_X7_9_7 h2 rfl ?_
    refine T_iaddN dX7_isNext_23 ?_
    refine T_ialdN dX7_isNext_24 hc (by omega) (by decide) ?_
    refine T_iload_n dX7_isNext_25 rfl ?_
    refine T_icmp_ne (tgt := 33) dX7_isNext_26 (by decide) (fun c26 => ?_) (fun c26 => ?_)
    · refine T_iconst (v := 0) dX7_isNext_33 (by decide) ?_
      refine T_zret dX7_isNext_34 rfl rfl (nb rfl) (nb rfl) ?_
      exact ⟨sI (by first | exact bI_t ⟨by omega, c26⟩ | exact bI_f (fun q => c26 q.2) | exact bI_f (fun q => by have := q.1; omega)), rfl⟩
    · refine T_iconst (v := 1) dX7_isNext_29 (by decide) ?_
      refine T_goto (tgt := 34) dX7_isNext_30 (by decide) ?_
      refine T_zret dX7_isNext_34 rfl rfl (nb rfl) (nb rfl) ?_
      exact ⟨sI (by first | exact bI_t ⟨by omega, c26⟩ | exact bI_f (fun q => c26 q.2) | exact bI_f (fun q => by have := q.1; omega)), rfl⟩
abbrev tXa (h : XH) (a c f n : Nat) : XH := h.set 2 (txO a c f n)
theorem c_X7_skip (h2 : h[2]? = some (txO a c f n)) (hc : h[c]? = some (r60 g)) (ha : a ≤ n) (hn : f + n ≤ 60) (code : Int32) : ConE M_X7_skip [.ref 2, .int code] h (some (.int (bI (sgP g (f + n) (f + a) code)))) (tXa h (if sgP g (f + n) (f + a) code then a + 1 else a) c f n) := by
  refine Con.of rfl (nb rfl) ?_
  refine T_aload_n dX7_skip_0 rfl ?_
  refine T_iload_n dX7_skip_1 rfl ?_
  refine T_v1e (cu2 := 0) (su2 := 0) dX7_skip_2 lv_X7_69 rfl h2 rfl (c_X7_isNext h2 hc ha hn _) (nb rfl) (nb rfl) (nb rfl) (nb rfl) (nb rfl) ?_
  refine T_if_neB (tgt := 10) dX7_skip_5 (by decide) (fun c5 => ?_) (fun c5 => ?_)
  · refine T_aload_n dX7_skip_10 rfl ?_
    refine T_dup dX7_skip_11 rfl ?_
    refine T_get dX7_skip_12 fl_X7_9_7 h2 rfl ?_
    refine T_iconst (v := nI 1) dX7_skip_15 (by decide) ?_
    refine T_iaddN dX7_skip_16 ?_
    refine T_put dX7_skip_17 fp_X7_9_7 h2 (nb rfl) (fun _ => ⟨rfl, rfl⟩) ?_
    refine T_iconst (v := 1) dX7_skip_20 (by decide) ?_
    refine T_zret dX7_skip_21 rfl rfl (nb rfl) (nb rfl) ?_
    exact ⟨sI (bI_t c5), by rw [if_pos c5]; rfl⟩
  · refine T_iconst (v := 0) dX7_skip_8 (by decide) ?_
    refine T_zret dX7_skip_9 rfl rfl (nb rfl) (nb rfl) ?_
    exact ⟨sI (bI_f c5), by rw [if_neg c5]; exact gs_id h2⟩
theorem c_X7_skipY (h2 : h[2]? = some (txO a c f n)) (hc : h[c]? = some (r60 g)) (ha : a ≤ n) (hn : f + n ≤ 60) {code : Int32} (hs : sgP g (f + n) (f + a) code) : ConE M_X7_skip [.ref 2, .int code] h (some (.int (bI (sgP g (f + n) (f + a) code)))) (tXa h (a + 1) c f n) := by
  have := c_X7_skip h2 hc ha hn code
  rw [if_pos hs] at this
  exact this
theorem c_X7_skipN (h2 : h[2]? = some (txO a c f n)) (hc : h[c]? = some (r60 g)) (ha : a ≤ n) (hn : f + n ≤ 60) {code : Int32} (hs : ¬ sgP g (f + n) (f + a) code) : ConE M_X7_skip [.ref 2, .int code] h (some (.int (bI (sgP g (f + n) (f + a) code)))) h := by
  have := c_X7_skip h2 hc ha hn code
  rw [if_neg hs, show tXa h a c f n = h from (gs_id h2).symm] at this
  exact this
/-- a digit from lo to hi, or -1 -/
def dgC (g : Nat → Int32) (e p lo hi : Nat) : Int32 := if dgP g e p lo hi then g p - 48 else -1
theorem dgP_of {e p lo hi d : Nat} (hp : p < e) (hd : g p = nI (48 + d)) (h1 : lo ≤ d) (h2 : d ≤ hi) (hh : hi ≤ 9) : dgP g e p lo hi := ⟨hp, by rw [hd]; exact (nI_leI (by omega) (by omega)).mpr (by omega), by rw [hd]; exact (nI_leI (by omega) (by omega)).mpr (by omega)⟩
theorem c_X7_digit (h2 : h[2]? = some (txO a c f n)) (hc : h[c]? = some (r60 g)) (ha : a ≤ n) (hn : f + n ≤ 60) (lo hi : Nat) (hl : lo ≤ hi) (hh : hi ≤ 9) : ConE M_X7_digit [.ref 2, .int (nI lo), .int (nI hi)] h (some (.int (dgC g (f + n) (f + a) lo hi))) (tXa h (if dgP g (f + n) (f + a) lo hi then a + 1 else a) c f n) := by
  have key : ∀ m d, d + m = hi + 1 → lo ≤ d → (∀ e, lo ≤ e → e < d → ¬ sgP g (f + n) (f + a) (nI (48 + e))) → T M_X7_digit x_E (x_ZE M_X7_digit (some (.int (dgC g (f + n) (f + a) lo hi))) (tXa h (if dgP g (f + n) (f + a) lo hi then a + 1 else a) c f n)) 0 0 2 [(0, .ref 2), (1, .int (nI lo)), (2, .int (nI hi)), (3, .int (nI d))] [] h := by
    intro m
    induction m with
    | zero =>
      intro d hd hl2 hno
      have hndg : ¬ dgP g (f + n) (f + a) lo hi := fun q => by
        obtain ⟨e, e1, e2, e3, -⟩ := dig_I hh (by omega) q.2
        exact hno e e1 (by omega) ⟨q.1, e3⟩
      refine T_iload_n dX7_digit_2 rfl ?_
      refine T_iload_n dX7_digit_3 rfl ?_
      refine T_icmp_gtN (tgt := 26) dX7_digit_4 (by decide) (by omega) (by omega) (fun c4 => ?_) (fun c4 => ?_)
      · refine T_iconst (v := (-1)) dX7_digit_26 (by decide) ?_
        refine T_iret dX7_digit_27 rfl (nb rfl) (nb rfl) ?_
        exact ⟨sI (by unfold dgC; rw [if_neg hndg]), by rw [if_neg hndg]; exact gs_id h2⟩
      · exact absurd c4 (by omega)
    | succ m ih =>
      intro d hd hl2 hno
      by_cases hs : sgP g (f + n) (f + a) (nI (48 + d))
      · have hdg := dgP_of hs.1 hs.2 hl2 (show d ≤ hi by omega) hh
        refine T_iload_n dX7_digit_2 rfl ?_
        refine T_iload_n dX7_digit_3 rfl ?_
        refine T_icmp_gtN (tgt := 26) dX7_digit_4 (by decide) (by omega) (by omega) (fun c4 => ?_) (fun c4 => ?_)
        · exact absurd c4 (by omega)
        · refine T_aload_n dX7_digit_7 rfl ?_
          refine T_bipush (v := nI 48) dX7_digit_8 (by decide) ?_
          refine T_iload_n dX7_digit_10 rfl ?_
          refine T_iaddN dX7_digit_11 ?_
          refine T_v1e (cu2 := 0) (su2 := 0) dX7_digit_12 lv_X7_25 rfl h2 rfl (c_X7_skipY h2 hc ha hn hs) (nb rfl) (nb rfl) (nb rfl) (nb rfl) (nb rfl) ?_
          refine T_if_eqB (tgt := 20) dX7_digit_15 (by decide) (fun c15 => ?_) (fun c15 => ?_)
          · exact absurd hs c15
          · refine T_iload_n dX7_digit_18 rfl ?_
            refine T_iret dX7_digit_19 rfl (nb rfl) (nb rfl) ?_
            exact ⟨sI (by unfold dgC; rw [if_pos hdg, hs.2, show (48 : Int32) = nI 48 from rfl, pk_sub (by omega)]; congr 1; omega), by rw [if_pos hdg]⟩
      · refine T_iload_n dX7_digit_2 rfl ?_
        refine T_iload_n dX7_digit_3 rfl ?_
        refine T_icmp_gtN (tgt := 26) dX7_digit_4 (by decide) (by omega) (by omega) (fun c4 => ?_) (fun c4 => ?_)
        · exact absurd c4 (by omega)
        · refine T_aload_n dX7_digit_7 rfl ?_
          refine T_bipush (v := nI 48) dX7_digit_8 (by decide) ?_
          refine T_iload_n dX7_digit_10 rfl ?_
          refine T_iaddN dX7_digit_11 ?_
          refine T_v1e (cu2 := 0) (su2 := 0) dX7_digit_12 lv_X7_25 rfl h2 rfl (c_X7_skipN h2 hc ha hn hs) (nb rfl) (nb rfl) (nb rfl) (nb rfl) (nb rfl) ?_
          refine T_if_eqB (tgt := 20) dX7_digit_15 (by decide) (fun c15 => ?_) (fun c15 => ?_)
          · refine T_iincN dX7_digit_20 rfl (by decide) rfl ?_
            refine T_goto (tgt := 2) dX7_digit_23 (by decide) ?_
            refine ih (d + 1) (by omega) (by omega) (fun e e1 e2 => ?_)
            by_cases z : e = d
            · subst z; exact hs
            · exact hno e e1 (by omega)
          · exact absurd c15 hs
  refine Con.of rfl (nb rfl) ?_
  refine T_iload_n dX7_digit_0 rfl ?_
  refine T_istore_n dX7_digit_1 (by decide) rfl ?_
  exact key (hi + 1 - lo) lo (by omega) (Nat.le_refl _) (fun e e1 e2 => absurd e1 (by omega))
/-- a wind's sign, or -1 -/
def wsC (g : Nat → Int32) (e p : Nat) : Int32 := if p < e ∧ ¬ mWb (g p) = -9 then mWb (g p) else -1
theorem c_X7_windSign (h2 : h[2]? = some (txO a c f n)) (hc : h[c]? = some (r60 g)) (ha : a ≤ n) (hn : f + n ≤ 60) : ConE M_X7_windSign [.ref 2] h (some (.int (wsC g (f + n) (f + a)))) (tXa h (if f + a < f + n ∧ ¬ mWb (g (f + a)) = -9 then a + 1 else a) c f n) := by
  have fin : ∀ (v : Int32) (x : Nat), ((f + a < f + n ∧ ¬ mWb (g (f + a)) = -9) → v = mWb (g (f + a)) ∧ x = a + 1) → (¬ (f + a < f + n ∧ ¬ mWb (g (f + a)) = -9) → v = -1 ∧ x = a) → (some (Value.int v) = some (Value.int (wsC g (f + n) (f + a))) ∧ tXa h x c f n = tXa h (if f + a < f + n ∧ ¬ mWb (g (f + a)) = -9 then a + 1 else a) c f n) := by
    intro v x h1 h2
    unfold wsC
    by_cases q : f + a < f + n ∧ ¬ mWb (g (f + a)) = -9
    · rw [if_pos q, if_pos q, (h1 q).1, (h1 q).2]; exact ⟨rfl, rfl⟩
    · rw [if_neg q, if_neg q, (h2 q).1, (h2 q).2]; exact ⟨rfl, rfl⟩
  refine Con.of rfl (nb rfl) ?_
  by_cases s1 : sgP g (f + n) (f + a) 62
  · have e : mWb (g (f + a)) = 1 := by rw [s1.2]; rfl
    refine T_aload_n dX7_windSign_0 rfl ?_
    refine T_bipush (v := 62) dX7_windSign_1 (by decide) ?_
    refine T_v1e (cu2 := 0) (su2 := 0) dX7_windSign_3 lv_X7_25 rfl h2 rfl (c_X7_skipY h2 hc ha hn s1) (nb rfl) (nb rfl) (nb rfl) (nb rfl) (nb rfl) ?_
    refine T_if_eqB (tgt := 11) dX7_windSign_6 (by decide) (fun c6 => ?_) (fun c6 => ?_)
    · exact absurd s1 c6
    · refine T_iconst (v := 1) dX7_windSign_9 (by decide) ?_
      refine T_iret dX7_windSign_10 rfl (nb rfl) (nb rfl) ?_
      exact fin _ _ (fun _ => ⟨e.symm, rfl⟩) (fun q => absurd ⟨s1.1, by rw [e]; decide⟩ q)
  · by_cases s2 : sgP g (f + n) (f + a) 60
    · have e : mWb (g (f + a)) = 2 := by rw [s2.2]; rfl
      refine T_aload_n dX7_windSign_0 rfl ?_
      refine T_bipush (v := 62) dX7_windSign_1 (by decide) ?_
      refine T_v1e (cu2 := 0) (su2 := 0) dX7_windSign_3 lv_X7_25 rfl h2 rfl (c_X7_skipN h2 hc ha hn s1) (nb rfl) (nb rfl) (nb rfl) (nb rfl) (nb rfl) ?_
      refine T_if_eqB (tgt := 11) dX7_windSign_6 (by decide) (fun c6 => ?_) (fun c6 => ?_)
      · refine T_aload_n dX7_windSign_11 rfl ?_
        refine T_bipush (v := 60) dX7_windSign_12 (by decide) ?_
        refine T_v1e (cu2 := 0) (su2 := 0) dX7_windSign_14 lv_X7_25 rfl h2 rfl (c_X7_skipY h2 hc ha hn s2) (nb rfl) (nb rfl) (nb rfl) (nb rfl) (nb rfl) ?_
        refine T_if_eqB (tgt := 22) dX7_windSign_17 (by decide) (fun c17 => ?_) (fun c17 => ?_)
        · exact absurd s2 c17
        · refine T_iconst (v := 2) dX7_windSign_20 (by decide) ?_
          refine T_iret dX7_windSign_21 rfl (nb rfl) (nb rfl) ?_
          exact fin _ _ (fun _ => ⟨e.symm, rfl⟩) (fun q => absurd ⟨s2.1, by rw [e]; decide⟩ q)
      · exact absurd c6 s1
    · by_cases s3 : sgP g (f + n) (f + a) 46
      · have e : mWb (g (f + a)) = 0 := by rw [s3.2]; rfl
        refine T_aload_n dX7_windSign_0 rfl ?_
        refine T_bipush (v := 62) dX7_windSign_1 (by decide) ?_
        refine T_v1e (cu2 := 0) (su2 := 0) dX7_windSign_3 lv_X7_25 rfl h2 rfl (c_X7_skipN h2 hc ha hn s1) (nb rfl) (nb rfl) (nb rfl) (nb rfl) (nb rfl) ?_
        refine T_if_eqB (tgt := 11) dX7_windSign_6 (by decide) (fun c6 => ?_) (fun c6 => ?_)
        · refine T_aload_n dX7_windSign_11 rfl ?_
          refine T_bipush (v := 60) dX7_windSign_12 (by decide) ?_
          refine T_v1e (cu2 := 0) (su2 := 0) dX7_windSign_14 lv_X7_25 rfl h2 rfl (c_X7_skipN h2 hc ha hn s2) (nb rfl) (nb rfl) (nb rfl) (nb rfl) (nb rfl) ?_
          refine T_if_eqB (tgt := 22) dX7_windSign_17 (by decide) (fun c17 => ?_) (fun c17 => ?_)
          · refine T_aload_n dX7_windSign_22 rfl ?_
            refine T_bipush (v := 46) dX7_windSign_23 (by decide) ?_
            refine T_v1e (cu2 := 0) (su2 := 0) dX7_windSign_25 lv_X7_25 rfl h2 rfl (c_X7_skipY h2 hc ha hn s3) (nb rfl) (nb rfl) (nb rfl) (nb rfl) (nb rfl) ?_
            refine T_if_eqB (tgt := 35) dX7_windSign_28 (by decide) (fun c28 => ?_) (fun c28 => ?_)
            · exact absurd s3 c28
            · refine T_iconst (v := 0) dX7_windSign_31 (by decide) ?_
              refine T_goto (tgt := 36) dX7_windSign_32 (by decide) ?_
              refine T_iret dX7_windSign_36 rfl (nb rfl) (nb rfl) ?_
              exact fin _ _ (fun _ => ⟨e.symm, rfl⟩) (fun q => absurd ⟨s3.1, by rw [e]; decide⟩ q)
          · exact absurd c17 s2
        · exact absurd c6 s1
      · have e : ¬ (f + a < f + n ∧ ¬ mWb (g (f + a)) = -9) := fun q => q.2 (by
          unfold mWb
          rw [if_neg (fun z => s3 ⟨q.1, z⟩), if_neg (fun z => s1 ⟨q.1, z⟩), if_neg (fun z => s2 ⟨q.1, z⟩)])
        refine T_h (gs_id h2) ?_
        have g2 : (tXa h a c f n)[2]? = some (txO a c f n) := gs_eq h2
        have gc : (tXa h a c f n)[c]? = some (r60 g) := gs_tg h2 hc rfl
        refine T_aload_n dX7_windSign_0 rfl ?_
        refine T_bipush (v := 62) dX7_windSign_1 (by decide) ?_
        refine T_v1e (cu2 := 0) (su2 := 0) dX7_windSign_3 lv_X7_25 rfl g2 rfl (c_X7_skipN g2 gc ha hn s1) (nb rfl) (nb rfl) (nb rfl) (nb rfl) (nb rfl) ?_
        refine T_if_eqB (tgt := 11) dX7_windSign_6 (by decide) (fun c6 => ?_) (fun c6 => ?_)
        · refine T_aload_n dX7_windSign_11 rfl ?_
          refine T_bipush (v := 60) dX7_windSign_12 (by decide) ?_
          refine T_v1e (cu2 := 0) (su2 := 0) dX7_windSign_14 lv_X7_25 rfl g2 rfl (c_X7_skipN g2 gc ha hn s2) (nb rfl) (nb rfl) (nb rfl) (nb rfl) (nb rfl) ?_
          refine T_if_eqB (tgt := 22) dX7_windSign_17 (by decide) (fun c17 => ?_) (fun c17 => ?_)
          · refine T_aload_n dX7_windSign_22 rfl ?_
            refine T_bipush (v := 46) dX7_windSign_23 (by decide) ?_
            refine T_v1e (cu2 := 0) (su2 := 0) dX7_windSign_25 lv_X7_25 rfl g2 rfl (c_X7_skipN g2 gc ha hn s3) (nb rfl) (nb rfl) (nb rfl) (nb rfl) (nb rfl) ?_
            refine T_if_eqB (tgt := 35) dX7_windSign_28 (by decide) (fun c28 => ?_) (fun c28 => ?_)
            · refine T_iconst (v := (-1)) dX7_windSign_35 (by decide) ?_
              refine T_iret dX7_windSign_36 rfl (nb rfl) (nb rfl) ?_
              exact fin _ _ (fun q => absurd q e) (fun _ => ⟨rfl, rfl⟩)
            · exact absurd c28 s3
          · exact absurd c17 s2
        · exact absurd c6 s1
/-- a kind's letter, or -1 -/
def ksC (g : Nat → Int32) (e p : Nat) : Int32 := if p < e ∧ ¬ kdV (g p) = -9 then kdV (g p) else -1
theorem c_X7_kindLetter (h2 : h[2]? = some (txO a c f n)) (hc : h[c]? = some (r60 g)) (ha : a ≤ n) (hn : f + n ≤ 60) : ConE M_X7_kindLetter [.ref 2] h (some (.int (ksC g (f + n) (f + a)))) (tXa h (if f + a < f + n ∧ ¬ kdV (g (f + a)) = -9 then a + 1 else a) c f n) := by
  have fin : ∀ (v : Int32) (x : Nat), ((f + a < f + n ∧ ¬ kdV (g (f + a)) = -9) → v = kdV (g (f + a)) ∧ x = a + 1) → (¬ (f + a < f + n ∧ ¬ kdV (g (f + a)) = -9) → v = -1 ∧ x = a) → (some (Value.int v) = some (Value.int (ksC g (f + n) (f + a))) ∧ tXa h x c f n = tXa h (if f + a < f + n ∧ ¬ kdV (g (f + a)) = -9 then a + 1 else a) c f n) := by
    intro v x h1 h2
    unfold ksC
    by_cases q : f + a < f + n ∧ ¬ kdV (g (f + a)) = -9
    · rw [if_pos q, if_pos q, (h1 q).1, (h1 q).2]; exact ⟨rfl, rfl⟩
    · rw [if_neg q, if_neg q, (h2 q).1, (h2 q).2]; exact ⟨rfl, rfl⟩
  refine Con.of rfl (nb rfl) ?_
  by_cases s1 : sgP g (f + n) (f + a) 98
  · have e : kdV (g (f + a)) = 0 := by rw [s1.2]; rfl
    refine T_aload_n dX7_kindLetter_0 rfl ?_
    refine T_bipush (v := 98) dX7_kindLetter_1 (by decide) ?_
    refine T_v1e (cu2 := 0) (su2 := 0) dX7_kindLetter_3 lv_X7_25 rfl h2 rfl (c_X7_skipY h2 hc ha hn s1) (nb rfl) (nb rfl) (nb rfl) (nb rfl) (nb rfl) ?_
    refine T_if_eqB (tgt := 11) dX7_kindLetter_6 (by decide) (fun c6 => ?_) (fun c6 => ?_)
    · exact absurd s1 c6
    · refine T_iconst (v := 0) dX7_kindLetter_9 (by decide) ?_
      refine T_iret dX7_kindLetter_10 rfl (nb rfl) (nb rfl) ?_
      exact fin _ _ (fun _ => ⟨e.symm, rfl⟩) (fun q => absurd ⟨s1.1, by rw [e]; decide⟩ q)
  · by_cases s2 : sgP g (f + n) (f + a) 111
    · have e : kdV (g (f + a)) = 1 := by rw [s2.2]; rfl
      refine T_aload_n dX7_kindLetter_0 rfl ?_
      refine T_bipush (v := 98) dX7_kindLetter_1 (by decide) ?_
      refine T_v1e (cu2 := 0) (su2 := 0) dX7_kindLetter_3 lv_X7_25 rfl h2 rfl (c_X7_skipN h2 hc ha hn s1) (nb rfl) (nb rfl) (nb rfl) (nb rfl) (nb rfl) ?_
      refine T_if_eqB (tgt := 11) dX7_kindLetter_6 (by decide) (fun c6 => ?_) (fun c6 => ?_)
      · refine T_aload_n dX7_kindLetter_11 rfl ?_
        refine T_bipush (v := 111) dX7_kindLetter_12 (by decide) ?_
        refine T_v1e (cu2 := 0) (su2 := 0) dX7_kindLetter_14 lv_X7_25 rfl h2 rfl (c_X7_skipY h2 hc ha hn s2) (nb rfl) (nb rfl) (nb rfl) (nb rfl) (nb rfl) ?_
        refine T_if_eqB (tgt := 22) dX7_kindLetter_17 (by decide) (fun c17 => ?_) (fun c17 => ?_)
        · exact absurd s2 c17
        · refine T_iconst (v := 1) dX7_kindLetter_20 (by decide) ?_
          refine T_iret dX7_kindLetter_21 rfl (nb rfl) (nb rfl) ?_
          exact fin _ _ (fun _ => ⟨e.symm, rfl⟩) (fun q => absurd ⟨s2.1, by rw [e]; decide⟩ q)
      · exact absurd c6 s1
    · by_cases s3 : sgP g (f + n) (f + a) 116
      · have e : kdV (g (f + a)) = 2 := by rw [s3.2]; rfl
        refine T_aload_n dX7_kindLetter_0 rfl ?_
        refine T_bipush (v := 98) dX7_kindLetter_1 (by decide) ?_
        refine T_v1e (cu2 := 0) (su2 := 0) dX7_kindLetter_3 lv_X7_25 rfl h2 rfl (c_X7_skipN h2 hc ha hn s1) (nb rfl) (nb rfl) (nb rfl) (nb rfl) (nb rfl) ?_
        refine T_if_eqB (tgt := 11) dX7_kindLetter_6 (by decide) (fun c6 => ?_) (fun c6 => ?_)
        · refine T_aload_n dX7_kindLetter_11 rfl ?_
          refine T_bipush (v := 111) dX7_kindLetter_12 (by decide) ?_
          refine T_v1e (cu2 := 0) (su2 := 0) dX7_kindLetter_14 lv_X7_25 rfl h2 rfl (c_X7_skipN h2 hc ha hn s2) (nb rfl) (nb rfl) (nb rfl) (nb rfl) (nb rfl) ?_
          refine T_if_eqB (tgt := 22) dX7_kindLetter_17 (by decide) (fun c17 => ?_) (fun c17 => ?_)
          · refine T_aload_n dX7_kindLetter_22 rfl ?_
            refine T_bipush (v := 116) dX7_kindLetter_23 (by decide) ?_
            refine T_v1e (cu2 := 0) (su2 := 0) dX7_kindLetter_25 lv_X7_25 rfl h2 rfl (c_X7_skipY h2 hc ha hn s3) (nb rfl) (nb rfl) (nb rfl) (nb rfl) (nb rfl) ?_
            refine T_if_eqB (tgt := 35) dX7_kindLetter_28 (by decide) (fun c28 => ?_) (fun c28 => ?_)
            · exact absurd s3 c28
            · refine T_iconst (v := 2) dX7_kindLetter_31 (by decide) ?_
              refine T_goto (tgt := 36) dX7_kindLetter_32 (by decide) ?_
              refine T_iret dX7_kindLetter_36 rfl (nb rfl) (nb rfl) ?_
              exact fin _ _ (fun _ => ⟨e.symm, rfl⟩) (fun q => absurd ⟨s3.1, by rw [e]; decide⟩ q)
          · exact absurd c17 s2
        · exact absurd c6 s1
      · have e : ¬ (f + a < f + n ∧ ¬ kdV (g (f + a)) = -9) := fun q => q.2 (by
          unfold kdV
          rw [if_neg (fun z => s1 ⟨q.1, z⟩), if_neg (fun z => s2 ⟨q.1, z⟩), if_neg (fun z => s3 ⟨q.1, z⟩)])
        refine T_h (gs_id h2) ?_
        have g2 : (tXa h a c f n)[2]? = some (txO a c f n) := gs_eq h2
        have gc : (tXa h a c f n)[c]? = some (r60 g) := gs_tg h2 hc rfl
        refine T_aload_n dX7_kindLetter_0 rfl ?_
        refine T_bipush (v := 98) dX7_kindLetter_1 (by decide) ?_
        refine T_v1e (cu2 := 0) (su2 := 0) dX7_kindLetter_3 lv_X7_25 rfl g2 rfl (c_X7_skipN g2 gc ha hn s1) (nb rfl) (nb rfl) (nb rfl) (nb rfl) (nb rfl) ?_
        refine T_if_eqB (tgt := 11) dX7_kindLetter_6 (by decide) (fun c6 => ?_) (fun c6 => ?_)
        · refine T_aload_n dX7_kindLetter_11 rfl ?_
          refine T_bipush (v := 111) dX7_kindLetter_12 (by decide) ?_
          refine T_v1e (cu2 := 0) (su2 := 0) dX7_kindLetter_14 lv_X7_25 rfl g2 rfl (c_X7_skipN g2 gc ha hn s2) (nb rfl) (nb rfl) (nb rfl) (nb rfl) (nb rfl) ?_
          refine T_if_eqB (tgt := 22) dX7_kindLetter_17 (by decide) (fun c17 => ?_) (fun c17 => ?_)
          · refine T_aload_n dX7_kindLetter_22 rfl ?_
            refine T_bipush (v := 116) dX7_kindLetter_23 (by decide) ?_
            refine T_v1e (cu2 := 0) (su2 := 0) dX7_kindLetter_25 lv_X7_25 rfl g2 rfl (c_X7_skipN g2 gc ha hn s3) (nb rfl) (nb rfl) (nb rfl) (nb rfl) (nb rfl) ?_
            refine T_if_eqB (tgt := 35) dX7_kindLetter_28 (by decide) (fun c28 => ?_) (fun c28 => ?_)
            · refine T_iconst (v := (-1)) dX7_kindLetter_35 (by decide) ?_
              refine T_iret dX7_kindLetter_36 rfl (nb rfl) (nb rfl) ?_
              exact fin _ _ (fun q => absurd q e) (fun _ => ⟨rfl, rfl⟩)
            · exact absurd c28 s3
          · exact absurd c17 s2
        · exact absurd c6 s1
end C61
