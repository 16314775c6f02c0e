/-! Text: the water, the winds -/
theorem ne_tg {h : XH} {k j : Nat} {a b : XC} (hk : h[k]? = some a) (hj : h[j]? = some b) (ht : tne a b = true) : k ≠ j := by
  intro e
  subst e
  rw [hk] at hj
  cases hj
  rw [tne_self] at ht
  cases ht
section C62
variable {h : XH} {Z : XZ} {g : Nat → Int32} {a c f n sp wo fl : Nat}
theorem c_X7_digitY (h2 : h[2]? = some (txO a c f n)) (hc : h[c]? = some (r60 g)) (ha : a ≤ n) (hn : f + n ≤ 60) {lo hi d : Nat} (hl : lo ≤ hi) (hh : hi ≤ 9) (hp : a < n) (hd : g (f + a) = nI (48 + d)) (h1 : lo ≤ d) (h3 : d ≤ hi) : ConE M_X7_digit [.ref 2, .int (nI lo), .int (nI hi)] h (some (.int (nI d))) (tXa h (a + 1) c f n) := by
  have hdg : dgP g (f + n) (f + a) lo hi := dgP_of (by omega) hd h1 h3 hh
  have := c_X7_digit h2 hc ha hn lo hi hl hh
  unfold dgC at this
  rw [if_pos hdg, if_pos hdg, hd, show (48 : Int32) = nI 48 from rfl, pk_sub (by omega), show 48 + d - 48 = d by omega] at this
  exact this
theorem c_X7_digitN (h2 : h[2]? = some (txO a c f n)) (hc : h[c]? = some (r60 g)) (ha : a ≤ n) (hn : f + n ≤ 60) {lo hi : Nat} (hl : lo ≤ hi) (hh : hi ≤ 9) (hdg : ¬ dgP g (f + n) (f + a) lo hi) : ConE M_X7_digit [.ref 2, .int (nI lo), .int (nI hi)] h (some (.int (-1))) h := by
  have := c_X7_digit h2 hc ha hn lo hi hl hh
  unfold dgC at this
  rw [if_neg hdg, if_neg hdg, show tXa h a c f n = h from (gs_id h2).symm] at this
  exact this
theorem c_X7_windSignY (h2 : h[2]? = some (txO a c f n)) (hc : h[c]? = some (r60 g)) (ha : a ≤ n) (hn : f + n ≤ 60) {w : Nat} (hp : a < n) (hd : mWb (g (f + a)) = nI w) (hw : w ≤ 2) : ConE M_X7_windSign [.ref 2] h (some (.int (nI w))) (tXa h (a + 1) c f n) := by
  have hq : f + a < f + n ∧ ¬ mWb (g (f + a)) = -9 := ⟨by omega, by rw [hd]; exact nI_m9 (by omega)⟩
  have := c_X7_windSign h2 hc ha hn
  unfold wsC at this
  rw [if_pos hq, if_pos hq, hd] at this
  exact this
theorem c_X7_windSignN (h2 : h[2]? = some (txO a c f n)) (hc : h[c]? = some (r60 g)) (ha : a ≤ n) (hn : f + n ≤ 60) (hq : ¬ (f + a < f + n ∧ ¬ mWb (g (f + a)) = -9)) : ConE M_X7_windSign [.ref 2] h (some (.int (-1))) h := by
  have := c_X7_windSign h2 hc ha hn
  unfold wsC at this
  rw [if_neg hq, if_neg hq, show tXa h a c f n = h from (gs_id h2).symm] at this
  exact this
theorem c_X7_kindLetterY (h2 : h[2]? = some (txO a c f n)) (hc : h[c]? = some (r60 g)) (ha : a ≤ n) (hn : f + n ≤ 60) {w : Nat} (hp : a < n) (hd : kdV (g (f + a)) = nI w) (hw : w ≤ 2) : ConE M_X7_kindLetter [.ref 2] h (some (.int (nI w))) (tXa h (a + 1) c f n) := by
  have hq : f + a < f + n ∧ ¬ kdV (g (f + a)) = -9 := ⟨by omega, by rw [hd]; exact nI_m9 (by omega)⟩
  have := c_X7_kindLetter h2 hc ha hn
  unfold ksC at this
  rw [if_pos hq, if_pos hq, hd] at this
  exact this
theorem c_X7_kindLetterN (h2 : h[2]? = some (txO a c f n)) (hc : h[c]? = some (r60 g)) (ha : a ≤ n) (hn : f + n ≤ 60) (hq : ¬ (f + a < f + n ∧ ¬ kdV (g (f + a)) = -9)) : ConE M_X7_kindLetter [.ref 2] h (some (.int (-1))) h := by
  have := c_X7_kindLetter h2 hc ha hn
  unfold ksC at this
  rw [if_neg hq, if_neg hq, show tXa h a c f n = h from (gs_id h2).symm] at this
  exact this
theorem mWb_N (k : Int32) : mWb k = -9 ∨ ∃ w, w ≤ 2 ∧ mWb k = nI w := by
  unfold mWb
  split
  · exact Or.inr ⟨0, by decide, rfl⟩
  split
  · exact Or.inr ⟨1, by decide, rfl⟩
  split
  · exact Or.inr ⟨2, by decide, rfl⟩
  · exact Or.inl rfl
theorem kdV_N (k : Int32) : kdV k = -9 ∨ ∃ w, w ≤ 2 ∧ kdV k = nI w := by
  unfold kdV
  split
  · exact Or.inr ⟨0, by decide, rfl⟩
  split
  · exact Or.inr ⟨1, by decide, rfl⟩
  split
  · exact Or.inr ⟨2, by decide, rfl⟩
  · exact Or.inl rfl
/-- the heap while a text is read: its reader at 2, the lake at sp -/
abbrev r10 (W : Nat → Int32) : XC := .inl (0, 10, .inl W)
def tL (h : XH) (c f n sp wo fl : Nat) (a w il hh nb : Nat) (W : Nat → Int32) (F : Nat → Option Nat) : XH := (((h.set 2 (txO a c f n)).set sp (lkO w il hh nb wo fl)).set wo (r10 W)).set fl (flO F)
/-- what it needs of the heap -/
def TxB (h : XH) (c sp wo fl : Nat) (g : Nat → Int32) : Prop := (∃ x1 x2 x3 x4, h[2]? = some (.inr (7, [.int x1, .ref x2, .int x3, .int x4]))) ∧ (∃ x1 x2 x3 x4, h[sp]? = some (.inr (1, [.int x1, .int x2, .int x3, .int x4, .ref wo, .ref fl]))) ∧ (∃ W, h[wo]? = some (r10 W)) ∧ (∃ F, h[fl]? = some (flO F)) ∧ h[c]? = some (r60 g)
variable {w il hh nb : Nat} {W : Nat → Int32} {F : Nat → Option Nat}
theorem tL_all (hB : TxB h c sp wo fl g) : (tL h c f n sp wo fl a w il hh nb W F)[2]? = some (txO a c f n) ∧ (tL h c f n sp wo fl a w il hh nb W F)[sp]? = some (lkO w il hh nb wo fl) ∧ (tL h c f n sp wo fl a w il hh nb W F)[wo]? = some (r10 W) ∧ (tL h c f n sp wo fl a w il hh nb W F)[fl]? = some (flO F) ∧ (tL h c f n sp wo fl a w il hh nb W F)[c]? = some (r60 g) := by
  obtain ⟨⟨x1, x2, x3, x4, h2⟩, ⟨y1, y2, y3, y4, hs⟩, ⟨W0, hw⟩, ⟨F0, hf⟩, hc⟩ := hB
  have s1 : (h.set 2 (txO a c f n))[sp]? = _ := gs_tg h2 hs rfl
  have w1 : (h.set 2 (txO a c f n))[wo]? = _ := gs_tg h2 hw rfl
  have f1 : (h.set 2 (txO a c f n))[fl]? = _ := gs_tg h2 hf rfl
  have c1 : (h.set 2 (txO a c f n))[c]? = _ := gs_tg h2 hc rfl
  have t1 : (h.set 2 (txO a c f n))[2]? = _ := gs_eq h2
  have t2 : ((h.set 2 (txO a c f n)).set sp (lkO w il hh nb wo fl))[2]? = _ := gs_tg s1 t1 rfl
  have s2 : ((h.set 2 (txO a c f n)).set sp (lkO w il hh nb wo fl))[sp]? = _ := gs_eq s1
  have w2 : ((h.set 2 (txO a c f n)).set sp (lkO w il hh nb wo fl))[wo]? = _ := gs_tg s1 w1 rfl
  have f2 : ((h.set 2 (txO a c f n)).set sp (lkO w il hh nb wo fl))[fl]? = _ := gs_tg s1 f1 rfl
  have c2 : ((h.set 2 (txO a c f n)).set sp (lkO w il hh nb wo fl))[c]? = _ := gs_tg s1 c1 rfl
  have t3 : (((h.set 2 (txO a c f n)).set sp (lkO w il hh nb wo fl)).set wo (r10 W))[2]? = _ := gs_tg w2 t2 rfl
  have s3 : (((h.set 2 (txO a c f n)).set sp (lkO w il hh nb wo fl)).set wo (r10 W))[sp]? = _ := gs_tg w2 s2 rfl
  have w3 : (((h.set 2 (txO a c f n)).set sp (lkO w il hh nb wo fl)).set wo (r10 W))[wo]? = _ := gs_eq w2
  have f3 : (((h.set 2 (txO a c f n)).set sp (lkO w il hh nb wo fl)).set wo (r10 W))[fl]? = _ := gs_tg w2 f2 rfl
  have c3 : (((h.set 2 (txO a c f n)).set sp (lkO w il hh nb wo fl)).set wo (r10 W))[c]? = _ := gs_tg w2 c2 rfl
  exact ⟨gs_tg f3 t3 rfl, gs_tg f3 s3 rfl, gs_tg f3 w3 rfl, gs_eq f3, gs_tg f3 c3 rfl⟩
theorem TxB.ne (hB : TxB h c sp wo fl g) : 2 ≠ sp ∧ 2 ≠ wo ∧ 2 ≠ fl ∧ sp ≠ wo ∧ sp ≠ fl ∧ wo ≠ fl := by
  obtain ⟨⟨x1, x2, x3, x4, h2⟩, ⟨y1, y2, y3, y4, hs⟩, ⟨W0, hw⟩, ⟨F0, hf⟩, hc⟩ := hB
  exact ⟨ne_tg h2 hs rfl, ne_tg h2 hw rfl, ne_tg h2 hf rfl, ne_tg hs hw rfl, ne_tg hs hf rfl, ne_tg hw hf rfl⟩
theorem tL_2 (hB : TxB h c sp wo fl g) {a2 : Nat} : tXa (tL h c f n sp wo fl a w il hh nb W F) a2 c f n = tL h c f n sp wo fl a2 w il hh nb W F := by
  obtain ⟨n1, n2, n3, n4, n5, n6⟩ := hB.ne
  unfold tL tXa
  rw [List.set_comm _ _ n3.symm, List.set_comm _ _ n2.symm, List.set_comm _ _ n1.symm, List.set_set]
theorem tL_sp (hB : TxB h c sp wo fl g) {w2 il2 hh2 nb2 : Nat} : (tL h c f n sp wo fl a w il hh nb W F).set sp (lkO w2 il2 hh2 nb2 wo fl) = tL h c f n sp wo fl a w2 il2 hh2 nb2 W F := by
  obtain ⟨n1, n2, n3, n4, n5, n6⟩ := hB.ne
  unfold tL
  rw [List.set_comm _ _ n5.symm, List.set_comm _ _ n4.symm, List.set_set]
theorem tL_wo (hB : TxB h c sp wo fl g) {W2 : Nat → Int32} : (tL h c f n sp wo fl a w il hh nb W F).set wo (r10 W2) = tL h c f n sp wo fl a w il hh nb W2 F := by
  obtain ⟨n1, n2, n3, n4, n5, n6⟩ := hB.ne
  unfold tL
  rw [List.set_comm _ _ n6.symm, List.set_set]
theorem tL_fl {F2 : Nat → Option Nat} : (tL h c f n sp wo fl a w il hh nb W F).set fl (flO F2) = tL h c f n sp wo fl a w il hh nb W F2 := List.set_set ..
/-- the first part of a text: the place reached, whether all is well -/
def rwP (g : Nat → Int32) (e s : Nat) : Nat × Bool :=
  if sgP g e s 119 then (if dgP g e (s + 1) 2 4 then (if islP g e (wdP g (s + 1) - 1) (s + 2) = wdP g (s + 1) - 1 then (if sgP g e (s + 1 + wdP g (s + 1)) 59 then (s + 2 + wdP g (s + 1), true) else (s + 1 + wdP g (s + 1), false)) else (s + 2 + islP g e (wdP g (s + 1) - 1) (s + 2), false)) else (s + 1, false)) else (s, false)
/-- the isles of the cells below k, as bits -/
def IlR (g : Nat → Int32) (s k il : Nat) : Prop := il < 2 ^ k ∧ ∀ j, j < 5 → (il.testBit j = true ↔ (0 < j ∧ j < k ∧ g (s + 1 + j) - 48 = 1))
theorem il_or : ∀ d, d < 2 → ∀ k, k < 4 → ∀ il, il < 16 → il < 2 ^ k → nI il ||| (nI d <<< (nI k &&& 31)) = nI (il + d * 2 ^ k) := by decide
theorem IlR.next {s k il d : Nat} (h : IlR g s k il) (h0 : 0 < k) (hk : k < 4) (hd : d < 2) (hg : g (s + 1 + k) = nI (48 + d)) : IlR g s (k + 1) (il + d * 2 ^ k) := by
  have e48 : g (s + 1 + k) - 48 = nI d := by rw [hg, show (48 : Int32) = nI 48 from rfl, pk_sub (by omega)]; congr 1; omega
  have t := tb_add h.1
  rcases (show d = 0 ∨ d = 1 by omega) with rfl | rfl
  · rw [show il + 0 * 2 ^ k = il by omega]
    refine ⟨by have := h.1; rw [Nat.pow_succ]; omega, fun j hj => ?_⟩
    rw [h.2 j hj]
    constructor
    · exact fun q => ⟨q.1, by omega, q.2.2⟩
    · intro q
      by_cases z : j = k
      · subst z
        rw [e48] at q
        exact absurd q.2.2 (by decide)
      · exact ⟨q.1, by omega, q.2.2⟩
  · rw [Nat.one_mul]
    refine ⟨by have := h.1; rw [Nat.pow_succ]; omega, fun j hj => ?_⟩
    rcases Nat.lt_trichotomy j k with z | z | z
    · rw [t.1 j z, h.2 j hj]
      exact ⟨fun q => ⟨q.1, by omega, q.2.2⟩, fun q => ⟨q.1, z, q.2.2⟩⟩
    · subst z
      rw [t.2.1]
      exact ⟨fun _ => ⟨h0, by omega, e48⟩, fun _ => rfl⟩
    · rw [Nat.testBit_lt_two_pow (Nat.lt_of_lt_of_le (show il + 2 ^ k < 2 ^ (k + 1) by have := h.1; rw [Nat.pow_succ]; omega) (Nat.pow_le_pow_right (by decide) (show k + 1 ≤ j by omega)))]
      exact ⟨fun q => (by cases q), fun q => absurd q.2.1 (by omega)⟩
abbrev RwQ (h : XH) (c f n sp wo fl : Nat) (g W : Nat → Int32) (F : Nat → Option Nat) : Option Value → XH → Prop := fun q h' => ∃ w il, q = some (.int (bI ((rwP g (f + n) f).2 = true))) ∧ h' = tL h c f n sp wo fl ((rwP g (f + n) f).1 - f) w il 0 0 W F ∧ (rwP g (f + n) f).1 ≤ f + n ∧ ((rwP g (f + n) f).2 = true → w = wdP g (f + 1) ∧ 2 ≤ w ∧ w ≤ 4 ∧ (rwP g (f + n) f).1 = f + 2 + w ∧ IlR g f w il)
theorem lp_X7_readWater_31 (hB : TxB h c sp wo fl g) (hn : f + n ≤ 60) {wd : Nat} (h1 : 2 ≤ wd) (h4 : wd ≤ 4) {Qa : Option Value → XH → Prop}
    (hbad : ∀ k il, k < wd → 1 ≤ k → (∀ j, 1 ≤ j → j < k → dgP g (f + n) (f + 1 + j) 0 1) → ¬ dgP g (f + n) (f + 1 + k) 0 1 → k + 1 ≤ n → Qa (some (.int 0)) (tL h c f n sp wo fl (1 + k) wd il 0 0 W F))
    (K : ∀ il, wd + 1 ≤ n → (∀ j, 1 ≤ j → j < wd → dgP g (f + n) (f + 1 + j) 0 1) → IlR g f wd il → T M_X7_readWater x_E (x_Z M_X7_readWater Qa) 0 0 70 [(0, .ref 2), (1, .ref sp), (2, .int (nI wd))] [] (tL h c f n sp wo fl (1 + wd) wd il 0 0 W F)) :
    ∀ r k il, k + r = wd → 1 ≤ k → k + 1 ≤ n → (∀ j, 1 ≤ j → j < k → dgP g (f + n) (f + 1 + j) 0 1) → IlR g f k il → T M_X7_readWater x_E (x_Z M_X7_readWater Qa) 0 0 31 [(0, .ref 2), (1, .ref sp), (2, .int (nI wd)), (3, .int (nI k))] [] (tL h c f n sp wo fl (1 + k) wd il 0 0 W F) := by
  intro r
  induction r with
  | zero =>
    intro k il hk hk1 hkn hd hI
    obtain rfl : k = wd := by omega
    refine T_iload_n dX7_readWater_31 rfl ?_
    refine T_iload_n dX7_readWater_32 rfl ?_
    refine T_icmp_geN (tgt := 70) dX7_readWater_33 (by decide) (by omega) (by omega) (fun c33 => ?_) (fun c33 => ?_)
    · exact T_pick [0, 1, 2] (K il (by omega) hd hI)
    · exact absurd c33 (by omega)
  | succ r ih =>
    intro k il hk hk1 hkn hd hI
    obtain ⟨t2, ts, tw, tf, tc⟩ := tL_all (f := f) (n := n) (a := 1 + k) (w := wd) (il := il) (hh := 0) (nb := 0) (W := W) (F := F) hB
    by_cases q : dgP g (f + n) (f + 1 + k) 0 1
    · obtain ⟨d, d1, d2, d3, d4⟩ := dig_I (by decide) (by decide) q.2
      have d5 : g (f + (1 + k)) = nI (48 + d) := by rw [← Nat.add_assoc]; exact d3
      have hq1 := q.1
      have hil16 : il < 16 := Nat.lt_of_lt_of_le hI.1 (Nat.le_trans (Nat.pow_le_pow_right (by decide) (show k ≤ 3 by omega)) (by decide))
      obtain ⟨t22, ts2, -, -, -⟩ := tL_all (f := f) (n := n) (a := 1 + k + 1) (w := wd) (il := il) (hh := 0) (nb := 0) (W := W) (F := F) hB
      refine T_iload_n dX7_readWater_31 rfl ?_
      refine T_iload_n dX7_readWater_32 rfl ?_
      refine T_icmp_geN (tgt := 70) dX7_readWater_33 (by decide) (by omega) (by omega) (fun c33 => ?_) (fun c33 => ?_)
      · exact absurd c33 (by omega)
      · refine T_aload_n dX7_readWater_36 rfl ?_
        refine T_iconst (v := nI 0) dX7_readWater_37 (by decide) ?_
        refine T_iconst (v := nI 1) dX7_readWater_38 (by decide) ?_
        refine T_v2e (cu2 := 0) (su2 := 0) dX7_readWater_39 lv_X7_29 rfl t2 rfl (c_X7_digitY (d := d) t2 tc (by omega) hn (by decide) (by decide) (by omega) d5 d1 d2) (nb rfl) (nb rfl) (nb rfl) (nb rfl) (nb rfl) ?_
        refine T_h (tL_2 hB) ?_
        refine T_istore dX7_readWater_42 (by decide) rfl ?_
        refine T_iload dX7_readWater_44 rfl ?_
        refine T_if_geN (tgt := 51) dX7_readWater_46 (by decide) (by omega) (fun c46 => ?_) (fun c46 => ?_)
        · refine T_aload_n dX7_readWater_51 rfl ?_
          refine T_dup dX7_readWater_52 rfl ?_
          refine T_get dX7_readWater_53 fl_X7_38_1 ts2 rfl ?_
          refine T_iload dX7_readWater_56 rfl ?_
          refine T_iload_n dX7_readWater_58 rfl ?_
          refine T_ishl dX7_readWater_59 ?_
          refine T_ior dX7_readWater_60 ?_
          refine T_top (il_or d (by omega) k (by omega) il hil16 hI.1) ?_
          refine T_put dX7_readWater_61 fp_X7_38_1 ts2 (nb rfl) (fun _ => ⟨rfl, rfl⟩) ?_
          refine T_h (h2 := tL h c f n sp wo fl (1 + (k + 1)) wd (il + d * 2 ^ k) 0 0 W F) (tL_sp hB) ?_
          refine T_iincN dX7_readWater_64 rfl (by decide) rfl ?_
          refine T_goto (tgt := 31) dX7_readWater_67 (by decide) ?_
          refine T_pick [0, 1, 2, 3] (ih (k + 1) _ (by omega) (by omega) (by omega) (fun j j1 j2 => ?_) (hI.next (by omega) (by omega) (by omega) d3))
          by_cases z : j = k
          · subst z; exact q
          · exact hd j j1 (by omega)
        · exact c46.elim
    · refine T_iload_n dX7_readWater_31 rfl ?_
      refine T_iload_n dX7_readWater_32 rfl ?_
      refine T_icmp_geN (tgt := 70) dX7_readWater_33 (by decide) (by omega) (by omega) (fun c33 => ?_) (fun c33 => ?_)
      · exact absurd c33 (by omega)
      · refine T_aload_n dX7_readWater_36 rfl ?_
        refine T_iconst (v := nI 0) dX7_readWater_37 (by decide) ?_
        refine T_iconst (v := nI 1) dX7_readWater_38 (by decide) ?_
        refine T_v2e (cu2 := 0) (su2 := 0) dX7_readWater_39 lv_X7_29 rfl t2 rfl (c_X7_digitN t2 tc (by omega) hn (by decide) (by decide) (by rw [← Nat.add_assoc]; exact q)) (nb rfl) (nb rfl) (nb rfl) (nb rfl) (nb rfl) ?_
        refine T_istore dX7_readWater_42 (by decide) rfl ?_
        refine T_iload dX7_readWater_44 rfl ?_
        refine T_if_ge (tgt := 51) dX7_readWater_46 (by decide) (fun c46 => ?_) (fun c46 => ?_)
        · exact absurd c46 (by decide)
        · refine T_iconst (v := 0) dX7_readWater_49 (by decide) ?_
          refine T_zret dX7_readWater_50 rfl rfl (nb rfl) (nb rfl) ?_
          exact hbad k il (by omega) hk1 hd q (by omega)
theorem islP_all {e : Nat} : ∀ r a, (∀ j, j < r → dgP g e (a + j) 0 1) → islP g e r a = r
  | 0, _, _ => rfl
  | r + 1, a, hd => by
    rw [islP, if_pos (show dgP g e a 0 1 from hd 0 (by omega)), islP_all r (a + 1) (fun j hj => by have := hd (j + 1) (by omega); rwa [show a + (j + 1) = a + 1 + j by omega] at this)]
theorem islP_cut {e : Nat} : ∀ k r a, k < r → (∀ j, j < k → dgP g e (a + j) 0 1) → ¬ dgP g e (a + k) 0 1 → islP g e r a = k
  | 0, r, a, hk, hd, hno => by
    obtain ⟨r, rfl⟩ : ∃ q, r = q + 1 := ⟨r - 1, by omega⟩
    rw [islP, if_neg (show ¬ dgP g e a 0 1 from hno)]
  | k + 1, r, a, hk, hd, hno => by
    obtain ⟨r, rfl⟩ : ∃ q, r = q + 1 := ⟨r - 1, by omega⟩
    rw [islP, if_pos (show dgP g e a 0 1 from hd 0 (by omega)), islP_cut k r (a + 1) (by omega) (fun j hj => by have := hd (j + 1) (by omega); rwa [show a + (j + 1) = a + 1 + j by omega] at this) (by rwa [show a + 1 + k = a + (k + 1) by omega])]
theorem c_X7_readWater (hB : TxB h c sp wo fl g) (hn : f + n ≤ 60) : Con M_X7_readWater [.ref 2, .ref sp] (tL h c f n sp wo fl 0 0 0 0 0 W F) (RwQ h c f n sp wo fl g W F) := by
  obtain ⟨t2, ts, tw, tf, tc⟩ := tL_all (f := f) (n := n) (a := 0) (w := 0) (il := 0) (hh := 0) (nb := 0) (W := W) (F := F) hB
  have tA := fun w => tL_all (f := f) (n := n) (a := 1) (w := w) (il := 0) (hh := 0) (nb := 0) (W := W) (F := F) hB
  refine Con.of rfl (nb rfl) ?_
  by_cases q1 : sgP g (f + n) f 119
  · have hq1 := q1.1
    obtain ⟨t21, ts1, -, -, tc1⟩ := tA 0
    by_cases q2 : dgP g (f + n) (f + 1) 2 4
    · have hq2 := q2.1
      obtain ⟨wd, d1, d2, d3, d4⟩ := dig_I (by decide) (by decide) q2.2
      have ewd : wdP g (f + 1) = wd := by unfold wdP; rw [d4]; exact nI_clamp (by omega)
      obtain ⟨t22, ts2, -, -, tc2⟩ := tL_all (f := f) (n := n) (a := 2) (w := 0) (il := 0) (hh := 0) (nb := 0) (W := W) (F := F) hB
      have hbad : ∀ k il, k < wd → 1 ≤ k → (∀ j, 1 ≤ j → j < k → dgP g (f + n) (f + 1 + j) 0 1) → ¬ dgP g (f + n) (f + 1 + k) 0 1 → k + 1 ≤ n → RwQ h c f n sp wo fl g W F (some (.int 0)) (tL h c f n sp wo fl (1 + k) wd il 0 0 W F) := by
        intro k il hk hk1 hd hno hkn
        have ei : islP g (f + n) (wd - 1) (f + 2) = k - 1 := by
          have := islP_cut (g := g) (e := f + n) (k - 1) (wd - 1) (f + 2) (by omega) (fun j hj => by have := hd (j + 1) (by omega) (by omega); rwa [show f + 1 + (j + 1) = f + 2 + j by omega] at this) (by rwa [show f + 2 + (k - 1) = f + 1 + k by omega])
          exact this
        have er : rwP g (f + n) f = (f + 1 + k, false) := by
          unfold rwP
          rw [if_pos q1, if_pos q2, ewd, if_neg (by omega), ei, show f + 2 + (k - 1) = f + 1 + k by omega]
        unfold RwQ
        rw [er]
        exact ⟨wd, il, rfl, by rw [show f + 1 + k - f = 1 + k by omega], by show f + 1 + k ≤ f + n; omega, fun q => (by cases q)⟩
      have K70 : ∀ il, wd + 1 ≤ n → (∀ j, 1 ≤ j → j < wd → dgP g (f + n) (f + 1 + j) 0 1) → IlR g f wd il → T M_X7_readWater x_E (x_Z M_X7_readWater (RwQ h c f n sp wo fl g W F)) 0 0 70 [(0, .ref 2), (1, .ref sp), (2, .int (nI wd))] [] (tL h c f n sp wo fl (1 + wd) wd il 0 0 W F) := by
        intro il hwn hd hI
        have ei : islP g (f + n) (wd - 1) (f + 2) = wd - 1 := islP_all (wd - 1) (f + 2) (fun j hj => by have := hd (j + 1) (by omega) (by omega); rwa [show f + 1 + (j + 1) = f + 2 + j by omega] at this)
        obtain ⟨u2, -, -, -, uc⟩ := tL_all (f := f) (n := n) (a := 1 + wd) (w := wd) (il := il) (hh := 0) (nb := 0) (W := W) (F := F) hB
        have epl : f + (1 + wd) = f + 1 + wd := by omega
        by_cases q3 : sgP g (f + n) (f + 1 + wd) 59
        · have er : rwP g (f + n) f = (f + 2 + wd, true) := by
            unfold rwP
            rw [if_pos q1, if_pos q2, ewd, if_pos ei, if_pos q3]
          have hq3 := q3.1
          have q3' : sgP g (f + n) (f + (1 + wd)) 59 := by rw [epl]; exact q3
          refine T_aload_n dX7_readWater_70 rfl ?_
          refine T_bipush (v := 59) dX7_readWater_71 (by decide) ?_
          refine T_v1e (cu2 := 0) (su2 := 0) dX7_readWater_73 lv_X7_25 rfl u2 rfl (c_X7_skipY u2 uc (by omega) hn q3') (nb rfl) (nb rfl) (nb rfl) (nb rfl) (nb rfl) ?_
          refine T_h (tL_2 hB) ?_
          refine T_zret dX7_readWater_76 rfl (z_bI _) (nb rfl) (nb rfl) ?_
          unfold RwQ
          rw [er]
          exact ⟨wd, il, sI (bI_c ⟨fun _ => rfl, fun _ => q3'⟩), by rw [show f + 2 + wd - f = 1 + wd + 1 by omega], by show f + 2 + wd ≤ f + n; omega, fun _ => ⟨ewd.symm, d1, d2, rfl, hI⟩⟩
        · have er : rwP g (f + n) f = (f + 1 + wd, false) := by
            unfold rwP
            rw [if_pos q1, if_pos q2, ewd, if_pos ei, if_neg q3]
          have q3' : ¬ sgP g (f + n) (f + (1 + wd)) 59 := by rw [epl]; exact q3
          refine T_aload_n dX7_readWater_70 rfl ?_
          refine T_bipush (v := 59) dX7_readWater_71 (by decide) ?_
          refine T_v1e (cu2 := 0) (su2 := 0) dX7_readWater_73 lv_X7_25 rfl u2 rfl (c_X7_skipN u2 uc (by omega) hn q3') (nb rfl) (nb rfl) (nb rfl) (nb rfl) (nb rfl) ?_
          refine T_zret dX7_readWater_76 rfl (z_bI _) (nb rfl) (nb rfl) ?_
          unfold RwQ
          rw [er]
          exact ⟨wd, il, sI (bI_c ⟨fun q => absurd q q3', fun q => (by cases q)⟩), by rw [show f + 1 + wd - f = 1 + wd by omega], by show f + 1 + wd ≤ f + n; omega, fun q => (by cases q)⟩
      refine T_aload_n dX7_readWater_0 rfl ?_
      refine T_bipush (v := 119) dX7_readWater_1 (by decide) ?_
      refine T_v1e (cu2 := 0) (su2 := 0) dX7_readWater_3 lv_X7_25 rfl t2 rfl (c_X7_skipY t2 tc (by omega) hn q1) (nb rfl) (nb rfl) (nb rfl) (nb rfl) (nb rfl) ?_
      refine T_h (tL_2 hB) ?_
      refine T_if_neB (tgt := 11) dX7_readWater_6 (by decide) (fun c6 => ?_) (fun c6 => ?_)
      · refine T_aload_n dX7_readWater_11 rfl ?_
        refine T_iconst (v := nI 2) dX7_readWater_12 (by decide) ?_
        refine T_iconst (v := nI 4) dX7_readWater_13 (by decide) ?_
        refine T_v2e (cu2 := 0) (su2 := 0) dX7_readWater_14 lv_X7_29 rfl t21 rfl (c_X7_digitY (d := wd) t21 tc1 (by omega) hn (by decide) (by decide) (by omega) d3 d1 d2) (nb rfl) (nb rfl) (nb rfl) (nb rfl) (nb rfl) ?_
        refine T_h (tL_2 hB) ?_
        refine T_istore_n dX7_readWater_17 (by decide) rfl ?_
        refine T_iload_n dX7_readWater_18 rfl ?_
        refine T_if_geN (tgt := 24) dX7_readWater_19 (by decide) (by omega) (fun c19 => ?_) (fun c19 => ?_)
        · refine T_aload_n dX7_readWater_24 rfl ?_
          refine T_iload_n dX7_readWater_25 rfl ?_
          refine T_put dX7_readWater_26 fp_X7_33_1 ts2 (nb rfl) (fun _ => ⟨rfl, rfl⟩) ?_
          refine T_h (tL_sp hB) ?_
          refine T_iconst (v := nI 1) dX7_readWater_29 (by decide) ?_
          refine T_istore_n dX7_readWater_30 (by decide) rfl ?_
          exact lp_X7_readWater_31 hB hn d1 d2 hbad K70 (wd - 1) 1 0 (by omega) (by omega) (by omega) (fun j j1 j2 => absurd j1 (by omega)) ⟨by decide, fun j hj => ⟨fun q => absurd q (by simp), fun q => absurd q.2.1 (by have := q.1; omega)⟩⟩
        · exact c19.elim
      · exact absurd q1 c6
    · have er : rwP g (f + n) f = (f + 1, false) := by
        unfold rwP
        rw [if_pos q1, if_neg q2]
      refine T_aload_n dX7_readWater_0 rfl ?_
      refine T_bipush (v := 119) dX7_readWater_1 (by decide) ?_
      refine T_v1e (cu2 := 0) (su2 := 0) dX7_readWater_3 lv_X7_25 rfl t2 rfl (c_X7_skipY t2 tc (by omega) hn q1) (nb rfl) (nb rfl) (nb rfl) (nb rfl) (nb rfl) ?_
      refine T_h (tL_2 hB) ?_
      refine T_if_neB (tgt := 11) dX7_readWater_6 (by decide) (fun c6 => ?_) (fun c6 => ?_)
      · refine T_aload_n dX7_readWater_11 rfl ?_
        refine T_iconst (v := nI 2) dX7_readWater_12 (by decide) ?_
        refine T_iconst (v := nI 4) dX7_readWater_13 (by decide) ?_
        refine T_v2e (cu2 := 0) (su2 := 0) dX7_readWater_14 lv_X7_29 rfl t21 rfl (c_X7_digitN t21 tc1 (by omega) hn (by decide) (by decide) q2) (nb rfl) (nb rfl) (nb rfl) (nb rfl) (nb rfl) ?_
        refine T_istore_n dX7_readWater_17 (by decide) rfl ?_
        refine T_iload_n dX7_readWater_18 rfl ?_
        refine T_if_ge (tgt := 24) dX7_readWater_19 (by decide) (fun c19 => ?_) (fun c19 => ?_)
        · exact absurd c19 (by decide)
        · refine T_iconst (v := 0) dX7_readWater_22 (by decide) ?_
          refine T_zret dX7_readWater_23 rfl rfl (nb rfl) (nb rfl) ?_
          unfold RwQ
          rw [er]
          exact ⟨0, 0, rfl, by rw [show f + 1 - f = 0 + 1 by omega], by show f + 1 ≤ f + n; omega, fun q => (by cases q)⟩
      · exact absurd q1 c6
  · have er : rwP g (f + n) f = (f, false) := by
      unfold rwP
      rw [if_neg q1]
    refine T_aload_n dX7_readWater_0 rfl ?_
    refine T_bipush (v := 119) dX7_readWater_1 (by decide) ?_
    refine T_v1e (cu2 := 0) (su2 := 0) dX7_readWater_3 lv_X7_25 rfl t2 rfl (c_X7_skipN t2 tc (by omega) hn q1) (nb rfl) (nb rfl) (nb rfl) (nb rfl) (nb rfl) ?_
    refine T_if_neB (tgt := 11) dX7_readWater_6 (by decide) (fun c6 => ?_) (fun c6 => ?_)
    · exact absurd c6 q1
    · refine T_iconst (v := 0) dX7_readWater_9 (by decide) ?_
      refine T_zret dX7_readWater_10 rfl rfl (nb rfl) (nb rfl) ?_
      unfold RwQ
      rw [er]
      exact ⟨0, 0, rfl, by rw [show f - f = 0 by omega], by show f ≤ f + n; omega, fun q => (by cases q)⟩
end C62
