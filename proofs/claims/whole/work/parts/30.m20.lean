/-! the reference: odds -/
section M21
variable {A B : XH} {u : MSt} {h : XH} {Z : XZ} {L : LK} {st : Nat → Nat} {nn : Nat}
/-- the wind of hour h, by the number z -/
def wz (z h : Nat) : Nat := 1 + z / 2 ^ h % 2
theorem wz_le (z h : Nat) : wz z h ≤ 2 := by unfold wz; have := Nat.mod_lt (z / 2 ^ h) (show 0 < 2 by decide); omega
theorem sm31 : ∀ n, n < 32 → ((nI n &&& 31).toBitVec.smod 32).toNat = n := by decide +kernel
theorem wz_I {z h : Nat} (hz : z < 2 ^ 31) (hh : h < 32) : (1 : Int32) + ((nI z >>> (nI h &&& 31)) &&& 1) = nI (wz z h) := by
  rw [pk_shrN hz _ h (sm31 h hh), pk_andN (Nat.lt_of_le_of_lt (Nat.div_le_self _ _) (by omega)) 1 (by decide), show (1 : Int32) = nI 1 from rfl, nI_add]
  rfl
def FreeN (L : LK) (z : Nat) (st : Nat → Nat) (nn : Nat) : Prop := ∀ h, h < nn → finN L (st h) (wz z h) (posN L (wz z) st h) = 0
theorem lp_X12_isFree (hA : A.length = 67) (hM : MR u L) (hL : LOk L) {z : Nat} (hz : z < 2 ^ 31) (hnn : nn ≤ L_h L) (hpl : u.1 21 = nI nn) (hst : ∀ k, k < nn → u.2 22 k = nI (st k) ∧ st k ≤ allN L) :
    ∀ r g, g + r = nn → (∀ h, h < g → finN L (st h) (wz z h) (posN L (wz z) st h) = 0) → ∀ P, PR L P (posN L (wz z) st g) →
    T M_X12_isFree x_E (x_Z M_X12_isFree (fun a h' => (∃ v, a = some (.int v) ∧ yn (FreeN L z st nn) v) ∧ ∃ P, h' = mH A (mP u P) B)) 0 0 8 [(0, .ref 67), (1, .int (nI z)), (2, .int (nI g))] [] (mH A (mP u P) B) := by
  have h3 := hL.2.2.1
  have h4 := hL.1
  have h10 := hL.2.1
  have h8 := allN_lt hL
  intro r
  induction r with
  | zero =>
    intro g hg hf P hP
    obtain rfl : g = nn := by omega
    refine T_iload_n dX12_isFree_8 rfl ?_
    refine T_aload_n dX12_isFree_9 rfl ?_
    refine T_get dX12_isFree_10 fl_X12_156_12 (mH_get hA rfl) rfl ?_
    refine T_top hpl ?_
    refine T_icmp_geN (tgt := 57) dX12_isFree_13 (by decide) (by omega) (by omega) (fun c13 => ?_) (fun c13 => ?_)
    · refine T_iconst (v := 1) dX12_isFree_57 (by decide) ?_
      refine T_zret dX12_isFree_58 rfl rfl (nb rfl) (nb rfl) ?_
      exact ⟨⟨1, rfl, Or.inl ⟨rfl, hf⟩⟩, P, rfl⟩
    · omega
  | succ r ih =>
    intro g hg hf P hP
    have hsh := hst g (by omega)
    have hwl := wz_le z g
    have hfd := fin_N (u := mP u P) (P := P) (s := st g) (w := wz z g) hM hL hP (by omega) hwl
    have hfl := finN_le hL (st g) (wz z g) (posN L (wz z) st g)
    have hhr := hour_N (u := mP u P) (P := P) (s := st g) (w := wz z g) hM hL (by omega) hwl hP
    have hgz := wz_I (h := g) hz (by omega)
    refine T_iload_n dX12_isFree_8 rfl ?_
    refine T_aload_n dX12_isFree_9 rfl ?_
    refine T_get dX12_isFree_10 fl_X12_156_12 (mH_get hA rfl) rfl ?_
    refine T_top hpl ?_
    refine T_icmp_geN (tgt := 57) dX12_isFree_13 (by decide) (by omega) (by omega) (fun c13 => ?_) (fun c13 => ?_)
    · omega
    · refine T_iconst (v := 1) dX12_isFree_16 (by decide) ?_
      refine T_iload_n dX12_isFree_17 rfl ?_
      refine T_iload_n dX12_isFree_18 rfl ?_
      refine T_ishr dX12_isFree_19 ?_
      refine T_iconst (v := 1) dX12_isFree_20 (by decide) ?_
      refine T_iand dX12_isFree_21 ?_
      refine T_iadd dX12_isFree_22 (T_top hgz ?_)
      refine T_istore_n dX12_isFree_23 (by decide) rfl ?_
      refine T_aload_n dX12_isFree_24 rfl ?_
      refine T_aload_n dX12_isFree_25 rfl ?_
      refine T_get dX12_isFree_26 fl_X12_47_12 (mH_get hA rfl) rfl ?_
      refine T_iload_n dX12_isFree_29 rfl ?_
      refine T_ialdN dX12_isFree_30 (mH_get hA rfl) (by omega) (by decide) ?_
      refine T_top (show u.2 22 g = nI (st g) from hsh.1) ?_
      refine T_iload_n dX12_isFree_31 rfl ?_
      refine T_v2e (cu2 := 0) (su2 := 0) dX12_isFree_32 lv_X12_172 rfl (mH_get hA rfl) rfl (c_X12_finedBy (n := L_n L) hA _ _ hM.2.2.1 h3) (nb rfl) (nb rfl) (nb rfl) (nb rfl) (nb rfl) ?_
      refine T_top hfd ?_
      refine T_if_le (tgt := 40) dX12_isFree_35 (by decide) (fun c35 => ?_) (fun c35 => ?_)
      · refine T_aload_n dX12_isFree_40 rfl ?_
        refine T_aload_n dX12_isFree_41 rfl ?_
        refine T_get dX12_isFree_42 fl_X12_47_12 (mH_get hA rfl) rfl ?_
        refine T_iload_n dX12_isFree_45 rfl ?_
        refine T_ialdN dX12_isFree_46 (mH_get hA rfl) (by omega) (by decide) ?_
        refine T_top (show u.2 22 g = nI (st g) from hsh.1) ?_
        refine T_iload_n dX12_isFree_47 rfl ?_
        refine T_v2e (cu2 := 0) (su2 := 0) dX12_isFree_48 lv_X12_176 rfl (mH_get hA rfl) rfl (c_X12_goHour (n := L_n L) hA _ _ hM.2.2.1 h3 hM.1 h4) (nb rfl) (nb rfl) (nb rfl) (nb rfl) (nb rfl) ?_
        generalize hP2 : mHour _ _ _ _ _ _ _ _ _ = P2
        have hh2 : PR L P2 (posN L (wz z) st (g + 1)) := by rw [← hP2]; exact hhr
        refine T_h (h2 := mH A (mP u P2) B) rfl ?_
        refine T_iincN dX12_isFree_51 rfl (by decide) rfl ?_
        refine T_goto (tgt := 8) dX12_isFree_54 (by decide) ?_
        refine T_pick [0, 1, 2] (ih (g + 1) (by omega) (fun k hk => ?_) P2 hh2)
        by_cases e : k = g
        · subst e
          rw [show (0 : Int32) = nI 0 from rfl, nI_leI (by omega) (by omega)] at c35
          omega
        · exact hf k (by omega)
      · refine T_iconst (v := 0) dX12_isFree_38 (by decide) ?_
        refine T_zret dX12_isFree_39 rfl rfl (nb rfl) (nb rfl) ?_
        refine ⟨⟨0, rfl, Or.inr ⟨rfl, fun q => ?_⟩⟩, P, rfl⟩
        have e := q g (by omega)
        rw [e] at c35
        exact absurd (by decide) c35
theorem c_X12_isFree (hA : A.length = 67) (hM : MR u L) (hL : LOk L) {z : Nat} (hz : z < 2 ^ 31) (hnn : nn ≤ L_h L) (hpl : u.1 21 = nI nn) (hst : ∀ k, k < nn → u.2 22 k = nI (st k) ∧ st k ≤ allN L) : Con M_X12_isFree [.ref 67, .int (nI z)] (mH A u B) (fun a h' => (∃ v, a = some (.int v) ∧ yn (FreeN L z st nn) v) ∧ ∃ P, h' = mH A (mP u P) B) := by
  have h3 := hL.2.2.1
  have hb := beg_N (u := u) hM hL (u.2 20)
  refine Con.of rfl (nb rfl) ?_
  refine T_aload_n dX12_isFree_0 rfl ?_
  refine T_iconst (v := 0) dX12_isFree_1 (by decide) ?_
  refine T_v1e (cu2 := 0) (su2 := 0) dX12_isFree_2 lv_X12_159 rfl (mH_get hA rfl) rfl (c_X12_begins0 (n := L_n L) hA hM.2.2.1 h3) (nb rfl) (nb rfl) (nb rfl) (nb rfl) (nb rfl) ?_
  generalize mBeg (u.2 20) (u.2 11) (u.1 5) (L_n L) = P at hb ⊢
  refine T_pop dX12_isFree_5 rfl ?_
  refine T_iconst (v := 0) dX12_isFree_6 (by decide) ?_
  refine T_istore_n dX12_isFree_7 (by decide) rfl ?_
  exact lp_X12_isFree (B := B) hA hM hL hz hnn hpl hst nn 0 (by omega) (fun q e => absurd e (by omega)) P hb
theorem gcd_s {x y : Nat} : Nat.gcd y (x % y) = Nat.gcd x y := by
  rw [Nat.gcd_comm x y, Nat.gcd_rec y x, Nat.gcd_comm]
def leastN (w : Int32) (a b : Nat) : Nat := (if w = 0 then a else b) / Nat.gcd a b
theorem lN_ne0 {y : Nat} (hy : y < 2 ^ 63) (h : ¬ y = 0) : ¬ lN y = 0 := fun e => h ((pk_lEQ hy (by decide)).mp e)
theorem lp_X12_inLeastTerms {a b g : Nat} {w : Int32} {h : XH} (ha : a < 2 ^ 63) (hb : b < 2 ^ 63) (hg0 : ¬ g = 0) : ∀ n y, y ≤ n → ∀ x, x < 2 ^ 63 → y < 2 ^ 63 → Nat.gcd x y = g →
    T M_X12_inLeastTerms x_E (x_Z M_X12_inLeastTerms (fun q h' => q = some (.long (lN ((if w = 0 then a else b) / g))) ∧ h' = h)) 0 0 6 [(0, .long (lN a)), (2, .long (lN b)), (4, .int w), (5, .long (lN x)), (7, .long (lN y))] [] h := by
  intro n
  induction n with
  | zero =>
    intro y hn x hx hy hg
    obtain rfl : y = 0 := Nat.eq_zero_of_le_zero hn
    rw [Nat.gcd_zero_right] at hg
    subst hg
    refine T_lload dX12_inLeastTerms_6 rfl ?_
    refine T_lconst (v := 0) dX12_inLeastTerms_8 (by decide) ?_
    refine T_lcmp dX12_inLeastTerms_9 ?_
    refine T_if_eq (tgt := 31) dX12_inLeastTerms_10 (by decide) (fun c10 => ?_) (fun c10 => ?_)
    · refine T_iload dX12_inLeastTerms_31 rfl ?_
      refine T_if_ne (tgt := 43) dX12_inLeastTerms_33 (by decide) (fun c33 => ?_) (fun c33 => ?_)
      · refine T_lload_n dX12_inLeastTerms_43 rfl ?_
        refine T_lload dX12_inLeastTerms_44 rfl ?_
        refine T_ldiv dX12_inLeastTerms_46 (lN_ne0 hx hg0) ?_
        refine T_lret dX12_inLeastTerms_47 rfl (nb rfl) (nb rfl) ?_
        first
          | (rw [pk_lDiv ha (by omega) hx, if_pos c33]; exact ⟨rfl, rfl⟩)
          | (rw [pk_lDiv hb (by omega) hx, if_neg c33]; exact ⟨rfl, rfl⟩)
      · refine T_lload_n dX12_inLeastTerms_36 rfl ?_
        refine T_lload dX12_inLeastTerms_37 rfl ?_
        refine T_ldiv dX12_inLeastTerms_39 (lN_ne0 hx hg0) ?_
        refine T_goto (tgt := 47) dX12_inLeastTerms_40 (by decide) ?_
        refine T_lret dX12_inLeastTerms_47 rfl (nb rfl) (nb rfl) ?_
        first
          | (rw [pk_lDiv ha (by omega) hx, if_pos c33]; exact ⟨rfl, rfl⟩)
          | (rw [pk_lDiv hb (by omega) hx, if_neg c33]; exact ⟨rfl, rfl⟩)
    · exact absurd ((lg_cmp_eq _ _).mpr rfl) c10
  | succ n ih =>
    intro y hn x hx hy hg
    by_cases h0 : y = 0
    · exact ih y (by omega) x hx hy hg
    have hlt := Nat.mod_lt x (show 0 < y by omega)
    refine T_lload dX12_inLeastTerms_6 rfl ?_
    refine T_lconst (v := 0) dX12_inLeastTerms_8 (by decide) ?_
    refine T_lcmp dX12_inLeastTerms_9 ?_
    refine T_if_eq (tgt := 31) dX12_inLeastTerms_10 (by decide) (fun c10 => ?_) (fun c10 => ?_)
    · exact absurd ((lg_cmp_eq _ _).mp c10) (lN_ne0 hy h0)
    · refine T_lload dX12_inLeastTerms_13 rfl ?_
      refine T_lload dX12_inLeastTerms_15 rfl ?_
      refine T_lrem dX12_inLeastTerms_17 (lN_ne0 hy h0) (T_topl (pk_lRem hx (by omega) hy) ?_)
      refine T_lstore dX12_inLeastTerms_18 (by decide) rfl rfl ?_
      refine T_lload dX12_inLeastTerms_20 rfl ?_
      refine T_lstore dX12_inLeastTerms_22 (by decide) rfl rfl ?_
      refine T_lload dX12_inLeastTerms_24 rfl ?_
      refine T_lstore dX12_inLeastTerms_26 (by decide) rfl rfl ?_
      refine T_goto (tgt := 6) dX12_inLeastTerms_28 (by decide) ?_
      exact T_pick [0, 2, 4, 5, 7] (ih (x % y) (by omega) y hy (by omega) (gcd_s.trans hg))
theorem c_X12_inLeastTerms {a b : Nat} (w : Int32) {h : XH} (ha : a < 2 ^ 63) (hb : b < 2 ^ 63) (hg0 : ¬ b = 0) : ConE M_X12_inLeastTerms [.long (lN a), .long (lN b), .int w] h (some (.long (lN (leastN w a b)))) h := by
  refine Con.of rfl (nb rfl) ?_
  refine T_lload_n dX12_inLeastTerms_0 rfl ?_
  refine T_lstore dX12_inLeastTerms_1 (by decide) rfl rfl ?_
  refine T_lload_n dX12_inLeastTerms_3 rfl ?_
  refine T_lstore dX12_inLeastTerms_4 (by decide) rfl rfl ?_
  exact lp_X12_inLeastTerms ha hb (fun e => hg0 (Nat.gcd_eq_zero_iff.mp e).2) b b (Nat.le_refl _) a ha hb rfl
/-- how many numbers below n have p -/
def Cnt (p : Nat → Prop) : Nat → Nat → Prop
  | 0, m => m = 0
  | n + 1, m => ∃ k, Cnt p n k ∧ ((p n ∧ m = k + 1) ∨ (¬ p n ∧ m = k))
theorem Cnt_le {p : Nat → Prop} : ∀ n m, Cnt p n m → m ≤ n := by
  intro n
  induction n with
  | zero => intro m h; exact Nat.le_of_eq h
  | succ n ih =>
    rintro m ⟨k, a, b⟩
    have := ih k a
    rcases b with ⟨-, b⟩ | ⟨-, b⟩ <;> omega
theorem Cnt_un {p q : Nat → Prop} : ∀ n, (∀ k, k < n → (p k ↔ q k)) → ∀ m m2, Cnt p n m → Cnt q n m2 → m = m2 := by
  intro n
  induction n with
  | zero => intro _ m m2 h h2; exact h.trans h2.symm
  | succ n ih =>
    rintro e m m2 ⟨k, a, b⟩ ⟨k2, a2, b2⟩
    have e1 := ih (fun j hj => e j (by omega)) k k2 a a2
    have e2 := e n (by omega)
    rcases b with ⟨c, b⟩ | ⟨c, b⟩ <;> rcases b2 with ⟨c2, b2⟩ | ⟨c2, b2⟩
    · omega
    · exact absurd (e2.mp c) c2
    · exact absurd (e2.mpr c2) c
    · omega
theorem sl31 : ∀ n, n < 11 → (1 : Int32) <<< (nI n &&& 31) = nI (2 ^ n) := by decide +kernel
theorem sl63 : ∀ n, n < 11 → (1 : Int64) <<< ((nI n).toInt64 &&& 63) = lN (2 ^ n) := by decide +kernel
theorem lp_X12_odds (hA : A.length = 67) (hM : MR u L) (hL : LOk L) (hnn : nn ≤ L_h L) (hpl : u.1 21 = nI nn) (hst : ∀ k, k < nn → u.2 22 k = nI (st k) ∧ st k ≤ allN L) {x1 x2 x3 w : Int32} :
    ∀ r z, z + r = 2 ^ nn → ∀ m P, Cnt (fun z => FreeN L z st nn) z m →
    T M_X12_odds x_E (x_Z M_X12_odds (fun a h' => ∃ m, a = some (.long (lN (leastN w m (2 ^ nn)))) ∧ Cnt (fun z => FreeN L z st nn) (2 ^ nn) m ∧ ∃ P, h' = mH A (mP u P) B)) 0 0 57 [(0, .ref 67), (1, .int x1), (2, .int x2), (3, .int x3), (4, .int (nI nn)), (5, .int w), (6, .int (nI m)), (7, .int (nI z))] [] (mH A (mP u P) B) := by
  have h10 := hL.2.1
  have h2 : 2 ^ nn ≤ 2 ^ 10 := Nat.pow_le_pow_right (by decide) (by omega)
  have h2p : 0 < 2 ^ nn := Nat.two_pow_pos nn
  rw [show 2 ^ 10 = 1024 from rfl] at h2
  intro r
  induction r with
  | zero =>
    intro z hz m P hm
    obtain rfl : z = 2 ^ nn := by omega
    have hml := Cnt_le _ _ hm
    refine T_iload dX12_odds_57 rfl ?_
    refine T_iconst (v := 1) dX12_odds_59 (by decide) ?_
    refine T_iload dX12_odds_60 rfl ?_
    refine T_ishl dX12_odds_62 (T_top (sl31 nn (by omega)) ?_)
    refine T_icmp_geN (tgt := 91) dX12_odds_63 (by decide) (by omega) (by omega) (fun c63 => ?_) (fun c63 => ?_)
    · refine T_iload dX12_odds_91 rfl ?_
      refine T_i2l dX12_odds_93 (T_topl (nI_l (by omega)) ?_)
      refine T_lconst (v := 1) dX12_odds_94 (by decide) ?_
      refine T_iload dX12_odds_95 rfl ?_
      refine T_lshl dX12_odds_97 (T_topl (sl63 nn (by omega)) ?_)
      refine T_iload dX12_odds_98 rfl ?_
      refine T_s3e (cu2 := 0) (su2 := 0) dX12_odds_100 ls_X12_226 rfl (c_X12_inLeastTerms _ (by omega) (by omega) (by omega)) (nb rfl) (nb rfl) (nb rfl) (nb rfl) (nb rfl) ?_
      refine T_lret dX12_odds_103 rfl (nb rfl) (nb rfl) ?_
      exact ⟨m, rfl, hm, P, rfl⟩
    · omega
  | succ r ih =>
    intro z hz m P hm
    have hml := Cnt_le _ _ hm
    refine T_iload dX12_odds_57 rfl ?_
    refine T_iconst (v := 1) dX12_odds_59 (by decide) ?_
    refine T_iload dX12_odds_60 rfl ?_
    refine T_ishl dX12_odds_62 (T_top (sl31 nn (by omega)) ?_)
    refine T_icmp_geN (tgt := 91) dX12_odds_63 (by decide) (by omega) (by omega) (fun c63 => ?_) (fun c63 => ?_)
    · omega
    · refine T_iload dX12_odds_66 rfl ?_
      refine T_aload_n dX12_odds_68 rfl ?_
      refine T_iload dX12_odds_69 rfl ?_
      refine T_v1q (cu2 := 0) (su2 := 0) dX12_odds_71 lv_X12_223 rfl (mH_get hA rfl) rfl (c_X12_isFree (u := mP u P) (st := st) (z := z) hA hM hL (by omega) hnn hpl hst) (nb rfl) (nb rfl) (nb rfl) (nb rfl) (nb rfl) (fun r71 h71 q71 => ?_)
      obtain ⟨⟨v, rfl, hv⟩, P2, rfl⟩ := q71
      refine T_h (h2 := mH A (mP u P2) B) rfl ?_
      refine T_if_eq (tgt := 81) dX12_odds_74 (by decide) (fun c74 => ?_) (fun c74 => ?_)
      · refine T_iconst (v := nI 0) dX12_odds_81 (by decide) ?_
        refine T_iaddN dX12_odds_82 ?_
        refine T_istore dX12_odds_83 (by decide) rfl ?_
        refine T_iincN dX12_odds_85 rfl (by decide) rfl ?_
        refine T_goto (tgt := 57) dX12_odds_88 (by decide) ?_
        first
          | exact ih (z + 1) (by omega) (m + 1) P2 ⟨m, hm, Or.inl ⟨by rcases hv with ⟨q1, q2⟩ | ⟨q1, q2⟩; exact q2; exact absurd q1 c74, rfl⟩⟩
          | exact ih (z + 1) (by omega) (m + 0) P2 ⟨m, hm, Or.inr ⟨by rcases hv with ⟨q1, q2⟩ | ⟨q1, q2⟩; exact absurd (q1.symm.trans c74) (by decide); exact q2, rfl⟩⟩
      · refine T_iconst (v := nI 1) dX12_odds_77 (by decide) ?_
        refine T_goto (tgt := 82) dX12_odds_78 (by decide) ?_
        refine T_iaddN dX12_odds_82 ?_
        refine T_istore dX12_odds_83 (by decide) rfl ?_
        refine T_iincN dX12_odds_85 rfl (by decide) rfl ?_
        refine T_goto (tgt := 57) dX12_odds_88 (by decide) ?_
        first
          | exact ih (z + 1) (by omega) (m + 1) P2 ⟨m, hm, Or.inl ⟨by rcases hv with ⟨q1, q2⟩ | ⟨q1, q2⟩; exact q2; exact absurd q1 c74, rfl⟩⟩
          | exact ih (z + 1) (by omega) (m + 0) P2 ⟨m, hm, Or.inr ⟨by rcases hv with ⟨q1, q2⟩ | ⟨q1, q2⟩; exact absurd (q1.symm.trans c74) (by decide); exact q2, rfl⟩⟩
def OdA (L : LK) (u : MSt) (sh sort i n w : Int32) (v : Int64) (u' : MSt) : Prop :=
  if (0 ≤ sh ∧ sh ≤ 3) ∧ ((0 ≤ sort ∧ sort ≤ 2) ∧ 0 ≤ n ∧ n ≤ 10) ∧ (0 ≤ w ∧ w ≤ 1) then
    ∃ x u2, LyQ L u sh.toNatClampNeg sort i n.toNatClampNeg x u2 ∧ ((¬ x = 0 ∧ v = -9223372036854775808 ∧ u' = u2) ∨ (x = 0 ∧ SameE u2 u' ∧ ∃ m, v = lN (leastN w m (2 ^ n.toNatClampNeg)) ∧ Cnt (fun z => FreeN L z (fun k => (u.2 4 (60 * sh.toNatClampNeg + i.toNatClampNeg + k)).toNatClampNeg) n.toNatClampNeg) (2 ^ n.toNatClampNeg) m))
  else v = -9223372036854775808 ∧ u' = u
theorem lp_X12_odds_35 (hA : A.length = 67) (hM : MR u L) (hL : LOk L) {kk : Nat} {sort i w : Int32} (hkk : kk < 4) (hnn : nn ≤ 10) (hl : ∀ j, j < 4 → ∃ ll : Nat, ll ≤ 60 ∧ u.2 3 j = nI ll) :
    T M_X12_odds x_E (x_Z M_X12_odds (fun q h' => ∃ v u', q = some (.long v) ∧ h' = mH A u' B ∧ ∃ x u2, LyQ L u kk sort i nn x u2 ∧ ((¬ x = 0 ∧ v = -9223372036854775808 ∧ u' = u2) ∨ (x = 0 ∧ SameE u2 u' ∧ ∃ m, v = lN (leastN w m (2 ^ nn)) ∧ Cnt (fun z => FreeN L z (fun k => (u.2 4 (60 * kk + i.toNatClampNeg + k)).toNatClampNeg) nn) (2 ^ nn) m)))) 0 0 35 [(0, .ref 67), (1, .int (nI kk)), (2, .int sort), (3, .int i), (4, .int (nI nn)), (5, .int w)] [] (mH A u B) := by
  refine T_aload_n dX12_odds_35 rfl ?_
  refine T_iload_n dX12_odds_36 rfl ?_
  refine T_iload_n dX12_odds_37 rfl ?_
  refine T_iload_n dX12_odds_38 rfl ?_
  refine T_iload dX12_odds_39 rfl ?_
  refine T_v4q (cu2 := 0) (su2 := 0) dX12_odds_41 lv_X12_186 rfl (mH_get hA rfl) rfl (c_X12_layPlan hA hM hL _ _ hkk hnn hl) (nb rfl) (nb rfl) (nb rfl) (nb rfl) (nb rfl) (fun r41 h41 q41 => ?_)
  obtain ⟨x, u2, rfl, rfl, hx⟩ := q41
  refine T_if_eq (tgt := 51) dX12_odds_44 (by decide) (fun c44 => ?_) (fun c44 => ?_)
  · refine T_iconst (v := nI 0) dX12_odds_51 (by decide) ?_
    refine T_istore dX12_odds_52 (by decide) rfl ?_
    refine T_iconst (v := nI 0) dX12_odds_54 (by decide) ?_
    refine T_istore dX12_odds_55 (by decide) rfl ?_
    subst c44
    obtain ⟨hn0, hnh, hin, S, rfl, hS⟩ := LyQ_0 hx
    have hE : SameE u (va_up u.1 21 (nI nn), va_up u.2 22 S) := lay_same S nn
    have hst := st_of hL hin hS
    generalize hu2 : ((va_up u.1 21 (nI nn), va_up u.2 22 S) : MSt) = u2 at *
    have hM2 : MR u2 L := hE.MR hM
    have hp2 : u2.1 21 = nI nn := by rw [← hu2]; rfl
    have hs2 : ∀ k, k < nn → u2.2 22 k = nI ((u.2 4 (60 * kk + i.toNatClampNeg + k)).toNatClampNeg) ∧ (u.2 4 (60 * kk + i.toNatClampNeg + k)).toNatClampNeg ≤ allN L := by rw [← hu2]; exact hst
    refine T_Q (fun r h' hh => ?_) (T_eq (lp_X12_odds hA hM2 hL hnh hp2 hs2 (2 ^ nn) 0 (by omega) 0 (u2.2 20) rfl) rfl rfl)
    obtain ⟨m, e1, e2, P, e3⟩ := hh
    exact ⟨_, mP u2 P, e1, e3, 0, u2, hx, Or.inr ⟨rfl, mP_same P, m, rfl, e2⟩⟩
  · refine T_ldc2 dX12_odds_47 kl_X12_69 ?_
    refine T_lret dX12_odds_50 rfl (nb rfl) (nb rfl) ?_
    exact ⟨_, _, rfl, rfl, x, u2, hx, Or.inl ⟨c44, rfl, rfl⟩⟩
theorem c_X12_odds (hA : A.length = 67) (hM : MR u L) (hL : LOk L) (sh sort i n w : Int32) (hl : ∀ j, j < 4 → ∃ ll : Nat, ll ≤ 60 ∧ u.2 3 j = nI ll) : Con M_X12_odds [.ref 67, .int sh, .int sort, .int i, .int n, .int w] (mH A u B) (fun q h' => ∃ v u', q = some (.long v) ∧ h' = mH A u' B ∧ OdA L (m0 u 0) sh sort i n w v u') := by
  refine Con.of rfl (nb rfl) ?_
  refine T_aload_n dX12_odds_0 rfl ?_
  refine T_iconst (v := 0) dX12_odds_1 (by decide) ?_
  refine T_put dX12_odds_2 fp_X12_65_12 (mH_get hA rfl) (nb rfl) (fun _ => ⟨rfl, rfl⟩) ?_
  first | refine T_h (mE_0 hA) ?_ | refine T_h (mF_0 hA) ?_
  refine T_iload_n dX12_odds_5 rfl ?_
  refine T_s1e (cu2 := 0) (su2 := 0) dX12_odds_6 ls_X12_84 rfl (c_X12_isSheet _) (nb rfl) (nb rfl) (nb rfl) (nb rfl) (nb rfl) ?_
  refine T_if_eqB (tgt := 31) dX12_odds_9 (by decide) (fun c9 => ?_) (fun c9 => ?_)
  · refine T_ldc2 dX12_odds_31 kl_X12_69 ?_
    refine T_lret dX12_odds_34 rfl (nb rfl) (nb rfl) ?_
    refine ⟨_, _, rfl, rfl, ?_⟩
    unfold OdA
    rw [if_neg (by rintro ⟨q1, q2, q3⟩; first | exact c9 q1 | exact c18 q2 | exact c28 q3)]
    exact ⟨rfl, rfl⟩
  · refine T_iload_n dX12_odds_12 rfl ?_
    refine T_iload dX12_odds_13 rfl ?_
    refine T_s2e (cu2 := 0) (su2 := 0) dX12_odds_15 ls_X12_183 rfl (c_X12_isRow _ _) (nb rfl) (nb rfl) (nb rfl) (nb rfl) (nb rfl) ?_
    refine T_if_eqB (tgt := 31) dX12_odds_18 (by decide) (fun c18 => ?_) (fun c18 => ?_)
    · refine T_ldc2 dX12_odds_31 kl_X12_69 ?_
      refine T_lret dX12_odds_34 rfl (nb rfl) (nb rfl) ?_
      refine ⟨_, _, rfl, rfl, ?_⟩
      unfold OdA
      rw [if_neg (by rintro ⟨q1, q2, q3⟩; first | exact c9 q1 | exact c18 q2 | exact c28 q3)]
      exact ⟨rfl, rfl⟩
    · refine T_iload dX12_odds_21 rfl ?_
      refine T_iconst (v := 0) dX12_odds_23 (by decide) ?_
      refine T_iconst (v := 1) dX12_odds_24 (by decide) ?_
      refine T_s3e (cu2 := 0) (su2 := 0) dX12_odds_25 ls_X12_71 rfl (c_X12_within _ _ _) (nb rfl) (nb rfl) (nb rfl) (nb rfl) (nb rfl) ?_
      refine T_if_neB (tgt := 35) dX12_odds_28 (by decide) (fun c28 => ?_) (fun c28 => ?_)
      · obtain ⟨kk, hk, rfl⟩ := shN c9
        obtain ⟨nn, hn, rfl⟩ := setN (a := 10) (by omega) c18.2
        refine T_Q (fun r h' hh => ?_) (lp_X12_odds_35 (u := m0 u 0) (w := w) (sort := sort) (i := i) hA hM hL hk hn hl)
        obtain ⟨v, u', e1, e2, e3⟩ := hh
        refine ⟨v, u', e1, e2, ?_⟩
        unfold OdA
        rw [if_pos ⟨c9, c18, c28⟩, nI_clamp (show kk < 2 ^ 31 by omega), nI_clamp (show nn < 2 ^ 31 by omega)]
        exact e3
      · refine T_ldc2 dX12_odds_31 kl_X12_69 ?_
        refine T_lret dX12_odds_34 rfl (nb rfl) (nb rfl) ?_
        refine ⟨_, _, rfl, rfl, ?_⟩
        unfold OdA
        rw [if_neg (by rintro ⟨q1, q2, q3⟩; first | exact c9 q1 | exact c18 q2 | exact c28 q3)]
        exact ⟨rfl, rfl⟩
end M21
