/-! the reference: a lake's text, its water, and all of it -/
section M24
variable {A B : XH} {u : MSt} {h : XH} {Z : XZ} {f : Nat → Int32} {e : Nat}
theorem mK_14 {w : Int32} {hh a m : Nat} {I W R : Nat → Int32} : (mB (mK u w hh I W) a m R).1 14 = w := by
  show va_up (va_up (va_up (va_up u.1 14 w) 15 (nI hh)) 16 (nI m)) 13 (nI a) 14 = w
  unfold va_up
  rw [if_neg (by decide), if_neg (by decide), if_neg (by decide), if_pos rfl]
/-- how many digits 0 or 1 stand from a on, at most r -/
def islP (f : Nat → Int32) (e : Nat) : Nat → Nat → Nat
  | 0, _ => 0
  | r + 1, a => if dgP f e a 0 1 then islP f e r (a + 1) + 1 else 0
def IsD (f : Nat → Int32) (e p : Nat) (I : Nat → Int32) (k : Nat) : Prop := dgP f e (p + k) 0 1 ∧ I k = f (p + k) - 48
theorem lp_X12_readLake_46 (hA : A.length = 67) (hf : u.2 4 = f) (he : e ≤ 240) {p m wd hh : Nat} (hw : wd ≤ 4) {W R : Nat → Int32} {Qa : Option Value → XH → Prop} : ∀ r c, c + r = wd → ∀ a I, a = p + c → a ≤ e → (∀ k, 1 ≤ k → k < c → IsD f e p I k) →
    (islP f e r a = r → ∀ I, a + r ≤ e → (∀ k, 1 ≤ k → k < wd → IsD f e p I k) → T M_X12_readLake x_E (x_Z M_X12_readLake Qa) 0 0 86 [(0, .ref 67), (1, .int (nI e))] [] (mH A (mB (mK u (nI wd) hh I W) (a + r) m R) B)) →
    (¬ islP f e r a = r → ∀ I, Qa (some (.int 0)) (mH A (mB (mK u (nI wd) hh I W) (a + islP f e r a) m R) B)) →
    T M_X12_readLake x_E (x_Z M_X12_readLake Qa) 0 0 46 [(0, .ref 67), (1, .int (nI e)), (2, .int (nI c))] [] (mH A (mB (mK u (nI wd) hh I W) a m R) B) := by
  intro r
  induction r with
  | zero =>
    intro c hc a I ha hae hD K1 K2
    obtain rfl : c = wd := by omega
    refine T_iload_n dX12_readLake_46 rfl ?_
    refine T_aload_n dX12_readLake_47 rfl ?_
    refine T_get dX12_readLake_48 fl_X12_105_12 (mH_get hA rfl) rfl ?_
    refine T_top mK_14 ?_
    refine T_icmp_geN (tgt := 86) dX12_readLake_51 (by decide) (by omega) (by omega) (fun c51 => ?_) (fun c51 => ?_)
    · exact T_pick [0, 1] (K1 rfl I hae hD)
    · omega
  | succ r ih =>
    intro c hc a I ha hae hD K1 K2
    unfold islP at K1 K2
    refine T_iload_n dX12_readLake_46 rfl ?_
    refine T_aload_n dX12_readLake_47 rfl ?_
    refine T_get dX12_readLake_48 fl_X12_105_12 (mH_get hA rfl) rfl ?_
    refine T_top mK_14 ?_
    refine T_icmp_geN (tgt := 86) dX12_readLake_51 (by decide) (by omega) (by omega) (fun c51 => ?_) (fun c51 => ?_)
    · omega
    · refine T_aload_n dX12_readLake_54 rfl ?_
      refine T_get dX12_readLake_55 fl_X12_35_12 (mH_get hA rfl) rfl ?_
      refine T_iload_n dX12_readLake_58 rfl ?_
      refine T_aload_n dX12_readLake_59 rfl ?_
      refine T_iload_n dX12_readLake_60 rfl ?_
      refine T_iconst (v := nI 0) dX12_readLake_61 (by decide) ?_
      refine T_iconst (v := nI 1) dX12_readLake_62 (by decide) ?_
      refine T_v3e (cu2 := 0) (su2 := 0) dX12_readLake_63 lv_X12_124 rfl (mH_get hA rfl) rfl (c_X12_digitF (u := (va_up (mK u (nI wd) hh I W).1 16 (nI m), va_up (mK u (nI wd) hh I W).2 19 R)) (B := B) (f := f) (a := a) hA (mB_4 (mK_4 hf)) 0 1 he hae (by decide) (by decide)) (nb rfl) (nb rfl) (nb rfl) (nb rfl) (nb rfl) ?_
      have D := dig_cs (f := f) (e := e) (a := a) (lo := 0) (hi := 1) (by decide) (by decide)
      generalize dgV f e a 0 1 = d1 at D ⊢
      generalize (if dgP f e a 0 1 then a + 1 else a) = a2 at D ⊢
      refine T_iastN dX12_readLake_66 (mH_get hA rfl) (by omega) (by decide) ?_
      first | refine T_h (mT_17 hA) ?_ | refine T_h (mS_17 hA) ?_
      refine T_h (h2 := mH A (mB (mK u (nI wd) hh (upd I c d1) W) a2 m R) B) rfl ?_
      refine T_aload_n dX12_readLake_67 rfl ?_
      refine T_get dX12_readLake_68 fl_X12_35_12 (mH_get hA rfl) rfl ?_
      refine T_iload_n dX12_readLake_71 rfl ?_
      refine T_ialdN dX12_readLake_72 (mH_get hA rfl) (by omega) (by decide) ?_
      refine T_top upd_s ?_
      refine T_bipush (v := (-9)) dX12_readLake_73 (by decide) ?_
      refine T_icmp_ne (tgt := 80) dX12_readLake_75 (by decide) (fun c75 => ?_) (fun c75 => ?_)
      · obtain ⟨D1, D2, D3, D4⟩ : dgP f e a 0 1 ∧ ¬ d1 = -9 ∧ d1 = f a - 48 ∧ a2 = a + 1 := by
          rcases D with D | D
          · exact absurd D.2.1 c75
          · exact D
        subst D4
        refine T_iincN dX12_readLake_80 rfl (by decide) rfl ?_
        refine T_goto (tgt := 46) dX12_readLake_83 (by decide) ?_
        rw [if_pos D1] at K1 K2
        refine ih (c + 1) (by omega) (a + 1) _ (by omega) (by have := D1.1; omega) (fun k hk1 hk => ?_) (fun q I2 g1 g2 => ?_) (fun q I2 => ?_)
        · by_cases q : k = c
          · subst q; rw [ha] at D1 D3; exact ⟨D1, by rw [upd_s, D3]⟩
          · obtain ⟨d1, d2⟩ := hD k hk1 (by omega); exact ⟨d1, by rw [upd_n q]; exact d2⟩
        · have k2 := K1 (by omega) I2 (by omega) g2
          rw [show a + 1 + r = a + (r + 1) by omega]
          exact k2
        · have k2 := K2 (by omega) I2
          rw [show a + 1 + islP f e r (a + 1) = a + (islP f e r (a + 1) + 1) by omega]
          exact k2
      · obtain ⟨D1, D2, D3⟩ : ¬ dgP f e a 0 1 ∧ d1 = -9 ∧ a2 = a := by
          rcases D with D | D
          · exact D
          · exact absurd c75 D.2.1
        subst D3
        refine T_iconst (v := 0) dX12_readLake_78 (by decide) ?_
        refine T_zret dX12_readLake_79 rfl rfl (nb rfl) (nb rfl) ?_
        rw [if_neg D1] at K2
        exact K2 (by omega) _
/-- the width that stands at a -/
def wdP (f : Nat → Int32) (a : Nat) : Nat := (f a - 48).toNatClampNeg
/-- a lake's text from s to e: the place reached, whether all is well, width, hours, boats -/
def lakeP (f : Nat → Int32) (e s : Nat) : (Nat × Bool) × (Nat × (Nat × Nat)) :=
  if sgP f e s 119 then
    (if dgP f e (s + 1) 2 4 then
      (if islP f e (wdP f (s + 1) - 1) (s + 2) = wdP f (s + 1) - 1 then
        (if sgP f e (s + 1 + wdP f (s + 1)) 59 then
          (if wndP f e 10 (s + 2 + wdP f (s + 1)) = 0 then ((s + 2 + wdP f (s + 1), false), (0, (0, 0)))
           else (((btsP f e 3 0 (s + 2 + wdP f (s + 1) + wndP f e 10 (s + 2 + wdP f (s + 1)))).2.1, (btsP f e 3 0 (s + 2 + wdP f (s + 1) + wndP f e 10 (s + 2 + wdP f (s + 1)))).2.2), (wdP f (s + 1), (wndP f e 10 (s + 2 + wdP f (s + 1)), (btsP f e 3 0 (s + 2 + wdP f (s + 1) + wndP f e 10 (s + 2 + wdP f (s + 1)))).1))))
        else ((s + 1 + wdP f (s + 1), false), (0, (0, 0))))
      else ((s + 2 + islP f e (wdP f (s + 1) - 1) (s + 2), false), (0, (0, 0))))
    else ((s + 1, false), (0, (0, 0))))
  else ((s, false), (0, (0, 0)))
def LkD (f : Nat → Int32) (e s wd hh m : Nat) (I W R : Nat → Int32) : Prop := 2 ≤ wd ∧ wd ≤ 4 ∧ 1 ≤ hh ∧ hh ≤ 10 ∧ 1 ≤ m ∧ m ≤ 3 ∧ (∀ k, 1 ≤ k → k < wd → IsD f e (s + 1) I k) ∧ (∀ k, k < hh → WdD f (s + 2 + wd) W k) ∧ (∀ b, b < m → BtD f e (s + 2 + wd + hh) R b)
def LkQ (A B : XH) (u : MSt) (f : Nat → Int32) (e s : Nat) (q : Option Value) (h' : XH) : Prop :=
  ∃ w hh m I W R, q = some (.int (bI ((lakeP f e s).1.2 = true))) ∧ h' = mH A (mB (mK u w hh I W) (lakeP f e s).1.1 m R) B ∧ ((lakeP f e s).1.2 = true → w = nI (lakeP f e s).2.1 ∧ hh = (lakeP f e s).2.2.1 ∧ m = (lakeP f e s).2.2.2 ∧ LkD f e s (lakeP f e s).2.1 hh m I W R)
theorem LkQ_no {s p hh m : Nat} {w : Int32} {I W R : Nat → Int32} (hl : lakeP f e s = ((p, false), (0, (0, 0)))) : LkQ A B u f e s (some (.int 0)) (mH A (mB (mK u w hh I W) p m R) B) := by
  unfold LkQ
  rw [hl]
  exact ⟨w, hh, m, I, W, R, sI (bI_f (show ¬ false = true by decide)), rfl, fun q => absurd (show false = true from q) (by decide)⟩
theorem wndP_le (f : Nat → Int32) (e : Nat) : ∀ r a, wndP f e r a ≤ r := by
  intro r
  induction r with
  | zero => exact fun _ => Nat.le_refl _
  | succ r ih =>
    intro a
    unfold wndP
    split
    · have := ih (a + 1); omega
    · omega
theorem btsP_m (f : Nat → Int32) (e : Nat) : ∀ r m a, m + r = 3 → (btsP f e r m a).2.2 = true → 1 ≤ (btsP f e r m a).1 ∧ (btsP f e r m a).1 ≤ 3 := by
  intro r
  induction r with
  | zero => intro m a hm _; show 1 ≤ m ∧ m ≤ 3; omega
  | succ r ih =>
    intro m a hm
    unfold btsP
    split
    next h1 =>
      split
      next h2 =>
        split
        next h3 => exact ih (m + 1) (a + 4) (by omega)
        next h3 => exact fun q => absurd (show false = true from q) (by decide)
      next h2 => exact fun q => absurd (show false = true from q) (by decide)
    next h1 => intro _; show 1 ≤ m ∧ m ≤ 3; omega
theorem lp_X12_readLake_176 (hA : A.length = 67) (hf : u.2 4 = f) (he : e ≤ 240) {s wd : Nat} {I W R : Nat → Int32} (hwd : wdP f (s + 1) = wd) (w1 : 2 ≤ wd) (w2 : wd ≤ 4) (c17 : sgP f e s 119) (D1 : dgP f e (s + 1) 2 4) (q : islP f e (wd - 1) (s + 2) = wd - 1) (c93 : sgP f e (s + 1 + wd) 59) (g2 : ∀ k, 1 ≤ k → k < wd → IsD f e (s + 1) I k) (e1 : s + 2 + wd + wndP f e 10 (s + 2 + wd) ≤ e) (e2 : ∀ k, k < wndP f e 10 (s + 2 + wd) → WdD f (s + 2 + wd) W k) :
    T M_X12_readLake x_E (x_Z M_X12_readLake (LkQ A B u f e s)) 0 0 176 [(0, .ref 67), (1, .int (nI e))] [] (mH A (mB (mK u (nI wd) (wndP f e 10 (s + 2 + wd)) I W) (s + 2 + wd + wndP f e 10 (s + 2 + wd)) 0 R) B) := by
  have hlp : lakeP f e s = if wndP f e 10 (s + 2 + wd) = 0 then ((s + 2 + wd, false), (0, (0, 0))) else (((btsP f e 3 0 (s + 2 + wd + wndP f e 10 (s + 2 + wd))).2.1, (btsP f e 3 0 (s + 2 + wd + wndP f e 10 (s + 2 + wd))).2.2), (wd, (wndP f e 10 (s + 2 + wd), (btsP f e 3 0 (s + 2 + wd + wndP f e 10 (s + 2 + wd))).1))) := by
    unfold lakeP
    rw [hwd, if_pos c17, if_pos D1, if_pos q, if_pos c93]
  have hwl := wndP_le f e 10 (s + 2 + wd)
  generalize wndP f e 10 (s + 2 + wd) = hh at *
  refine T_aload_n dX12_readLake_176 rfl ?_
  refine T_get dX12_readLake_177 fl_X12_111_12 (mH_get hA rfl) rfl ?_
  refine T_top mK_15 ?_
  refine T_if_neN (tgt := 185) dX12_readLake_180 (by decide) (by omega) (fun c180 => ?_) (fun c180 => ?_)
  · rw [if_neg c180] at hlp
    refine T_Q (fun r h' qq => ?_) (lp_X12_readLake_185 (p := s + 2 + wd + hh) hA (mK_4 hf) he 3 0 rfl (s + 2 + wd + hh) R rfl e1 (fun b hb => absurd hb (by omega)))
    obtain ⟨m', R', x1, x2, x3⟩ := qq
    have x4 := btsP_m f e 3 0 (s + 2 + wd + hh) rfl
    unfold LkQ
    rw [hlp]
    refine ⟨nI wd, hh, m', I, W, R', x1, x2, fun y => ?_⟩
    obtain ⟨y1, y2⟩ := x3 y
    have y3 := x4 y
    exact ⟨rfl, rfl, y1, w1, w2, by omega, hwl, by omega, by omega, g2, e2, y2⟩
  · refine T_iconst (v := 0) dX12_readLake_183 (by decide) ?_
    refine T_zret dX12_readLake_184 rfl rfl (nb rfl) (nb rfl) ?_
    rw [if_pos c180] at hlp
    subst c180
    exact LkQ_no hlp
theorem lp_X12_readLake_86 (hA : A.length = 67) (hf : u.2 4 = f) (he : e ≤ 240) {s wd : Nat} {I W R : Nat → Int32} (hwd : wdP f (s + 1) = wd) (w1 : 2 ≤ wd) (w2 : wd ≤ 4) (c17 : sgP f e s 119) (D1 : dgP f e (s + 1) 2 4) (q : islP f e (wd - 1) (s + 2) = wd - 1) (g1 : s + 2 + (wd - 1) ≤ e) (g2 : ∀ k, 1 ≤ k → k < wd → IsD f e (s + 1) I k) :
    T M_X12_readLake x_E (x_Z M_X12_readLake (LkQ A B u f e s)) 0 0 86 [(0, .ref 67), (1, .int (nI e))] [] (mH A (mB (mK u (nI wd) 0 I W) (s + 1 + 1 + (wd - 1)) 0 R) B) := by
  rw [show s + 1 + 1 + (wd - 1) = s + 1 + wd by omega]
  refine T_aload_n dX12_readLake_86 rfl ?_
  refine T_iload_n dX12_readLake_87 rfl ?_
  refine T_bipush (v := 59) dX12_readLake_88 (by decide) ?_
  refine T_v2e (cu2 := 0) (su2 := 0) dX12_readLake_90 lv_X12_120 rfl (mH_get hA rfl) rfl (c_X12_isSignF (u := (va_up (mK u (nI wd) 0 I W).1 16 (nI 0), va_up (mK u (nI wd) 0 I W).2 19 R)) (B := B) (f := f) (a := s + 1 + wd) hA (mB_4 (mK_4 hf)) _ he (by omega)) (nb rfl) (nb rfl) (nb rfl) (nb rfl) (nb rfl) ?_
  refine T_if_neB (tgt := 98) dX12_readLake_93 (by decide) (fun c93 => ?_) (fun c93 => ?_)
  · rw [if_pos c93]
    refine T_h (h2 := mH A (mB (mK u (nI wd) 0 I W) (s + 1 + wd + 1) 0 R) B) rfl ?_
    rw [show s + 1 + wd + 1 = s + 2 + wd by omega]
    have hse : s + 1 + wd < e := c93.1
    refine lp_X12_readLake_98 (m := 0) (w := nI wd) (I := I) (R := R) hA hf he (p := s + 2 + wd) 10 0 rfl (s + 2 + wd) W rfl (by omega) (fun k hk => absurd hk (by omega)) (fun W2 e1 e2 => ?_)
    rw [Nat.zero_add] at e2 ⊢
    exact lp_X12_readLake_176 hA hf he hwd w1 w2 c17 D1 q c93 g2 e1 e2
  · refine T_iconst (v := 0) dX12_readLake_96 (by decide) ?_
    refine T_zret dX12_readLake_97 rfl rfl (nb rfl) (nb rfl) ?_
    rw [if_neg c93]
    exact LkQ_no (by unfold lakeP; rw [hwd, if_pos c17, if_pos D1, if_pos q, if_neg c93])
theorem c_X12_readLake (hA : A.length = 67) (hf : u.2 4 = f) (he : e ≤ 240) {s : Nat} (hs : s ≤ e) : Con M_X12_readLake [.ref 67, .int (nI e)] (mH A (mA u s) B) (LkQ A B u f e s) := by
  refine Con.of rfl (nb rfl) ?_
  refine T_aload_n dX12_readLake_0 rfl ?_
  refine T_iconst (v := 0) dX12_readLake_1 (by decide) ?_
  refine T_put dX12_readLake_2 fp_X12_111_12 (mH_get hA rfl) (nb rfl) (fun _ => ⟨rfl, rfl⟩) ?_
  first | refine T_h (mE_15 hA) ?_ | refine T_h (mF_15 hA) ?_
  refine T_aload_n dX12_readLake_5 rfl ?_
  refine T_iconst (v := 0) dX12_readLake_6 (by decide) ?_
  refine T_put dX12_readLake_7 fp_X12_114_12 (mH_get hA rfl) (nb rfl) (fun _ => ⟨rfl, rfl⟩) ?_
  first | refine T_h (mE_16 hA) ?_ | refine T_h (mF_16 hA) ?_
  refine T_h (h2 := mH A (mB (mK u (u.1 14) 0 (u.2 17) (u.2 18)) s 0 (u.2 19)) B) rfl ?_
  refine T_aload_n dX12_readLake_10 rfl ?_
  refine T_iload_n dX12_readLake_11 rfl ?_
  refine T_bipush (v := 119) dX12_readLake_12 (by decide) ?_
  refine T_v2e (cu2 := 0) (su2 := 0) dX12_readLake_14 lv_X12_120 rfl (mH_get hA rfl) rfl (c_X12_isSignF (u := (va_up (mK u (u.1 14) 0 (u.2 17) (u.2 18)).1 16 (nI 0), va_up (mK u (u.1 14) 0 (u.2 17) (u.2 18)).2 19 (u.2 19))) (B := B) (f := f) (a := s) hA (mB_4 (mK_4 hf)) _ he hs) (nb rfl) (nb rfl) (nb rfl) (nb rfl) (nb rfl) ?_
  refine T_if_neB (tgt := 22) dX12_readLake_17 (by decide) (fun c17 => ?_) (fun c17 => ?_)
  · have hs1 : s < e := c17.1
    rw [if_pos c17]
    refine T_h (h2 := mH A (mB (mK u (u.1 14) 0 (u.2 17) (u.2 18)) (s + 1) 0 (u.2 19)) B) rfl ?_
    refine T_aload_n dX12_readLake_22 rfl ?_
    refine T_aload_n dX12_readLake_23 rfl ?_
    refine T_iload_n dX12_readLake_24 rfl ?_
    refine T_iconst (v := nI 2) dX12_readLake_25 (by decide) ?_
    refine T_iconst (v := nI 4) dX12_readLake_26 (by decide) ?_
    refine T_v3e (cu2 := 0) (su2 := 0) dX12_readLake_27 lv_X12_124 rfl (mH_get hA rfl) rfl (c_X12_digitF (u := (va_up (mK u (u.1 14) 0 (u.2 17) (u.2 18)).1 16 (nI 0), va_up (mK u (u.1 14) 0 (u.2 17) (u.2 18)).2 19 (u.2 19))) (B := B) (f := f) (a := s + 1) hA (mB_4 (mK_4 hf)) 2 4 he (by omega) (by decide) (by decide)) (nb rfl) (nb rfl) (nb rfl) (nb rfl) (nb rfl) ?_
    have D := dig_cs (f := f) (e := e) (a := s + 1) (lo := 2) (hi := 4) (by decide) (by decide)
    generalize dgV f e (s + 1) 2 4 = d1 at D ⊢
    generalize (if dgP f e (s + 1) 2 4 then s + 1 + 1 else s + 1) = a2 at D ⊢
    refine T_put dX12_readLake_30 fp_X12_105_12 (mH_get hA rfl) (nb rfl) (fun _ => ⟨rfl, rfl⟩) ?_
    first | refine T_h (mE_14 hA) ?_ | refine T_h (mF_14 hA) ?_
    refine T_h (h2 := mH A (mB (mK u d1 0 (u.2 17) (u.2 18)) a2 0 (u.2 19)) B) rfl ?_
    refine T_aload_n dX12_readLake_33 rfl ?_
    refine T_get dX12_readLake_34 fl_X12_105_12 (mH_get hA rfl) rfl ?_
    refine T_top mK_14 ?_
    refine T_bipush (v := (-9)) dX12_readLake_37 (by decide) ?_
    refine T_icmp_ne (tgt := 44) dX12_readLake_39 (by decide) (fun c39 => ?_) (fun c39 => ?_)
    · obtain ⟨D1, D2, D3, D4⟩ : dgP f e (s + 1) 2 4 ∧ ¬ d1 = -9 ∧ d1 = f (s + 1) - 48 ∧ a2 = s + 1 + 1 := by
        rcases D with D | D
        · exact absurd D.2.1 c39
        · exact D
      subst D4
      obtain ⟨wd, w1, w2, w3, w4⟩ := dig_I (by decide) (by decide) D1.2
      obtain rfl : d1 = nI wd := D3.trans w4
      have hwd : wdP f (s + 1) = wd := by unfold wdP; rw [w4]; exact nI_clamp (by omega)
      have hs2 : s + 1 < e := D1.1
      refine T_iconst (v := nI 1) dX12_readLake_44 (by decide) ?_
      refine T_istore_n dX12_readLake_45 (by decide) rfl ?_
      refine lp_X12_readLake_46 hA hf he w2 (p := s + 1) (wd - 1) 1 (by omega) (s + 1 + 1) (u.2 17) rfl (by omega) (fun k q1 q2 => absurd q1 (by omega)) (fun q I g1 g2 => ?_) (fun q I => ?_)
      · exact lp_X12_readLake_86 hA hf he hwd w1 w2 c17 D1 q g1 g2
      · exact LkQ_no (by unfold lakeP; rw [hwd, if_pos c17, if_pos D1, if_neg q])
    · obtain ⟨D1, D2, D3⟩ : ¬ dgP f e (s + 1) 2 4 ∧ d1 = -9 ∧ a2 = s + 1 := by
        rcases D with D | D
        · exact D
        · exact absurd c39 D.2.1
      subst D3
      refine T_iconst (v := 0) dX12_readLake_42 (by decide) ?_
      refine T_zret dX12_readLake_43 rfl rfl (nb rfl) (nb rfl) ?_
      exact LkQ_no (by unfold lakeP; rw [if_pos c17, if_neg D1])
  · refine T_iconst (v := 0) dX12_readLake_20 (by decide) ?_
    refine T_zret dX12_readLake_21 rfl rfl (nb rfl) (nb rfl) ?_
    rw [if_neg c17]
    exact LkQ_no (by unfold lakeP; rw [if_neg c17])
end M24
