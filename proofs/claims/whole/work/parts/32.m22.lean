/-! the reference: a lake's text, its boats -/
section M23
variable {A B : XH} {u : MSt} {h : XH} {Z : XZ} {f : Nat → Int32} {e : Nat}
/-- the boats of a text: how many, the place reached, whether all is well -/
def btsP (f : Nat → Int32) (e : Nat) : Nat → Nat → Nat → Nat × (Nat × Bool)
  | 0, m, a => (m, (a, decide (a = e)))
  | r + 1, m, a => if m = 0 ∨ a < e then (if sgP f e a 44 then (if btK f e (a + 1) = 3 then btsP f e r (m + 1) (a + 4) else (m, (a + 1 + btK f e (a + 1), false))) else (m, (a, false))) else (m, (a, decide (a = e)))
def BtD (f : Nat → Int32) (e p : Nat) (R : Nat → Int32) (b : Nat) : Prop := btK f e (p + 4 * b + 1) = 3 ∧ R (3 * b) = kdV (f (p + 4 * b + 1)) ∧ R (3 * b + 1) = f (p + 4 * b + 2) - 48 ∧ R (3 * b + 2) = f (p + 4 * b + 3) - 48
def BsQ (A B : XH) (u : MSt) (f : Nat → Int32) (e p : Nat) (r : Nat × (Nat × Bool)) (q : Option Value) (h' : XH) : Prop :=
  ∃ m' R', q = some (.int (bI (r.2.2 = true))) ∧ h' = mH A (mB u r.2.1 m' R') B ∧ (r.2.2 = true → m' = r.1 ∧ ∀ b, b < m' → BtD f e p R' b)
theorem btK_le (f : Nat → Int32) (e a : Nat) (ha : a ≤ e) : a + btK f e a ≤ e := by
  unfold btK
  split
  next h1 =>
    split
    next h2 =>
      split
      next h3 => have := h3.1; omega
      next h3 => have := h2.1; omega
    next h2 => have := h1.1; omega
  next h1 => exact ha
theorem lp_X12_readLake_185 (hA : A.length = 67) (hf : u.2 4 = f) (he : e ≤ 240) {p : Nat} : ∀ r m, m + r = 3 → ∀ a R, a = p + 4 * m → a ≤ e → (∀ b, b < m → BtD f e p R b) →
    T M_X12_readLake x_E (x_Z M_X12_readLake (BsQ A B u f e p (btsP f e r m a))) 0 0 185 [(0, .ref 67), (1, .int (nI e))] [] (mH A (mB u a m R) B) := by
  intro r
  induction r with
  | zero =>
    intro m hm a R ha hae hD
    obtain rfl : m = 3 := by omega
    refine T_aload_n dX12_readLake_185 rfl ?_
    refine T_get dX12_readLake_186 fl_X12_114_12 (mH_get hA rfl) rfl ?_
    refine T_top mB_16 ?_
    refine T_if_eqN (tgt := 208) dX12_readLake_189 (by decide) (by omega) (fun c189 => ?_) (fun c189 => ?_)
    · omega
    · refine T_aload_n dX12_readLake_192 rfl ?_
      refine T_get dX12_readLake_193 fl_X12_114_12 (mH_get hA rfl) rfl ?_
      refine T_top mB_16 ?_
      refine T_iconst (v := nI 3) dX12_readLake_196 (by decide) ?_
      refine T_icmp_geN (tgt := 228) dX12_readLake_197 (by decide) (by omega) (by omega) (fun c197 => ?_) (fun c197 => ?_)
      · refine T_aload_n dX12_readLake_228 rfl ?_
        refine T_get dX12_readLake_229 fl_X12_81_12 (mH_get hA rfl) rfl ?_
        refine T_top mA_13 ?_
        refine T_iload_n dX12_readLake_232 rfl ?_
        refine T_icmp_neN (tgt := 240) dX12_readLake_233 (by decide) (by omega) (by omega) (fun c233 => ?_) (fun c233 => ?_)
        · refine T_iconst (v := 0) dX12_readLake_240 (by decide) ?_
          refine T_zret dX12_readLake_241 rfl rfl (nb rfl) (nb rfl) ?_
          first
            | exact ⟨3, R, sI (bI_t (show decide (a = e) = true from decide_eq_true c233)), rfl, fun _ => ⟨rfl, hD⟩⟩
            | exact ⟨3, R, sI (bI_f (show ¬ decide (a = e) = true from fun q => c233 (of_decide_eq_true q))), rfl, fun q => absurd (of_decide_eq_true q) c233⟩
        · refine T_iconst (v := 1) dX12_readLake_236 (by decide) ?_
          refine T_goto (tgt := 241) dX12_readLake_237 (by decide) ?_
          refine T_zret dX12_readLake_241 rfl rfl (nb rfl) (nb rfl) ?_
          first
            | exact ⟨3, R, sI (bI_t (show decide (a = e) = true from decide_eq_true c233)), rfl, fun _ => ⟨rfl, hD⟩⟩
            | exact ⟨3, R, sI (bI_f (show ¬ decide (a = e) = true from fun q => c233 (of_decide_eq_true q))), rfl, fun q => absurd (of_decide_eq_true q) c233⟩
      · omega
  | succ r ih =>
    intro m hm a R ha hae hD
    have K : (m = 0 ∨ a < e) → T M_X12_readLake x_E (x_Z M_X12_readLake (BsQ A B u f e p (btsP f e (r + 1) m a))) 0 0 208 [(0, .ref 67), (1, .int (nI e))] [] (mH A (mB u a m R) B) := by
      intro hgo
      unfold btsP
      rw [if_pos hgo]
      refine T_aload_n dX12_readLake_208 rfl ?_
      refine T_iload_n dX12_readLake_209 rfl ?_
      refine T_bipush (v := 44) dX12_readLake_210 (by decide) ?_
      refine T_v2e (cu2 := 0) (su2 := 0) dX12_readLake_212 lv_X12_120 rfl (mH_get hA rfl) rfl (c_X12_isSignF (u := (va_up u.1 16 (nI m), va_up u.2 19 R)) (B := B) (f := f) (a := a) hA (mB_4 hf) _ he hae) (nb rfl) (nb rfl) (nb rfl) (nb rfl) (nb rfl) ?_
      refine T_if_eqB (tgt := 226) dX12_readLake_215 (by decide) (fun c215 => ?_) (fun c215 => ?_)
      · refine T_iconst (v := 0) dX12_readLake_226 (by decide) ?_
        refine T_zret dX12_readLake_227 rfl rfl (nb rfl) (nb rfl) ?_
        first
          | (rw [if_neg c215, if_neg c215]; exact ⟨m, R, sI (bI_f (show ¬ false = true by decide)), rfl, fun q => absurd (show false = true from q) (by decide)⟩)
          | (rw [if_neg c223]; exact ⟨m2, R2, sI (bI_f (show ¬ false = true by decide)), rfl, fun q => absurd (show false = true from q) (by decide)⟩)
      · rw [if_pos c215, if_pos c215]
        refine T_h (h2 := mH A (mB u (a + 1) m R) B) rfl ?_
        refine T_aload_n dX12_readLake_218 rfl ?_
        refine T_iload_n dX12_readLake_219 rfl ?_
        refine T_v1q (cu2 := 0) (su2 := 0) dX12_readLake_220 lv_X12_131 rfl (mH_get hA rfl) rfl (c_X12_readBoat (a := a + 1) (m := m) (R := R) hA hf he (by have := c215.1; omega) (by omega)) (nb rfl) (nb rfl) (nb rfl) (nb rfl) (nb rfl) (fun r220 h220 q220 => ?_)
        obtain ⟨m2, R2, rfl, rfl, hd⟩ := q220
        refine T_if_neB (tgt := 185) dX12_readLake_223 (by decide) (fun c223 => ?_) (fun c223 => ?_)
        · obtain ⟨rfl, d1, d2, d3, d4⟩ := hd c223
          rw [if_pos c223, c223]
          have hle := btK_le f e (a + 1) (by have := c215.1; omega)
          rw [c223] at hle
          refine ih (m + 1) (by omega) (a + 4) R2 (by omega) (by omega) (fun b hb => ?_)
          by_cases q : b = m
          · subst q
            rw [ha] at d1 d2 d3 c223
            exact ⟨c223, d1, d2, d3⟩
          · obtain ⟨g1, g2, g3, g4⟩ := hD b (by omega)
            exact ⟨g1, by rw [d4 _ (by omega)]; exact g2, by rw [d4 _ (by omega)]; exact g3, by rw [d4 _ (by omega)]; exact g4⟩
        · refine T_iconst (v := 0) dX12_readLake_226 (by decide) ?_
          refine T_zret dX12_readLake_227 rfl rfl (nb rfl) (nb rfl) ?_
          first
            | (rw [if_neg c215, if_neg c215]; exact ⟨m, R, sI (bI_f (show ¬ false = true by decide)), rfl, fun q => absurd (show false = true from q) (by decide)⟩)
            | (rw [if_neg c223]; exact ⟨m2, R2, sI (bI_f (show ¬ false = true by decide)), rfl, fun q => absurd (show false = true from q) (by decide)⟩)
    refine T_aload_n dX12_readLake_185 rfl ?_
    refine T_get dX12_readLake_186 fl_X12_114_12 (mH_get hA rfl) rfl ?_
    refine T_top mB_16 ?_
    refine T_if_eqN (tgt := 208) dX12_readLake_189 (by decide) (by omega) (fun c189 => ?_) (fun c189 => ?_)
    · first | exact K (Or.inl c189) | exact K (Or.inr (by omega))
    · refine T_aload_n dX12_readLake_192 rfl ?_
      refine T_get dX12_readLake_193 fl_X12_114_12 (mH_get hA rfl) rfl ?_
      refine T_top mB_16 ?_
      refine T_iconst (v := nI 3) dX12_readLake_196 (by decide) ?_
      refine T_icmp_geN (tgt := 228) dX12_readLake_197 (by decide) (by omega) (by omega) (fun c197 => ?_) (fun c197 => ?_)
      · omega
      · refine T_aload_n dX12_readLake_200 rfl ?_
        refine T_get dX12_readLake_201 fl_X12_81_12 (mH_get hA rfl) rfl ?_
        refine T_top mA_13 ?_
        refine T_iload_n dX12_readLake_204 rfl ?_
        refine T_icmp_geN (tgt := 228) dX12_readLake_205 (by decide) (by omega) (by omega) (fun c205 => ?_) (fun c205 => ?_)
        · refine T_aload_n dX12_readLake_228 rfl ?_
          refine T_get dX12_readLake_229 fl_X12_81_12 (mH_get hA rfl) rfl ?_
          refine T_top mA_13 ?_
          refine T_iload_n dX12_readLake_232 rfl ?_
          refine T_icmp_neN (tgt := 240) dX12_readLake_233 (by decide) (by omega) (by omega) (fun c233 => ?_) (fun c233 => ?_)
          · refine T_iconst (v := 0) dX12_readLake_240 (by decide) ?_
            refine T_zret dX12_readLake_241 rfl rfl (nb rfl) (nb rfl) ?_
            first
              | (unfold btsP
                 rw [if_neg (by omega)]
                 first
                   | exact ⟨m, R, sI (bI_t (show decide (a = e) = true from decide_eq_true c233)), rfl, fun _ => ⟨rfl, hD⟩⟩
                   | exact ⟨m, R, sI (bI_f (show ¬ decide (a = e) = true from fun q => c233 (of_decide_eq_true q))), rfl, fun q => absurd (of_decide_eq_true q) c233⟩)
          · refine T_iconst (v := 1) dX12_readLake_236 (by decide) ?_
            refine T_goto (tgt := 241) dX12_readLake_237 (by decide) ?_
            refine T_zret dX12_readLake_241 rfl rfl (nb rfl) (nb rfl) ?_
            first
              | (unfold btsP
                 rw [if_neg (by omega)]
                 first
                   | exact ⟨m, R, sI (bI_t (show decide (a = e) = true from decide_eq_true c233)), rfl, fun _ => ⟨rfl, hD⟩⟩
                   | exact ⟨m, R, sI (bI_f (show ¬ decide (a = e) = true from fun q => c233 (of_decide_eq_true q))), rfl, fun q => absurd (of_decide_eq_true q) c233⟩)
        · first | exact K (Or.inl c189) | exact K (Or.inr (by omega))
/-- width, hours, isles and winds as they are read -/
abbrev mK (u : MSt) (w : Int32) (hh : Nat) (I W : Nat → Int32) : MSt := (va_up (va_up u.1 14 w) 15 (nI hh), va_up (va_up u.2 17 I) 18 W)
theorem mK_15 {w : Int32} {hh a m : Nat} {I W R : Nat → Int32} : (mB (mK u w hh I W) a m R).1 15 = nI hh := by
  show va_up (va_up (va_up (va_up u.1 14 w) 15 (nI hh)) 16 (nI m)) 13 (nI a) 15 = nI hh
  unfold va_up
  rw [if_neg (by decide), if_neg (by decide), if_pos rfl]
theorem mK_4 {w : Int32} {hh : Nat} {I W : Nat → Int32} (hf : u.2 4 = f) : (mK u w hh I W).2 4 = f := by
  show va_up (va_up u.2 17 I) 18 W 4 = f
  unfold va_up
  rw [if_neg (by decide), if_neg (by decide)]
  exact hf
def mWb (k : Int32) : Int32 := if k = 46 then 0 else if k = 62 then 1 else if k = 60 then 2 else -9
theorem c_X12_windByF (k : Int32) : ConE M_X12_windBy [.int k] h (some (.int (mWb k))) h := c_X12_windBy k
/-- how many winds stand from a on, at most r -/
def wndP (f : Nat → Int32) (e : Nat) : Nat → Nat → Nat
  | 0, _ => 0
  | r + 1, a => if a < e ∧ ¬ mWb (f a) = -9 then wndP f e r (a + 1) + 1 else 0
def WdD (f : Nat → Int32) (p : Nat) (W : Nat → Int32) (k : Nat) : Prop := ¬ mWb (f (p + k)) = -9 ∧ W k = mWb (f (p + k))
theorem lp_X12_readLake_98 (hA : A.length = 67) (hf : u.2 4 = f) (he : e ≤ 240) {p m : Nat} {w : Int32} {I R : Nat → Int32} {Qa : Option Value → XH → Prop} : ∀ r hh, hh + r = 10 → ∀ a W, a = p + hh → a ≤ e → (∀ k, k < hh → WdD f p W k) →
    (∀ W, a + wndP f e r a ≤ e → (∀ k, k < hh + wndP f e r a → WdD f p W k) → T M_X12_readLake x_E (x_Z M_X12_readLake Qa) 0 0 176 [(0, .ref 67), (1, .int (nI e))] [] (mH A (mB (mK u w (hh + wndP f e r a) I W) (a + wndP f e r a) m R) B)) →
    T M_X12_readLake x_E (x_Z M_X12_readLake Qa) 0 0 98 [(0, .ref 67), (1, .int (nI e))] [] (mH A (mB (mK u w hh I W) a m R) B) := by
  intro r
  induction r with
  | zero =>
    intro hh hr a W ha hae hD K
    obtain rfl : hh = 10 := by omega
    refine T_aload_n dX12_readLake_98 rfl ?_
    refine T_get dX12_readLake_99 fl_X12_111_12 (mH_get hA rfl) rfl ?_
    refine T_top mK_15 ?_
    refine T_bipush (v := nI 10) dX12_readLake_102 (by decide) ?_
    refine T_icmp_geN (tgt := 176) dX12_readLake_104 (by decide) (by omega) (by omega) (fun c104 => ?_) (fun c104 => ?_)
    · exact K W hae hD
    · omega
  | succ r ih =>
    intro hh hr a W ha hae hD K
    unfold wndP at K
    refine T_aload_n dX12_readLake_98 rfl ?_
    refine T_get dX12_readLake_99 fl_X12_111_12 (mH_get hA rfl) rfl ?_
    refine T_top mK_15 ?_
    refine T_bipush (v := nI 10) dX12_readLake_102 (by decide) ?_
    refine T_icmp_geN (tgt := 176) dX12_readLake_104 (by decide) (by omega) (by omega) (fun c104 => ?_) (fun c104 => ?_)
    · omega
    · refine T_aload_n dX12_readLake_107 rfl ?_
      refine T_get dX12_readLake_108 fl_X12_81_12 (mH_get hA rfl) rfl ?_
      refine T_top mA_13 ?_
      refine T_iload_n dX12_readLake_111 rfl ?_
      refine T_icmp_geN (tgt := 176) dX12_readLake_112 (by decide) (by omega) (by omega) (fun c112 => ?_) (fun c112 => ?_)
      · first
          | (rw [if_neg (by omega)] at K; exact K W hae hD)
          | (rw [if_neg (by rintro ⟨q1, q2⟩; exact q2 c129)] at K; exact K W hae hD)
      · refine T_aload_n dX12_readLake_115 rfl ?_
        refine T_get dX12_readLake_116 fl_X12_16_12 (mH_get hA rfl) rfl ?_
        refine T_aload_n dX12_readLake_119 rfl ?_
        refine T_get dX12_readLake_120 fl_X12_81_12 (mH_get hA rfl) rfl ?_
        refine T_top mA_13 ?_
        refine T_ialdN dX12_readLake_123 (mH_get hA rfl) (by omega) (by decide) ?_
        refine T_top (show ((mB (mK u w hh I W) a m R).2 4) a = f a from congrFun (mB_4 (mK_4 hf)) a) ?_
        refine T_s1e (cu2 := 0) (su2 := 0) dX12_readLake_124 ls_X12_128 rfl (c_X12_windByF _) (nb rfl) (nb rfl) (nb rfl) (nb rfl) (nb rfl) ?_
        refine T_bipush (v := (-9)) dX12_readLake_127 (by decide) ?_
        refine T_icmp_eq (tgt := 176) dX12_readLake_129 (by decide) (fun c129 => ?_) (fun c129 => ?_)
        · first
            | (rw [if_neg (by omega)] at K; exact K W hae hD)
            | (rw [if_neg (by rintro ⟨q1, q2⟩; exact q2 c129)] at K; exact K W hae hD)
        · refine T_aload_n dX12_readLake_132 rfl ?_
          refine T_get dX12_readLake_133 fl_X12_38_12 (mH_get hA rfl) rfl ?_
          refine T_aload_n dX12_readLake_136 rfl ?_
          refine T_get dX12_readLake_137 fl_X12_111_12 (mH_get hA rfl) rfl ?_
          refine T_top mK_15 ?_
          refine T_aload_n dX12_readLake_140 rfl ?_
          refine T_get dX12_readLake_141 fl_X12_16_12 (mH_get hA rfl) rfl ?_
          refine T_aload_n dX12_readLake_144 rfl ?_
          refine T_get dX12_readLake_145 fl_X12_81_12 (mH_get hA rfl) rfl ?_
          refine T_top mA_13 ?_
          refine T_ialdN dX12_readLake_148 (mH_get hA rfl) (by omega) (by decide) ?_
          refine T_top (show ((mB (mK u w hh I W) a m R).2 4) a = f a from congrFun (mB_4 (mK_4 hf)) a) ?_
          refine T_s1e (cu2 := 0) (su2 := 0) dX12_readLake_149 ls_X12_128 rfl (c_X12_windByF _) (nb rfl) (nb rfl) (nb rfl) (nb rfl) (nb rfl) ?_
          refine T_iastN dX12_readLake_152 (mH_get hA rfl) (by omega) (by decide) ?_
          first | refine T_h (mT_18 hA) ?_ | refine T_h (mS_18 hA) ?_
          refine T_h (h2 := mH A (mB (mK u w hh I (upd W hh (mWb (f a)))) a m R) B) rfl ?_
          refine T_aload_n dX12_readLake_153 rfl ?_
          refine T_dup dX12_readLake_154 rfl ?_
          refine T_get dX12_readLake_155 fl_X12_111_12 (mH_get hA rfl) rfl ?_
          refine T_top mK_15 ?_
          refine T_iconst (v := nI 1) dX12_readLake_158 (by decide) ?_
          refine T_iaddN dX12_readLake_159 ?_
          refine T_put dX12_readLake_160 fp_X12_111_12 (mH_get hA rfl) (nb rfl) (fun _ => ⟨rfl, rfl⟩) ?_
          first | refine T_h (mE_15 hA) ?_ | refine T_h (mF_15 hA) ?_
          refine T_h (h2 := mH A (mB (mK u w (hh + 1) I (upd W hh (mWb (f a)))) a m R) B) rfl ?_
          refine T_aload_n dX12_readLake_163 rfl ?_
          refine T_dup dX12_readLake_164 rfl ?_
          refine T_get dX12_readLake_165 fl_X12_81_12 (mH_get hA rfl) rfl ?_
          refine T_top mA_13 ?_
          refine T_iconst (v := nI 1) dX12_readLake_168 (by decide) ?_
          refine T_iaddN dX12_readLake_169 ?_
          refine T_put dX12_readLake_170 fp_X12_81_12 (mH_get hA rfl) (nb rfl) (fun _ => ⟨rfl, rfl⟩) ?_
          first | refine T_h (mE_13 hA) ?_ | refine T_h (mF_13 hA) ?_
          refine T_h (h2 := mH A (mB (mK u w (hh + 1) I (upd W hh (mWb (f a)))) (a + 1) m R) B) rfl ?_
          refine T_goto (tgt := 98) dX12_readLake_173 (by decide) ?_
          rw [if_pos ⟨by omega, c129⟩] at K
          refine ih (hh + 1) (by omega) (a + 1) _ (by omega) (by omega) (fun k hk => ?_) (fun W2 g1 g2 => ?_)
          · by_cases q : k = hh
            · subst q; rw [ha] at c129; exact ⟨c129, by rw [upd_s, ha]⟩
            · obtain ⟨d1, d2⟩ := hD k (by omega); exact ⟨d1, by rw [upd_n q]; exact d2⟩
          · have k2 := K W2 (by omega) (fun k hk => g2 k (by omega))
            rw [show hh + 1 + wndP f e r (a + 1) = hh + (wndP f e r (a + 1) + 1) by omega, show a + 1 + wndP f e r (a + 1) = a + (wndP f e r (a + 1) + 1) by omega]
            exact k2
end M23
