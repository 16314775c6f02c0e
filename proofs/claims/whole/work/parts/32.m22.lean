/-! the reference: a lake's text, its boats -/
section M23
variable {A B : XH} {u : MSt} {h : XH} {Z : XZ} {f : Nat → Int32} {e : Nat}
/-- the boats of a text: how many, the place reached, whether all is well -/
def btsP (f : Nat → Int32) (e : Nat) : Nat → Nat → Nat → Nat × (Nat × Bool)
  | 0, m, a => (m, (a, decide (a = e)))
  | r + 1, m, a => if m = 0 ∨ a < e then (if sgP f e a 44 then (if btK f e (a + 1) = 3 then btsP f e r (m + 1) (a + 4) else (m, (a + 1 + btK f e (a + 1), false))) else (m, (a, false))) else (m, (a, decide (a = e)))
def BtD (f : Nat → Int32) (e p : Nat) (R : Nat → Int32) (b : Nat) : Prop := btK f e (p + 4 * b + 1) = 3 ∧ R (3 * b) = kdV (f (p + 4 * b + 1)) ∧ R (3 * b + 1) = f (p + 4 * b + 2) - 48 ∧ R (3 * b + 2) = f (p + 4 * b + 3) - 48
def BsQ (A B : XH) (u : MSt) (f : Nat → Int32) (e p : Nat) (r : Nat × (Nat × Bool)) (q : Option Value) (h' : XH) : Prop :=
  ∃ m' R', q = some (.int (bI (r.2.2 = true))) ∧ h' = mH A (mB u r.2.1 m' R') B ∧ (r.2.2 = true → m' = r.1 ∧ ∀ b, b < m' → BtD f e p R' b)
theorem btK_le (f : Nat → Int32) (e a : Nat) (ha : a ≤ e) : a + btK f e a ≤ e := by
  unfold btK
  split
  next h1 =>
    split
    next h2 =>
      split
      next h3 => have := h3.1; omega
      next h3 => have := h2.1; omega
    next h2 => have := h1.1; omega
  next h1 => exact ha
theorem lp_X12_readLake_185 (hA : A.length = 67) (hf : u.2 4 = f) (he : e ≤ 240) {p : Nat} : ∀ r m, m + r = 3 → ∀ a R, a = p + 4 * m → a ≤ e → (∀ b, b < m → BtD f e p R b) →
    T M_X12_readLake x_E (x_Z M_X12_readLake (BsQ A B u f e p (btsP f e r m a))) 0 0 185 [(0, .ref 67), (1, .int (nI e))] [] (mH A (mB u a m R) B) := by
  intro r
  induction r with
  | zero =>
    intro m hm a R ha hae hD
    obtain rfl : m = 3 := by omega
    refine T_aload_n dX12_readLake_185 rfl ?_
    refine T_get dX12_readLake_186 fl_X12_114_12 (mH_get hA rfl) rfl ?_
    refine T_top mB_16 ?_
    refine T_if_eqN (tgt := 208) dX12_readLake_189 (by decide) (by omega) (fun c189 => ?_) (fun c189 => ?_)
    · omega
    · refine T_aload_n dX12_readLake_192 rfl ?_
      refine T_get dX12_readLake_193 fl_X12_114_12 (mH_get hA rfl) rfl ?_
      refine T_top mB_16 ?_
      refine T_iconst (v := nI 3) dX12_readLake_196 (by decide) ?_
      refine T_icmp_geN (tgt := 228) dX12_readLake_197 (by decide) (by omega) (by omega) (fun c197 => ?_) (fun c197 => ?_)
      · refine T_aload_n dX12_readLake_228 rfl ?_
        refine T_get dX12_readLake_229 fl_X12_81_12 (mH_get hA rfl) rfl ?_
        refine T_top mA_13 ?_
        refine T_iload_n dX12_readLake_232 rfl ?_
        refine T_icmp_neN (tgt := 240) dX12_readLake_233 (by decide) (by omega) (by omega) (fun c233 => ?_) (fun c233 => ?_)
        · refine T_iconst (v := 0) dX12_readLake_240 (by decide) ?_
          refine T_zret dX12_readLake_241 rfl rfl (nb rfl) (nb rfl) ?_
          first
            | exact ⟨3, R, sI (bI_t (show decide (a = e) = true from decide_eq_true c233)), rfl, fun _ => ⟨rfl, hD⟩⟩
            | exact ⟨3, R, sI (bI_f (show ¬ decide (a = e) = true from fun q => c233 (of_decide_eq_true q))), rfl, fun q => absurd (of_decide_eq_true q) c233⟩
        · refine T_iconst (v := 1) dX12_readLake_236 (by decide) ?_
          refine T_goto (tgt := 241) dX12_readLake_237 (by decide) ?_
          refine T_zret dX12_readLake_241 rfl rfl (nb rfl) (nb rfl) ?_
          first
            | exact ⟨3, R, sI (bI_t (show decide (a = e) = true from decide_eq_true c233)), rfl, fun _ => ⟨rfl, hD⟩⟩
            | exact ⟨3, R, sI (bI_f (show ¬ decide (a = e) = true from fun q => c233 (of_decide_eq_true q))), rfl, fun q => absurd (of_decide_eq_true q) c233⟩
      · omega
  | succ r ih =>
    intro m hm a R ha hae hD
    have K : (m = 0 ∨ a < e) → T M_X12_readLake x_E (x_Z M_X12_readLake (BsQ A B u f e p (btsP f e (r + 1) m a))) 0 0 208 [(0, .ref 67), (1, .int (nI e))] [] (mH A (mB u a m R) B) := by
      intro hgo
      unfold btsP
      rw [if_pos hgo]
      refine T_aload_n dX12_readLake_208 rfl ?_
      refine T_iload_n dX12_readLake_209 rfl ?_
      refine T_bipush (v := 44) dX12_readLake_210 (by decide) ?_
      refine T_v2e (cu2 := 0) (su2 := 0) dX12_readLake_212 lv_X12_120 rfl (mH_get hA rfl) rfl (c_X12_isSignF (u := (va_up u.1 16 (nI m), va_up u.2 19 R)) (B := B) (f := f) (a := a) hA (mB_4 hf) _ he hae) (nb rfl) (nb rfl) (nb rfl) (nb rfl) (nb rfl) ?_
      refine T_if_eqB (tgt := 226) dX12_readLake_215 (by decide) (fun c215 => ?_) (fun c215 => ?_)
      · refine T_iconst (v := 0) dX12_readLake_226 (by decide) ?_
        refine T_zret dX12_readLake_227 rfl rfl (nb rfl) (nb rfl) ?_
        first
          | (rw [if_neg c215, if_neg c215]; exact ⟨m, R, sI (bI_f (show ¬ false = true by decide)), rfl, fun q => absurd (show false = true from q) (by decide)⟩)
          | (rw [if_neg c223]; exact ⟨m2, R2, sI (bI_f (show ¬ false = true by decide)), rfl, fun q => absurd (show false = true from q) (by decide)⟩)
      · rw [if_pos c215, if_pos c215]
        refine T_h (h2 := mH A (mB u (a + 1) m R) B) rfl ?_
        refine T_aload_n dX12_readLake_218 rfl ?_
        refine T_iload_n dX12_readLake_219 rfl ?_
        refine T_v1q (cu2 := 0) (su2 := 0) dX12_readLake_220 lv_X12_131 rfl (mH_get hA rfl) rfl (c_X12_readBoat (a := a + 1) (m := m) (R := R) hA hf he (by have := c215.1; omega) (by omega)) (nb rfl) (nb rfl) (nb rfl) (nb rfl) (nb rfl) (fun r220 h220 q220 => ?_)
        obtain ⟨m2, R2, rfl, rfl, hd⟩ := q220
        refine T_if_neB (tgt := 185) dX12_readLake_223 (by decide) (fun c223 => ?_) (fun c223 => ?_)
        · obtain ⟨rfl, d1, d2, d3, d4⟩ := hd c223
          rw [if_pos c223, c223]
          have hle := btK_le f e (a + 1) (by have := c215.1; omega)
          rw [c223] at hle
          refine ih (m + 1) (by omega) (a + 4) R2 (by omega) (by omega) (fun b hb => ?_)
          by_cases q : b = m
          · subst q
            rw [ha] at d1 d2 d3 c223
            exact ⟨c223, d1, d2, d3⟩
          · obtain ⟨g1, g2, g3, g4⟩ := hD b (by omega)
            exact ⟨g1, by rw [d4 _ (by omega)]; exact g2, by rw [d4 _ (by omega)]; exact g3, by rw [d4 _ (by omega)]; exact g4⟩
        · refine T_iconst (v := 0) dX12_readLake_226 (by decide) ?_
          refine T_zret dX12_readLake_227 rfl rfl (nb rfl) (nb rfl) ?_
          first
            | (rw [if_neg c215, if_neg c215]; exact ⟨m, R, sI (bI_f (show ¬ false = true by decide)), rfl, fun q => absurd (show false = true from q) (by decide)⟩)
            | (rw [if_neg c223]; exact ⟨m2, R2, sI (bI_f (show ¬ false = true by decide)), rfl, fun q => absurd (show false = true from q) (by decide)⟩)
    refine T_aload_n dX12_readLake_185 rfl ?_
    refine T_get dX12_readLake_186 fl_X12_114_12 (mH_get hA rfl) rfl ?_
    refine T_top mB_16 ?_
    refine T_if_eqN (tgt := 208) dX12_readLake_189 (by decide) (by omega) (fun c189 => ?_) (fun c189 => ?_)
    · first | exact K (Or.inl c189) | exact K (Or.inr (by omega))
    · refine T_aload_n dX12_readLake_192 rfl ?_
      refine T_get dX12_readLake_193 fl_X12_114_12 (mH_get hA rfl) rfl ?_
      refine T_top mB_16 ?_
      refine T_iconst (v := nI 3) dX12_readLake_196 (by decide) ?_
      refine T_icmp_geN (tgt := 228) dX12_readLake_197 (by decide) (by omega) (by omega) (fun c197 => ?_) (fun c197 => ?_)
      · omega
      · refine T_aload_n dX12_readLake_200 rfl ?_
        refine T_get dX12_readLake_201 fl_X12_81_12 (mH_get hA rfl) rfl ?_
        refine T_top mA_13 ?_
        refine T_iload_n dX12_readLake_204 rfl ?_
        refine T_icmp_geN (tgt := 228) dX12_readLake_205 (by decide) (by omega) (by omega) (fun c205 => ?_) (fun c205 => ?_)
        · refine T_aload_n dX12_readLake_228 rfl ?_
          refine T_get dX12_readLake_229 fl_X12_81_12 (mH_get hA rfl) rfl ?_
          refine T_top mA_13 ?_
          refine T_iload_n dX12_readLake_232 rfl ?_
          refine T_icmp_neN (tgt := 240) dX12_readLake_233 (by decide) (by omega) (by omega) (fun c233 => ?_) (fun c233 => ?_)
          · refine T_iconst (v := 0) dX12_readLake_240 (by decide) ?_
            refine T_zret dX12_readLake_241 rfl rfl (nb rfl) (nb rfl) ?_
            first
              | (unfold btsP
                 rw [if_neg (by omega)]
                 first
                   | exact ⟨m, R, sI (bI_t (show decide (a = e) = true from decide_eq_true c233)), rfl, fun _ => ⟨rfl, hD⟩⟩
                   | exact ⟨m, R, sI (bI_f (show ¬ decide (a = e) = true from fun q => c233 (of_decide_eq_true q))), rfl, fun q => absurd (of_decide_eq_true q) c233⟩)
          · refine T_iconst (v := 1) dX12_readLake_236 (by decide) ?_
            refine T_goto (tgt := 241) dX12_readLake_237 (by decide) ?_
            refine T_zret dX12_readLake_241 rfl rfl (nb rfl) (nb rfl) ?_
            first
              | (unfold btsP
                 rw [if_neg (by omega)]
                 first
                   | exact ⟨m, R, sI (bI_t (show decide (a = e) = true from decide_eq_true c233)), rfl, fun _ => ⟨rfl, hD⟩⟩
                   | exact ⟨m, R, sI (bI_f (show ¬ decide (a = e) = true from fun q => c233 (of_decide_eq_true q))), rfl, fun q => absurd (of_decide_eq_true q) c233⟩)
        · first | exact K (Or.inl c189) | exact K (Or.inr (by omega))
end M23
