/-! the reference: a lake's text, its water, and all of it -/
section M24
variable {A B : XH} {u : MSt} {h : XH} {Z : XZ} {f : Nat → Int32} {e : Nat}
theorem mK_14 {w : Int32} {hh a m : Nat} {I W R : Nat → Int32} : (mB (mK u w hh I W) a m R).1 14 = w := by
  show va_up (va_up (va_up (va_up u.1 14 w) 15 (nI hh)) 16 (nI m)) 13 (nI a) 14 = w
  unfold va_up
  rw [if_neg (by decide), if_neg (by decide), if_neg (by decide), if_pos rfl]
/-- how many digits 0 or 1 stand from a on, at most r -/
def islP (f : Nat → Int32) (e : Nat) : Nat → Nat → Nat
  | 0, _ => 0
  | r + 1, a => if dgP f e a 0 1 then islP f e r (a + 1) + 1 else 0
def IsD (f : Nat → Int32) (e p : Nat) (I : Nat → Int32) (k : Nat) : Prop := dgP f e (p + k) 0 1 ∧ I k = f (p + k) - 48
theorem lp_X12_readLake_46 (hA : A.length = 67) (hf : u.2 4 = f) (he : e ≤ 240) {p m wd hh : Nat} (hw : wd ≤ 4) {W R : Nat → Int32} {Qa : Option Value → XH → Prop} : ∀ r c, c + r = wd → ∀ a I, a = p + c → a ≤ e → (∀ k, 1 ≤ k → k < c → IsD f e p I k) →
    (islP f e r a = r → ∀ I, a + r ≤ e → (∀ k, 1 ≤ k → k < wd → IsD f e p I k) → T M_X12_readLake x_E (x_Z M_X12_readLake Qa) 0 0 86 [(0, .ref 67), (1, .int (nI e))] [] (mH A (mB (mK u (nI wd) hh I W) (a + r) m R) B)) →
    (¬ islP f e r a = r → ∀ I, Qa (some (.int 0)) (mH A (mB (mK u (nI wd) hh I W) (a + islP f e r a) m R) B)) →
    T M_X12_readLake x_E (x_Z M_X12_readLake Qa) 0 0 46 [(0, .ref 67), (1, .int (nI e)), (2, .int (nI c))] [] (mH A (mB (mK u (nI wd) hh I W) a m R) B) := by
  intro r
  induction r with
  | zero =>
    intro c hc a I ha hae hD K1 K2
    obtain rfl : c = wd := by omega
    refine T_iload_n dX12_readLake_46 rfl ?_
    refine T_aload_n dX12_readLake_47 rfl ?_
    refine T_get dX12_readLake_48 fl_X12_105_12 (mH_get hA rfl) rfl ?_
    refine T_top mK_14 ?_
    refine T_icmp_geN (tgt := 86) dX12_readLake_51 (by decide) (by omega) (by omega) (fun c51 => ?_) (fun c51 => ?_)
    · exact T_pick [0, 1] (K1 rfl I hae hD)
    · omega
  | succ r ih =>
    intro c hc a I ha hae hD K1 K2
    unfold islP at K1 K2
    refine T_iload_n dX12_readLake_46 rfl ?_
    refine T_aload_n dX12_readLake_47 rfl ?_
    refine T_get dX12_readLake_48 fl_X12_105_12 (mH_get hA rfl) rfl ?_
    refine T_top mK_14 ?_
    refine T_icmp_geN (tgt := 86) dX12_readLake_51 (by decide) (by omega) (by omega) (fun c51 => ?_) (fun c51 => ?_)
    · omega
    · refine T_aload_n dX12_readLake_54 rfl ?_
      refine T_get dX12_readLake_55 fl_X12_35_12 (mH_get hA rfl) rfl ?_
      refine T_iload_n dX12_readLake_58 rfl ?_
      refine T_aload_n dX12_readLake_59 rfl ?_
      refine T_iload_n dX12_readLake_60 rfl ?_
      refine T_iconst (v := nI 0) dX12_readLake_61 (by decide) ?_
      refine T_iconst (v := nI 1) dX12_readLake_62 (by decide) ?_
      refine T_v3e (cu2 := 0) (su2 := 0) dX12_readLake_63 lv_X12_124 rfl (mH_get hA rfl) rfl (c_X12_digitF (u := (va_up (mK u (nI wd) hh I W).1 16 (nI m), va_up (mK u (nI wd) hh I W).2 19 R)) (B := B) (f := f) (a := a) hA (mB_4 (mK_4 hf)) 0 1 he hae (by decide) (by decide)) (nb rfl) (nb rfl) (nb rfl) (nb rfl) (nb rfl) ?_
      have D := dig_cs (f := f) (e := e) (a := a) (lo := 0) (hi := 1) (by decide) (by decide)
      generalize dgV f e a 0 1 = d1 at D ⊢
      generalize (if dgP f e a 0 1 then a + 1 else a) = a2 at D ⊢
      refine T_iastN dX12_readLake_66 (mH_get hA rfl) (by omega) (by decide) ?_
      first | refine T_h (mT_17 hA) ?_ | refine T_h (mS_17 hA) ?_
      refine T_h (h2 := mH A (mB (mK u (nI wd) hh (upd I c d1) W) a2 m R) B) rfl ?_
      refine T_aload_n dX12_readLake_67 rfl ?_
      refine T_get dX12_readLake_68 fl_X12_35_12 (mH_get hA rfl) rfl ?_
      refine T_iload_n dX12_readLake_71 rfl ?_
      refine T_ialdN dX12_readLake_72 (mH_get hA rfl) (by omega) (by decide) ?_
      refine T_top upd_s ?_
      refine T_bipush (v := (-9)) dX12_readLake_73 (by decide) ?_
      refine T_icmp_ne (tgt := 80) dX12_readLake_75 (by decide) (fun c75 => ?_) (fun c75 => ?_)
      · obtain ⟨D1, D2, D3, D4⟩ : dgP f e a 0 1 ∧ ¬ d1 = -9 ∧ d1 = f a - 48 ∧ a2 = a + 1 := by
          rcases D with D | D
          · exact absurd D.2.1 c75
          · exact D
        subst D4
        refine T_iincN dX12_readLake_80 rfl (by decide) rfl ?_
        refine T_goto (tgt := 46) dX12_readLake_83 (by decide) ?_
        rw [if_pos D1] at K1 K2
        refine ih (c + 1) (by omega) (a + 1) _ (by omega) (by have := D1.1; omega) (fun k hk1 hk => ?_) (fun q I2 g1 g2 => ?_) (fun q I2 => ?_)
        · by_cases q : k = c
          · subst q; rw [ha] at D1 D3; exact ⟨D1, by rw [upd_s, D3]⟩
          · obtain ⟨d1, d2⟩ := hD k hk1 (by omega); exact ⟨d1, by rw [upd_n q]; exact d2⟩
        · have k2 := K1 (by omega) I2 (by omega) g2
          rw [show a + 1 + r = a + (r + 1) by omega]
          exact k2
        · have k2 := K2 (by omega) I2
          rw [show a + 1 + islP f e r (a + 1) = a + (islP f e r (a + 1) + 1) by omega]
          exact k2
      · obtain ⟨D1, D2, D3⟩ : ¬ dgP f e a 0 1 ∧ d1 = -9 ∧ a2 = a := by
          rcases D with D | D
          · exact D
          · exact absurd c75 D.2.1
        subst D3
        refine T_iconst (v := 0) dX12_readLake_78 (by decide) ?_
        refine T_zret dX12_readLake_79 rfl rfl (nb rfl) (nb rfl) ?_
        rw [if_neg D1] at K2
        exact K2 (by omega) _
end M24
