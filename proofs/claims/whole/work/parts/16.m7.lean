/-! the reference: copy; reading a text -/
section M8
variable {A B : XH} {u : MSt} {h : XH} {Z : XZ} {I : Nat → Int32} {F : Nat → Nat → Int32}
def mCp (f : Nat → Int32) (src dst n : Nat) (ah : Bool) : Nat → Nat → Int32
  | 0 => f
  | q + 1 => upd (mCp f src dst n ah q) (dst + (bif ah then n - 1 - q else q)) (mCp f src dst n ah q (src + (bif ah then n - 1 - q else q)))
theorem lp_X12_copy1 (hA : A.length = 67) {kk ii oo jj nn q : Nat} (hk : kk < 4) (ho : oo < 4) (hi : ii + nn ≤ 60) (hj : jj + nn ≤ 60) (hq : q < nn) (f : Nat → Int32) (K : T M_X12_copy x_E Z 0 0 166 [(0, .ref 67), (1, .int (nI kk)), (2, .int (nI ii)), (3, .int (nI oo)), (4, .int (nI jj)), (5, .int (nI nn)), (7, .int 1), (8, .int (nI (q + 1)))] [] (mH A (I, va_up F 4 (mCp f (60 * kk + ii) (60 * oo + jj) nn true (q + 1))) B)) : T M_X12_copy x_E Z 0 0 166 [(0, .ref 67), (1, .int (nI kk)), (2, .int (nI ii)), (3, .int (nI oo)), (4, .int (nI jj)), (5, .int (nI nn)), (7, .int 1), (8, .int (nI q))] [] (mH A (I, va_up F 4 (mCp f (60 * kk + ii) (60 * oo + jj) nn true q)) B) := by
  refine T_iload dX12_copy_166 rfl ?_
  refine T_iload dX12_copy_168 rfl ?_
  refine T_icmp_geN (tgt := 227) dX12_copy_170 (by decide) (by omega) (by omega) (fun c170 => ?_) (fun c170 => ?_)
  · omega
  · refine T_iload dX12_copy_173 rfl ?_
    refine T_if_eq (tgt := 188) dX12_copy_175 (by decide) (fun c175 => ?_) (fun c175 => ?_)
    · exact absurd c175 (by decide)
    · refine T_iload dX12_copy_178 rfl ?_
      refine T_iconst (v := nI 1) dX12_copy_180 (by decide) ?_
      refine T_isubN dX12_copy_181 (by omega) ?_
      refine T_iload dX12_copy_182 rfl ?_
      refine T_isubN dX12_copy_184 (by omega) ?_
      refine T_goto (tgt := 190) dX12_copy_185 (by decide) ?_
      refine T_istore dX12_copy_190 (by decide) rfl ?_
      refine T_aload_n dX12_copy_192 rfl ?_
      refine T_get dX12_copy_193 fl_X12_16_12 (mH_get hA rfl) rfl ?_
      refine T_bipush (v := nI 60) dX12_copy_196 (by decide) ?_
      refine T_iload_n dX12_copy_198 rfl ?_
      refine T_imulN dX12_copy_199 ?_
      refine T_iload dX12_copy_200 rfl ?_
      refine T_iaddN dX12_copy_202 ?_
      refine T_iload dX12_copy_203 rfl ?_
      refine T_iaddN dX12_copy_205 ?_
      refine T_aload_n dX12_copy_206 rfl ?_
      refine T_get dX12_copy_207 fl_X12_16_12 (mH_get hA rfl) rfl ?_
      refine T_bipush (v := nI 60) dX12_copy_210 (by decide) ?_
      refine T_iload_n dX12_copy_212 rfl ?_
      refine T_imulN dX12_copy_213 ?_
      refine T_iload_n dX12_copy_214 rfl ?_
      refine T_iaddN dX12_copy_215 ?_
      refine T_iload dX12_copy_216 rfl ?_
      refine T_iaddN dX12_copy_218 ?_
      refine T_ialdN dX12_copy_219 (mH_get hA rfl) (by omega) (by decide) ?_
      refine T_iastN dX12_copy_220 (mH_get hA rfl) (by omega) (by decide) ?_
      first | refine T_h (mT_4 hA) ?_ | refine T_h (mS_4 hA) ?_
      refine T_iincN dX12_copy_221 rfl (by decide) rfl ?_
      refine T_goto (tgt := 166) dX12_copy_224 (by decide) ?_
      exact T_pick [0, 1, 2, 3, 4, 5, 7, 8] K
theorem lp_X12_copy0 (hA : A.length = 67) {kk ii oo jj nn q : Nat} (hk : kk < 4) (ho : oo < 4) (hi : ii + nn ≤ 60) (hj : jj + nn ≤ 60) (hq : q < nn) (f : Nat → Int32) (K : T M_X12_copy x_E Z 0 0 166 [(0, .ref 67), (1, .int (nI kk)), (2, .int (nI ii)), (3, .int (nI oo)), (4, .int (nI jj)), (5, .int (nI nn)), (7, .int 0), (8, .int (nI (q + 1)))] [] (mH A (I, va_up F 4 (mCp f (60 * kk + ii) (60 * oo + jj) nn false (q + 1))) B)) : T M_X12_copy x_E Z 0 0 166 [(0, .ref 67), (1, .int (nI kk)), (2, .int (nI ii)), (3, .int (nI oo)), (4, .int (nI jj)), (5, .int (nI nn)), (7, .int 0), (8, .int (nI q))] [] (mH A (I, va_up F 4 (mCp f (60 * kk + ii) (60 * oo + jj) nn false q)) B) := by
  refine T_iload dX12_copy_166 rfl ?_
  refine T_iload dX12_copy_168 rfl ?_
  refine T_icmp_geN (tgt := 227) dX12_copy_170 (by decide) (by omega) (by omega) (fun c170 => ?_) (fun c170 => ?_)
  · omega
  · refine T_iload dX12_copy_173 rfl ?_
    refine T_if_eq (tgt := 188) dX12_copy_175 (by decide) (fun c175 => ?_) (fun c175 => ?_)
    · refine T_iload dX12_copy_188 rfl ?_
      refine T_istore dX12_copy_190 (by decide) rfl ?_
      refine T_aload_n dX12_copy_192 rfl ?_
      refine T_get dX12_copy_193 fl_X12_16_12 (mH_get hA rfl) rfl ?_
      refine T_bipush (v := nI 60) dX12_copy_196 (by decide) ?_
      refine T_iload_n dX12_copy_198 rfl ?_
      refine T_imulN dX12_copy_199 ?_
      refine T_iload dX12_copy_200 rfl ?_
      refine T_iaddN dX12_copy_202 ?_
      refine T_iload dX12_copy_203 rfl ?_
      refine T_iaddN dX12_copy_205 ?_
      refine T_aload_n dX12_copy_206 rfl ?_
      refine T_get dX12_copy_207 fl_X12_16_12 (mH_get hA rfl) rfl ?_
      refine T_bipush (v := nI 60) dX12_copy_210 (by decide) ?_
      refine T_iload_n dX12_copy_212 rfl ?_
      refine T_imulN dX12_copy_213 ?_
      refine T_iload_n dX12_copy_214 rfl ?_
      refine T_iaddN dX12_copy_215 ?_
      refine T_iload dX12_copy_216 rfl ?_
      refine T_iaddN dX12_copy_218 ?_
      refine T_ialdN dX12_copy_219 (mH_get hA rfl) (by omega) (by decide) ?_
      refine T_iastN dX12_copy_220 (mH_get hA rfl) (by omega) (by decide) ?_
      first | refine T_h (mT_4 hA) ?_ | refine T_h (mS_4 hA) ?_
      refine T_iincN dX12_copy_221 rfl (by decide) rfl ?_
      refine T_goto (tgt := 166) dX12_copy_224 (by decide) ?_
      exact T_pick [0, 1, 2, 3, 4, 5, 7, 8] K
    · exact absurd rfl c175
theorem lp_X12_copy_e (hA : A.length = 67) {kk ii oo jj nn : Nat} (hn : nn ≤ 60) {a : Int32} : T M_X12_copy x_E (x_ZE M_X12_copy (some (.int (nI nn))) (mH A (I, F) B)) 0 0 166 [(0, .ref 67), (1, .int (nI kk)), (2, .int (nI ii)), (3, .int (nI oo)), (4, .int (nI jj)), (5, .int (nI nn)), (7, .int a), (8, .int (nI nn))] [] (mH A (I, F) B) := by
  refine T_iload dX12_copy_166 rfl ?_
  refine T_iload dX12_copy_168 rfl ?_
  refine T_icmp_geN (tgt := 227) dX12_copy_170 (by decide) (by omega) (by omega) (fun c170 => ?_) (fun c170 => ?_)
  · refine T_iload dX12_copy_227 rfl ?_
    refine T_iret dX12_copy_229 rfl (nb rfl) (nb rfl) ?_
    exact ⟨rfl, rfl⟩
  · omega
/-- which fault, 0: none -/
def mCopyF (sk so lk lo i j n : Int32) : Int32 := if sk = -9 then 1 else if so = -9 then 1 else if sk = so then (if i < 0 then 3 else if j < 0 then 3 else if n < 0 then 3 else if lk < i then 3 else if lo < j then 3 else if lk - i < n then 3 else if n ≤ lo - j then 0 else 3) else 2
theorem mCopyF_in {sk so lk lo i j n : Int32} {a b : Nat} (ha : lk = nI a) (hb : lo = nI b) (ha6 : a ≤ 60) (hb6 : b ≤ 60) (h1 : ¬ i < 0) (h2 : ¬ j < 0) (h3 : ¬ n < 0) (h4 : ¬ lk < i) (h5 : ¬ lo < j) (h6 : ¬ lk - i < n) (h7 : n ≤ lo - j) : ∃ ii jj nn : Nat, i = nI ii ∧ j = nI jj ∧ n = nI nn ∧ ii + nn ≤ 60 ∧ jj + nn ≤ 60 := by
  obtain ⟨ii, hi, rfl⟩ := nI_of h1
  obtain ⟨jj, hj, rfl⟩ := nI_of h2
  obtain ⟨nn, hn, rfl⟩ := nI_of h3
  subst ha
  subst hb
  rw [nI_ltI (by omega) hi] at h4
  rw [nI_ltI (by omega) hj] at h5
  rw [pk_sub (by omega), nI_ltI (by omega) hn] at h6
  rw [pk_sub (by omega), nI_leI hn (by omega)] at h7
  exact ⟨ii, jj, nn, rfl, rfl, rfl, by omega, by omega⟩
def m_copy0 (u : MSt) (k i other j n : Int32) : Int32 × MSt :=
  if 0 ≤ k ∧ k ≤ 3 then (if 0 ≤ other ∧ other ≤ 3 then (
    if mCopyF (u.2 2 k.toNatClampNeg) (u.2 2 other.toNatClampNeg) (u.2 3 k.toNatClampNeg) (u.2 3 other.toNatClampNeg) i j n = 0 then (n, (u.1, va_up u.2 4 (mCp (u.2 4) (60 * k.toNatClampNeg + i.toNatClampNeg) (60 * other.toNatClampNeg + j.toNatClampNeg) n.toNatClampNeg (decide (i < j)) n.toNatClampNeg)))
    else (-10 - mCopyF (u.2 2 k.toNatClampNeg) (u.2 2 other.toNatClampNeg) (u.2 3 k.toNatClampNeg) (u.2 3 other.toNatClampNeg) i j n, m0 u (mCopyF (u.2 2 k.toNatClampNeg) (u.2 2 other.toNatClampNeg) (u.2 3 k.toNatClampNeg) (u.2 3 other.toNatClampNeg) i j n))) else (-1, u)) else (-1, u)
end M8
