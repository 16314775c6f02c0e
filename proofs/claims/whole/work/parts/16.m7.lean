/-! the reference: copy; reading a text -/
section M8
variable {A B : XH} {u : MSt} {h : XH} {Z : XZ} {I : Nat → Int32} {F : Nat → Nat → Int32}
def mCp (f : Nat → Int32) (src dst n : Nat) (ah : Bool) : Nat → Nat → Int32
  | 0 => f
  | q + 1 => upd (mCp f src dst n ah q) (dst + (bif ah then n - 1 - q else q)) (mCp f src dst n ah q (src + (bif ah then n - 1 - q else q)))
theorem lp_X12_copy1 (hA : A.length = 67) {kk ii oo jj nn q : Nat} (hk : kk < 4) (ho : oo < 4) (hi : ii + nn ≤ 60) (hj : jj + nn ≤ 60) (hq : q < nn) (f : Nat → Int32) (K : T M_X12_copy x_E Z 0 0 166 [(0, .ref 67), (1, .int (nI kk)), (2, .int (nI ii)), (3, .int (nI oo)), (4, .int (nI jj)), (5, .int (nI nn)), (7, .int 1), (8, .int (nI (q + 1)))] [] (mH A (I, va_up F 4 (mCp f (60 * kk + ii) (60 * oo + jj) nn true (q + 1))) B)) : T M_X12_copy x_E Z 0 0 166 [(0, .ref 67), (1, .int (nI kk)), (2, .int (nI ii)), (3, .int (nI oo)), (4, .int (nI jj)), (5, .int (nI nn)), (7, .int 1), (8, .int (nI q))] [] (mH A (I, va_up F 4 (mCp f (60 * kk + ii) (60 * oo + jj) nn true q)) B) := by
  refine T_iload dX12_copy_166 rfl ?_
  refine T_iload dX12_copy_168 rfl ?_
  refine T_icmp_geN (tgt := 227) dX12_copy_170 (by decide) (by omega) (by omega) (fun c170 => ?_) (fun c170 => ?_)
  · omega
  · refine T_iload dX12_copy_173 rfl ?_
    refine T_if_eq (tgt := 188) dX12_copy_175 (by decide) (fun c175 => ?_) (fun c175 => ?_)
    · exact absurd c175 (by decide)
    · refine T_iload dX12_copy_178 rfl ?_
      refine T_iconst (v := nI 1) dX12_copy_180 (by decide) ?_
      refine T_isubN dX12_copy_181 (by omega) ?_
      refine T_iload dX12_copy_182 rfl ?_
      refine T_isubN dX12_copy_184 (by omega) ?_
      refine T_goto (tgt := 190) dX12_copy_185 (by decide) ?_
      refine T_istore dX12_copy_190 (by decide) rfl ?_
      refine T_aload_n dX12_copy_192 rfl ?_
      refine T_get dX12_copy_193 fl_X12_16_12 (mH_get hA rfl) rfl ?_
      refine T_bipush (v := nI 60) dX12_copy_196 (by decide) ?_
      refine T_iload_n dX12_copy_198 rfl ?_
      refine T_imulN dX12_copy_199 ?_
      refine T_iload dX12_copy_200 rfl ?_
      refine T_iaddN dX12_copy_202 ?_
      refine T_iload dX12_copy_203 rfl ?_
      refine T_iaddN dX12_copy_205 ?_
      refine T_aload_n dX12_copy_206 rfl ?_
      refine T_get dX12_copy_207 fl_X12_16_12 (mH_get hA rfl) rfl ?_
      refine T_bipush (v := nI 60) dX12_copy_210 (by decide) ?_
      refine T_iload_n dX12_copy_212 rfl ?_
      refine T_imulN dX12_copy_213 ?_
      refine T_iload_n dX12_copy_214 rfl ?_
      refine T_iaddN dX12_copy_215 ?_
      refine T_iload dX12_copy_216 rfl ?_
      refine T_iaddN dX12_copy_218 ?_
      refine T_ialdN dX12_copy_219 (mH_get hA rfl) (by omega) (by decide) ?_
      refine T_iastN dX12_copy_220 (mH_get hA rfl) (by omega) (by decide) ?_
      first | refine T_h (mT_4 hA) ?_ | refine T_h (mS_4 hA) ?_
      refine T_iincN dX12_copy_221 rfl (by decide) rfl ?_
      refine T_goto (tgt := 166) dX12_copy_224 (by decide) ?_
      exact T_pick [0, 1, 2, 3, 4, 5, 7, 8] K
theorem lp_X12_copy0 (hA : A.length = 67) {kk ii oo jj nn q : Nat} (hk : kk < 4) (ho : oo < 4) (hi : ii + nn ≤ 60) (hj : jj + nn ≤ 60) (hq : q < nn) (f : Nat → Int32) (K : T M_X12_copy x_E Z 0 0 166 [(0, .ref 67), (1, .int (nI kk)), (2, .int (nI ii)), (3, .int (nI oo)), (4, .int (nI jj)), (5, .int (nI nn)), (7, .int 0), (8, .int (nI (q + 1)))] [] (mH A (I, va_up F 4 (mCp f (60 * kk + ii) (60 * oo + jj) nn false (q + 1))) B)) : T M_X12_copy x_E Z 0 0 166 [(0, .ref 67), (1, .int (nI kk)), (2, .int (nI ii)), (3, .int (nI oo)), (4, .int (nI jj)), (5, .int (nI nn)), (7, .int 0), (8, .int (nI q))] [] (mH A (I, va_up F 4 (mCp f (60 * kk + ii) (60 * oo + jj) nn false q)) B) := by
  refine T_iload dX12_copy_166 rfl ?_
  refine T_iload dX12_copy_168 rfl ?_
  refine T_icmp_geN (tgt := 227) dX12_copy_170 (by decide) (by omega) (by omega) (fun c170 => ?_) (fun c170 => ?_)
  · omega
  · refine T_iload dX12_copy_173 rfl ?_
    refine T_if_eq (tgt := 188) dX12_copy_175 (by decide) (fun c175 => ?_) (fun c175 => ?_)
    · refine T_iload dX12_copy_188 rfl ?_
      refine T_istore dX12_copy_190 (by decide) rfl ?_
      refine T_aload_n dX12_copy_192 rfl ?_
      refine T_get dX12_copy_193 fl_X12_16_12 (mH_get hA rfl) rfl ?_
      refine T_bipush (v := nI 60) dX12_copy_196 (by decide) ?_
      refine T_iload_n dX12_copy_198 rfl ?_
      refine T_imulN dX12_copy_199 ?_
      refine T_iload dX12_copy_200 rfl ?_
      refine T_iaddN dX12_copy_202 ?_
      refine T_iload dX12_copy_203 rfl ?_
      refine T_iaddN dX12_copy_205 ?_
      refine T_aload_n dX12_copy_206 rfl ?_
      refine T_get dX12_copy_207 fl_X12_16_12 (mH_get hA rfl) rfl ?_
      refine T_bipush (v := nI 60) dX12_copy_210 (by decide) ?_
      refine T_iload_n dX12_copy_212 rfl ?_
      refine T_imulN dX12_copy_213 ?_
      refine T_iload_n dX12_copy_214 rfl ?_
      refine T_iaddN dX12_copy_215 ?_
      refine T_iload dX12_copy_216 rfl ?_
      refine T_iaddN dX12_copy_218 ?_
      refine T_ialdN dX12_copy_219 (mH_get hA rfl) (by omega) (by decide) ?_
      refine T_iastN dX12_copy_220 (mH_get hA rfl) (by omega) (by decide) ?_
      first | refine T_h (mT_4 hA) ?_ | refine T_h (mS_4 hA) ?_
      refine T_iincN dX12_copy_221 rfl (by decide) rfl ?_
      refine T_goto (tgt := 166) dX12_copy_224 (by decide) ?_
      exact T_pick [0, 1, 2, 3, 4, 5, 7, 8] K
    · exact absurd rfl c175
theorem lp_X12_copy_e (hA : A.length = 67) {kk ii oo jj nn : Nat} (hn : nn ≤ 60) {a : Int32} : T M_X12_copy x_E (x_ZE M_X12_copy (some (.int (nI nn))) (mH A (I, F) B)) 0 0 166 [(0, .ref 67), (1, .int (nI kk)), (2, .int (nI ii)), (3, .int (nI oo)), (4, .int (nI jj)), (5, .int (nI nn)), (7, .int a), (8, .int (nI nn))] [] (mH A (I, F) B) := by
  refine T_iload dX12_copy_166 rfl ?_
  refine T_iload dX12_copy_168 rfl ?_
  refine T_icmp_geN (tgt := 227) dX12_copy_170 (by decide) (by omega) (by omega) (fun c170 => ?_) (fun c170 => ?_)
  · refine T_iload dX12_copy_227 rfl ?_
    refine T_iret dX12_copy_229 rfl (nb rfl) (nb rfl) ?_
    exact ⟨rfl, rfl⟩
  · omega
/-- which fault, 0: none -/
def mCopyF (sk so lk lo i j n : Int32) : Int32 := if sk = -9 then 1 else if so = -9 then 1 else if sk = so then (if i < 0 then 3 else if j < 0 then 3 else if n < 0 then 3 else if lk < i then 3 else if lo < j then 3 else if lk - i < n then 3 else if n ≤ lo - j then 0 else 3) else 2
theorem mCopyF_in {sk so lk lo i j n : Int32} {a b : Nat} (ha : lk = nI a) (hb : lo = nI b) (ha6 : a ≤ 60) (hb6 : b ≤ 60) (h1 : ¬ i < 0) (h2 : ¬ j < 0) (h3 : ¬ n < 0) (h4 : ¬ lk < i) (h5 : ¬ lo < j) (h6 : ¬ lk - i < n) (h7 : n ≤ lo - j) : ∃ ii jj nn : Nat, i = nI ii ∧ j = nI jj ∧ n = nI nn ∧ ii + nn ≤ 60 ∧ jj + nn ≤ 60 := by
  obtain ⟨ii, hi, rfl⟩ := nI_of h1
  obtain ⟨jj, hj, rfl⟩ := nI_of h2
  obtain ⟨nn, hn, rfl⟩ := nI_of h3
  subst ha
  subst hb
  rw [nI_ltI (by omega) hi] at h4
  rw [nI_ltI (by omega) hj] at h5
  rw [pk_sub (by omega), nI_ltI (by omega) hn] at h6
  rw [pk_sub (by omega), nI_leI hn (by omega)] at h7
  exact ⟨ii, jj, nn, rfl, rfl, rfl, by omega, by omega⟩
def m_copy0 (u : MSt) (k i other j n : Int32) : Int32 × MSt :=
  if 0 ≤ k ∧ k ≤ 3 then (if 0 ≤ other ∧ other ≤ 3 then (
    if mCopyF (u.2 2 k.toNatClampNeg) (u.2 2 other.toNatClampNeg) (u.2 3 k.toNatClampNeg) (u.2 3 other.toNatClampNeg) i j n = 0 then (n, (u.1, va_up u.2 4 (mCp (u.2 4) (60 * k.toNatClampNeg + i.toNatClampNeg) (60 * other.toNatClampNeg + j.toNatClampNeg) n.toNatClampNeg (decide (i < j)) n.toNatClampNeg)))
    else (-10 - mCopyF (u.2 2 k.toNatClampNeg) (u.2 2 other.toNatClampNeg) (u.2 3 k.toNatClampNeg) (u.2 3 other.toNatClampNeg) i j n, m0 u (mCopyF (u.2 2 k.toNatClampNeg) (u.2 2 other.toNatClampNeg) (u.2 3 k.toNatClampNeg) (u.2 3 other.toNatClampNeg) i j n))) else (-1, u)) else (-1, u)
theorem lp_X12_copy_150 (hA : A.length = 67) {kk ii oo jj nn : Nat} (hk : kk < 4) (ho : oo < 4) (hi : ii + nn ≤ 60) (hj : jj + nn ≤ 60) (f : Nat → Int32) : T M_X12_copy x_E (x_ZE M_X12_copy (some (.int (nI nn))) (mH A (I, va_up F 4 (mCp f (60 * kk + ii) (60 * oo + jj) nn (decide (nI ii < nI jj)) nn)) B)) 0 0 150 [(0, .ref 67), (1, .int (nI kk)), (2, .int (nI ii)), (3, .int (nI oo)), (4, .int (nI jj)), (5, .int (nI nn)), (6, .int 1)] [] (mH A (I, va_up F 4 f) B) := by
  refine T_iload_n dX12_copy_150 rfl ?_
  refine T_iload dX12_copy_151 rfl ?_
  refine T_icmp_geN (tgt := 160) dX12_copy_153 (by decide) (by omega) (by omega) (fun c153 => ?_) (fun c153 => ?_)
  · rw [decide_eq_false (by rw [nI_ltI (by omega) (by omega)]; omega)]
    refine T_iconst (v := 0) dX12_copy_160 (by decide) ?_
    refine T_istore dX12_copy_161 (by decide) rfl ?_
    refine T_iconst (v := 0) dX12_copy_163 (by decide) ?_
    refine T_istore dX12_copy_164 (by decide) rfl ?_
    first
      | exact T_pick [0, 1, 2, 3, 4, 5, 7, 8] (T_up0 (L := fun q => [(0, .ref 67), (1, .int (nI kk)), (2, .int (nI ii)), (3, .int (nI oo)), (4, .int (nI jj)), (5, .int (nI nn)), (7, .int 1), (8, .int (nI q))]) (Hf := fun q => mH A (I, va_up F 4 (mCp f (60 * kk + ii) (60 * oo + jj) nn true q)) B) nn (lp_X12_copy_e hA (by omega)) fun q hq K => lp_X12_copy1 hA hk ho hi hj hq f K)
      | exact T_pick [0, 1, 2, 3, 4, 5, 7, 8] (T_up0 (L := fun q => [(0, .ref 67), (1, .int (nI kk)), (2, .int (nI ii)), (3, .int (nI oo)), (4, .int (nI jj)), (5, .int (nI nn)), (7, .int 0), (8, .int (nI q))]) (Hf := fun q => mH A (I, va_up F 4 (mCp f (60 * kk + ii) (60 * oo + jj) nn false q)) B) nn (lp_X12_copy_e hA (by omega)) fun q hq K => lp_X12_copy0 hA hk ho hi hj hq f K)
  · rw [decide_eq_true (by rw [nI_ltI (by omega) (by omega)]; omega)]
    refine T_iconst (v := 1) dX12_copy_156 (by decide) ?_
    refine T_goto (tgt := 161) dX12_copy_157 (by decide) ?_
    refine T_istore dX12_copy_161 (by decide) rfl ?_
    refine T_iconst (v := 0) dX12_copy_163 (by decide) ?_
    refine T_istore dX12_copy_164 (by decide) rfl ?_
    first
      | exact T_pick [0, 1, 2, 3, 4, 5, 7, 8] (T_up0 (L := fun q => [(0, .ref 67), (1, .int (nI kk)), (2, .int (nI ii)), (3, .int (nI oo)), (4, .int (nI jj)), (5, .int (nI nn)), (7, .int 1), (8, .int (nI q))]) (Hf := fun q => mH A (I, va_up F 4 (mCp f (60 * kk + ii) (60 * oo + jj) nn true q)) B) nn (lp_X12_copy_e hA (by omega)) fun q hq K => lp_X12_copy1 hA hk ho hi hj hq f K)
      | exact T_pick [0, 1, 2, 3, 4, 5, 7, 8] (T_up0 (L := fun q => [(0, .ref 67), (1, .int (nI kk)), (2, .int (nI ii)), (3, .int (nI oo)), (4, .int (nI jj)), (5, .int (nI nn)), (7, .int 0), (8, .int (nI q))]) (Hf := fun q => mH A (I, va_up F 4 (mCp f (60 * kk + ii) (60 * oo + jj) nn false q)) B) nn (lp_X12_copy_e hA (by omega)) fun q hq K => lp_X12_copy0 hA hk ho hi hj hq f K)
theorem c_X12_copy (hA : A.length = 67) (k i other j n : Int32) (hl : ∀ j, j < 4 → ∃ ll : Nat, ll ≤ 60 ∧ u.2 3 j = nI ll) : ConE M_X12_copy [.ref 67, .int k, .int i, .int other, .int j, .int n] (mH A u B) (some (.int (m_copy0 (m0 u 0) k i other j n).1)) (mH A (m_copy0 (m0 u 0) k i other j n).2 B) := by
  have hv : ∀ {x : Int32}, (0 ≤ x ∧ x ≤ 3) → vp_in x 4 := fun q => by
    obtain ⟨kk, hkk, rfl⟩ := shN q
    exact vp_in_nI hkk (by decide)
  refine Con.of rfl (nb rfl) ?_
  unfold m_copy0
  refine T_aload_n dX12_copy_0 rfl ?_
  refine T_iconst (v := 0) dX12_copy_1 (by decide) ?_
  refine T_put dX12_copy_2 fp_X12_65_12 (mH_get hA rfl) (nb rfl) (fun _ => ⟨rfl, rfl⟩) ?_
  first | refine T_h (mE_0 hA) ?_ | refine T_h (mF_0 hA) ?_
  refine T_iload_n dX12_copy_5 rfl ?_
  refine T_s1e (cu2 := 0) (su2 := 0) dX12_copy_6 ls_X12_84 rfl (c_X12_isSheet _) (nb rfl) (nb rfl) (nb rfl) (nb rfl) (nb rfl) ?_
  refine T_if_eqB (tgt := 19) dX12_copy_9 (by decide) (fun c9 => ?_) (fun c9 => ?_)
  · refine T_iconst (v := (-1)) dX12_copy_19 (by decide) ?_
    refine T_iret dX12_copy_20 rfl (nb rfl) (nb rfl) ?_
    first | (rw [if_neg c9]; exact ⟨rfl, rfl⟩) | (rw [if_pos c9, if_neg c16]; exact ⟨rfl, rfl⟩)
  · refine T_iload_n dX12_copy_12 rfl ?_
    refine T_s1e (cu2 := 0) (su2 := 0) dX12_copy_13 ls_X12_84 rfl (c_X12_isSheet _) (nb rfl) (nb rfl) (nb rfl) (nb rfl) (nb rfl) ?_
    refine T_if_neB (tgt := 21) dX12_copy_16 (by decide) (fun c16 => ?_) (fun c16 => ?_)
    · refine T_aload_n dX12_copy_21 rfl ?_
      refine T_get dX12_copy_22 fl_X12_9_12 (mH_get hA rfl) rfl ?_
      refine T_iload_n dX12_copy_25 rfl ?_
      refine T_iald dX12_copy_26 (mH_get hA rfl) (hv c9) ?_
      refine T_bipush (v := (-9)) dX12_copy_27 (by decide) ?_
      refine T_icmp_eq (tgt := 43) dX12_copy_29 (by decide) (fun c29 => ?_) (fun c29 => ?_)
      · refine T_aload_n dX12_copy_43 rfl ?_
        refine T_iconst (v := 1) dX12_copy_44 (by decide) ?_
        refine T_v1e (cu2 := 0) (su2 := 0) dX12_copy_45 lv_X12_95 rfl (mH_get hA rfl) rfl (c_X12_fails hA _) (nb rfl) (nb rfl) (nb rfl) (nb rfl) (nb rfl) ?_
        refine T_iret dX12_copy_48 rfl (nb rfl) (nb rfl) ?_
        rw [if_pos c9, if_pos c16]
        have e : mCopyF ((m0 u 0).2 2 k.toNatClampNeg) ((m0 u 0).2 2 other.toNatClampNeg) ((m0 u 0).2 3 k.toNatClampNeg) ((m0 u 0).2 3 other.toNatClampNeg) i j n = 1 := by first | (unfold mCopyF; rw [if_pos c29]) | (unfold mCopyF; rw [if_neg c29, if_pos c40])
        rw [e, if_neg (by decide)]
        exact ⟨rfl, rfl⟩
      · refine T_aload_n dX12_copy_32 rfl ?_
        refine T_get dX12_copy_33 fl_X12_9_12 (mH_get hA rfl) rfl ?_
        refine T_iload_n dX12_copy_36 rfl ?_
        refine T_iald dX12_copy_37 (mH_get hA rfl) (hv c16) ?_
        refine T_bipush (v := (-9)) dX12_copy_38 (by decide) ?_
        refine T_icmp_ne (tgt := 49) dX12_copy_40 (by decide) (fun c40 => ?_) (fun c40 => ?_)
        · refine T_aload_n dX12_copy_49 rfl ?_
          refine T_get dX12_copy_50 fl_X12_9_12 (mH_get hA rfl) rfl ?_
          refine T_iload_n dX12_copy_53 rfl ?_
          refine T_iald dX12_copy_54 (mH_get hA rfl) (hv c9) ?_
          refine T_aload_n dX12_copy_55 rfl ?_
          refine T_get dX12_copy_56 fl_X12_9_12 (mH_get hA rfl) rfl ?_
          refine T_iload_n dX12_copy_59 rfl ?_
          refine T_iald dX12_copy_60 (mH_get hA rfl) (hv c16) ?_
          refine T_icmp_eq (tgt := 70) dX12_copy_61 (by decide) (fun c61 => ?_) (fun c61 => ?_)
          · refine T_iload_n dX12_copy_70 rfl ?_
            refine T_if_lt (tgt := 109) dX12_copy_71 (by decide) (fun c71 => ?_) (fun c71 => ?_)
            · refine T_iconst (v := 0) dX12_copy_109 (by decide) ?_
              refine T_istore dX12_copy_110 (by decide) rfl ?_
              refine T_iload dX12_copy_112 rfl ?_
              refine T_if_eq (tgt := 144) dX12_copy_114 (by decide) (fun _ => ?_) (fun c => absurd (by decide) c)
              refine T_aload_n dX12_copy_144 rfl ?_
              refine T_iconst (v := 3) dX12_copy_145 (by decide) ?_
              refine T_v1e (cu2 := 0) (su2 := 0) dX12_copy_146 lv_X12_95 rfl (mH_get hA rfl) rfl (c_X12_fails hA _) (nb rfl) (nb rfl) (nb rfl) (nb rfl) (nb rfl) ?_
              refine T_iret dX12_copy_149 rfl (nb rfl) (nb rfl) ?_
              rw [if_pos c9, if_pos c16]
              have e : mCopyF ((m0 u 0).2 2 k.toNatClampNeg) ((m0 u 0).2 2 other.toNatClampNeg) ((m0 u 0).2 3 k.toNatClampNeg) ((m0 u 0).2 3 other.toNatClampNeg) i j n = 3 := by unfold mCopyF; rw [if_neg c29, if_neg c40, if_pos c61]; first | rw [if_pos c71] | rw [if_neg c71, if_pos c76] | rw [if_neg c71, if_neg c76, if_pos c81] | rw [if_neg c71, if_neg c76, if_neg c81, if_pos c91] | rw [if_neg c71, if_neg c76, if_neg c81, if_neg c91, if_pos c102] | rw [if_neg c71, if_neg c76, if_neg c81, if_neg c91, if_neg c102, if_pos c127] | rw [if_neg c71, if_neg c76, if_neg c81, if_neg c91, if_neg c102, if_neg c127, if_neg c141]
              rw [e, if_neg (by decide)]
              exact ⟨rfl, rfl⟩
            · refine T_iload dX12_copy_74 rfl ?_
              refine T_if_lt (tgt := 109) dX12_copy_76 (by decide) (fun c76 => ?_) (fun c76 => ?_)
              · refine T_iconst (v := 0) dX12_copy_109 (by decide) ?_
                refine T_istore dX12_copy_110 (by decide) rfl ?_
                refine T_iload dX12_copy_112 rfl ?_
                refine T_if_eq (tgt := 144) dX12_copy_114 (by decide) (fun _ => ?_) (fun c => absurd (by decide) c)
                refine T_aload_n dX12_copy_144 rfl ?_
                refine T_iconst (v := 3) dX12_copy_145 (by decide) ?_
                refine T_v1e (cu2 := 0) (su2 := 0) dX12_copy_146 lv_X12_95 rfl (mH_get hA rfl) rfl (c_X12_fails hA _) (nb rfl) (nb rfl) (nb rfl) (nb rfl) (nb rfl) ?_
                refine T_iret dX12_copy_149 rfl (nb rfl) (nb rfl) ?_
                rw [if_pos c9, if_pos c16]
                have e : mCopyF ((m0 u 0).2 2 k.toNatClampNeg) ((m0 u 0).2 2 other.toNatClampNeg) ((m0 u 0).2 3 k.toNatClampNeg) ((m0 u 0).2 3 other.toNatClampNeg) i j n = 3 := by unfold mCopyF; rw [if_neg c29, if_neg c40, if_pos c61]; first | rw [if_pos c71] | rw [if_neg c71, if_pos c76] | rw [if_neg c71, if_neg c76, if_pos c81] | rw [if_neg c71, if_neg c76, if_neg c81, if_pos c91] | rw [if_neg c71, if_neg c76, if_neg c81, if_neg c91, if_pos c102] | rw [if_neg c71, if_neg c76, if_neg c81, if_neg c91, if_neg c102, if_pos c127] | rw [if_neg c71, if_neg c76, if_neg c81, if_neg c91, if_neg c102, if_neg c127, if_neg c141]
                rw [e, if_neg (by decide)]
                exact ⟨rfl, rfl⟩
              · refine T_iload dX12_copy_79 rfl ?_
                refine T_if_lt (tgt := 109) dX12_copy_81 (by decide) (fun c81 => ?_) (fun c81 => ?_)
                · refine T_iconst (v := 0) dX12_copy_109 (by decide) ?_
                  refine T_istore dX12_copy_110 (by decide) rfl ?_
                  refine T_iload dX12_copy_112 rfl ?_
                  refine T_if_eq (tgt := 144) dX12_copy_114 (by decide) (fun _ => ?_) (fun c => absurd (by decide) c)
                  refine T_aload_n dX12_copy_144 rfl ?_
                  refine T_iconst (v := 3) dX12_copy_145 (by decide) ?_
                  refine T_v1e (cu2 := 0) (su2 := 0) dX12_copy_146 lv_X12_95 rfl (mH_get hA rfl) rfl (c_X12_fails hA _) (nb rfl) (nb rfl) (nb rfl) (nb rfl) (nb rfl) ?_
                  refine T_iret dX12_copy_149 rfl (nb rfl) (nb rfl) ?_
                  rw [if_pos c9, if_pos c16]
                  have e : mCopyF ((m0 u 0).2 2 k.toNatClampNeg) ((m0 u 0).2 2 other.toNatClampNeg) ((m0 u 0).2 3 k.toNatClampNeg) ((m0 u 0).2 3 other.toNatClampNeg) i j n = 3 := by unfold mCopyF; rw [if_neg c29, if_neg c40, if_pos c61]; first | rw [if_pos c71] | rw [if_neg c71, if_pos c76] | rw [if_neg c71, if_neg c76, if_pos c81] | rw [if_neg c71, if_neg c76, if_neg c81, if_pos c91] | rw [if_neg c71, if_neg c76, if_neg c81, if_neg c91, if_pos c102] | rw [if_neg c71, if_neg c76, if_neg c81, if_neg c91, if_neg c102, if_pos c127] | rw [if_neg c71, if_neg c76, if_neg c81, if_neg c91, if_neg c102, if_neg c127, if_neg c141]
                  rw [e, if_neg (by decide)]
                  exact ⟨rfl, rfl⟩
                · refine T_iload_n dX12_copy_84 rfl ?_
                  refine T_aload_n dX12_copy_85 rfl ?_
                  refine T_get dX12_copy_86 fl_X12_13_12 (mH_get hA rfl) rfl ?_
                  refine T_iload_n dX12_copy_89 rfl ?_
                  refine T_iald dX12_copy_90 (mH_get hA rfl) (hv c9) ?_
                  refine T_icmp_gt (tgt := 109) dX12_copy_91 (by decide) (fun c91 => ?_) (fun c91 => ?_)
                  · refine T_iconst (v := 0) dX12_copy_109 (by decide) ?_
                    refine T_istore dX12_copy_110 (by decide) rfl ?_
                    refine T_iload dX12_copy_112 rfl ?_
                    refine T_if_eq (tgt := 144) dX12_copy_114 (by decide) (fun _ => ?_) (fun c => absurd (by decide) c)
                    refine T_aload_n dX12_copy_144 rfl ?_
                    refine T_iconst (v := 3) dX12_copy_145 (by decide) ?_
                    refine T_v1e (cu2 := 0) (su2 := 0) dX12_copy_146 lv_X12_95 rfl (mH_get hA rfl) rfl (c_X12_fails hA _) (nb rfl) (nb rfl) (nb rfl) (nb rfl) (nb rfl) ?_
                    refine T_iret dX12_copy_149 rfl (nb rfl) (nb rfl) ?_
                    rw [if_pos c9, if_pos c16]
                    have e : mCopyF ((m0 u 0).2 2 k.toNatClampNeg) ((m0 u 0).2 2 other.toNatClampNeg) ((m0 u 0).2 3 k.toNatClampNeg) ((m0 u 0).2 3 other.toNatClampNeg) i j n = 3 := by unfold mCopyF; rw [if_neg c29, if_neg c40, if_pos c61]; first | rw [if_pos c71] | rw [if_neg c71, if_pos c76] | rw [if_neg c71, if_neg c76, if_pos c81] | rw [if_neg c71, if_neg c76, if_neg c81, if_pos c91] | rw [if_neg c71, if_neg c76, if_neg c81, if_neg c91, if_pos c102] | rw [if_neg c71, if_neg c76, if_neg c81, if_neg c91, if_neg c102, if_pos c127] | rw [if_neg c71, if_neg c76, if_neg c81, if_neg c91, if_neg c102, if_neg c127, if_neg c141]
                    rw [e, if_neg (by decide)]
                    exact ⟨rfl, rfl⟩
                  · refine T_iload dX12_copy_94 rfl ?_
                    refine T_aload_n dX12_copy_96 rfl ?_
                    refine T_get dX12_copy_97 fl_X12_13_12 (mH_get hA rfl) rfl ?_
                    refine T_iload_n dX12_copy_100 rfl ?_
                    refine T_iald dX12_copy_101 (mH_get hA rfl) (hv c16) ?_
                    refine T_icmp_gt (tgt := 109) dX12_copy_102 (by decide) (fun c102 => ?_) (fun c102 => ?_)
                    · refine T_iconst (v := 0) dX12_copy_109 (by decide) ?_
                      refine T_istore dX12_copy_110 (by decide) rfl ?_
                      refine T_iload dX12_copy_112 rfl ?_
                      refine T_if_eq (tgt := 144) dX12_copy_114 (by decide) (fun _ => ?_) (fun c => absurd (by decide) c)
                      refine T_aload_n dX12_copy_144 rfl ?_
                      refine T_iconst (v := 3) dX12_copy_145 (by decide) ?_
                      refine T_v1e (cu2 := 0) (su2 := 0) dX12_copy_146 lv_X12_95 rfl (mH_get hA rfl) rfl (c_X12_fails hA _) (nb rfl) (nb rfl) (nb rfl) (nb rfl) (nb rfl) ?_
                      refine T_iret dX12_copy_149 rfl (nb rfl) (nb rfl) ?_
                      rw [if_pos c9, if_pos c16]
                      have e : mCopyF ((m0 u 0).2 2 k.toNatClampNeg) ((m0 u 0).2 2 other.toNatClampNeg) ((m0 u 0).2 3 k.toNatClampNeg) ((m0 u 0).2 3 other.toNatClampNeg) i j n = 3 := by unfold mCopyF; rw [if_neg c29, if_neg c40, if_pos c61]; first | rw [if_pos c71] | rw [if_neg c71, if_pos c76] | rw [if_neg c71, if_neg c76, if_pos c81] | rw [if_neg c71, if_neg c76, if_neg c81, if_pos c91] | rw [if_neg c71, if_neg c76, if_neg c81, if_neg c91, if_pos c102] | rw [if_neg c71, if_neg c76, if_neg c81, if_neg c91, if_neg c102, if_pos c127] | rw [if_neg c71, if_neg c76, if_neg c81, if_neg c91, if_neg c102, if_neg c127, if_neg c141]
                      rw [e, if_neg (by decide)]
                      exact ⟨rfl, rfl⟩
                    · refine T_iconst (v := 1) dX12_copy_105 (by decide) ?_
                      refine T_goto (tgt := 110) dX12_copy_106 (by decide) ?_
                      refine T_istore dX12_copy_110 (by decide) rfl ?_
                      refine T_iload dX12_copy_112 rfl ?_
                      refine T_if_eq (tgt := 144) dX12_copy_114 (by decide) (fun c => absurd c (by decide)) (fun _ => ?_)
                      refine T_iload dX12_copy_117 rfl ?_
                      refine T_aload_n dX12_copy_119 rfl ?_
                      refine T_get dX12_copy_120 fl_X12_13_12 (mH_get hA rfl) rfl ?_
                      refine T_iload_n dX12_copy_123 rfl ?_
                      refine T_iald dX12_copy_124 (mH_get hA rfl) (hv c9) ?_
                      refine T_iload_n dX12_copy_125 rfl ?_
                      refine T_isub dX12_copy_126 ?_
                      refine T_icmp_gt (tgt := 144) dX12_copy_127 (by decide) (fun c127 => ?_) (fun c127 => ?_)
                      · refine T_aload_n dX12_copy_144 rfl ?_
                        refine T_iconst (v := 3) dX12_copy_145 (by decide) ?_
                        refine T_v1e (cu2 := 0) (su2 := 0) dX12_copy_146 lv_X12_95 rfl (mH_get hA rfl) rfl (c_X12_fails hA _) (nb rfl) (nb rfl) (nb rfl) (nb rfl) (nb rfl) ?_
                        refine T_iret dX12_copy_149 rfl (nb rfl) (nb rfl) ?_
                        rw [if_pos c9, if_pos c16]
                        have e : mCopyF ((m0 u 0).2 2 k.toNatClampNeg) ((m0 u 0).2 2 other.toNatClampNeg) ((m0 u 0).2 3 k.toNatClampNeg) ((m0 u 0).2 3 other.toNatClampNeg) i j n = 3 := by unfold mCopyF; rw [if_neg c29, if_neg c40, if_pos c61]; first | rw [if_pos c71] | rw [if_neg c71, if_pos c76] | rw [if_neg c71, if_neg c76, if_pos c81] | rw [if_neg c71, if_neg c76, if_neg c81, if_pos c91] | rw [if_neg c71, if_neg c76, if_neg c81, if_neg c91, if_pos c102] | rw [if_neg c71, if_neg c76, if_neg c81, if_neg c91, if_neg c102, if_pos c127] | rw [if_neg c71, if_neg c76, if_neg c81, if_neg c91, if_neg c102, if_neg c127, if_neg c141]
                        rw [e, if_neg (by decide)]
                        exact ⟨rfl, rfl⟩
                      · refine T_iload dX12_copy_130 rfl ?_
                        refine T_aload_n dX12_copy_132 rfl ?_
                        refine T_get dX12_copy_133 fl_X12_13_12 (mH_get hA rfl) rfl ?_
                        refine T_iload_n dX12_copy_136 rfl ?_
                        refine T_iald dX12_copy_137 (mH_get hA rfl) (hv c16) ?_
                        refine T_iload dX12_copy_138 rfl ?_
                        refine T_isub dX12_copy_140 ?_
                        refine T_icmp_le (tgt := 150) dX12_copy_141 (by decide) (fun c141 => ?_) (fun c141 => ?_)
                        · obtain ⟨kk, hkk, ek⟩ := shN c9
                          obtain ⟨oo, hoo, eo⟩ := shN c16
                          have ckk : k.toNatClampNeg = kk := by rw [ek]; exact nI_clamp (by omega)
                          have coo : other.toNatClampNeg = oo := by rw [eo]; exact nI_clamp (by omega)
                          obtain ⟨la, hla, ea⟩ := hl k.toNatClampNeg (by rw [ckk]; exact hkk)
                          obtain ⟨lb, hlb, eb⟩ := hl other.toNatClampNeg (by rw [coo]; exact hoo)
                          have e : mCopyF ((m0 u 0).2 2 k.toNatClampNeg) ((m0 u 0).2 2 other.toNatClampNeg) ((m0 u 0).2 3 k.toNatClampNeg) ((m0 u 0).2 3 other.toNatClampNeg) i j n = 0 := by unfold mCopyF; rw [if_neg c29, if_neg c40, if_pos c61, if_neg c71, if_neg c76, if_neg c81, if_neg c91, if_neg c102, if_neg c127, if_pos c141]
                          rw [if_pos c9, if_pos c16, if_pos e]
                          obtain ⟨ii, jj, nn, e1, e2, e3, b1, b2⟩ := mCopyF_in (sk := 0) (so := 0) ea eb hla hlb c71 c76 c81 c91 c102 c127 c141
                          clear e
                          subst e1 e2 e3 ek eo
                          rw [ckk, coo, nI_clamp (show ii < 2 ^ 31 by omega), nI_clamp (show jj < 2 ^ 31 by omega), nI_clamp (show nn < 2 ^ 31 by omega)]
                          exact T_eq (lp_X12_copy_150 hA hkk hoo b1 b2 _) rfl (mH_id 4)
                        · refine T_aload_n dX12_copy_144 rfl ?_
                          refine T_iconst (v := 3) dX12_copy_145 (by decide) ?_
                          refine T_v1e (cu2 := 0) (su2 := 0) dX12_copy_146 lv_X12_95 rfl (mH_get hA rfl) rfl (c_X12_fails hA _) (nb rfl) (nb rfl) (nb rfl) (nb rfl) (nb rfl) ?_
                          refine T_iret dX12_copy_149 rfl (nb rfl) (nb rfl) ?_
                          rw [if_pos c9, if_pos c16]
                          have e : mCopyF ((m0 u 0).2 2 k.toNatClampNeg) ((m0 u 0).2 2 other.toNatClampNeg) ((m0 u 0).2 3 k.toNatClampNeg) ((m0 u 0).2 3 other.toNatClampNeg) i j n = 3 := by unfold mCopyF; rw [if_neg c29, if_neg c40, if_pos c61]; first | rw [if_pos c71] | rw [if_neg c71, if_pos c76] | rw [if_neg c71, if_neg c76, if_pos c81] | rw [if_neg c71, if_neg c76, if_neg c81, if_pos c91] | rw [if_neg c71, if_neg c76, if_neg c81, if_neg c91, if_pos c102] | rw [if_neg c71, if_neg c76, if_neg c81, if_neg c91, if_neg c102, if_pos c127] | rw [if_neg c71, if_neg c76, if_neg c81, if_neg c91, if_neg c102, if_neg c127, if_neg c141]
                          rw [e, if_neg (by decide)]
                          exact ⟨rfl, rfl⟩
          · refine T_aload_n dX12_copy_64 rfl ?_
            refine T_iconst (v := 2) dX12_copy_65 (by decide) ?_
            refine T_v1e (cu2 := 0) (su2 := 0) dX12_copy_66 lv_X12_95 rfl (mH_get hA rfl) rfl (c_X12_fails hA _) (nb rfl) (nb rfl) (nb rfl) (nb rfl) (nb rfl) ?_
            refine T_iret dX12_copy_69 rfl (nb rfl) (nb rfl) ?_
            rw [if_pos c9, if_pos c16]
            have e : mCopyF ((m0 u 0).2 2 k.toNatClampNeg) ((m0 u 0).2 2 other.toNatClampNeg) ((m0 u 0).2 3 k.toNatClampNeg) ((m0 u 0).2 3 other.toNatClampNeg) i j n = 2 := by unfold mCopyF; rw [if_neg c29, if_neg c40, if_neg c61]
            rw [e, if_neg (by decide)]
            exact ⟨rfl, rfl⟩
        · refine T_aload_n dX12_copy_43 rfl ?_
          refine T_iconst (v := 1) dX12_copy_44 (by decide) ?_
          refine T_v1e (cu2 := 0) (su2 := 0) dX12_copy_45 lv_X12_95 rfl (mH_get hA rfl) rfl (c_X12_fails hA _) (nb rfl) (nb rfl) (nb rfl) (nb rfl) (nb rfl) ?_
          refine T_iret dX12_copy_48 rfl (nb rfl) (nb rfl) ?_
          rw [if_pos c9, if_pos c16]
          have e : mCopyF ((m0 u 0).2 2 k.toNatClampNeg) ((m0 u 0).2 2 other.toNatClampNeg) ((m0 u 0).2 3 k.toNatClampNeg) ((m0 u 0).2 3 other.toNatClampNeg) i j n = 1 := by first | (unfold mCopyF; rw [if_pos c29]) | (unfold mCopyF; rw [if_neg c29, if_pos c40])
          rw [e, if_neg (by decide)]
          exact ⟨rfl, rfl⟩
    · refine T_iconst (v := (-1)) dX12_copy_19 (by decide) ?_
      refine T_iret dX12_copy_20 rfl (nb rfl) (nb rfl) ?_
      first | (rw [if_neg c9]; exact ⟨rfl, rfl⟩) | (rw [if_pos c9, if_neg c16]; exact ⟨rfl, rfl⟩)
end M8
