/-! the reference: lake -/
section M26
variable {A B : XH} {u v : MSt} {h : XH} {Z : XZ} {f : Nat → Int32} {e : Nat}
def SameL (u u' : MSt) : Prop := ∀ j, ¬ (5 ≤ j ∧ j ≤ 19) → ¬ j = 28 → u'.1 j = u.1 j ∧ u'.2 j = u.2 j
/-- the lake of the text from s on stands in u -/
def TkD (u : MSt) (f : Nat → Int32) (e s wd hh m : Nat) : Prop := u.1 5 = nI wd ∧ u.1 6 = nI hh ∧ u.1 7 = nI m ∧ u.1 28 = 0 ∧ 2 ≤ wd ∧ wd ≤ 4 ∧ 1 ≤ hh ∧ hh ≤ 10 ∧ 1 ≤ m ∧ m ≤ 3 ∧
  (∀ k, k < 5 → u.2 8 k = bI (0 < k ∧ k < wd ∧ f (s + 1 + k) - 48 = 1)) ∧
  (∀ k, k < hh → ¬ mWb (f (s + 2 + wd + k)) = -9 ∧ u.2 9 k = mWb (f (s + 2 + wd + k))) ∧
  (∀ b, b < m → btK f e (s + 2 + wd + hh + 4 * b + 1) = 3 ∧ u.2 10 b = kdV (f (s + 2 + wd + hh + 4 * b + 1)) ∧ u.2 11 b = f (s + 2 + wd + hh + 4 * b + 2) - 48 ∧ u.2 12 b = f (s + 2 + wd + hh + 4 * b + 3) - 48)
/-- what reading a text answers -/
def LkT (u : MSt) (s n : Nat) (v : Int32) (u' : MSt) : Prop :=
  if (lakeP (u.2 4) (s + n) s).1.2 = true then v = nI (lakeP (u.2 4) (s + n) s).2.2.2 ∧ SameL u u' ∧ TkD u' (u.2 4) (s + n) s (lakeP (u.2 4) (s + n) s).2.1 (lakeP (u.2 4) (s + n) s).2.2.1 (lakeP (u.2 4) (s + n) s).2.2.2
  else v = -100 - (nI (lakeP (u.2 4) (s + n) s).1.1 - nI s) ∧ SameE u u'
theorem mAgainst_0n {s sort i n : Int32} {ll : Nat} (hl : ll ≤ 60) (h : mAgainst s (nI ll) sort i n = 0) : ∃ ii nn, i = nI ii ∧ n = nI nn ∧ ii + nn ≤ ll := by
  unfold mAgainst at h
  split at h
  · exact absurd h (by decide)
  split at h
  · exact absurd h (by decide)
  split at h
  · exact absurd h (by decide)
  next q0 =>
  split at h
  · exact absurd h (by decide)
  next q =>
  have q1 : ¬ i < 0 := fun r => q (Or.inl r)
  have q2 : ¬ nI ll < i := fun r => q (Or.inr (Or.inl r))
  have q3 : ¬ nI ll - i < n := fun r => q (Or.inr (Or.inr r))
  obtain ⟨ii, hi, rfl⟩ := nI_of q1
  obtain ⟨nn, hn, rfl⟩ := nI_of q0
  rw [nI_ltI (by omega) hi] at q2
  rw [pk_sub (by omega), nI_ltI (by omega) hn] at q3
  exact ⟨ii, nn, rfl, rfl, by omega⟩
theorem mB_same (hu : u.1 13 = u.1 13) {w : Int32} {hh a m : Nat} {I W R : Nat → Int32} : SameE u (mB (mK u w hh I W) a m R) := fun j hj => by
  refine ⟨?_, ?_⟩
  · show va_up (va_up (va_up (va_up u.1 14 w) 15 (nI hh)) 16 (nI m)) 13 (nI a) j = u.1 j
    unfold va_up
    rw [if_neg (by omega), if_neg (by omega), if_neg (by omega), if_neg (by omega)]
  · show va_up (va_up (va_up u.2 17 I) 18 W) 19 R j = u.2 j
    unfold va_up
    rw [if_neg (by omega), if_neg (by omega), if_neg (by omega)]
theorem mT4_same {wd hh m : Nat} {H W K F S : Nat → Int32} : SameL v (mT4 v wd H hh W m K F S) := fun j hj h28 => by
  refine ⟨?_, ?_⟩
  · show va_up (va_up (va_up (va_up v.1 5 (nI wd)) 6 (nI hh)) 7 (nI m)) 28 0 j = v.1 j
    unfold va_up
    rw [if_neg (by omega), if_neg (by omega), if_neg (by omega), if_neg (by omega)]
  · show va_up (va_up (va_up (va_up (va_up v.2 8 H) 9 W) 10 K) 11 F) 12 S j = v.2 j
    unfold va_up
    rw [if_neg (by omega), if_neg (by omega), if_neg (by omega), if_neg (by omega), if_neg (by omega)]
theorem lp_X12_lake_84 (hA : A.length = 67) {Qa : Option Value → XH → Prop} {wd hh m : Nat} {x1 x2 x3 x4 x5 x6 : Int32} (h14 : v.1 14 = nI wd) (h15 : v.1 15 = nI hh) (h16 : v.1 16 = nI m) (hw : wd ≤ 4) (hh10 : hh ≤ 10) (hm : m ≤ 3)
    (hQ : ∀ H W K F S, (∀ k, k < 5 → HsD (v.2 17) wd H k) → (∀ k, k < hh → W k = v.2 18 k) → (∀ k, k < m → KfD v K F S k) → Qa (some (.int (nI m))) (mH A (mT4 v wd H hh W m K F S) B)) :
    T M_X12_lake x_E (x_Z M_X12_lake Qa) 0 0 84 [(0, .ref 67), (1, .int x1), (2, .int x2), (3, .int x3), (4, .int x4), (5, .int x5), (6, .int x6)] [] (mH A v B) := by
  refine T_aload_n dX12_lake_84 rfl ?_
  refine T_v0q (cu2 := 0) (su2 := 0) dX12_lake_85 lv_X12_102 rfl (mH_get hA rfl) rfl (c_X12_takeLake hA h14 h15 h16 hw hh10 hm) (nb rfl) (nb rfl) (nb rfl) (nb rfl) (nb rfl) (fun r85 h85 q85 => ?_)
  obtain ⟨rfl, H, W, K, F, S, rfl, a1, a2, a3⟩ := q85
  refine T_aload_n dX12_lake_88 rfl ?_
  refine T_get dX12_lake_89 fl_X12_75_12 (mH_get hA rfl) rfl ?_
  refine T_iret dX12_lake_92 rfl (nb rfl) (nb rfl) ?_
  exact hQ H W K F S a1 a2 a3
theorem TkD_of {s wd hh m : Nat} {I W0 R H W K F S : Nat → Int32} {at0 : Nat} (hD : LkD f e s wd hh m I W0 R) (a1 : ∀ k, k < 5 → HsD I wd H k) (a2 : ∀ k, k < hh → W k = W0 k) (a3 : ∀ k, k < m → K k = R (3 * k) ∧ F k = R (3 * k + 1) ∧ S k = R (3 * k + 2)) : TkD (mT4 (mB (mK u (nI wd) hh I W0) at0 m R) wd H hh W m K F S) f e s wd hh m := by
  obtain ⟨d1, d2, d3, d4, d5, d6, d7, d8, d9⟩ := hD
  refine ⟨rfl, rfl, rfl, rfl, d1, d2, d3, d4, d5, d6, fun k hk => ?_, fun k hk => ?_, fun b hb => ?_⟩
  · show H k = _
    rw [a1 k hk]
    by_cases q : 0 < k ∧ k < wd
    · obtain ⟨i1, i2⟩ := d7 k q.1 q.2
      rw [i2]
    · rw [← bI_f (show ¬ (0 < k ∧ k < wd ∧ I k = 1) from fun x => q ⟨x.1, x.2.1⟩), ← bI_f (show ¬ (0 < k ∧ k < wd ∧ f (s + 1 + k) - 48 = 1) from fun x => q ⟨x.1, x.2.1⟩)]
  · obtain ⟨i1, i2⟩ := d8 k hk
    exact ⟨i1, (a2 k hk).trans i2⟩
  · obtain ⟨i1, i2, i3, i4⟩ := d9 b hb
    obtain ⟨j1, j2, j3⟩ := a3 b hb
    exact ⟨i1, j1.trans i2, j2.trans i3, j3.trans i4⟩
theorem lp_X12_lake_47 (hA : A.length = 67) {kk ii nn : Nat} {sort x5 : Int32} (hk : kk < 4) (hi : ii + nn ≤ 60) :
    T M_X12_lake x_E (x_Z M_X12_lake (fun q h' => ∃ v u', q = some (.int v) ∧ h' = mH A u' B ∧ LkT u (60 * kk + ii) nn v u')) 0 0 47 [(0, .ref 67), (1, .int (nI kk)), (2, .int sort), (3, .int (nI ii)), (4, .int (nI nn)), (5, .int x5)] [] (mH A u B) := by
  refine T_bipush (v := nI 60) dX12_lake_47 (by decide) ?_
  refine T_iload_n dX12_lake_49 rfl ?_
  refine T_imulN dX12_lake_50 ?_
  refine T_iload_n dX12_lake_51 rfl ?_
  refine T_iaddN dX12_lake_52 ?_
  refine T_istore dX12_lake_53 (by decide) rfl ?_
  refine T_aload_n dX12_lake_55 rfl ?_
  refine T_iload dX12_lake_56 rfl ?_
  refine T_put dX12_lake_58 fp_X12_81_12 (mH_get hA rfl) (nb rfl) (fun _ => ⟨rfl, rfl⟩) ?_
  first | refine T_h (mE_13 hA) ?_ | refine T_h (mF_13 hA) ?_
  refine T_h (h2 := mH A (mA u (60 * kk + ii)) B) rfl ?_
  refine T_aload_n dX12_lake_61 rfl ?_
  refine T_iload dX12_lake_62 rfl ?_
  refine T_iload dX12_lake_64 rfl ?_
  refine T_iaddN dX12_lake_66 ?_
  refine T_v1q (cu2 := 0) (su2 := 0) dX12_lake_67 lv_X12_99 rfl (mH_get hA rfl) rfl (c_X12_readLake (u := u) (f := u.2 4) (e := 60 * kk + ii + nn) (s := 60 * kk + ii) hA rfl (by omega) (by omega)) (nb rfl) (nb rfl) (nb rfl) (nb rfl) (nb rfl) (fun r67 h67 q67 => ?_)
  obtain ⟨w, hh, m, I, W, R, rfl, rfl, hd⟩ := q67
  refine T_if_neB (tgt := 84) dX12_lake_70 (by decide) (fun c70 => ?_) (fun c70 => ?_)
  · obtain ⟨rfl, d2, d3, d4⟩ := hd c70
    refine lp_X12_lake_84 (wd := (lakeP (u.2 4) (60 * kk + ii + nn) (60 * kk + ii)).2.1) (hh := hh) (m := m) hA rfl rfl rfl d4.2.1 d4.2.2.2.1 d4.2.2.2.2.2.1 (fun H W2 K F S a1 a2 a3 => ⟨_, _, rfl, rfl, ?_⟩)
    unfold LkT
    rw [if_pos c70, ← d2, ← d3]
    refine ⟨rfl, fun j hj h28 => ?_, TkD_of d4 a1 a2 a3⟩
    obtain ⟨b1, b2⟩ := mT4_same (v := mB (mK u (nI (lakeP (u.2 4) (60 * kk + ii + nn) (60 * kk + ii)).2.1) hh I W) (lakeP (u.2 4) (60 * kk + ii + nn) (60 * kk + ii)).1.1 m R) (wd := (lakeP (u.2 4) (60 * kk + ii + nn) (60 * kk + ii)).2.1) (hh := hh) (m := m) (H := H) (W := W2) (K := K) (F := F) (S := S) j hj h28
    refine ⟨b1.trans ?_, b2.trans ?_⟩
    · show va_up (va_up (va_up (va_up u.1 14 _) 15 _) 16 _) 13 _ j = u.1 j
      unfold va_up
      rw [if_neg (by omega), if_neg (by omega), if_neg (by omega), if_neg (by omega)]
    · show va_up (va_up (va_up u.2 17 I) 18 W) 19 R j = u.2 j
      unfold va_up
      rw [if_neg (by omega), if_neg (by omega), if_neg (by omega)]
  · refine T_bipush (v := (-100)) dX12_lake_73 (by decide) ?_
    refine T_aload_n dX12_lake_75 rfl ?_
    refine T_get dX12_lake_76 fl_X12_81_12 (mH_get hA rfl) rfl ?_
    refine T_top mA_13 ?_
    refine T_iload dX12_lake_79 rfl ?_
    refine T_isub dX12_lake_81 ?_
    refine T_isub dX12_lake_82 ?_
    refine T_iret dX12_lake_83 rfl (nb rfl) (nb rfl) ?_
    refine ⟨_, _, rfl, rfl, ?_⟩
    unfold LkT
    rw [if_neg c70]
    exact ⟨rfl, mB_same rfl⟩
def LkA (u : MSt) (sh sort i n v : Int32) (u' : MSt) : Prop :=
  if 0 ≤ sh ∧ sh ≤ 3 then (if 0 ≤ sort ∧ sort ≤ 2 then (if mAgainst (u.2 2 sh.toNatClampNeg) (u.2 3 sh.toNatClampNeg) sort i n = 0 then LkT (m0 u 0) (60 * sh.toNatClampNeg + i.toNatClampNeg) n.toNatClampNeg v u' else v = -10 - mAgainst (u.2 2 sh.toNatClampNeg) (u.2 3 sh.toNatClampNeg) sort i n ∧ u' = m0 u (mAgainst (u.2 2 sh.toNatClampNeg) (u.2 3 sh.toNatClampNeg) sort i n)) else v = -2 ∧ u' = m0 u 0) else v = -1 ∧ u' = m0 u 0
theorem c_X12_lake (hA : A.length = 67) (sh sort i n : Int32) (hl : ∀ j, j < 4 → ∃ ll : Nat, ll ≤ 60 ∧ u.2 3 j = nI ll) : Con M_X12_lake [.ref 67, .int sh, .int sort, .int i, .int n] (mH A u B) (fun q h' => ∃ v u', q = some (.int v) ∧ h' = mH A u' B ∧ LkA u sh sort i n v u') := by
  have hin : (0 ≤ sh ∧ sh ≤ 3) → vp_in sh 4 := fun q => by
    obtain ⟨kk, hkk, rfl⟩ := shN q
    exact vp_in_nI hkk (by decide)
  refine Con.of rfl (nb rfl) ?_
  refine T_aload_n dX12_lake_0 rfl ?_
  refine T_iconst (v := 0) dX12_lake_1 (by decide) ?_
  refine T_put dX12_lake_2 fp_X12_65_12 (mH_get hA rfl) (nb rfl) (fun _ => ⟨rfl, rfl⟩) ?_
  first | refine T_h (mE_0 hA) ?_ | refine T_h (mF_0 hA) ?_
  refine T_iload_n dX12_lake_5 rfl ?_
  refine T_s1e (cu2 := 0) (su2 := 0) dX12_lake_6 ls_X12_84 rfl (c_X12_isSheet _) (nb rfl) (nb rfl) (nb rfl) (nb rfl) (nb rfl) ?_
  refine T_if_neB (tgt := 14) dX12_lake_9 (by decide) (fun c9 => ?_) (fun c9 => ?_)
  · refine T_iload_n dX12_lake_14 rfl ?_
    refine T_s1e (cu2 := 0) (su2 := 0) dX12_lake_15 ls_X12_88 rfl (c_X12_isSort _) (nb rfl) (nb rfl) (nb rfl) (nb rfl) (nb rfl) ?_
    refine T_if_neB (tgt := 24) dX12_lake_18 (by decide) (fun c18 => ?_) (fun c18 => ?_)
    · refine T_aload_n dX12_lake_24 rfl ?_
      refine T_iload_n dX12_lake_25 rfl ?_
      refine T_iload_n dX12_lake_26 rfl ?_
      refine T_iload_n dX12_lake_27 rfl ?_
      refine T_iload dX12_lake_28 rfl ?_
      refine T_v4e (cu2 := 0) (su2 := 0) dX12_lake_30 lv_X12_91 rfl (mH_get hA rfl) rfl (c_X12_against hA sh sort i n (hin c9)) (nb rfl) (nb rfl) (nb rfl) (nb rfl) (nb rfl) ?_
      refine T_istore dX12_lake_33 (by decide) rfl ?_
      refine T_iload dX12_lake_35 rfl ?_
      refine T_if_eq (tgt := 47) dX12_lake_37 (by decide) (fun c37 => ?_) (fun c37 => ?_)
      · obtain ⟨kk, hk, rfl⟩ := shN c9
        have ck : (nI kk).toNatClampNeg = kk := nI_clamp (by omega)
        obtain ⟨ll, hll, el⟩ := hl kk hk
        have c37' : mAgainst (u.2 2 (nI kk).toNatClampNeg) (u.2 3 (nI kk).toNatClampNeg) sort i n = 0 := c37
        rw [ck, el] at c37'
        obtain ⟨ii, nn, rfl, rfl, hii⟩ := mAgainst_0n hll c37'
        refine T_Q (fun r h' hh => ?_) (lp_X12_lake_47 (u := m0 u 0) (sort := sort) hA hk (show ii + nn ≤ 60 by omega))
        obtain ⟨v, u', e1, e2, e3⟩ := hh
        refine ⟨v, u', e1, e2, ?_⟩
        unfold LkA
        rw [if_pos c9, if_pos c18, if_pos c37, ck, nI_clamp (show ii < 2 ^ 31 by omega), nI_clamp (show nn < 2 ^ 31 by omega)]
        exact e3
      · refine T_aload_n dX12_lake_40 rfl ?_
        refine T_iload dX12_lake_41 rfl ?_
        refine T_v1e (cu2 := 0) (su2 := 0) dX12_lake_43 lv_X12_95 rfl (mH_get hA rfl) rfl (c_X12_failsE hA _) (nb rfl) (nb rfl) (nb rfl) (nb rfl) (nb rfl) ?_
        refine T_iret dX12_lake_46 rfl (nb rfl) (nb rfl) ?_
        exact ⟨_, _, rfl, rfl, by unfold LkA; rw [if_pos c9, if_pos c18, if_neg c37]; exact ⟨rfl, rfl⟩⟩
    · refine T_bipush (v := (-2)) dX12_lake_21 (by decide) ?_
      refine T_iret dX12_lake_23 rfl (nb rfl) (nb rfl) ?_
      exact ⟨_, _, rfl, rfl, by unfold LkA; rw [if_pos c9, if_neg c18]; exact ⟨rfl, rfl⟩⟩
  · refine T_iconst (v := (-1)) dX12_lake_12 (by decide) ?_
    refine T_iret dX12_lake_13 rfl (nb rfl) (nb rfl) ?_
    exact ⟨_, _, rfl, rfl, by unfold LkA; rw [if_neg c9]; exact ⟨rfl, rfl⟩⟩
end M26
