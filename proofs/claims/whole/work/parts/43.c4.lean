/-! States: sets as numbers below 2 ^ 128. The rows wb_.. began as rows of the kit's BITS.to-paste -/
theorem wb_tb (n : Nat) : (lN n).toBitVec = BitVec.ofNat 64 n := rfl
theorem wb_inj {a b : Int64} (h : a.toBitVec = b.toBitVec) : a = b := Int64.toBitVec_inj.mp h
theorem wb_tn {n : Nat} (h : n < 2 ^ 64) : (lN n).toBitVec.toNat = n := by rw [wb_tb, BitVec.toNat_ofNat, Nat.mod_eq_of_lt h]
theorem wb_of (x : Int64) : ∃ n, n < 2 ^ 64 ∧ x = lN n := ⟨x.toBitVec.toNat, x.toBitVec.isLt, wb_inj (by rw [wb_tb]; simp)⟩
theorem wb_of32 (x : Int32) : ∃ n, n < 2 ^ 32 ∧ x = nI n := ⟨x.toBitVec.toNat, x.toBitVec.isLt, Int32.toBitVec_inj.mp (by show _ = BitVec.ofNat 32 _; simp)⟩
theorem wb_c : ∀ k, k < 64 → ((nI k).toInt64 &&& 63) = lN k := by decide +kernel
theorem wb_cu : ∀ k, k < 64 → ((nI k).toInt64.toUInt64 &&& Int64.toUInt64 63) = UInt64.ofNat k := by decide +kernel
theorem wb_sm : ∀ k, k < 64 → (BitVec.ofNat 64 k).smod 64 = BitVec.ofNat 64 k := by decide +kernel
theorem wb_pw {a b : Nat} (h : a ≤ b) : 2 ^ b = 2 ^ a * 2 ^ (b - a) := by rw [← Nat.pow_add]; congr 1; omega
theorem wb_lt2 {a b : Nat} (h : a < b) : 2 ^ a < 2 ^ b := Nat.pow_lt_pow_right (by decide) h
theorem wb_mod (n : Nat) : lN n = lN (n % 2 ^ 64) := wb_inj (by rw [wb_tb, wb_tb]; apply BitVec.eq_of_toNat_eq; rw [BitVec.toNat_ofNat, BitVec.toNat_ofNat, Nat.mod_mod])
theorem wb_shr {n k : Nat} (hn : n < 2 ^ 64) (hk : k < 64) : ((lN n).toUInt64 >>> ((nI k).toInt64.toUInt64 &&& Int64.toUInt64 63)).toInt64 = lN (n / 2 ^ k) := by
  rw [wb_cu k hk]
  apply wb_inj
  apply BitVec.eq_of_toNat_eq
  show ((lN n).toUInt64 >>> UInt64.ofNat k).toNat = (BitVec.ofNat 64 _).toNat
  have h1 : (UInt64.ofNat k).toNat = k := by
    show (BitVec.ofNat 64 k).toNat = k
    rw [BitVec.toNat_ofNat, Nat.mod_eq_of_lt (by omega)]
  have h2 : (lN n).toUInt64.toNat = n := wb_tn hn
  rw [UInt64.toNat_shiftRight, h1, h2, Nat.mod_eq_of_lt hk, Nat.shiftRight_eq_div_pow, BitVec.toNat_ofNat, Nat.mod_eq_of_lt (Nat.lt_of_le_of_lt (Nat.div_le_self _ _) hn)]
theorem wb_shl (n : Nat) {k : Nat} (hk : k < 64) : lN n <<< ((nI k).toInt64 &&& 63) = lN (n * 2 ^ k) := by
  rw [wb_c k hk]
  apply wb_inj
  rw [Int64.toBitVec_shiftLeft, wb_tb, wb_tb, wb_tb, wb_sm k hk]
  apply BitVec.eq_of_toNat_eq
  rw [BitVec.shiftLeft_eq', BitVec.toNat_shiftLeft, BitVec.toNat_ofNat, BitVec.toNat_ofNat, BitVec.toNat_ofNat, Nat.mod_eq_of_lt (show k < 2 ^ 64 by omega), Nat.shiftLeft_eq, Nat.mul_mod, Nat.mod_mod, ← Nat.mul_mod]
theorem wb_and {a b : Nat} (ha : a < 2 ^ 64) (hb : b < 2 ^ 64) : lN a &&& lN b = lN (a &&& b) := by
  apply wb_inj
  rw [Int64.toBitVec_and, wb_tb, wb_tb, wb_tb]
  apply BitVec.eq_of_toNat_eq
  rw [BitVec.toNat_and, BitVec.toNat_ofNat, BitVec.toNat_ofNat, BitVec.toNat_ofNat, Nat.mod_eq_of_lt ha, Nat.mod_eq_of_lt hb, Nat.mod_eq_of_lt (Nat.and_lt_two_pow _ hb)]
theorem wb_or {a b : Nat} (ha : a < 2 ^ 64) (hb : b < 2 ^ 64) : lN a ||| lN b = lN (a ||| b) := by
  apply wb_inj
  rw [Int64.toBitVec_or, wb_tb, wb_tb, wb_tb]
  apply BitVec.eq_of_toNat_eq
  rw [BitVec.toNat_or, BitVec.toNat_ofNat, BitVec.toNat_ofNat, BitVec.toNat_ofNat, Nat.mod_eq_of_lt ha, Nat.mod_eq_of_lt hb, Nat.mod_eq_of_lt (Nat.or_lt_two_pow ha hb)]
theorem wb_mask {n k : Nat} (hn : n < 2 ^ 64) (hk : k < 64) : lN n &&& lN (2 ^ k - 1) = lN (n % 2 ^ k) := by
  rw [wb_and hn (by have := wb_lt2 hk; omega), Nat.and_two_pow_sub_one_eq_mod]
theorem wb_a1 {n : Nat} (hn : n < 2 ^ 64) : lN n &&& 1 = lN (n % 2) := wb_mask (k := 1) hn (by decide)
theorem wb_bit {n k : Nat} (hn : n < 2 ^ 64) (hk : k < 64) : ((lN n).toUInt64 >>> ((nI k).toInt64.toUInt64 &&& Int64.toUInt64 63)).toInt64 &&& 1 = lN (n / 2 ^ k % 2) := by
  rw [wb_shr hn hk, wb_a1 (Nat.lt_of_le_of_lt (Nat.div_le_self _ _) hn)]
section C4
variable {h : XH}
abbrev stN (S : Nat) : XC := .inr (6, [.long (lN (S % 2 ^ 64)), .long (lN (S / 2 ^ 64))])
theorem or_m (S A : Nat) : (S ||| A) % 2 ^ 64 = S % 2 ^ 64 ||| A % 2 ^ 64 := Nat.or_mod_two_pow
theorem or_d (S A : Nat) : (S ||| A) / 2 ^ 64 = S / 2 ^ 64 ||| A / 2 ^ 64 := by
  rw [← Nat.shiftRight_eq_div_pow, ← Nat.shiftRight_eq_div_pow, ← Nat.shiftRight_eq_div_pow, Nat.shiftRight_or_distrib]
theorem lt_m (S : Nat) : S % 2 ^ 64 < 2 ^ 64 := Nat.mod_lt _ (by decide)
theorem lt_d {S : Nat} (h : S < 2 ^ 128) : S / 2 ^ 64 < 2 ^ 64 := by omega
theorem or_lt {S A : Nat} (h : S < 2 ^ 128) (h2 : A < 2 ^ 128) : S ||| A < 2 ^ 128 := Nat.or_lt_two_pow h h2
theorem pw_lt128 {s : Nat} (h : s < 128) : 2 ^ s < 2 ^ 128 := Nat.pow_lt_pow_right (by decide) h
theorem c_X6_clear {k : Nat} {a b : Int64} (hk : h[k]? = some (.inr (6, [.long a, .long b]))) : ConE M_X6_clear [.ref k] h none (h.set k (stN 0)) := by
  refine Con.of rfl (nb rfl) ?_
  refine T_aload_n dX6_clear_0 rfl ?_
  refine T_lconst (v := 0) dX6_clear_1 (by decide) ?_
  refine T_put dX6_clear_2 fp_X6_7_6 hk (nb rfl) (fun _ => ⟨rfl, rfl⟩) ?_
  try refine T_h (List.set_set ..) ?_
  refine T_aload_n dX6_clear_5 rfl ?_
  refine T_lconst (v := 0) dX6_clear_6 (by decide) ?_
  refine T_put dX6_clear_7 fp_X6_13_6 (gs_eq hk) (nb rfl) (fun _ => ⟨rfl, rfl⟩) ?_
  try refine T_h (List.set_set ..) ?_
  refine T_vret dX6_clear_10 rfl (nb rfl) (nb rfl) ?_
  exact ⟨rfl, rfl⟩
theorem c_X6_become {k j S : Nat} {a b : Int64} (hk : h[k]? = some (.inr (6, [.long a, .long b]))) (hj : h[j]? = some (stN S)) (hne : k ≠ j) : ConE M_X6_become [.ref k, .ref j] h none (h.set k (stN S)) := by
  refine Con.of rfl (nb rfl) ?_
  refine T_aload_n dX6_become_0 rfl ?_
  refine T_aload_n dX6_become_1 rfl ?_
  refine T_get dX6_become_2 fl_X6_7_6 hj rfl ?_
  refine T_put dX6_become_5 fp_X6_7_6 hk (nb rfl) (fun _ => ⟨rfl, rfl⟩) ?_
  try refine T_h (List.set_set ..) ?_
  refine T_aload_n dX6_become_8 rfl ?_
  refine T_aload_n dX6_become_9 rfl ?_
  refine T_get dX6_become_10 fl_X6_13_6 ((gs_ne hne).trans hj) rfl ?_
  refine T_put dX6_become_13 fp_X6_13_6 (gs_eq hk) (nb rfl) (fun _ => ⟨rfl, rfl⟩) ?_
  try refine T_h (List.set_set ..) ?_
  refine T_vret dX6_become_16 rfl (nb rfl) (nb rfl) ?_
  exact ⟨rfl, rfl⟩
theorem add_lo {S s : Nat} (hs : s < 64) : lN (S % 2 ^ 64) ||| ((1 : Int64) <<< ((nI s).toInt64 &&& 63)) = lN ((S ||| 2 ^ s) % 2 ^ 64) ∧ (S ||| 2 ^ s) / 2 ^ 64 = S / 2 ^ 64 := by
  have h1 : (2 ^ s : Nat) < 2 ^ 64 := Nat.pow_lt_pow_right (by decide) hs
  refine ⟨?_, ?_⟩
  · rw [show (1 : Int64) = lN 1 from rfl, wb_shl 1 hs, Nat.one_mul, wb_or (lt_m S) h1, or_m, Nat.mod_eq_of_lt h1]
  · rw [or_d, Nat.div_eq_of_lt h1, Nat.or_zero]
theorem add_hi {S s : Nat} (hS : S < 2 ^ 128) (hs : s < 64) : lN (S / 2 ^ 64) ||| ((1 : Int64) <<< ((nI s).toInt64 &&& 63)) = lN ((S ||| 2 ^ (64 + s)) / 2 ^ 64) ∧ (S ||| 2 ^ (64 + s)) % 2 ^ 64 = S % 2 ^ 64 := by
  have h1 : (2 ^ s : Nat) < 2 ^ 64 := Nat.pow_lt_pow_right (by decide) hs
  have h2 : (2 ^ (64 + s) : Nat) = 2 ^ 64 * 2 ^ s := Nat.pow_add 2 64 s
  refine ⟨?_, ?_⟩
  · rw [show (1 : Int64) = lN 1 from rfl, wb_shl 1 hs, Nat.one_mul, wb_or (lt_d hS) h1, or_d, h2, Nat.mul_div_cancel_left _ (by decide)]
  · rw [or_m, h2, Nat.mul_mod_right, Nat.or_zero]
theorem c_X6_add {k S s : Nat} (hk : h[k]? = some (stN S)) (hS : S < 2 ^ 128) (hs : s < 128) : ConE M_X6_add [.ref k, .int (nI s)] h none (h.set k (stN (S ||| 2 ^ s))) := by
  refine Con.of rfl (nb rfl) ?_
  refine T_iload_n dX6_add_0 rfl ?_
  refine T_bipush (v := nI 64) dX6_add_1 (by decide) ?_
  refine T_icmp_geN (tgt := 21) dX6_add_3 (by decide) (by omega) (by omega) (fun c3 => ?_) (fun c3 => ?_)
  · refine T_aload_n dX6_add_21 rfl ?_
    refine T_dup dX6_add_22 rfl ?_
    refine T_get dX6_add_23 fl_X6_13_6 hk rfl ?_
    refine T_lconst (v := 1) dX6_add_26 (by decide) ?_
    refine T_iload_n dX6_add_27 rfl ?_
    refine T_bipush (v := nI 64) dX6_add_28 (by decide) ?_
    refine T_isubN dX6_add_30 (by omega) ?_
    refine T_lshl dX6_add_31 ?_
    refine T_lor dX6_add_32 ?_
    refine T_put dX6_add_33 fp_X6_13_6 hk (nb rfl) (fun _ => ⟨rfl, rfl⟩) ?_
    have e := add_hi (S := S) (s := s - 64) hS (by omega)
    rw [show 64 + (s - 64) = s by omega] at e
    refine T_h (h2 := h.set k (stN (S ||| 2 ^ s))) (by rw [stN, e.2, ← e.1]; rfl) ?_
    refine T_vret dX6_add_36 rfl (nb rfl) (nb rfl) ?_
    exact ⟨rfl, rfl⟩
  · refine T_aload_n dX6_add_6 rfl ?_
    refine T_dup dX6_add_7 rfl ?_
    refine T_get dX6_add_8 fl_X6_7_6 hk rfl ?_
    refine T_lconst (v := 1) dX6_add_11 (by decide) ?_
    refine T_iload_n dX6_add_12 rfl ?_
    refine T_lshl dX6_add_13 ?_
    refine T_lor dX6_add_14 ?_
    refine T_put dX6_add_15 fp_X6_7_6 hk (nb rfl) (fun _ => ⟨rfl, rfl⟩) ?_
    have e := add_lo (S := S) (s := s) (by omega)
    refine T_h (h2 := h.set k (stN (S ||| 2 ^ s))) (by rw [stN, e.2, ← e.1]; rfl) ?_
    refine T_goto (tgt := 36) dX6_add_18 (by decide) ?_
    refine T_vret dX6_add_36 rfl (nb rfl) (nb rfl) ?_
    exact ⟨rfl, rfl⟩
theorem c_X6_addAll {k S A : Nat} (hk : h[k]? = some (stN S)) (hS : S < 2 ^ 128) (hA : A < 2 ^ 128) : ConE M_X6_addAll [.ref k, .long (lN (A % 2 ^ 64)), .long (lN (A / 2 ^ 64))] h none (h.set k (stN (S ||| A))) := by
  refine Con.of rfl (nb rfl) ?_
  have e1 : lN (S % 2 ^ 64) ||| lN (A % 2 ^ 64) = lN ((S ||| A) % 2 ^ 64) := by rw [wb_or (lt_m S) (lt_m A), or_m]
  have e2 : lN (S / 2 ^ 64) ||| lN (A / 2 ^ 64) = lN ((S ||| A) / 2 ^ 64) := by rw [wb_or (lt_d hS) (lt_d hA), or_d]
  refine T_aload_n dX6_addAll_0 rfl ?_
  refine T_dup dX6_addAll_1 rfl ?_
  refine T_get dX6_addAll_2 fl_X6_7_6 hk rfl ?_
  refine T_lload_n dX6_addAll_5 rfl ?_
  refine T_lor dX6_addAll_6 ?_
  refine T_put dX6_addAll_7 fp_X6_7_6 hk (nb rfl) (fun _ => ⟨rfl, rfl⟩) ?_
  try refine T_h (List.set_set ..) ?_
  refine T_aload_n dX6_addAll_10 rfl ?_
  refine T_dup dX6_addAll_11 rfl ?_
  refine T_get dX6_addAll_12 fl_X6_13_6 (gs_eq hk) rfl ?_
  refine T_lload_n dX6_addAll_15 rfl ?_
  refine T_lor dX6_addAll_16 ?_
  refine T_put dX6_addAll_17 fp_X6_13_6 (gs_eq hk) (nb rfl) (fun _ => ⟨rfl, rfl⟩) ?_
  try refine T_h (List.set_set ..) ?_
  refine T_vret dX6_addAll_20 rfl (nb rfl) (nb rfl) ?_
  exact ⟨rfl, by rw [stN, ← e1, ← e2]; rfl⟩
theorem has_lo {S s : Nat} (hs : s < 64) : (((lN (S % 2 ^ 64)).toUInt64 >>> ((nI s).toInt64.toUInt64 &&& Int64.toUInt64 63)).toInt64 &&& 1) = 1 ↔ S.testBit s = true := by
  rw [wb_bit (lt_m S) hs, show (1 : Int64) = lN 1 from rfl, pk_lEQ (by omega) (by decide)]
  have h1 : (S % 2 ^ 64).testBit s = S.testBit s := by rw [Nat.testBit_mod_two_pow]; simp [hs]
  rw [← h1, Nat.testBit_eq_decide_div_mod_eq]
  simp
theorem has_hi {S s : Nat} (hS : S < 2 ^ 128) (hs : s < 64) : (((lN (S / 2 ^ 64)).toUInt64 >>> ((nI s).toInt64.toUInt64 &&& Int64.toUInt64 63)).toInt64 &&& 1) = 1 ↔ S.testBit (64 + s) = true := by
  rw [wb_bit (lt_d hS) hs, show (1 : Int64) = lN 1 from rfl, pk_lEQ (by omega) (by decide), Nat.testBit_eq_decide_div_mod_eq, Nat.pow_add, ← Nat.div_div_eq_div_mul]
  simp
theorem c_X6_has {k S s : Nat} (hk : h[k]? = some (stN S)) (hS : S < 2 ^ 128) (hs : s < 128) : ConE M_X6_has [.ref k, .int (nI s)] h (some (.int (bI (S.testBit s = true)))) h := by
  refine Con.of rfl (nb rfl) ?_
  refine T_iload_n dX6_has_0 rfl ?_
  refine T_bipush (v := nI 64) dX6_has_1 (by decide) ?_
  refine T_icmp_geN (tgt := 15) dX6_has_3 (by decide) (by omega) (by omega) (fun c3 => ?_) (fun c3 => ?_)
  · refine T_aload_n dX6_has_15 rfl ?_
    refine T_get dX6_has_16 fl_X6_13_6 hk rfl ?_
    refine T_iload_n dX6_has_19 rfl ?_
    refine T_bipush (v := nI 64) dX6_has_20 (by decide) ?_
    refine T_isubN dX6_has_22 (by omega) ?_
    refine T_lushr dX6_has_23 ?_
    refine T_lconst (v := 1) dX6_has_24 (by decide) ?_
    refine T_land dX6_has_25 ?_
    refine T_lconst (v := 1) dX6_has_26 (by decide) ?_
    refine T_lcmp dX6_has_27 ?_
    refine T_if_ne (tgt := 35) dX6_has_28 (by decide) (fun c28 => ?_) (fun c28 => ?_)
    · refine T_iconst (v := 0) dX6_has_35 (by decide) ?_
      refine T_zret dX6_has_36 rfl rfl (nb rfl) (nb rfl) ?_
      exact ⟨sI (by first | exact bI_t ((has_lo (by omega)).mp ((lg_cmp_eq _ _).mp c28)) | exact bI_f (fun q => c28 ((lg_cmp_eq _ _).mpr ((has_lo (by omega)).mpr q))) | exact bI_t (by have := (has_hi (s := s - 64) hS (by omega)).mp ((lg_cmp_eq _ _).mp c28); rwa [show 64 + (s - 64) = s by omega] at this) | exact bI_f (fun q => c28 ((lg_cmp_eq _ _).mpr ((has_hi (s := s - 64) hS (by omega)).mpr (by rw [show 64 + (s - 64) = s by omega]; exact q))))), rfl⟩
    · refine T_iconst (v := 1) dX6_has_31 (by decide) ?_
      refine T_goto (tgt := 36) dX6_has_32 (by decide) ?_
      refine T_zret dX6_has_36 rfl rfl (nb rfl) (nb rfl) ?_
      exact ⟨sI (by first | exact bI_t ((has_lo (by omega)).mp ((lg_cmp_eq _ _).mp c28)) | exact bI_f (fun q => c28 ((lg_cmp_eq _ _).mpr ((has_lo (by omega)).mpr q))) | exact bI_t (by have := (has_hi (s := s - 64) hS (by omega)).mp ((lg_cmp_eq _ _).mp c28); rwa [show 64 + (s - 64) = s by omega] at this) | exact bI_f (fun q => c28 ((lg_cmp_eq _ _).mpr ((has_hi (s := s - 64) hS (by omega)).mpr (by rw [show 64 + (s - 64) = s by omega]; exact q))))), rfl⟩
  · refine T_aload_n dX6_has_6 rfl ?_
    refine T_get dX6_has_7 fl_X6_7_6 hk rfl ?_
    refine T_iload_n dX6_has_10 rfl ?_
    refine T_lushr dX6_has_11 ?_
    refine T_goto (tgt := 24) dX6_has_12 (by decide) ?_
    refine T_lconst (v := 1) dX6_has_24 (by decide) ?_
    refine T_land dX6_has_25 ?_
    refine T_lconst (v := 1) dX6_has_26 (by decide) ?_
    refine T_lcmp dX6_has_27 ?_
    refine T_if_ne (tgt := 35) dX6_has_28 (by decide) (fun c28 => ?_) (fun c28 => ?_)
    · refine T_iconst (v := 0) dX6_has_35 (by decide) ?_
      refine T_zret dX6_has_36 rfl rfl (nb rfl) (nb rfl) ?_
      exact ⟨sI (by first | exact bI_t ((has_lo (by omega)).mp ((lg_cmp_eq _ _).mp c28)) | exact bI_f (fun q => c28 ((lg_cmp_eq _ _).mpr ((has_lo (by omega)).mpr q))) | exact bI_t (by have := (has_hi (s := s - 64) hS (by omega)).mp ((lg_cmp_eq _ _).mp c28); rwa [show 64 + (s - 64) = s by omega] at this) | exact bI_f (fun q => c28 ((lg_cmp_eq _ _).mpr ((has_hi (s := s - 64) hS (by omega)).mpr (by rw [show 64 + (s - 64) = s by omega]; exact q))))), rfl⟩
    · refine T_iconst (v := 1) dX6_has_31 (by decide) ?_
      refine T_goto (tgt := 36) dX6_has_32 (by decide) ?_
      refine T_zret dX6_has_36 rfl rfl (nb rfl) (nb rfl) ?_
      exact ⟨sI (by first | exact bI_t ((has_lo (by omega)).mp ((lg_cmp_eq _ _).mp c28)) | exact bI_f (fun q => c28 ((lg_cmp_eq _ _).mpr ((has_lo (by omega)).mpr q))) | exact bI_t (by have := (has_hi (s := s - 64) hS (by omega)).mp ((lg_cmp_eq _ _).mp c28); rwa [show 64 + (s - 64) = s by omega] at this) | exact bI_f (fun q => c28 ((lg_cmp_eq _ _).mpr ((has_hi (s := s - 64) hS (by omega)).mpr (by rw [show 64 + (s - 64) = s by omega]; exact q))))), rfl⟩
theorem and_m (S A : Nat) : (S &&& A) % 2 ^ 64 = S % 2 ^ 64 &&& A % 2 ^ 64 := Nat.and_mod_two_pow
theorem and_d (S A : Nat) : (S &&& A) / 2 ^ 64 = S / 2 ^ 64 &&& A / 2 ^ 64 := by
  rw [← Nat.shiftRight_eq_div_pow, ← Nat.shiftRight_eq_div_pow, ← Nat.shiftRight_eq_div_pow, Nat.shiftRight_and_distrib]
theorem meets_N {S A : Nat} (hS : S < 2 ^ 128) (hA : A < 2 ^ 128) : ((lN (S % 2 ^ 64) &&& lN (A % 2 ^ 64)) ||| (lN (S / 2 ^ 64) &&& lN (A / 2 ^ 64))) = 0 ↔ S &&& A = 0 := by
  have h1 : S % 2 ^ 64 &&& A % 2 ^ 64 < 2 ^ 64 := Nat.and_lt_two_pow _ (lt_m A)
  have h2 : S / 2 ^ 64 &&& A / 2 ^ 64 < 2 ^ 64 := Nat.and_lt_two_pow _ (lt_d hA)
  rw [wb_and (lt_m S) (lt_m A), wb_and (lt_d hS) (lt_d hA), wb_or h1 h2, ← and_m, ← and_d]
  have h3 : (S &&& A) % 2 ^ 64 ||| (S &&& A) / 2 ^ 64 < 2 ^ 64 := Nat.or_lt_two_pow (by rw [and_m]; exact h1) (by rw [and_d]; exact h2)
  constructor
  · intro e
    have e2 : (S &&& A) % 2 ^ 64 ||| (S &&& A) / 2 ^ 64 = 0 := by
      have e3 := congrArg (fun x : Int64 => x.toBitVec.toNat) e
      rw [show ((0 : Int64).toBitVec.toNat) = 0 from rfl] at e3
      rw [← wb_tn h3]
      exact e3
    have e4 := Nat.or_eq_zero_iff.mp e2
    omega
  · intro e
    rw [e]
    rfl
theorem c_X6_meets {k S A : Nat} (hk : h[k]? = some (stN S)) (hS : S < 2 ^ 128) (hA : A < 2 ^ 128) : ConE M_X6_meets [.ref k, .long (lN (A % 2 ^ 64)), .long (lN (A / 2 ^ 64))] h (some (.int (bI (¬ S &&& A = 0)))) h := by
  refine Con.of rfl (nb rfl) ?_
  refine T_aload_n dX6_meets_0 rfl ?_
  refine T_get dX6_meets_1 fl_X6_7_6 hk rfl ?_
  refine T_lload_n dX6_meets_4 rfl ?_
  refine T_land dX6_meets_5 ?_
  refine T_aload_n dX6_meets_6 rfl ?_
  refine T_get dX6_meets_7 fl_X6_13_6 hk rfl ?_
  refine T_lload_n dX6_meets_10 rfl ?_
  refine T_land dX6_meets_11 ?_
  refine T_lor dX6_meets_12 ?_
  refine T_lconst (v := 0) dX6_meets_13 (by decide) ?_
  refine T_lcmp dX6_meets_14 ?_
  refine T_if_eq (tgt := 22) dX6_meets_15 (by decide) (fun c15 => ?_) (fun c15 => ?_)
  · refine T_iconst (v := 0) dX6_meets_22 (by decide) ?_
    refine T_zret dX6_meets_23 rfl rfl (nb rfl) (nb rfl) ?_
    exact ⟨sI (by first | exact bI_f (fun q => q ((meets_N hS hA).mp ((lg_cmp_eq _ _).mp c15))) | exact bI_t (fun q => c15 ((lg_cmp_eq _ _).mpr ((meets_N hS hA).mpr q)))), rfl⟩
  · refine T_iconst (v := 1) dX6_meets_18 (by decide) ?_
    refine T_goto (tgt := 23) dX6_meets_19 (by decide) ?_
    refine T_zret dX6_meets_23 rfl rfl (nb rfl) (nb rfl) ?_
    exact ⟨sI (by first | exact bI_f (fun q => q ((meets_N hS hA).mp ((lg_cmp_eq _ _).mp c15))) | exact bI_t (fun q => c15 ((lg_cmp_eq _ _).mpr ((meets_N hS hA).mpr q)))), rfl⟩
end C4
