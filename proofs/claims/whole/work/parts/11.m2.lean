/-! the reference: boats and hours -/
section M3
variable {A B : XH} {u : MSt} {h : XH} {Z : XZ}
/-- the number of places: the boats from n - 1 down, k of them -/
def mNum (p : Nat → Int32) (n : Nat) : Nat → Int32
  | 0 => 0
  | k + 1 => 5 * mNum p n k + p (n - 1 - k)
theorem mNum_step (p : Nat → Int32) {n m : Nat} (h : m < n) : 5 * mNum p n (n - (m + 1)) + p m = mNum p n (n - m) := by
  have e : n - m = (n - (m + 1)) + 1 := by omega
  rw [e, mNum]
  have e2 : n - 1 - (n - (m + 1)) = m := by omega
  rw [e2]
theorem nI_am1 (m : Nat) : nI m + Int32.ofInt (-1) = nI m - 1 := by rw [Int32.sub_eq_add_neg]; rfl
theorem lp_X12_asNumber (hA : A.length = 67) {n : Nat} (hn : n ≤ 3) : ∀ m, m ≤ n → T M_X12_asNumber x_E (x_ZE M_X12_asNumber (some (.int (mNum (u.2 20) n n))) (mH A u B)) 0 0 9 [(0, .ref 67), (1, .int (mNum (u.2 20) n (n - m))), (2, .int (nI m - 1))] [] (mH A u B) := by
  intro m
  induction m with
  | zero =>
    intro _
    refine T_iload_n dX12_asNumber_9 rfl ?_
    refine T_if_lt (tgt := 30) dX12_asNumber_10 (by decide) (fun c10 => ?_) (fun c10 => ?_)
    · refine T_iload_n dX12_asNumber_30 rfl ?_
      refine T_iret dX12_asNumber_31 rfl (nb rfl) (nb rfl) ?_
      exact ⟨rfl, rfl⟩
    · exact absurd nI_m1 c10
  | succ m ih =>
    intro hm
    have ih := ih (by omega)
    rw [nI_pred]
    refine T_iload_n dX12_asNumber_9 rfl ?_
    refine T_if_lt (tgt := 30) dX12_asNumber_10 (by decide) (fun c10 => ?_) (fun c10 => ?_)
    · exact absurd c10 (nI_lt0 m (by omega))
    · refine T_iconst (v := 5) dX12_asNumber_13 (by decide) ?_
      refine T_iload_n dX12_asNumber_14 rfl ?_
      refine T_imul dX12_asNumber_15 ?_
      refine T_aload_n dX12_asNumber_16 rfl ?_
      refine T_get dX12_asNumber_17 fl_X12_44_12 (mH_get hA rfl) rfl ?_
      refine T_iload_n dX12_asNumber_20 rfl ?_
      refine T_ialdN dX12_asNumber_21 (mH_get hA rfl) (by omega) (by decide) ?_
      refine T_iadd dX12_asNumber_22 ?_
      refine T_istore_n dX12_asNumber_23 (by decide) rfl ?_
      refine T_iinc dX12_asNumber_24 rfl (by decide) rfl ?_
      refine T_goto (tgt := 9) dX12_asNumber_27 (by decide) ?_
      rw [← mNum_step (u.2 20) (show m < n by omega)] at ih
      exact T_eq ih (by rw [← nI_am1]; rfl) rfl
theorem c_X12_asNumber (hA : A.length = 67) {n : Nat} (hb : u.1 7 = nI n) (hn : n ≤ 3) : ConE M_X12_asNumber [.ref 67] (mH A u B) (some (.int (mNum (u.2 20) n n))) (mH A u B) := by
  refine Con.of rfl (nb rfl) ?_
  refine T_iconst (v := 0) dX12_asNumber_0 (by decide) ?_
  refine T_istore_n dX12_asNumber_1 (by decide) rfl ?_
  refine T_aload_n dX12_asNumber_2 rfl ?_
  refine T_get dX12_asNumber_3 fl_X12_75_12 (mH_get hA rfl) rfl ?_
  refine T_top hb ?_
  refine T_iconst (v := nI 1) dX12_asNumber_6 (by decide) ?_
  refine T_isub dX12_asNumber_7 ?_
  refine T_istore_n dX12_asNumber_8 (by decide) rfl ?_
  have k := lp_X12_asNumber (B := B) (u := u) hA hn n (Nat.le_refl n)
  rw [Nat.sub_self] at k
  exact k
def mPl (p : Nat → Int32) (k : Nat) : Nat → Nat → Int32
  | 0 => p
  | i + 1 => upd (mPl p k i) i (nI (k / 5 ^ i % 5))
theorem va_upS {α : Type} (f : Nat → α) (k : Nat) : f = va_up f k (f k) := by
  funext j
  unfold va_up
  split
  · next e => rw [e]
  · rfl
theorem lp_X12_asPlaces_e (hA : A.length = 67) {n k : Nat} (hb : u.1 7 = nI n) (hn : n ≤ 3) : T M_X12_asPlaces x_E (x_ZE M_X12_asPlaces none (mH A (u.1, va_up u.2 20 (mPl (u.2 20) k n)) B)) 0 0 4 [(0, .ref 67), (1, .int (nI k)), (2, .int (nI (k / 5 ^ n))), (3, .int (nI n))] [] (mH A (u.1, va_up u.2 20 (mPl (u.2 20) k n)) B) := by
  refine T_iload_n dX12_asPlaces_4 rfl ?_
  refine T_aload_n dX12_asPlaces_5 rfl ?_
  refine T_get dX12_asPlaces_6 fl_X12_75_12 (mH_get hA rfl) rfl ?_
  refine T_top hb ?_
  refine T_icmp_geN (tgt := 31) dX12_asPlaces_9 (by decide) (by omega) (by omega) (fun c9 => ?_) (fun c9 => ?_)
  · refine T_vret dX12_asPlaces_31 rfl (nb rfl) (nb rfl) ?_
    exact ⟨rfl, rfl⟩
  · omega
theorem lp_X12_asPlaces (hA : A.length = 67) {n k i : Nat} (hb : u.1 7 = nI n) (hn : n ≤ 3) (hk : k < 2 ^ 31) (hi : i < n) (K : T M_X12_asPlaces x_E Z 0 0 4 [(0, .ref 67), (1, .int (nI k)), (2, .int (nI (k / 5 ^ (i + 1)))), (3, .int (nI (i + 1)))] [] (mH A (u.1, va_up u.2 20 (mPl (u.2 20) k (i + 1))) B)) : T M_X12_asPlaces x_E Z 0 0 4 [(0, .ref 67), (1, .int (nI k)), (2, .int (nI (k / 5 ^ i))), (3, .int (nI i))] [] (mH A (u.1, va_up u.2 20 (mPl (u.2 20) k i)) B) := by
  have hq : k / 5 ^ i < 2 ^ 31 := Nat.lt_of_le_of_lt (Nat.div_le_self _ _) hk
  refine T_iload_n dX12_asPlaces_4 rfl ?_
  refine T_aload_n dX12_asPlaces_5 rfl ?_
  refine T_get dX12_asPlaces_6 fl_X12_75_12 (mH_get hA rfl) rfl ?_
  refine T_top hb ?_
  refine T_icmp_geN (tgt := 31) dX12_asPlaces_9 (by decide) (by omega) (by omega) (fun c9 => ?_) (fun c9 => ?_)
  · omega
  · refine T_aload_n dX12_asPlaces_12 rfl ?_
    refine T_get dX12_asPlaces_13 fl_X12_44_12 (mH_get hA rfl) rfl ?_
    refine T_iload_n dX12_asPlaces_16 rfl ?_
    refine T_iload_n dX12_asPlaces_17 rfl ?_
    refine T_iconst (v := nI 5) dX12_asPlaces_18 (by decide) ?_
    refine T_iremN dX12_asPlaces_19 (by omega) (by omega) (by omega) ?_
    refine T_iastN dX12_asPlaces_20 (mH_get hA rfl) (by omega) (by decide) ?_
    first | refine T_h (mT_20 hA) ?_ | refine T_h (mS_20 hA) ?_
    refine T_iload_n dX12_asPlaces_21 rfl ?_
    refine T_iconst (v := nI 5) dX12_asPlaces_22 (by decide) ?_
    refine T_idivN dX12_asPlaces_23 (by omega) (by omega) (by omega) ?_
    refine T_istore_n dX12_asPlaces_24 (by decide) rfl ?_
    refine T_iincN dX12_asPlaces_25 rfl (by decide) rfl ?_
    refine T_goto (tgt := 4) dX12_asPlaces_28 (by decide) ?_
    exact T_eq K (by rw [Nat.pow_succ, ← Nat.div_div_eq_div_mul]; rfl) rfl
theorem c_X12_asPlaces (hA : A.length = 67) {n k : Nat} (hb : u.1 7 = nI n) (hn : n ≤ 3) (hk : k < 2 ^ 31) : ConE M_X12_asPlaces [.ref 67, .int (nI k)] (mH A u B) none (mH A (u.1, va_up u.2 20 (mPl (u.2 20) k n)) B) := by
  refine Con.of rfl (nb rfl) ?_
  refine T_iload_n dX12_asPlaces_0 rfl ?_
  refine T_istore_n dX12_asPlaces_1 (by decide) rfl ?_
  refine T_iconst (v := 0) dX12_asPlaces_2 (by decide) ?_
  refine T_istore_n dX12_asPlaces_3 (by decide) rfl ?_
  refine T_eq (T_up0 (L := fun i => [(0, .ref 67), (1, .int (nI k)), (2, .int (nI (k / 5 ^ i))), (3, .int (nI i))]) (Hf := fun i => mH A (u.1, va_up u.2 20 (mPl (u.2 20) k i)) B) n ?_ ?_) (by simp; rfl) (by rw [mPl]; exact congrArg (fun x => mH A (u.1, x) B) (va_upS _ _))
  · exact lp_X12_asPlaces_e hA hb hn
  · exact fun i hi K => lp_X12_asPlaces hA hb hn hk hi K
end M3
