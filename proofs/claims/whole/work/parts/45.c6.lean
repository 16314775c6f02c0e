/-! Voyage: who is over, the number of a state, its cells, a plan -/
section C6
variable {h : XH} {L : LK} {Z : XZ}
theorem c_X10_overSet {v vc lp isl wo fl : Nat} {bp p : Nat → Nat} {P : Nat → Int32} {a b c : Int32} (hL : LOk L) (hl : LkH h lp isl wo fl bp L) (hv : h[v]? = some (voO vc a b c)) (hc : h[vc]? = some (r3 P)) (hp : PR L P p) : ConE M_X10_overSet [.ref v, .ref lp] h (some (.int (nI (ovrN L p (L_n L))))) h := by
  have h3 := hL.2.2.1
  have h4 := hL.1
  obtain ⟨b1, b2, F, b3, b4⟩ := hl
  refine Con.of rfl (nb rfl) ?_
  refine T_iconst (v := nI 0) dX10_overSet_0 (by decide) ?_
  refine T_istore_n dX10_overSet_1 (by decide) rfl ?_
  refine T_iconst (v := nI 0) dX10_overSet_2 (by decide) ?_
  refine T_istore_n dX10_overSet_3 (by decide) rfl ?_
  refine T_up0 (L := fun i => [(0, .ref v), (1, .ref lp), (2, .int (nI (ovrN L p i))), (3, .int (nI i))]) (Hf := fun _ => h) (L_n L) ?_ (fun i hi K => ?_)
  · refine T_iload_n dX10_overSet_4 rfl ?_
    refine T_aload_n dX10_overSet_5 rfl ?_
    refine T_get dX10_overSet_6 fl_X10_25_1 b1 rfl ?_
    refine T_icmp_geN (tgt := 43) dX10_overSet_9 (by decide) (by omega) (by omega) (fun c9 => ?_) (fun c9 => ?_)
    · refine T_iload_n dX10_overSet_43 rfl ?_
      refine T_iret dX10_overSet_44 rfl (nb rfl) (nb rfl) ?_
      exact ⟨rfl, rfl⟩
    · exact absurd c9 (by omega)
  · have hq := hL.2.2.2.1 i hi
    have hpi := hp i hi
    have hgl := goal_le L i
    have hlt := ovrN_lt L p i
    have h8 : ovrN L p i < 8 := Nat.lt_of_lt_of_le hlt (Nat.pow_le_pow_right (n := 2) (by decide) (show i ≤ 3 by omega))
    have egoal : ConE M_X1_goalOf [.ref lp, .ref (bp i)] h (some (.int (nI (goal L i)))) h := c_X1_goalOf b1 (b4 i hi).2 hq.2.1 hq.1
    refine T_iload_n dX10_overSet_4 rfl ?_
    refine T_aload_n dX10_overSet_5 rfl ?_
    refine T_get dX10_overSet_6 fl_X10_25_1 b1 rfl ?_
    refine T_icmp_geN (tgt := 43) dX10_overSet_9 (by decide) (by omega) (by omega) (fun c9 => ?_) (fun c9 => ?_)
    · exact absurd c9 (by omega)
    · refine T_aload_n dX10_overSet_12 rfl ?_
      refine T_get dX10_overSet_13 fl_X10_9_10 hv rfl ?_
      refine T_iload_n dX10_overSet_16 rfl ?_
      refine T_ialdN dX10_overSet_17 hc (by omega) (by decide) ?_
      refine T_top hpi.1 ?_
      refine T_aload_n dX10_overSet_18 rfl ?_
      refine T_aload_n dX10_overSet_19 rfl ?_
      refine T_get dX10_overSet_20 fl_X10_30_1 b1 rfl ?_
      refine T_iload_n dX10_overSet_23 rfl ?_
      refine T_aald4 dX10_overSet_24 b3 (nI_in3 h3 hi) (by rw [nI_clamp (by omega)]; exact (b4 i hi).1) ?_
      refine T_v1e (cu2 := 0) (su2 := 0) dX10_overSet_25 lv_X10_38 rfl b1 rfl egoal (nb rfl) (nb rfl) (nb rfl) (nb rfl) (nb rfl) ?_
      refine T_icmp_neN (tgt := 37) dX10_overSet_28 (by decide) (by omega) (by omega) (fun c28 => ?_) (fun c28 => ?_)
      · refine T_iincN dX10_overSet_37 rfl (by decide) rfl ?_
        refine T_goto (tgt := 4) dX10_overSet_40 (by decide) ?_
        have e : ovrN L p (i + 1) = ovrN L p i + (if p i = goal L i then 2 ^ i else 0) := rfl
        first | rw [if_pos c28] at e | rw [if_neg c28] at e
        refine T_ls ?_ K
        show _ = [(0, Value.ref v), (1, .ref lp), (2, .int (nI (ovrN L p (i + 1)))), (3, .int (nI (i + 1)))]
        rw [e]
        rfl
      · refine T_iload_n dX10_overSet_31 rfl ?_
        refine T_iconst (v := 1) dX10_overSet_32 (by decide) ?_
        refine T_iload_n dX10_overSet_33 rfl ?_
        refine T_ishl dX10_overSet_34 ?_
        refine T_ior dX10_overSet_35 ?_
        refine T_top (or_N i (by omega) _ h8 hlt) ?_
        refine T_istore_n dX10_overSet_36 (by decide) rfl ?_
        refine T_iincN dX10_overSet_37 rfl (by decide) rfl ?_
        refine T_goto (tgt := 4) dX10_overSet_40 (by decide) ?_
        have e : ovrN L p (i + 1) = ovrN L p i + (if p i = goal L i then 2 ^ i else 0) := rfl
        first | rw [if_pos c28] at e | rw [if_neg c28] at e
        refine T_ls ?_ K
        show _ = [(0, Value.ref v), (1, .ref lp), (2, .int (nI (ovrN L p (i + 1)))), (3, .int (nI (i + 1)))]
        rw [e]
        rfl
/-- the number of a state, by the lake's own cells -/
def cB (B : Nat) (p : Nat → Nat) (n : Nat) : Nat → Nat
  | 0 => 0
  | k + 1 => cB B p n k * B + p (n - 1 - k)
theorem cB_lt {B n : Nat} {p : Nat → Nat} (hp : ∀ i, i < n → p i < B) : ∀ k, k ≤ n → cB B p n k < B ^ k
  | 0, _ => by simp [cB]
  | k + 1, hk => by
    have h1 := cB_lt hp k (by omega)
    have h2 := hp (n - 1 - k) (by omega)
    rw [cB, Nat.pow_succ]
    calc cB B p n k * B + p (n - 1 - k) < cB B p n k * B + B := by omega
      _ = (cB B p n k + 1) * B := by rw [Nat.succ_mul]
      _ ≤ B ^ k * B := Nat.mul_le_mul_right _ h1
theorem pw_125 {w n k : Nat} (hw : w ≤ 4) (hn : n ≤ 3) (hk : k ≤ n) : (w + 1) ^ k ≤ 125 :=
  Nat.le_trans (Nat.pow_le_pow_left (show w + 1 ≤ 5 by omega) k) (Nat.le_trans (Nat.pow_le_pow_right (by decide) (show k ≤ 3 by omega)) (by decide))
theorem c_X10_stateNumber {v vc lp isl wo fl : Nat} {bp p : Nat → Nat} {P : Nat → Int32} {a b c : Int32} (hL : LOk L) (hl : LkH h lp isl wo fl bp L) (hv : h[v]? = some (voO vc a b c)) (hc : h[vc]? = some (r3 P)) (hp : PR L P p) : ConE M_X10_stateNumber [.ref v, .ref lp] h (some (.int (nI (cB (L_w L + 1) p (L_n L) (L_n L))))) h := by
  have h3 := hL.2.2.1
  have h4 := hL.1
  obtain ⟨b1, -, -⟩ := hl
  have key : ∀ m, m ≤ L_n L → T M_X10_stateNumber x_E (x_ZE M_X10_stateNumber (some (.int (nI (cB (L_w L + 1) p (L_n L) (L_n L))))) h) 0 0 9 [(0, .ref v), (1, .ref lp), (2, .int (nI (cB (L_w L + 1) p (L_n L) (L_n L - m)))), (3, .int (nI m - 1))] [] h := by
    intro m
    induction m with
    | zero =>
      intro _
      refine T_iload_n dX10_stateNumber_9 rfl ?_
      refine T_if_lt (tgt := 35) dX10_stateNumber_10 (by decide) (fun c10 => ?_) (fun c10 => ?_)
      · refine T_iload_n dX10_stateNumber_35 rfl ?_
        refine T_iret dX10_stateNumber_36 rfl (nb rfl) (nb rfl) ?_
        exact ⟨rfl, rfl⟩
      · exact absurd nI_m1 c10
    | succ m ih =>
      intro hm
      have ih := ih (by omega)
      rw [nI_pred]
      have e : cB (L_w L + 1) p (L_n L) (L_n L - m) = cB (L_w L + 1) p (L_n L) (L_n L - (m + 1)) * (L_w L + 1) + p m := by
        rw [show L_n L - m = L_n L - (m + 1) + 1 by omega, cB]
        congr 2
        omega
      have hb1 := cB_lt (p := p) (B := L_w L + 1) (n := L_n L) (fun i hi => by have := (hp i hi).2; omega) (L_n L - (m + 1)) (by omega)
      have hb2 := pw_125 h4 h3 (show L_n L - (m + 1) ≤ L_n L by omega)
      refine T_iload_n dX10_stateNumber_9 rfl ?_
      refine T_if_ltN (tgt := 35) dX10_stateNumber_10 (by decide) (by omega) (fun c10 => ?_) (fun c10 => ?_)
      · exact absurd c10 (by intro q; exact q)
      · refine T_iload_n dX10_stateNumber_13 rfl ?_
        refine T_aload_n dX10_stateNumber_14 rfl ?_
        refine T_get dX10_stateNumber_15 fl_X10_68_1 b1 rfl ?_
        refine T_iconst (v := nI 1) dX10_stateNumber_18 (by decide) ?_
        refine T_iaddN dX10_stateNumber_19 ?_
        refine T_imulN dX10_stateNumber_20 ?_
        refine T_aload_n dX10_stateNumber_21 rfl ?_
        refine T_get dX10_stateNumber_22 fl_X10_9_10 hv rfl ?_
        refine T_iload_n dX10_stateNumber_25 rfl ?_
        refine T_ialdN dX10_stateNumber_26 hc (by omega) (by decide) ?_
        refine T_top (hp m (by omega)).1 ?_
        refine T_iaddN dX10_stateNumber_27 ?_
        refine T_istore_n dX10_stateNumber_28 (by decide) rfl ?_
        refine T_iinc dX10_stateNumber_29 rfl (by decide) rfl ?_
        refine T_goto (tgt := 9) dX10_stateNumber_32 (by decide) ?_
        refine T_ls ?_ ih
        rw [e, nI_am1]
        rfl
  refine Con.of rfl (nb rfl) ?_
  refine T_iconst (v := nI 0) dX10_stateNumber_0 (by decide) ?_
  refine T_istore_n dX10_stateNumber_1 (by decide) rfl ?_
  refine T_aload_n dX10_stateNumber_2 rfl ?_
  refine T_get dX10_stateNumber_3 fl_X10_25_1 b1 rfl ?_
  refine T_iconst (v := 1) dX10_stateNumber_6 (by decide) ?_
  refine T_isub dX10_stateNumber_7 ?_
  refine T_istore_n dX10_stateNumber_8 (by decide) rfl ?_
  refine T_ls ?_ (key (L_n L) (Nat.le_refl _))
  rw [Nat.sub_self]
  rfl
theorem c_X10_place {v vc lp isl wo fl k : Nat} {bp : Nat → Nat} {P0 : Nat → Int32} {a b c : Int32} (hL : LOk L) (hl : LkH h lp isl wo fl bp L) (hv : h[v]? = some (voO vc a b c)) (hc : h[vc]? = some (r3 P0)) (hk : k < 2 ^ 31) : Con M_X10_place [.ref v, .ref lp, .int (nI k)] h (fun q h' => q = none ∧ ∃ P, h' = h.set vc (r3 P) ∧ PR L P (fun i => k / (L_w L + 1) ^ i % (L_w L + 1))) := by
  have h3 := hL.2.2.1
  have h4 := hL.1
  have key : ∀ m i, i + m = L_n L → ∀ P : Nat → Int32, (∀ j, j < i → P j = nI (k / (L_w L + 1) ^ j % (L_w L + 1))) → T M_X10_place x_E (x_Z M_X10_place (fun q h' => q = none ∧ ∃ P, h' = h.set vc (r3 P) ∧ PR L P (fun i => k / (L_w L + 1) ^ i % (L_w L + 1)))) 0 0 5 [(0, .ref v), (1, .ref lp), (2, .int (nI k)), (3, .int (nI (k / (L_w L + 1) ^ i))), (4, .int (nI i))] [] (h.set vc (r3 P)) := by
    intro m
    induction m with
    | zero =>
      intro i hi P hP
      obtain rfl : i = L_n L := by omega
      have hl2 := hl.set (c := r3 P) hc rfl
      refine T_iload dX10_place_5 rfl ?_
      refine T_aload_n dX10_place_7 rfl ?_
      refine T_get dX10_place_8 fl_X10_25_1 hl2.1 rfl ?_
      refine T_icmp_geN (tgt := 44) dX10_place_11 (by decide) (by omega) (by omega) (fun c11 => ?_) (fun c11 => ?_)
      · refine T_vret dX10_place_44 rfl (nb rfl) (nb rfl) ?_
        exact ⟨rfl, P, rfl, fun j hj => ⟨hP j hj, Nat.lt_succ_iff.mp (Nat.mod_lt _ (by omega))⟩⟩
      · exact absurd c11 (by omega)
    | succ m ih =>
      intro i hi P hP
      have hl2 := hl.set (c := r3 P) hc rfl
      have hle : k / (L_w L + 1) ^ i < 2 ^ 31 := Nat.lt_of_le_of_lt (Nat.div_le_self _ _) hk
      refine T_iload dX10_place_5 rfl ?_
      refine T_aload_n dX10_place_7 rfl ?_
      refine T_get dX10_place_8 fl_X10_25_1 hl2.1 rfl ?_
      refine T_icmp_geN (tgt := 44) dX10_place_11 (by decide) (by omega) (by omega) (fun c11 => ?_) (fun c11 => ?_)
      · exact absurd c11 (by omega)
      · refine T_aload_n dX10_place_14 rfl ?_
        refine T_get dX10_place_15 fl_X10_9_10 (gs_tg hc hv rfl) rfl ?_
        refine T_iload dX10_place_18 rfl ?_
        refine T_iload_n dX10_place_20 rfl ?_
        refine T_aload_n dX10_place_21 rfl ?_
        refine T_get dX10_place_22 fl_X10_68_1 hl2.1 rfl ?_
        refine T_iconst (v := nI 1) dX10_place_25 (by decide) ?_
        refine T_iaddN dX10_place_26 ?_
        refine T_iremN dX10_place_27 (by omega) (by omega) (by omega) ?_
        refine T_iastN dX10_place_28 (gs_eq hc) (by omega) (by decide) ?_
        refine T_h (List.set_set ..) ?_
        have hl3 := hl.set (c := r3 (upd P i (nI (k / (L_w L + 1) ^ i % (L_w L + 1))))) hc rfl
        refine T_iload_n dX10_place_29 rfl ?_
        refine T_aload_n dX10_place_30 rfl ?_
        refine T_get dX10_place_31 fl_X10_68_1 hl3.1 rfl ?_
        refine T_iconst (v := nI 1) dX10_place_34 (by decide) ?_
        refine T_iaddN dX10_place_35 ?_
        refine T_idivN dX10_place_36 (by omega) (by omega) (by omega) ?_
        refine T_istore_n dX10_place_37 (by decide) rfl ?_
        refine T_iincN dX10_place_38 rfl (by decide) rfl ?_
        refine T_goto (tgt := 5) dX10_place_41 (by decide) ?_
        refine T_ls ?_ (ih (i + 1) (by omega) _ (fun j hj => ?_))
        · rw [Nat.pow_succ, ← Nat.div_div_eq_div_mul]
          rfl
        · by_cases e : j = i
          · subst e; exact upd_s
          · rw [upd_n e]; exact hP j (by omega)
  refine Con.of rfl (nb rfl) ?_
  refine T_iload_n dX10_place_0 rfl ?_
  refine T_istore_n dX10_place_1 (by decide) rfl ?_
  refine T_iconst (v := nI 0) dX10_place_2 (by decide) ?_
  refine T_istore dX10_place_3 (by decide) rfl ?_
  refine T_h (gs_id hc) (T_ls ?_ (key (L_n L) 0 (by omega) P0 (fun j hj => absurd hj (by omega))))
  rw [Nat.pow_zero, Nat.div_one]
  rfl
end C6
