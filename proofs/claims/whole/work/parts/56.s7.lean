/-! the search: findEnds, boat by boat; fillAfter, prepare -/
section S7
variable {A R : XH} {s : SSt} {L : LK} {Z : XZ} {lp isl wo fl : Nat} {bp : Nat → Nat}
/-- the number of a state, from boat 0 on -/
def cU (B : Nat) (q : Nat → Nat) : Nat → Nat
  | 0 => 0
  | b + 1 => cU B q b + B ^ b * q b
theorem cU_c {B : Nat} {q r : Nat → Nat} : ∀ b, (∀ i, i < b → q i = r i) → cU B q b = cU B r b
  | 0, _ => rfl
  | b + 1, h => by rw [cU, cU, cU_c b (fun i hi => h i (by omega)), h b (by omega)]
theorem cU_cB {B : Nat} {q : Nat → Nat} : ∀ n, n ≤ 3 → cU B q n = cB B q n n := by
  intro n hn
  rcases (show n = 0 ∨ n = 1 ∨ n = 2 ∨ n = 3 by omega) with rfl | rfl | rfl | rfl
  · rfl
  · simp [cU, cB]
  · simp [cU, cB]
    rw [Nat.mul_comm B (q 1), Nat.add_comm]
  · simp [cU, cB]
    rw [Nat.add_mul, Nat.mul_comm B (q 1), Nat.pow_two, Nat.mul_comm (B * B) (q 2), ← Nat.mul_assoc, Nat.add_comm (q 0) _, Nat.add_comm (q 1 * B + q 0) _, Nat.add_assoc]
theorem cntN_c {L : LK} {x y w : Nat} {p r : Nat → Nat} : ∀ b, (∀ i, i < b → x.testBit i = y.testBit i ∧ p i = r i) → cntN L x w p b = cntN L y w r b
  | 0, _ => rfl
  | b + 1, h => by
    have h1 := cntN_c (L := L) (w := w) b (fun i hi => h i (by omega))
    have h2 := h b (by omega)
    rw [cntN, cntN, h1]
    unfold cnt
    rw [h2.1, h2.2]
theorem tb_add {x b : Nat} (hx : x < 2 ^ b) : (∀ i, i < b → (x + 2 ^ b).testBit i = x.testBit i) ∧ (x + 2 ^ b).testBit b = true ∧ x.testBit b = false := by
  refine ⟨fun i hi => ?_, ?_, Nat.testBit_lt_two_pow hx⟩
  · rw [Nat.add_comm, Nat.testBit_two_pow_add_gt hi]
  · rw [Nat.add_comm, Nat.testBit_two_pow_add_eq, Nat.testBit_lt_two_pow hx]; rfl
abbrev qA (L : LK) (w : Nat) (p : Nat → Nat) (x i : Nat) : Nat := aft L w (x.testBit i) i (p i)
/-- what was found for the first b boats -/
def FeO (L : LK) (w : Nat) (p : Nat → Nat) (b m : Nat) (E C : Nat → Int32) : Prop := 1 ≤ m ∧ m ≤ 2 ^ b ∧ (∀ k, k < m → ∃ x, x < 2 ^ b ∧ E k = nI (cU (L_w L + 1) (qA L w p x) b) ∧ C k = nI (cntN L x w p b) ∧ cntN L x w p b ≤ 1) ∧ ∀ x, x < 2 ^ b → cntN L x w p b ≤ 1 → ∃ k, k < m ∧ E k = nI (cU (L_w L + 1) (qA L w p x) b) ∧ C k = nI (cntN L x w p b)
theorem cn_le {a c : Nat} (ha : a ≤ 1) (hc : c ≤ 1) : ¬ 1 < nI a + nI c ↔ a + c ≤ 1 := by
  rw [nI_add, show (1 : Int32) = nI 1 from rfl, nI_ltI (by omega) (by omega)]
  omega
theorem FeO.step {w b m f cn : Nat} {p : Nat → Nat} {E0 C0 E C : Nat → Int32} (h : FeO L w p b m E0 C0) (hcn : cn = if ¬ L_kd L b = 2 ∧ w = L_fr L b + 1 then 1 else 0)
    (hF : FeN m m f (¬ p b = goal L b) cn ((L_w L + 1) ^ b * aft L w false b (p b)) ((L_w L + 1) ^ b * aft L w true b (p b)) E0 C0 E C) : FeO L w p (b + 1) f E C := by
  obtain ⟨m1, m2, m3, m4⟩ := h
  obtain ⟨f1, f2, f3, f4, f5, f6⟩ := hF
  have hcn1 : cn ≤ 1 := by rw [hcn]; split <;> omega
  have hpw : 2 ^ (b + 1) = 2 ^ b + 2 ^ b := by rw [Nat.pow_succ]; omega
  -- a set without b, a set with b
  have n0 : ∀ x, x < 2 ^ b → cntN L x w p (b + 1) = cntN L x w p b ∧ cU (L_w L + 1) (qA L w p x) (b + 1) = cU (L_w L + 1) (qA L w p x) b + (L_w L + 1) ^ b * aft L w false b (p b) := by
    intro x hx
    have t := (tb_add hx).2.2
    refine ⟨?_, ?_⟩
    · rw [cntN, if_neg]
      · rfl
      · unfold cnt
        rw [t]
        simp
    · rw [cU]
      show _ + _ * aft L w (x.testBit b) b (p b) = _
      rw [t]
  have n1 : ∀ x, x < 2 ^ b → cntN L (x + 2 ^ b) w p (b + 1) = cntN L x w p b + (if ¬ p b = goal L b then cn else 0) ∧ cU (L_w L + 1) (qA L w p (x + 2 ^ b)) (b + 1) = cU (L_w L + 1) (qA L w p x) b + (L_w L + 1) ^ b * aft L w true b (p b) := by
    intro x hx
    have t := tb_add hx
    refine ⟨?_, ?_⟩
    · rw [cntN, cntN_c (L := L) (w := w) (p := p) (r := p) (y := x) b (fun i hi => ⟨t.1 i hi, rfl⟩)]
      congr 1
      have e : cnt L (x + 2 ^ b) w p b = true ↔ ¬ p b = goal L b ∧ ¬ L_kd L b = 2 ∧ w = L_fr L b + 1 := by
        unfold cnt
        rw [t.2.1]
        simp only [Bool.true_and, Bool.and_eq_true, Bool.not_eq_true', beq_iff_eq, beq_eq_false_iff_ne, ne_eq]
        exact ⟨fun q => ⟨q.1.1, q.2, q.1.2⟩, fun q => ⟨⟨q.1, q.2.2⟩, q.2.1⟩⟩
      by_cases g : ¬ p b = goal L b
      · rw [if_pos g, hcn]
        by_cases c : ¬ L_kd L b = 2 ∧ w = L_fr L b + 1
        · rw [if_pos c, if_pos (e.mpr ⟨g, c⟩)]
        · rw [if_neg c, if_neg (fun q => c (e.mp q).2)]
      · rw [if_neg g, if_neg (fun q => g (e.mp q).1)]
    · rw [cU, cU_c (r := qA L w p x) b (fun i hi => by show aft L w ((x + 2 ^ b).testBit i) i (p i) = _; rw [t.1 i hi])]
      show _ + _ * aft L w ((x + 2 ^ b).testBit b) b (p b) = _
      rw [t.2.1]
  refine ⟨by omega, by omega, fun k hk => ?_, fun x hx hc => ?_⟩
  · by_cases hkm : k < m
    · obtain ⟨x, x1, x2, x3, x4⟩ := m3 k hkm
      have q := f3 k hkm
      refine ⟨x, by omega, ?_, ?_, ?_⟩
      · rw [q.1, x2, nI_add, (n0 x x1).2]
      · rw [q.2, x3, (n0 x x1).1]
      · rw [(n0 x x1).1]; exact x4
    · obtain ⟨k2, q1, q2, q3, q4, q5⟩ := f5 k (by omega) hk
      obtain ⟨x, x1, x2, x3, x4⟩ := m3 k2 q1
      rw [x3] at q4 q5
      have q6 := (cn_le x4 hcn1).mp q5
      have z := (n1 x x1).1
      rw [if_pos q2] at z
      refine ⟨x + 2 ^ b, by omega, ?_, ?_, ?_⟩
      · rw [q3, x2, nI_add, (n1 x x1).2]
      · rw [q4, nI_add, z]
      · rw [z]; exact q6
  · by_cases hxb : x < 2 ^ b
    · rw [(n0 x hxb).1] at hc ⊢
      rw [(n0 x hxb).2]
      obtain ⟨k, k1, k2, k3⟩ := m4 x hxb hc
      have q := f3 k k1
      exact ⟨k, by omega, by rw [q.1, k2, nI_add], by rw [q.2, k3]⟩
    · obtain ⟨y, rfl⟩ : ∃ y, x = y + 2 ^ b := ⟨x - 2 ^ b, by omega⟩
      have hy : y < 2 ^ b := by omega
      rw [(n1 y hy).1] at hc ⊢
      rw [(n1 y hy).2]
      obtain ⟨k, k1, k2, k3⟩ := m4 y hy (by omega)
      by_cases g : ¬ p b = goal L b
      · rw [if_pos g] at hc ⊢
        obtain ⟨j, j1, j2, j3, j4⟩ := f6 k k1 g (by rw [k3]; exact (cn_le (by omega) hcn1).mpr hc)
        exact ⟨j, j2, by rw [j3, k2, nI_add], by rw [j4, k3, nI_add]⟩
      · rw [if_neg g]
        have g2 : p b = goal L b := Decidable.not_not.mp g
        have e : aft L w true b (p b) = aft L w false b (p b) := by
          unfold aft
          rw [if_pos (Or.inr g2), if_pos (Or.inr g2)]
        rw [e]
        have q := f3 k k1
        exact ⟨k, by omega, by rw [q.1, k2, nI_add], by rw [q.2, k3]; rfl⟩
theorem wB_le {w b : Nat} (hw : w ≤ 4) (hb : b ≤ 3) : (w + 1) ^ b ≤ 125 := pw_125 hw (Nat.le_refl 3) hb
theorem lp_X4_findEnds_87 {w b m : Nat} {p : Nat → Nat} {E0 C0 : Nat → Int32} (hA : A.length = 10) (hL : LOk L) (hlk : ∀ s, LkH (sH A s R) lp isl wo fl bp L) (hw : w ≤ 2) (hb : b < L_n L) (hp : p b ≤ L_w L) (hF : FeO L w p b m E0 C0)
    (K : ∀ f E C, FeO L w p (b + 1) f E C → T M_X4_findEnds x_E Z 0 0 202 [(0, .ref 10), (1, .ref lp), (2, .int (nI w)), (3, .int (nI f)), (4, .int (nI ((L_w L + 1) ^ b))), (5, .int (nI b))] [] (sH A (feS s E C) R)) {cn : Nat} (hcn : cn = if ¬ L_kd L b = 2 ∧ w = L_fr L b + 1 then 1 else 0) :
    T M_X4_findEnds x_E Z 0 0 87 [(0, .ref 10), (1, .ref lp), (2, .int (nI w)), (3, .int (nI m)), (4, .int (nI ((L_w L + 1) ^ b))), (5, .int (nI b)), (6, .ref (bp b)), (7, .int (nI (p b))), (8, .int (bI (¬ p b = goal L b))), (9, .int (nI cn))] [] (sH A (feS s E0 C0) R) := by
  have h3 := hL.2.2.1
  obtain ⟨b1, b2, F, b3, b4⟩ := hlk (feS s E0 C0)
  have hm4 : m ≤ 4 := Nat.le_trans hF.2.1 (Nat.le_trans (Nat.pow_le_pow_right (by decide) (show b ≤ 2 by omega)) (by decide))
  refine T_iload dX4_findEnds_87 rfl ?_
  refine T_aload_n dX4_findEnds_89 rfl ?_
  refine T_aload dX4_findEnds_90 rfl ?_
  refine T_iload dX4_findEnds_92 rfl ?_
  refine T_iload_n dX4_findEnds_94 rfl ?_
  refine T_iconst (v := bI ((false : Bool) = true)) dX4_findEnds_95 rfl ?_
  refine T_v4e (cu2 := 0) (su2 := 0) dX4_findEnds_96 lv_X4_182 rfl b1 rfl (c_X1_cellAfter hL hb b2 b1 (b4 b hb).2 hp hw false) (nb rfl) (nb rfl) (nb rfl) (nb rfl) (nb rfl) ?_
  refine T_imulN dX4_findEnds_99 ?_
  refine T_istore dX4_findEnds_100 (by decide) rfl ?_
  refine T_iload dX4_findEnds_102 rfl ?_
  refine T_aload_n dX4_findEnds_104 rfl ?_
  refine T_aload dX4_findEnds_105 rfl ?_
  refine T_iload dX4_findEnds_107 rfl ?_
  refine T_iload_n dX4_findEnds_109 rfl ?_
  refine T_iconst (v := bI ((true : Bool) = true)) dX4_findEnds_110 rfl ?_
  refine T_v4e (cu2 := 0) (su2 := 0) dX4_findEnds_111 lv_X4_182 rfl b1 rfl (c_X1_cellAfter hL hb b2 b1 (b4 b hb).2 hp hw true) (nb rfl) (nb rfl) (nb rfl) (nb rfl) (nb rfl) ?_
  refine T_imulN dX4_findEnds_114 ?_
  refine T_istore dX4_findEnds_115 (by decide) rfl ?_
  refine T_iload_n dX4_findEnds_117 rfl ?_
  refine T_istore dX4_findEnds_118 (by decide) rfl ?_
  refine T_iconst (v := nI 0) dX4_findEnds_120 (by decide) ?_
  refine T_istore dX4_findEnds_121 (by decide) rfl ?_
  exact lp_X4_findEnds_123 (E0 := E0) (C0 := C0) hA hm4 (fun f E C hN => K f E C (hF.step hcn hN)) m 0 (by omega) m E0 C0 ⟨Nat.le_refl _, by omega, fun j hj => absurd hj (by omega), fun j _ hj => ⟨rfl, rfl⟩, fun j h1 h2 => absurd h2 (by omega), fun q hq => absurd hq (by omega)⟩
theorem lp_X4_findEnds_22 {w : Nat} {p : Nat → Nat} (hA : A.length = 10) (hL : LOk L) (hlk : ∀ s, LkH (sH A s R) lp isl wo fl bp L) (hw : w ≤ 2) (hp : PR L (s.2.1 17) p) :
    ∀ r b, b + r = L_n L → ∀ m E C, FeO L w p b m E C → T M_X4_findEnds x_E (x_Z M_X4_findEnds (fun q h' => ∃ m E C, q = some (.int (nI m)) ∧ h' = sH A (feS s E C) R ∧ FeO L w p (L_n L) m E C)) 0 0 22 [(0, .ref 10), (1, .ref lp), (2, .int (nI w)), (3, .int (nI m)), (4, .int (nI ((L_w L + 1) ^ b))), (5, .int (nI b))] [] (sH A (feS s E C) R) := by
  have h3 := hL.2.2.1
  have h4 := hL.1
  intro r
  induction r with
  | zero =>
    intro b hb m E C hF
    obtain rfl : b = L_n L := by omega
    refine T_iload dX4_findEnds_22 rfl ?_
    refine T_aload_n dX4_findEnds_24 rfl ?_
    refine T_get dX4_findEnds_25 fl_X4_164_1 (hlk _).1 rfl ?_
    refine T_icmp_geN (tgt := 219) dX4_findEnds_28 (by decide) (by omega) (by omega) (fun c28 => ?_) (fun c28 => ?_)
    · refine T_iload_n dX4_findEnds_219 rfl ?_
      refine T_iret dX4_findEnds_220 rfl (nb rfl) (nb rfl) ?_
      exact ⟨m, E, C, rfl, rfl, hF⟩
    · exact absurd c28 (by omega)
  | succ r ih =>
    intro b hb m E C hF
    obtain ⟨b1, b2, F, b3, b4⟩ := hlk (feS s E C)
    have hbn : b < L_n L := by omega
    have hq := hL.2.2.2.1 b hbn
    have hpb := hp b hbn
    have hgl := goal_le L b
    have egoal : ConE M_X1_goalOf [.ref lp, .ref (bp b)] (sH A (feS s E C) R) (some (.int (nI (goal L b)))) (sH A (feS s E C) R) := c_X1_goalOf b1 (b4 b hbn).2 hq.2.1 hq.1
    have K202 : ∀ f E C, FeO L w p (b + 1) f E C → T M_X4_findEnds x_E (x_Z M_X4_findEnds (fun q h' => ∃ m E C, q = some (.int (nI m)) ∧ h' = sH A (feS s E C) R ∧ FeO L w p (L_n L) m E C)) 0 0 202 [(0, .ref 10), (1, .ref lp), (2, .int (nI w)), (3, .int (nI f)), (4, .int (nI ((L_w L + 1) ^ b))), (5, .int (nI b))] [] (sH A (feS s E C) R) := by
      intro f E C hF2
      refine T_iload dX4_findEnds_202 rfl ?_
      refine T_aload_n dX4_findEnds_204 rfl ?_
      refine T_get dX4_findEnds_205 fl_X4_186_1 (hlk _).1 rfl ?_
      refine T_iconst (v := nI 1) dX4_findEnds_208 (by decide) ?_
      refine T_iaddN dX4_findEnds_209 ?_
      refine T_imulN dX4_findEnds_210 ?_
      refine T_istore dX4_findEnds_211 (by decide) rfl ?_
      refine T_iincN dX4_findEnds_213 rfl (by decide) rfl ?_
      refine T_goto (tgt := 22) dX4_findEnds_216 (by decide) ?_
      exact ih (b + 1) (by omega) f E C hF2
    have K87 : ∀ (x8 x9 : Int32), x8 = bI (¬ p b = goal L b) → x9 = nI (if ¬ L_kd L b = 2 ∧ w = L_fr L b + 1 then 1 else 0) → T M_X4_findEnds x_E (x_Z M_X4_findEnds (fun q h' => ∃ m E C, q = some (.int (nI m)) ∧ h' = sH A (feS s E C) R ∧ FeO L w p (L_n L) m E C)) 0 0 87 [(0, .ref 10), (1, .ref lp), (2, .int (nI w)), (3, .int (nI m)), (4, .int (nI ((L_w L + 1) ^ b))), (5, .int (nI b)), (6, .ref (bp b)), (7, .int (nI (p b))), (8, .int x8), (9, .int x9)] [] (sH A (feS s E C) R) := by
      intro x8 x9 e8 e9
      rw [e8, e9]
      exact lp_X4_findEnds_87 hA hL hlk hw hbn hpb.2 hF K202 rfl
    refine T_iload dX4_findEnds_22 rfl ?_
    refine T_aload_n dX4_findEnds_24 rfl ?_
    refine T_get dX4_findEnds_25 fl_X4_164_1 b1 rfl ?_
    refine T_icmp_geN (tgt := 219) dX4_findEnds_28 (by decide) (by omega) (by omega) (fun c28 => ?_) (fun c28 => ?_)
    · exact absurd c28 (by omega)
    · refine T_aload_n dX4_findEnds_31 rfl ?_
      refine T_get dX4_findEnds_32 fl_X4_167_1 b1 rfl ?_
      refine T_iload dX4_findEnds_35 rfl ?_
      refine T_aald4 dX4_findEnds_37 b3 (nI_in3 h3 hbn) (by rw [nI_clamp (by omega)]; exact (b4 b hbn).1) ?_
      refine T_astore dX4_findEnds_38 (by decide) rfl ?_
      refine T_aload_n dX4_findEnds_40 rfl ?_
      refine T_get dX4_findEnds_41 fl_X4_42_4 (sH_get hA rfl) rfl ?_
      refine T_get dX4_findEnds_44 fl_X4_171_10 (sH_get hA rfl) rfl ?_
      refine T_iload dX4_findEnds_47 rfl ?_
      refine T_ialdN dX4_findEnds_49 (sH_get hA rfl) (by omega) (by decide) ?_
      refine T_top hpb.1 ?_
      refine T_istore dX4_findEnds_50 (by decide) rfl ?_
      refine T_iload dX4_findEnds_52 rfl ?_
      refine T_aload_n dX4_findEnds_54 rfl ?_
      refine T_aload dX4_findEnds_55 rfl ?_
      refine T_v1e (cu2 := 0) (su2 := 0) dX4_findEnds_57 lv_X4_174 rfl b1 rfl egoal (nb rfl) (nb rfl) (nb rfl) (nb rfl) (nb rfl) ?_
      refine T_icmp_eqN (tgt := 67) dX4_findEnds_60 (by decide) (by omega) (by omega) (fun c60 => ?_) (fun c60 => ?_)
      · refine T_iconst (v := 0) dX4_findEnds_67 (by decide) ?_
        refine T_istore dX4_findEnds_68 (by decide) rfl ?_
        refine T_aload_n dX4_findEnds_70 rfl ?_
        refine T_aload dX4_findEnds_71 rfl ?_
        refine T_iload_n dX4_findEnds_73 rfl ?_
        refine T_v2e (cu2 := 0) (su2 := 0) dX4_findEnds_74 lv_X4_178 rfl b1 rfl (c_X1_countsWith b1 (b4 b hbn).2 hq.2.1 hq.1 hw) (nb rfl) (nb rfl) (nb rfl) (nb rfl) (nb rfl) ?_
        refine T_if_eqB (tgt := 84) dX4_findEnds_77 (by decide) (fun c77 => ?_) (fun c77 => ?_)
        · refine T_iconst (v := 0) dX4_findEnds_84 (by decide) ?_
          refine T_istore dX4_findEnds_85 (by decide) rfl ?_
          refine K87 _ _ ?_ ?_
          · first | exact bI_t c60 | exact bI_f (fun q => q c60)
          · first | (rw [if_pos c77]; rfl) | (rw [if_neg c77]; rfl)
        · refine T_iconst (v := 1) dX4_findEnds_80 (by decide) ?_
          refine T_goto (tgt := 85) dX4_findEnds_81 (by decide) ?_
          refine T_istore dX4_findEnds_85 (by decide) rfl ?_
          refine K87 _ _ ?_ ?_
          · first | exact bI_t c60 | exact bI_f (fun q => q c60)
          · first | (rw [if_pos c77]; rfl) | (rw [if_neg c77]; rfl)
      · refine T_iconst (v := 1) dX4_findEnds_63 (by decide) ?_
        refine T_goto (tgt := 68) dX4_findEnds_64 (by decide) ?_
        refine T_istore dX4_findEnds_68 (by decide) rfl ?_
        refine T_aload_n dX4_findEnds_70 rfl ?_
        refine T_aload dX4_findEnds_71 rfl ?_
        refine T_iload_n dX4_findEnds_73 rfl ?_
        refine T_v2e (cu2 := 0) (su2 := 0) dX4_findEnds_74 lv_X4_178 rfl b1 rfl (c_X1_countsWith b1 (b4 b hbn).2 hq.2.1 hq.1 hw) (nb rfl) (nb rfl) (nb rfl) (nb rfl) (nb rfl) ?_
        refine T_if_eqB (tgt := 84) dX4_findEnds_77 (by decide) (fun c77 => ?_) (fun c77 => ?_)
        · refine T_iconst (v := 0) dX4_findEnds_84 (by decide) ?_
          refine T_istore dX4_findEnds_85 (by decide) rfl ?_
          refine K87 _ _ ?_ ?_
          · first | exact bI_t c60 | exact bI_f (fun q => q c60)
          · first | (rw [if_pos c77]; rfl) | (rw [if_neg c77]; rfl)
        · refine T_iconst (v := 1) dX4_findEnds_80 (by decide) ?_
          refine T_goto (tgt := 85) dX4_findEnds_81 (by decide) ?_
          refine T_istore dX4_findEnds_85 (by decide) rfl ?_
          refine K87 _ _ ?_ ?_
          · first | exact bI_t c60 | exact bI_f (fun q => q c60)
          · first | (rw [if_pos c77]; rfl) | (rw [if_neg c77]; rfl)
theorem c_X4_findEnds {w : Nat} {p : Nat → Nat} (hA : A.length = 10) (hL : LOk L) (hlk : ∀ s, LkH (sH A s R) lp isl wo fl bp L) (hw : w ≤ 2) (hp : PR L (s.2.1 17) p) :
    Con M_X4_findEnds [.ref 10, .ref lp, .int (nI w)] (sH A s R) (fun q h' => ∃ m E C, q = some (.int (nI m)) ∧ h' = sH A (feS s E C) R ∧ FeO L w p (L_n L) m E C) := by
  refine Con.of rfl (nb rfl) ?_
  refine T_h (h2 := sH A (feS s (s.2.1 14) (s.2.1 15)) R) ?_ ?_
  · show sH A s R = sH A (s.1, (va_up (va_up s.2.1 14 (s.2.1 14)) 15 (s.2.1 15), s.2.2)) R
    rw [← va_upS s.2.1 14, ← va_upS s.2.1 15]
  refine T_aload_n dX4_findEnds_0 rfl ?_
  refine T_get dX4_findEnds_1 fl_X4_33_4 (sH_get hA rfl) rfl ?_
  refine T_iconst (v := nI 0) dX4_findEnds_4 (by decide) ?_
  refine T_iconst (v := 0) dX4_findEnds_5 (by decide) ?_
  refine T_iastN dX4_findEnds_6 (sH_get hA rfl) (by decide) (by decide) ?_
  refine T_h (feS_E hA) ?_
  refine T_aload_n dX4_findEnds_7 rfl ?_
  refine T_get dX4_findEnds_8 fl_X4_36_4 (sH_get hA rfl) rfl ?_
  refine T_iconst (v := nI 0) dX4_findEnds_11 (by decide) ?_
  refine T_iconst (v := 0) dX4_findEnds_12 (by decide) ?_
  refine T_iastN dX4_findEnds_13 (sH_get hA rfl) (by decide) (by decide) ?_
  refine T_h (feS_C hA) ?_
  refine T_iconst (v := nI 1) dX4_findEnds_14 (by decide) ?_
  refine T_istore_n dX4_findEnds_15 (by decide) rfl ?_
  refine T_iconst (v := nI 1) dX4_findEnds_16 (by decide) ?_
  refine T_istore dX4_findEnds_17 (by decide) rfl ?_
  refine T_iconst (v := nI 0) dX4_findEnds_19 (by decide) ?_
  refine T_istore dX4_findEnds_20 (by decide) rfl ?_
  refine lp_X4_findEnds_22 hA hL hlk hw hp (L_n L) 0 (by omega) 1 _ _ ⟨by decide, by decide, fun k hk => ⟨0, by decide, ?_, ?_, Nat.zero_le 1⟩, fun x hx _ => ⟨0, by decide, ?_, ?_⟩⟩
  · obtain rfl : k = 0 := by omega
    exact upd_s
  · obtain rfl : k = 0 := by omega
    exact upd_s
  · exact upd_s
  · exact upd_s
theorem Aft_O (hL : LOk L) {w u m : Nat} {E C : Nat → Int32} (hF : FeO L w (dB L u) (L_n L) m E C) : (∀ k, k < m → ∃ t, E k = nI t ∧ Aft L w u t ∧ t < nSt L) ∧ ∀ t, Aft L w u t → ∃ k, k < m ∧ E k = nI t := by
  have h3 := hL.2.2.1
  have hall : allN L + 1 = 2 ^ L_n L := by
    have : 0 < 2 ^ L_n L := Nat.pow_pos (by decide)
    unfold allN
    omega
  refine ⟨fun k hk => ?_, fun t ⟨x, x1, x2, x3⟩ => ?_⟩
  · obtain ⟨x, x1, x2, x3, x4⟩ := hF.2.2.1 k hk
    refine ⟨_, x2, ⟨x, by omega, ?_, cU_cB _ h3⟩, ?_⟩
    · unfold finN
      rw [if_neg (by omega)]
    · rw [cU_cB _ h3]
      exact cdB_lt hL (fun i hi => aft_le (Nat.lt_succ_iff.mp (Nat.mod_lt _ (by omega))))
  · have hc : cntN L x w (dB L u) (L_n L) ≤ 1 := by
      unfold finN at x2
      by_cases e : 2 ≤ cntN L x w (dB L u) (L_n L)
      · rw [if_pos e] at x2; omega
      · omega
    obtain ⟨k, k1, k2, k3⟩ := hF.2.2.2 x (by omega) hc
    refine ⟨k, k1, ?_⟩
    rw [k2, x3, cU_cB _ h3]
end S7
