/-! the reference: soonest, hats, rid -/
section M13
variable {A B : XH} {u : MSt} {h : XH} {Z : XZ} {L : LK} {wn : Nat → Nat} {s n : Nat}
theorem mm_id : mH A u B = mH A (mm u (u.2 20) (u.2 26) (u.2 27)) B := rfl
theorem allN_lt (hL : LOk L) : allN L < 8 := by
  have := Nat.pow_le_pow_right (n := 2) (by decide) hL.2.2.1
  unfold allN
  omega
theorem eall_N (hM : MR u L) (hL : LOk L) : (1 : Int32) <<< (u.1 7 &&& 31) - 1 = nI (allN L) := by rw [hM.2.2.1]; exact all_N _ hL.2.2.1
/-- a set of boats: refused, or a number -/
theorem setN {x : Int32} {a : Nat} (ha : a < 2 ^ 31) (h : 0 ≤ x ∧ x ≤ nI a) : ∃ j, j ≤ a ∧ x = nI j := nI_of2 (nI_toInt ha) (by rw [Int32.not_lt]; exact h.1) h.2
def SoA (L : LK) (wn : Nat → Nat) (set a : Int32) : Prop := if L_n L = 0 then a = -3 else if 0 ≤ set ∧ set ≤ nI (allN L) then SoR L wn set.toNatClampNeg (L_h L) a else a = -2
theorem c_X12_soonest (hA : A.length = 67) (hM : MR u L) (hL : LOk L) (hW : MW u L wn) (set : Int32) : Con M_X12_soonest [.ref 67, .int set] (mH A u B) (fun q h' => (∃ v, q = some (.int v) ∧ SoA L wn set v) ∧ mmE u A B h') := by
  have h3 := hL.2.2.1
  have h8 := allN_lt hL
  have eall := eall_N hM hL
  refine Con.of rfl (nb rfl) ?_
  refine T_h (mm_id (u := u)) ?_
  by_cases hset : 0 ≤ set ∧ set ≤ nI (allN L)
  · obtain ⟨s, hs, rfl⟩ := setN (by omega) hset
    have cs : (nI s).toNatClampNeg = s := nI_clamp (by omega)
    refine T_aload_n dX12_soonest_0 rfl ?_
    refine T_get dX12_soonest_1 fl_X12_75_12 (mH_get hA rfl) rfl ?_
    refine T_top hM.2.2.1 ?_
    refine T_if_neN (tgt := 10) dX12_soonest_4 (by decide) (by omega) (fun c4 => ?_) (fun c4 => ?_)
    · refine T_iload_n dX12_soonest_10 rfl ?_
      refine T_iconst (v := 0) dX12_soonest_11 (by decide) ?_
      refine T_aload_n dX12_soonest_12 rfl ?_
      refine T_v0e (cu2 := 0) (su2 := 0) dX12_soonest_13 lv_X12_153 rfl (mH_get hA rfl) rfl (c_X12_all hA) (nb rfl) (nb rfl) (nb rfl) (nb rfl) (nb rfl) ?_
      refine T_top eall ?_
      refine T_s3e (cu2 := 0) (su2 := 0) dX12_soonest_16 ls_X12_71 rfl (c_X12_within _ _ _) (nb rfl) (nb rfl) (nb rfl) (nb rfl) (nb rfl) ?_
      refine T_if_eqB (tgt := 30) dX12_soonest_19 (by decide) (fun c19 => ?_) (fun c19 => ?_)
      · exact absurd hset c19
      · refine T_aload_n dX12_soonest_22 rfl ?_
        refine T_iload_n dX12_soonest_23 rfl ?_
        refine T_v1q (cu2 := 0) (su2 := 0) dX12_soonest_24 lv_X12_202 rfl (mH_get hA rfl) rfl (c_X12_soonestOf hA hM hL hW (by omega)) (nb rfl) (nb rfl) (nb rfl) (nb rfl) (nb rfl) (fun r24 h24 q24 => ?_)
        obtain ⟨⟨v, rfl, hv⟩, P2, cb2, th2, rfl⟩ := q24
        refine T_goto (tgt := 32) dX12_soonest_27 (by decide) ?_
        refine T_iret dX12_soonest_32 rfl (nb rfl) (nb rfl) ?_
        exact ⟨⟨v, rfl, by unfold SoA; rw [if_neg c4, if_pos hset, cs]; exact hv⟩, _, _, _, rfl⟩
    · refine T_bipush (v := (-3)) dX12_soonest_7 (by decide) ?_
      refine T_iret dX12_soonest_9 rfl (nb rfl) (nb rfl) ?_
      exact ⟨⟨-3, rfl, by unfold SoA; rw [if_pos c4]⟩, _, _, _, rfl⟩
  · skip
    refine T_aload_n dX12_soonest_0 rfl ?_
    refine T_get dX12_soonest_1 fl_X12_75_12 (mH_get hA rfl) rfl ?_
    refine T_top hM.2.2.1 ?_
    refine T_if_neN (tgt := 10) dX12_soonest_4 (by decide) (by omega) (fun c4 => ?_) (fun c4 => ?_)
    · refine T_iload_n dX12_soonest_10 rfl ?_
      refine T_iconst (v := 0) dX12_soonest_11 (by decide) ?_
      refine T_aload_n dX12_soonest_12 rfl ?_
      refine T_v0e (cu2 := 0) (su2 := 0) dX12_soonest_13 lv_X12_153 rfl (mH_get hA rfl) rfl (c_X12_all hA) (nb rfl) (nb rfl) (nb rfl) (nb rfl) (nb rfl) ?_
      refine T_top eall ?_
      refine T_s3e (cu2 := 0) (su2 := 0) dX12_soonest_16 ls_X12_71 rfl (c_X12_within _ _ _) (nb rfl) (nb rfl) (nb rfl) (nb rfl) (nb rfl) ?_
      refine T_if_eqB (tgt := 30) dX12_soonest_19 (by decide) (fun c19 => ?_) (fun c19 => ?_)
      · refine T_bipush (v := (-2)) dX12_soonest_30 (by decide) ?_
        refine T_iret dX12_soonest_32 rfl (nb rfl) (nb rfl) ?_
        exact ⟨⟨-2, rfl, by unfold SoA; rw [if_neg c4, if_neg hset]⟩, _, _, _, rfl⟩
      · exact absurd c19 hset
    · refine T_bipush (v := (-3)) dX12_soonest_7 (by decide) ?_
      refine T_iret dX12_soonest_9 rfl (nb rfl) (nb rfl) ?_
      exact ⟨⟨-3, rfl, by unfold SoA; rw [if_pos c4]⟩, _, _, _, rfl⟩
/-- the hats' answer -/
def HtR (L : LK) (wn : Nat → Nat) (s n : Nat) (a : Int32) : Prop :=
  (InT L wn s n ∧ a = 0) ∨ (¬ InT L wn s n ∧ ((∃ h, h < L_h L ∧ One L wn s n h ∧ (∀ g, g < h → ¬ One L wn s n g) ∧ a = nI (2 ^ h)) ∨ ((∀ g, g < L_h L → ¬ One L wn s n g) ∧
    ((∃ i j, i < j ∧ j < L_h L ∧ Two L wn s n i j ∧ (∀ i' j', i' < j' → j' < L_h L → Two L wn s n i' j' → 2 ^ i + 2 ^ j ≤ 2 ^ i' + 2 ^ j') ∧ a = nI (2 ^ i + 2 ^ j)) ∨ ((∀ i j, i < j → j < L_h L → ¬ Two L wn s n i j) ∧ a = -9)))))
theorem sh_N : ∀ h, h < 10 → (1 : Int32) <<< (nI h &&& 31) = nI (2 ^ h) := by decide
theorem or2_N : ∀ i, i < 10 → ∀ j, j < 10 → i < j → nI (2 ^ i) ||| nI (2 ^ j) = nI (2 ^ i + 2 ^ j) := by decide
theorem pw_lt {i : Nat} (h : i < 10) : 2 ^ i < 1024 := Nat.pow_lt_pow_right (by decide) h
theorem nI_m9 {N : Nat} (h : N < 2 ^ 31) : ¬ nI N = -9 := fun q => by
  have := congrArg Int32.toInt q
  rw [nI_toInt h] at this
  have e9 : (-9 : Int32).toInt = -9 := rfl
  omega
/-- pairs of hours that are done ahead of (i, j) -/
abbrev Pq (H i j a b : Nat) : Prop := a < b ∧ b < H ∧ (a < i ∨ (a = i ∧ b < j))
def InvB (L : LK) (wn : Nat → Nat) (s n i j : Nat) (x : Int32) : Prop := (x = -9 ∧ ∀ a b, Pq (L_h L) i j a b → ¬ Two L wn s n a b) ∨ (∃ a b, Pq (L_h L) i j a b ∧ Two L wn s n a b ∧ x = nI (2 ^ a + 2 ^ b) ∧ ∀ a' b', Pq (L_h L) i j a' b' → Two L wn s n a' b' → 2 ^ a + 2 ^ b ≤ 2 ^ a' + 2 ^ b')
theorem InvB.of {i j i2 j2 : Nat} {x : Int32} (h : InvB L wn s n i j x) (e : ∀ a b, Pq (L_h L) i j a b ↔ Pq (L_h L) i2 j2 a b) : InvB L wn s n i2 j2 x := by
  rcases h with ⟨q1, q2⟩ | ⟨a, b, q1, q2, q3, q4⟩
  · exact Or.inl ⟨q1, fun a b q => q2 a b ((e a b).mpr q)⟩
  · exact Or.inr ⟨a, b, (e a b).mp q1, q2, q3, fun a' b' q => q4 a' b' ((e a' b').mpr q)⟩
theorem InvB.no {i j : Nat} {x : Int32} (h : InvB L wn s n i j x) (hno : ¬ Two L wn s n i j) : InvB L wn s n i (j + 1) x := by
  rcases h with ⟨q1, q2⟩ | ⟨a, b, q1, q2, q3, q4⟩
  · refine Or.inl ⟨q1, fun a b q => ?_⟩
    by_cases e : a = i ∧ b = j
    · obtain ⟨rfl, rfl⟩ := e; exact hno
    · exact q2 a b (by omega)
  · refine Or.inr ⟨a, b, by omega, q2, q3, fun a' b' q t => ?_⟩
    by_cases e : a' = i ∧ b' = j
    · obtain ⟨rfl, rfl⟩ := e; exact absurd t hno
    · exact q4 a' b' (by omega) t
theorem InvB.big {i j : Nat} {x : Int32} (h10 : L_h L ≤ 10) (h : InvB L wn s n i j x) (hij : i < j) (hj : j < L_h L) (hx : ¬ x = -9) (hle : x ≤ nI (2 ^ i + 2 ^ j)) : InvB L wn s n i (j + 1) x := by
  rcases h with ⟨q1, q2⟩ | ⟨a, b, q1, q2, q3, q4⟩
  · exact absurd q1 hx
  · refine Or.inr ⟨a, b, by omega, q2, q3, fun a' b' q t => ?_⟩
    by_cases e : a' = i ∧ b' = j
    · obtain ⟨rfl, rfl⟩ := e
      have p1 := pw_lt (show a < 10 by omega)
      have p2 := pw_lt (show b < 10 by omega)
      have p3 := pw_lt (show a' < 10 by omega)
      have p4 := pw_lt (show b' < 10 by omega)
      rw [q3, nI_leI (by omega) (by omega)] at hle
      exact hle
    · exact q4 a' b' (by omega) t
theorem InvB.set {i j : Nat} {x : Int32} (h10 : L_h L ≤ 10) (h : InvB L wn s n i j x) (hij : i < j) (hj : j < L_h L) (ht : Two L wn s n i j) (hx : x = -9 ∨ nI (2 ^ i + 2 ^ j) < x) : InvB L wn s n i (j + 1) (nI (2 ^ i + 2 ^ j)) := by
  refine Or.inr ⟨i, j, by omega, ht, rfl, fun a' b' q t => ?_⟩
  by_cases e : a' = i ∧ b' = j
  · obtain ⟨rfl, rfl⟩ := e; exact Nat.le_refl _
  · rcases h with ⟨q1, q2⟩ | ⟨a, b, q1, q2, q3, q4⟩
    · exact absurd t (q2 a' b' (by omega))
    · have q5 := q4 a' b' (by omega) t
      have p1 := pw_lt (show a < 10 by omega)
      have p2 := pw_lt (show b < 10 by omega)
      have p3 := pw_lt (show i < 10 by omega)
      have p4 := pw_lt (show j < 10 by omega)
      rcases hx with hx | hx
      · exact absurd (q3.symm.trans hx) (nI_m9 (by omega))
      · rw [q3, nI_ltI (by omega) (by omega)] at hx
        omega
abbrev HtQ (L : LK) (wn : Nat → Nat) (s n : Nat) (u : MSt) (A B : XH) : Option Value → XH → Prop := fun q h' => (∃ v, q = some (.int v) ∧ HtR L wn s n v) ∧ mmE u A B h'
theorem lp_X12_hats_3 (hA : A.length = 67) (hM : MR u L) (hL : LOk L) (hW : MW u L wn) (hs : s < 8) (hn : n ≤ 10) {i : Nat} (hi : i < L_h L) (K : ∀ (x : Int32) (P cb th : Nat → Int32), InvB L wn s n (i + 1) 0 x → T M_X12_hats x_E Z 0 0 151 [(0, .ref 67), (1, .int (nI s)), (2, .int (nI n)), (3, .int x), (4, .int (nI i))] [] (mH A (mm u P cb th) B)) :
    ∀ r j, j + r = L_h L → i < j → ∀ (x : Int32) (P cb th : Nat → Int32), InvB L wn s n i j x → T M_X12_hats x_E Z 0 0 97 [(0, .ref 67), (1, .int (nI s)), (2, .int (nI n)), (3, .int x), (4, .int (nI i)), (5, .int (nI j))] [] (mH A (mm u P cb th) B) := by
  have h10 := hL.2.1
  intro r
  induction r with
  | zero =>
    intro j hj hij x P cb th hI
    refine T_iload dX12_hats_97 rfl ?_
    refine T_aload_n dX12_hats_99 rfl ?_
    refine T_get dX12_hats_100 fl_X12_78_12 (mH_get hA rfl) rfl ?_
    refine T_top hM.2.1 ?_
    refine T_icmp_geN (tgt := 151) dX12_hats_103 (by decide) (by omega) (by omega) (fun c103 => ?_) (fun c103 => ?_)
    · exact T_pick [0, 1, 2, 3, 4] (K x P cb th (hI.of fun a b => by constructor <;> intro q <;> omega))
    · omega
  | succ r ih =>
    intro j hj hij x P cb th hI
    have eor : (1 : Int32) <<< (nI i &&& 31) ||| (1 : Int32) <<< (nI j &&& 31) = nI (2 ^ i + 2 ^ j) := by rw [sh_N i (by omega), sh_N j (by omega)]; exact or2_N i (by omega) j (by omega) hij
    have pi := pw_lt (show i < 10 by omega)
    have pj := pw_lt (show j < 10 by omega)
    refine T_iload dX12_hats_97 rfl ?_
    refine T_aload_n dX12_hats_99 rfl ?_
    refine T_get dX12_hats_100 fl_X12_78_12 (mH_get hA rfl) rfl ?_
    refine T_top hM.2.1 ?_
    refine T_icmp_geN (tgt := 151) dX12_hats_103 (by decide) (by omega) (by omega) (fun c103 => ?_) (fun c103 => ?_)
    · omega
    · refine T_iconst (v := 1) dX12_hats_106 (by decide) ?_
      refine T_iload dX12_hats_107 rfl ?_
      refine T_ishl dX12_hats_109 ?_
      refine T_iconst (v := 1) dX12_hats_110 (by decide) ?_
      refine T_iload dX12_hats_111 rfl ?_
      refine T_ishl dX12_hats_113 ?_
      refine T_ior dX12_hats_114 ?_
      refine T_top eor ?_
      refine T_istore dX12_hats_115 (by decide) rfl ?_
      refine T_iload_n dX12_hats_117 rfl ?_
      refine T_bipush (v := (-9)) dX12_hats_118 (by decide) ?_
      refine T_icmp_eq (tgt := 129) dX12_hats_120 (by decide) (fun c120 => ?_) (fun c120 => ?_)
      · refine T_aload_n dX12_hats_129 rfl ?_
        refine T_iload dX12_hats_130 rfl ?_
        refine T_iload dX12_hats_132 rfl ?_
        refine T_iload_n dX12_hats_134 rfl ?_
        refine T_iload_n dX12_hats_135 rfl ?_
        refine T_v4q (cu2 := 0) (su2 := 0) dX12_hats_136 lv_X12_211 rfl (mH_get hA rfl) rfl (c_X12_isByTwo hA hM hL hW hs hn hi (show j < L_h L by omega) hij) (nb rfl) (nb rfl) (nb rfl) (nb rfl) (nb rfl) (fun r136 h136 q136 => ?_)
        obtain ⟨⟨v, rfl, hv⟩, P2, cb2, th2, rfl⟩ := q136
        refine T_if_eq (tgt := 145) dX12_hats_139 (by decide) (fun c139 => ?_) (fun c139 => ?_)
        · refine T_iincN dX12_hats_145 rfl (by decide) rfl ?_
          refine T_goto (tgt := 97) dX12_hats_148 (by decide) ?_
          first
            | exact T_pick [0, 1, 2, 3, 4, 5] (ih (j + 1) (by omega) (by omega) x P cb th (hI.big h10 hij (by omega) c120 c126))
            | exact T_pick [0, 1, 2, 3, 4, 5] (ih (j + 1) (by omega) (by omega) x P2 cb2 th2 (hI.no (by rcases hv with ⟨q1, q2⟩ | ⟨q1, q2⟩; exact absurd (q1.symm.trans c139) (by decide); exact q2)))
            | exact T_pick [0, 1, 2, 3, 4, 5] (ih (j + 1) (by omega) (by omega) _ P2 cb2 th2 (hI.set h10 hij (by omega) (by rcases hv with ⟨q1, q2⟩ | ⟨q1, q2⟩; exact q2; exact absurd q1 c139) (Or.inl c120)))
            | exact T_pick [0, 1, 2, 3, 4, 5] (ih (j + 1) (by omega) (by omega) _ P2 cb2 th2 (hI.set h10 hij (by omega) (by rcases hv with ⟨q1, q2⟩ | ⟨q1, q2⟩; exact q2; exact absurd q1 c139) (Or.inr (Int32.not_le.mp c126))))
        · refine T_iload dX12_hats_142 rfl ?_
          refine T_istore_n dX12_hats_144 (by decide) rfl ?_
          refine T_iincN dX12_hats_145 rfl (by decide) rfl ?_
          refine T_goto (tgt := 97) dX12_hats_148 (by decide) ?_
          first
            | exact T_pick [0, 1, 2, 3, 4, 5] (ih (j + 1) (by omega) (by omega) x P cb th (hI.big h10 hij (by omega) c120 c126))
            | exact T_pick [0, 1, 2, 3, 4, 5] (ih (j + 1) (by omega) (by omega) x P2 cb2 th2 (hI.no (by rcases hv with ⟨q1, q2⟩ | ⟨q1, q2⟩; exact absurd (q1.symm.trans c139) (by decide); exact q2)))
            | exact T_pick [0, 1, 2, 3, 4, 5] (ih (j + 1) (by omega) (by omega) _ P2 cb2 th2 (hI.set h10 hij (by omega) (by rcases hv with ⟨q1, q2⟩ | ⟨q1, q2⟩; exact q2; exact absurd q1 c139) (Or.inl c120)))
            | exact T_pick [0, 1, 2, 3, 4, 5] (ih (j + 1) (by omega) (by omega) _ P2 cb2 th2 (hI.set h10 hij (by omega) (by rcases hv with ⟨q1, q2⟩ | ⟨q1, q2⟩; exact q2; exact absurd q1 c139) (Or.inr (Int32.not_le.mp c126))))
      · refine T_iload dX12_hats_123 rfl ?_
        refine T_iload_n dX12_hats_125 rfl ?_
        refine T_icmp_ge (tgt := 145) dX12_hats_126 (by decide) (fun c126 => ?_) (fun c126 => ?_)
        · refine T_iincN dX12_hats_145 rfl (by decide) rfl ?_
          refine T_goto (tgt := 97) dX12_hats_148 (by decide) ?_
          first
            | exact T_pick [0, 1, 2, 3, 4, 5] (ih (j + 1) (by omega) (by omega) x P cb th (hI.big h10 hij (by omega) c120 c126))
            | exact T_pick [0, 1, 2, 3, 4, 5] (ih (j + 1) (by omega) (by omega) x P2 cb2 th2 (hI.no (by rcases hv with ⟨q1, q2⟩ | ⟨q1, q2⟩; exact absurd (q1.symm.trans c139) (by decide); exact q2)))
            | exact T_pick [0, 1, 2, 3, 4, 5] (ih (j + 1) (by omega) (by omega) _ P2 cb2 th2 (hI.set h10 hij (by omega) (by rcases hv with ⟨q1, q2⟩ | ⟨q1, q2⟩; exact q2; exact absurd q1 c139) (Or.inl c120)))
            | exact T_pick [0, 1, 2, 3, 4, 5] (ih (j + 1) (by omega) (by omega) _ P2 cb2 th2 (hI.set h10 hij (by omega) (by rcases hv with ⟨q1, q2⟩ | ⟨q1, q2⟩; exact q2; exact absurd q1 c139) (Or.inr (Int32.not_le.mp c126))))
        · refine T_aload_n dX12_hats_129 rfl ?_
          refine T_iload dX12_hats_130 rfl ?_
          refine T_iload dX12_hats_132 rfl ?_
          refine T_iload_n dX12_hats_134 rfl ?_
          refine T_iload_n dX12_hats_135 rfl ?_
          refine T_v4q (cu2 := 0) (su2 := 0) dX12_hats_136 lv_X12_211 rfl (mH_get hA rfl) rfl (c_X12_isByTwo hA hM hL hW hs hn hi (show j < L_h L by omega) hij) (nb rfl) (nb rfl) (nb rfl) (nb rfl) (nb rfl) (fun r136 h136 q136 => ?_)
          obtain ⟨⟨v, rfl, hv⟩, P2, cb2, th2, rfl⟩ := q136
          refine T_if_eq (tgt := 145) dX12_hats_139 (by decide) (fun c139 => ?_) (fun c139 => ?_)
          · refine T_iincN dX12_hats_145 rfl (by decide) rfl ?_
            refine T_goto (tgt := 97) dX12_hats_148 (by decide) ?_
            first
              | exact T_pick [0, 1, 2, 3, 4, 5] (ih (j + 1) (by omega) (by omega) x P cb th (hI.big h10 hij (by omega) c120 c126))
              | exact T_pick [0, 1, 2, 3, 4, 5] (ih (j + 1) (by omega) (by omega) x P2 cb2 th2 (hI.no (by rcases hv with ⟨q1, q2⟩ | ⟨q1, q2⟩; exact absurd (q1.symm.trans c139) (by decide); exact q2)))
              | exact T_pick [0, 1, 2, 3, 4, 5] (ih (j + 1) (by omega) (by omega) _ P2 cb2 th2 (hI.set h10 hij (by omega) (by rcases hv with ⟨q1, q2⟩ | ⟨q1, q2⟩; exact q2; exact absurd q1 c139) (Or.inl c120)))
              | exact T_pick [0, 1, 2, 3, 4, 5] (ih (j + 1) (by omega) (by omega) _ P2 cb2 th2 (hI.set h10 hij (by omega) (by rcases hv with ⟨q1, q2⟩ | ⟨q1, q2⟩; exact q2; exact absurd q1 c139) (Or.inr (Int32.not_le.mp c126))))
          · refine T_iload dX12_hats_142 rfl ?_
            refine T_istore_n dX12_hats_144 (by decide) rfl ?_
            refine T_iincN dX12_hats_145 rfl (by decide) rfl ?_
            refine T_goto (tgt := 97) dX12_hats_148 (by decide) ?_
            first
              | exact T_pick [0, 1, 2, 3, 4, 5] (ih (j + 1) (by omega) (by omega) x P cb th (hI.big h10 hij (by omega) c120 c126))
              | exact T_pick [0, 1, 2, 3, 4, 5] (ih (j + 1) (by omega) (by omega) x P2 cb2 th2 (hI.no (by rcases hv with ⟨q1, q2⟩ | ⟨q1, q2⟩; exact absurd (q1.symm.trans c139) (by decide); exact q2)))
              | exact T_pick [0, 1, 2, 3, 4, 5] (ih (j + 1) (by omega) (by omega) _ P2 cb2 th2 (hI.set h10 hij (by omega) (by rcases hv with ⟨q1, q2⟩ | ⟨q1, q2⟩; exact q2; exact absurd q1 c139) (Or.inl c120)))
              | exact T_pick [0, 1, 2, 3, 4, 5] (ih (j + 1) (by omega) (by omega) _ P2 cb2 th2 (hI.set h10 hij (by omega) (by rcases hv with ⟨q1, q2⟩ | ⟨q1, q2⟩; exact q2; exact absurd q1 c139) (Or.inr (Int32.not_le.mp c126))))
theorem lp_X12_hats_151 {i : Nat} {x a b : Int32} {hh : XH} (K : T M_X12_hats x_E Z 0 0 82 [(0, .ref 67), (1, .int a), (2, .int b), (3, .int x), (4, .int (nI (i + 1)))] [] hh) : T M_X12_hats x_E Z 0 0 151 [(0, .ref 67), (1, .int a), (2, .int b), (3, .int x), (4, .int (nI i))] [] hh := by
  refine T_iincN dX12_hats_151 rfl (by decide) rfl ?_
  refine T_goto (tgt := 82) dX12_hats_154 (by decide) ?_
  exact K
theorem lp_X12_hats_2 (hA : A.length = 67) (hM : MR u L) (hL : LOk L) (hW : MW u L wn) (hs : s < 8) (hn : n ≤ 10) (hT : ¬ InT L wn s n) (hO : ∀ g, g < L_h L → ¬ One L wn s n g) : ∀ r i, i + r = L_h L → ∀ (x : Int32) (P cb th : Nat → Int32), InvB L wn s n i 0 x → T M_X12_hats x_E (x_Z M_X12_hats (HtQ L wn s n u A B)) 0 0 82 [(0, .ref 67), (1, .int (nI s)), (2, .int (nI n)), (3, .int x), (4, .int (nI i))] [] (mH A (mm u P cb th) B) := by
  have h10 := hL.2.1
  intro r
  induction r with
  | zero =>
    intro i hi x P cb th hI
    refine T_iload dX12_hats_82 rfl ?_
    refine T_aload_n dX12_hats_84 rfl ?_
    refine T_get dX12_hats_85 fl_X12_78_12 (mH_get hA rfl) rfl ?_
    refine T_top hM.2.1 ?_
    refine T_icmp_geN (tgt := 157) dX12_hats_88 (by decide) (by omega) (by omega) (fun c88 => ?_) (fun c88 => ?_)
    · refine T_iload_n dX12_hats_157 rfl ?_
      refine T_iret dX12_hats_158 rfl (nb rfl) (nb rfl) ?_
      refine ⟨⟨x, rfl, Or.inr ⟨hT, Or.inr ⟨hO, ?_⟩⟩⟩, P, cb, th, rfl⟩
      rcases hI with ⟨q1, q2⟩ | ⟨a, b, q1, q2, q3, q4⟩
      · exact Or.inr ⟨fun a b ab hb => q2 a b (by omega), q1⟩
      · exact Or.inl ⟨a, b, q1.1, q1.2.1, q2, fun a' b' ab hb t => q4 a' b' (by omega) t, q3⟩
    · omega
  | succ r ih =>
    intro i hi x P cb th hI
    refine T_iload dX12_hats_82 rfl ?_
    refine T_aload_n dX12_hats_84 rfl ?_
    refine T_get dX12_hats_85 fl_X12_78_12 (mH_get hA rfl) rfl ?_
    refine T_top hM.2.1 ?_
    refine T_icmp_geN (tgt := 157) dX12_hats_88 (by decide) (by omega) (by omega) (fun c88 => ?_) (fun c88 => ?_)
    · omega
    · refine T_iload dX12_hats_91 rfl ?_
      refine T_iconst (v := nI 1) dX12_hats_93 (by decide) ?_
      refine T_iaddN dX12_hats_94 ?_
      refine T_istore dX12_hats_95 (by decide) rfl ?_
      exact lp_X12_hats_3 hA hM hL hW hs hn (show i < L_h L by omega) (fun x2 P2 cb2 th2 hI2 => lp_X12_hats_151 (ih (i + 1) (by omega) x2 P2 cb2 th2 hI2)) (L_h L - (i + 1)) (i + 1) (by omega) (by omega) x P cb th (hI.of fun a b => by constructor <;> intro q <;> omega)
theorem lp_X12_hats_1 (hA : A.length = 67) (hM : MR u L) (hL : LOk L) (hW : MW u L wn) (hs : s < 8) (hn : n ≤ 10) (hT : ¬ InT L wn s n) : ∀ r h, h + r = L_h L → (∀ g, g < h → ¬ One L wn s n g) → ∀ (P cb th : Nat → Int32), T M_X12_hats x_E (x_Z M_X12_hats (HtQ L wn s n u A B)) 0 0 48 [(0, .ref 67), (1, .int (nI s)), (2, .int (nI n)), (3, .int (nI h))] [] (mH A (mm u P cb th) B) := by
  have h10 := hL.2.1
  intro r
  induction r with
  | zero =>
    intro h hh hno P cb th
    refine T_iload_n dX12_hats_48 rfl ?_
    refine T_aload_n dX12_hats_49 rfl ?_
    refine T_get dX12_hats_50 fl_X12_78_12 (mH_get hA rfl) rfl ?_
    refine T_top hM.2.1 ?_
    refine T_icmp_geN (tgt := 76) dX12_hats_53 (by decide) (by omega) (by omega) (fun c53 => ?_) (fun c53 => ?_)
    · refine T_bipush (v := (-9)) dX12_hats_76 (by decide) ?_
      refine T_istore_n dX12_hats_78 (by decide) rfl ?_
      refine T_iconst (v := 0) dX12_hats_79 (by decide) ?_
      refine T_istore dX12_hats_80 (by decide) rfl ?_
      exact lp_X12_hats_2 hA hM hL hW hs hn hT (fun g hg => hno g (by omega)) (L_h L) 0 (by omega) (-9) P cb th (Or.inl ⟨rfl, fun a b q => absurd q (by omega)⟩)
    · omega
  | succ r ih =>
    intro h hh hno P cb th
    refine T_iload_n dX12_hats_48 rfl ?_
    refine T_aload_n dX12_hats_49 rfl ?_
    refine T_get dX12_hats_50 fl_X12_78_12 (mH_get hA rfl) rfl ?_
    refine T_top hM.2.1 ?_
    refine T_icmp_geN (tgt := 76) dX12_hats_53 (by decide) (by omega) (by omega) (fun c53 => ?_) (fun c53 => ?_)
    · omega
    · refine T_aload_n dX12_hats_56 rfl ?_
      refine T_iload_n dX12_hats_57 rfl ?_
      refine T_iload_n dX12_hats_58 rfl ?_
      refine T_iload_n dX12_hats_59 rfl ?_
      refine T_v3q (cu2 := 0) (su2 := 0) dX12_hats_60 lv_X12_208 rfl (mH_get hA rfl) rfl (c_X12_isByOne hA hM hL hW hs hn (show h < L_h L by omega)) (nb rfl) (nb rfl) (nb rfl) (nb rfl) (nb rfl) (fun r60 h60 q60 => ?_)
      obtain ⟨⟨v, rfl, hv⟩, P2, cb2, th2, rfl⟩ := q60
      refine T_if_eq (tgt := 70) dX12_hats_63 (by decide) (fun c63 => ?_) (fun c63 => ?_)
      · refine T_iincN dX12_hats_70 rfl (by decide) rfl ?_
        refine T_goto (tgt := 48) dX12_hats_73 (by decide) ?_
        refine ih (h + 1) (by omega) (fun g hg => ?_) P2 cb2 th2
        by_cases e : g = h
        · subst e
          rcases hv with ⟨q1, q2⟩ | ⟨q1, q2⟩
          · exact absurd (q1.symm.trans c63) (by decide)
          · exact q2
        · exact hno g (by omega)
      · refine T_iconst (v := 1) dX12_hats_66 (by decide) ?_
        refine T_iload_n dX12_hats_67 rfl ?_
        refine T_ishl dX12_hats_68 ?_
        refine T_iret dX12_hats_69 rfl (nb rfl) (nb rfl) ?_
        refine ⟨⟨_, rfl, Or.inr ⟨hT, Or.inl ⟨h, by omega, ?_, hno, sh_N h (by omega)⟩⟩⟩, P2, cb2, th2, rfl⟩
        rcases hv with ⟨q1, q2⟩ | ⟨q1, q2⟩
        · exact q2
        · exact absurd q1 c63
def HtA (L : LK) (wn : Nat → Nat) (set n a : Int32) : Prop := if L_n L = 0 then a = -3 else if 0 ≤ set ∧ set ≤ nI (allN L) then (if 0 ≤ n ∧ n ≤ 10 then HtR L wn set.toNatClampNeg n.toNatClampNeg a else a = -2) else a = -2
theorem c_X12_hats (hA : A.length = 67) (hM : MR u L) (hL : LOk L) (hW : MW u L wn) (set n : Int32) : Con M_X12_hats [.ref 67, .int set, .int n] (mH A u B) (fun q h' => (∃ v, q = some (.int v) ∧ HtA L wn set n v) ∧ mmE u A B h') := by
  have h3 := hL.2.2.1
  have h8 := allN_lt hL
  have eall := eall_N hM hL
  refine Con.of rfl (nb rfl) ?_
  refine T_h (mm_id (u := u)) ?_
  by_cases hset : (0 ≤ set ∧ set ≤ nI (allN L)) ∧ 0 ≤ n ∧ n ≤ 10
  · obtain ⟨hset, hnn⟩ := hset
    obtain ⟨s, hs, rfl⟩ := setN (by omega) hset
    obtain ⟨m, hm, rfl⟩ := setN (a := 10) (by omega) hnn
    have cs : (nI s).toNatClampNeg = s := nI_clamp (by omega)
    have cm : (nI m).toNatClampNeg = m := nI_clamp (by omega)
    have hq : L_n L ≠ 0 → ∀ v, HtR L wn s m v → HtA L wn (nI s) (nI m) v := fun c v hv => by unfold HtA; rw [if_neg c, if_pos hset, if_pos hnn, cs, cm]; exact hv
    refine T_aload_n dX12_hats_0 rfl ?_
    refine T_get dX12_hats_1 fl_X12_75_12 (mH_get hA rfl) rfl ?_
    refine T_top hM.2.2.1 ?_
    refine T_if_neN (tgt := 10) dX12_hats_4 (by decide) (by omega) (fun c4 => ?_) (fun c4 => ?_)
    · refine T_iload_n dX12_hats_10 rfl ?_
      refine T_iconst (v := 0) dX12_hats_11 (by decide) ?_
      refine T_aload_n dX12_hats_12 rfl ?_
      refine T_v0e (cu2 := 0) (su2 := 0) dX12_hats_13 lv_X12_153 rfl (mH_get hA rfl) rfl (c_X12_all hA) (nb rfl) (nb rfl) (nb rfl) (nb rfl) (nb rfl) ?_
      refine T_top eall ?_
      refine T_s3e (cu2 := 0) (su2 := 0) dX12_hats_16 ls_X12_71 rfl (c_X12_within _ _ _) (nb rfl) (nb rfl) (nb rfl) (nb rfl) (nb rfl) ?_
      refine T_if_eqB (tgt := 32) dX12_hats_19 (by decide) (fun c19 => ?_) (fun c19 => ?_)
      · exact absurd hset c19
      · refine T_iload_n dX12_hats_22 rfl ?_
        refine T_iconst (v := 0) dX12_hats_23 (by decide) ?_
        refine T_bipush (v := 10) dX12_hats_24 (by decide) ?_
        refine T_s3e (cu2 := 0) (su2 := 0) dX12_hats_26 ls_X12_71 rfl (c_X12_within _ _ _) (nb rfl) (nb rfl) (nb rfl) (nb rfl) (nb rfl) ?_
        refine T_if_neB (tgt := 35) dX12_hats_29 (by decide) (fun c29 => ?_) (fun c29 => ?_)
        · refine T_aload_n dX12_hats_35 rfl ?_
          refine T_iload_n dX12_hats_36 rfl ?_
          refine T_iload_n dX12_hats_37 rfl ?_
          refine T_v2q (cu2 := 0) (su2 := 0) dX12_hats_38 lv_X12_205 rfl (mH_get hA rfl) rfl (c_X12_isInTime hA hM hL hW (show s < 8 by omega) hm) (nb rfl) (nb rfl) (nb rfl) (nb rfl) (nb rfl) (fun r38 h38 q38 => ?_)
          obtain ⟨⟨v, rfl, hv⟩, P2, cb2, th2, rfl⟩ := q38
          refine T_if_eq (tgt := 46) dX12_hats_41 (by decide) (fun c41 => ?_) (fun c41 => ?_)
          · refine T_iconst (v := 0) dX12_hats_46 (by decide) ?_
            refine T_istore_n dX12_hats_47 (by decide) rfl ?_
            refine T_Q (Qa := HtQ L wn s m u A B) (fun r h' hh => ?_) (lp_X12_hats_1 hA hM hL hW (by omega) hm ?_ (L_h L) 0 (by omega) (fun g hg => absurd hg (by omega)) P2 cb2 th2)
            · obtain ⟨⟨v, rfl, hv⟩, hm2⟩ := hh
              exact ⟨⟨v, rfl, hq c4 v hv⟩, hm2⟩
            · rcases hv with ⟨q1, q2⟩ | ⟨q1, q2⟩
              · exact absurd (q1.symm.trans c41) (by decide)
              · exact q2
          · refine T_iconst (v := 0) dX12_hats_44 (by decide) ?_
            refine T_iret dX12_hats_45 rfl (nb rfl) (nb rfl) ?_
            refine ⟨⟨0, rfl, hq c4 _ (Or.inl ⟨?_, rfl⟩)⟩, _, _, _, rfl⟩
            rcases hv with ⟨q1, q2⟩ | ⟨q1, q2⟩
            · exact q2
            · exact absurd q1 c41
        · exact absurd hnn c29
    · refine T_bipush (v := (-3)) dX12_hats_7 (by decide) ?_
      refine T_iret dX12_hats_9 rfl (nb rfl) (nb rfl) ?_
      exact ⟨⟨-3, rfl, by unfold HtA; rw [if_pos c4]⟩, _, _, _, rfl⟩
  · have hq : L_n L ≠ 0 → HtA L wn set n (-2) := fun c => by
      unfold HtA
      rw [if_neg c]
      by_cases e : 0 ≤ set ∧ set ≤ nI (allN L)
      · rw [if_pos e, if_neg (fun q => hset ⟨e, q⟩)]
      · rw [if_neg e]
    refine T_aload_n dX12_hats_0 rfl ?_
    refine T_get dX12_hats_1 fl_X12_75_12 (mH_get hA rfl) rfl ?_
    refine T_top hM.2.2.1 ?_
    refine T_if_neN (tgt := 10) dX12_hats_4 (by decide) (by omega) (fun c4 => ?_) (fun c4 => ?_)
    · refine T_iload_n dX12_hats_10 rfl ?_
      refine T_iconst (v := 0) dX12_hats_11 (by decide) ?_
      refine T_aload_n dX12_hats_12 rfl ?_
      refine T_v0e (cu2 := 0) (su2 := 0) dX12_hats_13 lv_X12_153 rfl (mH_get hA rfl) rfl (c_X12_all hA) (nb rfl) (nb rfl) (nb rfl) (nb rfl) (nb rfl) ?_
      refine T_top eall ?_
      refine T_s3e (cu2 := 0) (su2 := 0) dX12_hats_16 ls_X12_71 rfl (c_X12_within _ _ _) (nb rfl) (nb rfl) (nb rfl) (nb rfl) (nb rfl) ?_
      refine T_if_eqB (tgt := 32) dX12_hats_19 (by decide) (fun c19 => ?_) (fun c19 => ?_)
      · refine T_bipush (v := (-2)) dX12_hats_32 (by decide) ?_
        refine T_iret dX12_hats_34 rfl (nb rfl) (nb rfl) ?_
        exact ⟨⟨-2, rfl, hq c4⟩, _, _, _, rfl⟩
      · refine T_iload_n dX12_hats_22 rfl ?_
        refine T_iconst (v := 0) dX12_hats_23 (by decide) ?_
        refine T_bipush (v := 10) dX12_hats_24 (by decide) ?_
        refine T_s3e (cu2 := 0) (su2 := 0) dX12_hats_26 ls_X12_71 rfl (c_X12_within _ _ _) (nb rfl) (nb rfl) (nb rfl) (nb rfl) (nb rfl) ?_
        refine T_if_neB (tgt := 35) dX12_hats_29 (by decide) (fun c29 => ?_) (fun c29 => ?_)
        · exact absurd ⟨c19, c29⟩ hset
        · refine T_bipush (v := (-2)) dX12_hats_32 (by decide) ?_
          refine T_iret dX12_hats_34 rfl (nb rfl) (nb rfl) ?_
          exact ⟨⟨-2, rfl, hq c4⟩, _, _, _, rfl⟩
    · refine T_bipush (v := (-3)) dX12_hats_7 (by decide) ?_
      refine T_iret dX12_hats_9 rfl (nb rfl) (nb rfl) ?_
      exact ⟨⟨-3, rfl, by unfold HtA; rw [if_pos c4]⟩, _, _, _, rfl⟩
theorem bitx_N : ∀ n, n ≤ 3 → ∀ b, b < n → nI (2 ^ n - 1) &&& ((1 : Int32) <<< (nI b &&& 31) ^^^ (-1)) = nI (2 ^ n - 1 - 2 ^ b) := by decide
/-- rid's answer -/
def RdA (L : LK) (wn : Nat → Nat) (b a : Int32) : Prop := if 0 ≤ b ∧ b < nI (L_n L) then (∃ x, SoR L wn (allN L) (L_h L) x ∧ ((x = -9 ∧ a = -9) ∨ (¬ x = -9 ∧ ∃ y, SoR L wn (allN L - 2 ^ b.toNatClampNeg) (L_h L) y ∧ a = x - y))) else a = -1
theorem c_X12_rid (hA : A.length = 67) (hM : MR u L) (hL : LOk L) (hW : MW u L wn) (b : Int32) : Con M_X12_rid [.ref 67, .int b] (mH A u B) (fun q h' => (∃ v, q = some (.int v) ∧ RdA L wn b v) ∧ mmE u A B h') := by
  have h3 := hL.2.2.1
  have h8 := allN_lt hL
  have eall := eall_N hM hL
  refine Con.of rfl (nb rfl) ?_
  refine T_h (mm_id (u := u)) ?_
  by_cases hb : 0 ≤ b ∧ b < nI (L_n L)
  · obtain ⟨j, hj, rfl⟩ := nI_of (show ¬ b < 0 by rw [Int32.not_lt]; exact hb.1)
    have hjn : j < L_n L := (nI_ltI hj (by omega)).mp hb.2
    have cj : (nI j).toNatClampNeg = j := nI_clamp hj
    have ebit : nI (allN L) &&& ((1 : Int32) <<< (nI j &&& 31) ^^^ (-1)) = nI (allN L - 2 ^ j) := bitx_N _ h3 j hjn
    refine T_aload_n dX12_rid_0 rfl ?_
    refine T_iload_n dX12_rid_1 rfl ?_
    refine T_v1e (cu2 := 0) (su2 := 0) dX12_rid_2 lv_X12_134 rfl (mH_get hA rfl) rfl (c_X12_isBoat hA _) (nb rfl) (nb rfl) (nb rfl) (nb rfl) (nb rfl) ?_
    refine T_if_neB (tgt := 10) dX12_rid_5 (by decide) (fun c5 => ?_) (fun c5 => ?_)
    · refine T_aload_n dX12_rid_10 rfl ?_
      refine T_aload_n dX12_rid_11 rfl ?_
      refine T_v0e (cu2 := 0) (su2 := 0) dX12_rid_12 lv_X12_153 rfl (mH_get hA rfl) rfl (c_X12_all hA) (nb rfl) (nb rfl) (nb rfl) (nb rfl) (nb rfl) ?_
      refine T_top eall ?_
      refine T_v1q (cu2 := 0) (su2 := 0) dX12_rid_15 lv_X12_202 rfl (mH_get hA rfl) rfl (c_X12_soonestOf hA hM hL hW h8) (nb rfl) (nb rfl) (nb rfl) (nb rfl) (nb rfl) (fun r15 h15 q15 => ?_)
      obtain ⟨⟨v, rfl, hv⟩, P2, cb2, th2, rfl⟩ := q15
      refine T_istore_n dX12_rid_18 (by decide) rfl ?_
      refine T_iload_n dX12_rid_19 rfl ?_
      refine T_bipush (v := (-9)) dX12_rid_20 (by decide) ?_
      refine T_icmp_ne (tgt := 30) dX12_rid_22 (by decide) (fun c22 => ?_) (fun c22 => ?_)
      · refine T_iload_n dX12_rid_30 rfl ?_
        refine T_aload_n dX12_rid_31 rfl ?_
        refine T_aload_n dX12_rid_32 rfl ?_
        refine T_v0e (cu2 := 0) (su2 := 0) dX12_rid_33 lv_X12_153 rfl (mH_get hA rfl) rfl (c_X12_all hA) (nb rfl) (nb rfl) (nb rfl) (nb rfl) (nb rfl) ?_
        refine T_top eall ?_
        refine T_iconst (v := 1) dX12_rid_36 (by decide) ?_
        refine T_iload_n dX12_rid_37 rfl ?_
        refine T_ishl dX12_rid_38 ?_
        refine T_iconst (v := (-1)) dX12_rid_39 (by decide) ?_
        refine T_ixor dX12_rid_40 ?_
        refine T_iand dX12_rid_41 ?_
        refine T_top ebit ?_
        refine T_v1q (cu2 := 0) (su2 := 0) dX12_rid_42 lv_X12_202 rfl (mH_get hA rfl) rfl (c_X12_soonestOf hA hM hL hW (Nat.lt_of_le_of_lt (Nat.sub_le _ _) h8)) (nb rfl) (nb rfl) (nb rfl) (nb rfl) (nb rfl) (fun r42 h42 q42 => ?_)
        obtain ⟨⟨v2, rfl, hv2⟩, P3, cb3, th3, rfl⟩ := q42
        refine T_isub dX12_rid_45 ?_
        refine T_iret dX12_rid_46 rfl (nb rfl) (nb rfl) ?_
        first
          | exact ⟨⟨_, rfl, by unfold RdA; rw [if_pos hb, cj]; exact ⟨v, hv, Or.inl ⟨c22, rfl⟩⟩⟩, _, _, _, rfl⟩
          | exact ⟨⟨_, rfl, by unfold RdA; rw [if_pos hb, cj]; exact ⟨v, hv, Or.inr ⟨c22, v2, hv2, rfl⟩⟩⟩, _, _, _, rfl⟩
      · refine T_bipush (v := (-9)) dX12_rid_25 (by decide) ?_
        refine T_goto (tgt := 46) dX12_rid_27 (by decide) ?_
        refine T_iret dX12_rid_46 rfl (nb rfl) (nb rfl) ?_
        first
          | exact ⟨⟨_, rfl, by unfold RdA; rw [if_pos hb, cj]; exact ⟨v, hv, Or.inl ⟨c22, rfl⟩⟩⟩, _, _, _, rfl⟩
          | exact ⟨⟨_, rfl, by unfold RdA; rw [if_pos hb, cj]; exact ⟨v, hv, Or.inr ⟨c22, v2, hv2, rfl⟩⟩⟩, _, _, _, rfl⟩
    · exact absurd (by rw [hM.2.2.1]; exact hb) c5
  · skip
    refine T_aload_n dX12_rid_0 rfl ?_
    refine T_iload_n dX12_rid_1 rfl ?_
    refine T_v1e (cu2 := 0) (su2 := 0) dX12_rid_2 lv_X12_134 rfl (mH_get hA rfl) rfl (c_X12_isBoat hA _) (nb rfl) (nb rfl) (nb rfl) (nb rfl) (nb rfl) ?_
    refine T_if_neB (tgt := 10) dX12_rid_5 (by decide) (fun c5 => ?_) (fun c5 => ?_)
    · exact absurd (by rw [← hM.2.2.1]; exact c5) hb
    · refine T_iconst (v := (-1)) dX12_rid_8 (by decide) ?_
      refine T_iret dX12_rid_9 rfl (nb rfl) (nb rfl) ?_
      exact ⟨⟨-1, rfl, by unfold RdA; rw [if_neg hb]⟩, _, _, _, rfl⟩
end M13
