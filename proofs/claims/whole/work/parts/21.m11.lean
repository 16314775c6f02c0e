/-! the reference: hats -/
section M12
variable {A B : XH} {u : MSt} {h : XH} {Z : XZ} {L : LK} {wn : Nat → Nat} {s n : Nat}
def uw (wn : Nat → Nat) (g v : Nat) : Nat → Nat := fun j => if j = g then v else wn j
abbrev uW (u : MSt) (W : Nat → Int32) : MSt := (u.1, va_up u.2 9 W)
def One (L : LK) (wn : Nat → Nat) (s n g : Nat) : Prop := ∃ v, v < 3 ∧ InT L (uw wn g v) s n
def Two (L : LK) (wn : Nat → Nat) (s n a b : Nat) : Prop := ∃ x y, x < 3 ∧ y < 3 ∧ InT L (uw (uw wn a x) b y) s n
abbrev mmE (u : MSt) (A B : XH) (h' : XH) : Prop := ∃ P cb th, h' = mH A (mm u P cb th) B
theorem MW_uw {W : Nat → Int32} {g v : Nat} (hW : MW (uW u W) L wn) (hv : v < 3) : MW (uW u (upd W g (nI v))) L (uw wn g v) := by
  intro j hj
  show upd W g (nI v) j = nI (uw wn g v j) ∧ uw wn g v j ≤ 2
  unfold uw
  by_cases e : j = g
  · subst e
    rw [if_pos rfl, upd_s]
    exact ⟨rfl, by omega⟩
  · rw [if_neg e, upd_n e]
    exact hW j hj
theorem lp_X12_isByOne (hA : A.length = 67) (hM : MR u L) (hL : LOk L) (hW : MW u L wn) (hs : s < 8) (hn : n ≤ 10) {g : Nat} (hg : g < L_h L) : ∀ r v, v + r = 3 → ∀ (W P cb th : Nat → Int32) (f : Int32), (∀ j, j ≠ g → W j = u.2 9 j) → ((f = 0 ∧ ∀ x, x < v → ¬ InT L (uw wn g x) s n) ∨ (f = 1 ∧ One L wn s n g)) →
    T M_X12_isByOne x_E (x_Z M_X12_isByOne (fun a h' => (∃ v, a = some (.int v) ∧ yn (One L wn s n g) v) ∧ mmE u A B h')) 0 0 14 [(0, .ref 67), (1, .int (nI g)), (2, .int (nI s)), (3, .int (nI n)), (4, .int (nI (wn g))), (5, .int f), (6, .int (nI v))] [] (mH A (mm (uW u W) P cb th) B) := by
  have h10 := hL.2.1
  have fin : ∀ W : Nat → Int32, (∀ j, j ≠ g → W j = u.2 9 j) → upd W g (nI (wn g)) = u.2 9 := fun W hw => by
    funext j
    by_cases e : j = g
    · subst e; rw [upd_s]; exact (hW j hg).1.symm
    · rw [upd_n e]; exact hw j e
  intro r
  induction r with
  | zero =>
    intro v hv W P cb th f hw hf
    have hz : narrow .boolean (.int f) = .int f := by rcases hf with ⟨q, -⟩ | ⟨q, -⟩ <;> rw [q] <;> rfl
    refine T_iload dX12_isByOne_14 rfl ?_
    refine T_iconst (v := nI 3) dX12_isByOne_16 (by decide) ?_
    refine T_icmp_geN (tgt := 47) dX12_isByOne_17 (by decide) (by omega) (by omega) (fun c17 => ?_) (fun c17 => ?_)
    · refine T_aload_n dX12_isByOne_47 rfl ?_
      refine T_get dX12_isByOne_48 fl_X12_23_12 (mH_get hA rfl) rfl ?_
      refine T_iload_n dX12_isByOne_51 rfl ?_
      refine T_iload dX12_isByOne_52 rfl ?_
      refine T_iastN dX12_isByOne_54 (mH_get hA rfl) (by omega) (by decide) ?_
      refine T_h (h2 := mH A (mm (uW u (upd W g (nI (wn g)))) P cb th) B) (mH_set (k := 5) hA (nb rfl) rfl) ?_
      refine T_h (h2 := mH A (mm u P cb th) B) (by rw [fin W hw]; rfl) ?_
      refine T_iload dX12_isByOne_55 rfl ?_
      refine T_zret dX12_isByOne_57 rfl hz (nb rfl) (nb rfl) ?_
      refine ⟨⟨f, rfl, ?_⟩, P, cb, th, rfl⟩
      rcases hf with ⟨q1, q2⟩ | ⟨q1, q2⟩
      · exact Or.inr ⟨q1, fun ⟨x, x1, x2⟩ => q2 x (by omega) x2⟩
      · exact Or.inl ⟨q1, q2⟩
    · omega
  | succ r ih =>
    intro v hv W P cb th f hw hf
    have hz : narrow .boolean (.int f) = .int f := by rcases hf with ⟨q, -⟩ | ⟨q, -⟩ <;> rw [q] <;> rfl
    refine T_iload dX12_isByOne_14 rfl ?_
    refine T_iconst (v := nI 3) dX12_isByOne_16 (by decide) ?_
    refine T_icmp_geN (tgt := 47) dX12_isByOne_17 (by decide) (by omega) (by omega) (fun c17 => ?_) (fun c17 => ?_)
    · omega
    · refine T_iload dX12_isByOne_20 rfl ?_
      refine T_if_ne (tgt := 47) dX12_isByOne_22 (by decide) (fun c22 => ?_) (fun c22 => ?_)
      · refine T_aload_n dX12_isByOne_47 rfl ?_
        refine T_get dX12_isByOne_48 fl_X12_23_12 (mH_get hA rfl) rfl ?_
        refine T_iload_n dX12_isByOne_51 rfl ?_
        refine T_iload dX12_isByOne_52 rfl ?_
        refine T_iastN dX12_isByOne_54 (mH_get hA rfl) (by omega) (by decide) ?_
        refine T_h (h2 := mH A (mm (uW u (upd W g (nI (wn g)))) P cb th) B) (mH_set (k := 5) hA (nb rfl) rfl) ?_
        refine T_h (h2 := mH A (mm u P cb th) B) (by rw [fin W hw]; rfl) ?_
        refine T_iload dX12_isByOne_55 rfl ?_
        refine T_zret dX12_isByOne_57 rfl hz (nb rfl) (nb rfl) ?_
        refine ⟨⟨f, rfl, ?_⟩, P, cb, th, rfl⟩
        rcases hf with ⟨q1, q2⟩ | ⟨q1, q2⟩
        · exact absurd q1 c22
        · exact Or.inl ⟨q1, q2⟩
      · refine T_aload_n dX12_isByOne_25 rfl ?_
        refine T_get dX12_isByOne_26 fl_X12_23_12 (mH_get hA rfl) rfl ?_
        refine T_iload_n dX12_isByOne_29 rfl ?_
        refine T_iload dX12_isByOne_30 rfl ?_
        refine T_iastN dX12_isByOne_32 (mH_get hA rfl) (by omega) (by decide) ?_
        refine T_h (h2 := mH A (mm (uW u (upd W g (nI v))) P cb th) B) (mH_set (k := 5) hA (nb rfl) rfl) ?_
        refine T_aload_n dX12_isByOne_33 rfl ?_
        refine T_iload_n dX12_isByOne_34 rfl ?_
        refine T_iload_n dX12_isByOne_35 rfl ?_
        have hW2 : MW (uW u (upd W g (nI v))) L (uw wn g v) := fun j hj => by
          show upd W g (nI v) j = nI (uw wn g v j) ∧ uw wn g v j ≤ 2
          unfold uw
          by_cases e : j = g
          · subst e; rw [if_pos rfl, upd_s]; exact ⟨rfl, by omega⟩
          · rw [if_neg e, upd_n e, hw j e]; exact hW j hj
        refine T_v2q (cu2 := 0) (su2 := 0) dX12_isByOne_36 lv_X12_205 rfl (mH_get hA rfl) rfl (c_X12_isInTime (u := uW u (upd W g (nI v))) (wn := uw wn g v) hA hM hL hW2 hs hn) (nb rfl) (nb rfl) (nb rfl) (nb rfl) (nb rfl) (fun r36 h36 q36 => ?_)
        obtain ⟨⟨f2, rfl, hf2⟩, P2, cb2, th2, rfl⟩ := q36
        refine T_istore dX12_isByOne_39 (by decide) rfl ?_
        refine T_iincN dX12_isByOne_41 rfl (by decide) rfl ?_
        refine T_goto (tgt := 14) dX12_isByOne_44 (by decide) ?_
        refine ih (v + 1) (by omega) (upd W g (nI v)) P2 cb2 th2 f2 (fun j hj => by rw [upd_n hj]; exact hw j hj) ?_
        rcases hf2 with ⟨q1, q2⟩ | ⟨q1, q2⟩
        · exact Or.inr ⟨q1, v, by omega, q2⟩
        · refine Or.inl ⟨q1, fun x hx => ?_⟩
          by_cases e : x = v
          · subst e; exact q2
          · rcases hf with ⟨-, q4⟩ | ⟨q3, -⟩
            · exact q4 x (by omega)
            · exact absurd (q3.symm.trans c22) (by decide)
theorem c_X12_isByOne (hA : A.length = 67) (hM : MR u L) (hL : LOk L) (hW : MW u L wn) (hs : s < 8) (hn : n ≤ 10) {g : Nat} (hg : g < L_h L) {P cb th : Nat → Int32} : Con M_X12_isByOne [.ref 67, .int (nI g), .int (nI s), .int (nI n)] (mH A (mm u P cb th) B) (fun a h' => (∃ v, a = some (.int v) ∧ yn (One L wn s n g) v) ∧ mmE u A B h') := by
  have h10 := hL.2.1
  refine Con.of rfl (nb rfl) ?_
  refine T_aload_n dX12_isByOne_0 rfl ?_
  refine T_get dX12_isByOne_1 fl_X12_23_12 (mH_get hA rfl) rfl ?_
  refine T_iload_n dX12_isByOne_4 rfl ?_
  refine T_ialdN dX12_isByOne_5 (mH_get hA rfl) (by omega) (by decide) ?_
  refine T_top (show (mm u P cb th).2 9 g = nI (wn g) from (hW g hg).1) ?_
  refine T_istore dX12_isByOne_6 (by decide) rfl ?_
  refine T_iconst (v := 0) dX12_isByOne_8 (by decide) ?_
  refine T_istore dX12_isByOne_9 (by decide) rfl ?_
  refine T_iconst (v := 0) dX12_isByOne_11 (by decide) ?_
  refine T_istore dX12_isByOne_12 (by decide) rfl ?_
  exact lp_X12_isByOne hA hM hL hW hs hn hg 3 0 (by omega) (u.2 9) P cb th 0 (fun _ _ => rfl) (Or.inl ⟨rfl, fun x hx => absurd hx (by omega)⟩)
theorem lp_X12_isByTwo (hA : A.length = 67) (hM : MR u L) (hL : LOk L) (hW : MW u L wn) (hs : s < 8) (hn : n ≤ 10) {a b : Nat} (ha : a < L_h L) (hb : b < L_h L) (hab : a < b) : ∀ r v, v + r = 9 → ∀ (W P cb th : Nat → Int32) (f : Int32), (∀ j, j ≠ a → j ≠ b → W j = u.2 9 j) → ((f = 0 ∧ ∀ x, x < v → ¬ InT L (uw (uw wn a (x / 3)) b (x % 3)) s n) ∨ (f = 1 ∧ Two L wn s n a b)) →
    T M_X12_isByTwo x_E (x_Z M_X12_isByTwo (fun q h' => (∃ v, q = some (.int v) ∧ yn (Two L wn s n a b) v) ∧ mmE u A B h')) 0 0 22 [(0, .ref 67), (1, .int (nI a)), (2, .int (nI b)), (3, .int (nI s)), (4, .int (nI n)), (5, .int (nI (wn a))), (6, .int (nI (wn b))), (7, .int f), (8, .int (nI v))] [] (mH A (mm (uW u W) P cb th) B) := by
  have h10 := hL.2.1
  have fin : ∀ W : Nat → Int32, (∀ j, j ≠ a → j ≠ b → W j = u.2 9 j) → upd (upd W a (nI (wn a))) b (nI (wn b)) = u.2 9 := fun W hw => by
    funext j
    by_cases e : j = b
    · subst e; rw [upd_s]; exact (hW j hb).1.symm
    · rw [upd_n e]
      by_cases e2 : j = a
      · subst e2; rw [upd_s]; exact (hW j ha).1.symm
      · rw [upd_n e2]; exact hw j e2 e
  intro r
  induction r with
  | zero =>
    intro v hv W P cb th f hw hf
    have hz : narrow .boolean (.int f) = .int f := by rcases hf with ⟨q, -⟩ | ⟨q, -⟩ <;> rw [q] <;> rfl
    refine T_iload dX12_isByTwo_22 rfl ?_
    refine T_bipush (v := nI 9) dX12_isByTwo_24 (by decide) ?_
    refine T_icmp_geN (tgt := 69) dX12_isByTwo_26 (by decide) (by omega) (by omega) (fun c26 => ?_) (fun c26 => ?_)
    · refine T_aload_n dX12_isByTwo_69 rfl ?_
      refine T_get dX12_isByTwo_70 fl_X12_23_12 (mH_get hA rfl) rfl ?_
      refine T_iload_n dX12_isByTwo_73 rfl ?_
      refine T_iload dX12_isByTwo_74 rfl ?_
      refine T_iastN dX12_isByTwo_76 (mH_get hA rfl) (by omega) (by decide) ?_
      refine T_h (h2 := mH A (mm (uW u (upd W a (nI (wn a)))) P cb th) B) (mH_set (k := 5) hA (nb rfl) rfl) ?_
      refine T_aload_n dX12_isByTwo_77 rfl ?_
      refine T_get dX12_isByTwo_78 fl_X12_23_12 (mH_get hA rfl) rfl ?_
      refine T_iload_n dX12_isByTwo_81 rfl ?_
      refine T_iload dX12_isByTwo_82 rfl ?_
      refine T_iastN dX12_isByTwo_84 (mH_get hA rfl) (by omega) (by decide) ?_
      refine T_h (h2 := mH A (mm (uW u (upd (upd W a (nI (wn a))) b (nI (wn b)))) P cb th) B) (mH_set (k := 5) hA (nb rfl) rfl) ?_
      refine T_h (h2 := mH A (mm u P cb th) B) (by rw [fin W hw]; rfl) ?_
      refine T_iload dX12_isByTwo_85 rfl ?_
      refine T_zret dX12_isByTwo_87 rfl hz (nb rfl) (nb rfl) ?_
      refine ⟨⟨f, rfl, ?_⟩, P, cb, th, rfl⟩
      rcases hf with ⟨q1, q2⟩ | ⟨q1, q2⟩
      · refine Or.inr ⟨q1, fun ⟨x, y, x1, x2, x3⟩ => q2 (3 * x + y) (by omega) ?_⟩
        rw [show (3 * x + y) / 3 = x by omega, show (3 * x + y) % 3 = y by omega]
        exact x3
      · exact Or.inl ⟨q1, q2⟩
    · omega
  | succ r ih =>
    intro v hv W P cb th f hw hf
    have hz : narrow .boolean (.int f) = .int f := by rcases hf with ⟨q, -⟩ | ⟨q, -⟩ <;> rw [q] <;> rfl
    have hv3 : v / 3 < 3 := by omega
    have hv4 : v % 3 < 3 := by omega
    have hW2 : MW (uW u (upd (upd W a (nI (v / 3))) b (nI (v % 3)))) L (uw (uw wn a (v / 3)) b (v % 3)) := fun j hj => by
      show upd (upd W a (nI (v / 3))) b (nI (v % 3)) j = nI (uw (uw wn a (v / 3)) b (v % 3) j) ∧ uw (uw wn a (v / 3)) b (v % 3) j ≤ 2
      unfold uw
      by_cases e : j = b
      · subst e; rw [if_pos rfl, upd_s]; exact ⟨rfl, by omega⟩
      · rw [if_neg e, upd_n e]
        by_cases e2 : j = a
        · subst e2; rw [if_pos rfl, upd_s]; exact ⟨rfl, by omega⟩
        · rw [if_neg e2, upd_n e2, hw j e2 e]; exact hW j hj
    refine T_iload dX12_isByTwo_22 rfl ?_
    refine T_bipush (v := nI 9) dX12_isByTwo_24 (by decide) ?_
    refine T_icmp_geN (tgt := 69) dX12_isByTwo_26 (by decide) (by omega) (by omega) (fun c26 => ?_) (fun c26 => ?_)
    · omega
    · refine T_iload dX12_isByTwo_29 rfl ?_
      refine T_if_ne (tgt := 69) dX12_isByTwo_31 (by decide) (fun c31 => ?_) (fun c31 => ?_)
      · refine T_aload_n dX12_isByTwo_69 rfl ?_
        refine T_get dX12_isByTwo_70 fl_X12_23_12 (mH_get hA rfl) rfl ?_
        refine T_iload_n dX12_isByTwo_73 rfl ?_
        refine T_iload dX12_isByTwo_74 rfl ?_
        refine T_iastN dX12_isByTwo_76 (mH_get hA rfl) (by omega) (by decide) ?_
        refine T_h (h2 := mH A (mm (uW u (upd W a (nI (wn a)))) P cb th) B) (mH_set (k := 5) hA (nb rfl) rfl) ?_
        refine T_aload_n dX12_isByTwo_77 rfl ?_
        refine T_get dX12_isByTwo_78 fl_X12_23_12 (mH_get hA rfl) rfl ?_
        refine T_iload_n dX12_isByTwo_81 rfl ?_
        refine T_iload dX12_isByTwo_82 rfl ?_
        refine T_iastN dX12_isByTwo_84 (mH_get hA rfl) (by omega) (by decide) ?_
        refine T_h (h2 := mH A (mm (uW u (upd (upd W a (nI (wn a))) b (nI (wn b)))) P cb th) B) (mH_set (k := 5) hA (nb rfl) rfl) ?_
        refine T_h (h2 := mH A (mm u P cb th) B) (by rw [fin W hw]; rfl) ?_
        refine T_iload dX12_isByTwo_85 rfl ?_
        refine T_zret dX12_isByTwo_87 rfl hz (nb rfl) (nb rfl) ?_
        refine ⟨⟨f, rfl, ?_⟩, P, cb, th, rfl⟩
        rcases hf with ⟨q1, q2⟩ | ⟨q1, q2⟩
        · exact absurd q1 c31
        · exact Or.inl ⟨q1, q2⟩
      · refine T_aload_n dX12_isByTwo_34 rfl ?_
        refine T_get dX12_isByTwo_35 fl_X12_23_12 (mH_get hA rfl) rfl ?_
        refine T_iload_n dX12_isByTwo_38 rfl ?_
        refine T_iload dX12_isByTwo_39 rfl ?_
        refine T_iconst (v := nI 3) dX12_isByTwo_41 (by decide) ?_
        refine T_idivN dX12_isByTwo_42 (by omega) (by omega) (by omega) ?_
        refine T_iastN dX12_isByTwo_43 (mH_get hA rfl) (by omega) (by decide) ?_
        refine T_h (h2 := mH A (mm (uW u (upd W a (nI (v / 3)))) P cb th) B) (mH_set (k := 5) hA (nb rfl) rfl) ?_
        refine T_aload_n dX12_isByTwo_44 rfl ?_
        refine T_get dX12_isByTwo_45 fl_X12_23_12 (mH_get hA rfl) rfl ?_
        refine T_iload_n dX12_isByTwo_48 rfl ?_
        refine T_iload dX12_isByTwo_49 rfl ?_
        refine T_iconst (v := nI 3) dX12_isByTwo_51 (by decide) ?_
        refine T_iremN dX12_isByTwo_52 (by omega) (by omega) (by omega) ?_
        refine T_iastN dX12_isByTwo_53 (mH_get hA rfl) (by omega) (by decide) ?_
        refine T_h (h2 := mH A (mm (uW u (upd (upd W a (nI (v / 3))) b (nI (v % 3)))) P cb th) B) (mH_set (k := 5) hA (nb rfl) rfl) ?_
        refine T_aload_n dX12_isByTwo_54 rfl ?_
        refine T_iload_n dX12_isByTwo_55 rfl ?_
        refine T_iload dX12_isByTwo_56 rfl ?_
        refine T_v2q (cu2 := 0) (su2 := 0) dX12_isByTwo_58 lv_X12_205 rfl (mH_get hA rfl) rfl (c_X12_isInTime (u := uW u (upd (upd W a (nI (v / 3))) b (nI (v % 3)))) (wn := uw (uw wn a (v / 3)) b (v % 3)) hA hM hL hW2 hs hn) (nb rfl) (nb rfl) (nb rfl) (nb rfl) (nb rfl) (fun r58 h58 q58 => ?_)
        obtain ⟨⟨f2, rfl, hf2⟩, P2, cb2, th2, rfl⟩ := q58
        refine T_istore dX12_isByTwo_61 (by decide) rfl ?_
        refine T_iincN dX12_isByTwo_63 rfl (by decide) rfl ?_
        refine T_goto (tgt := 22) dX12_isByTwo_66 (by decide) ?_
        refine ih (v + 1) (by omega) _ P2 cb2 th2 f2 (fun j hj hj2 => by rw [upd_n hj2, upd_n hj]; exact hw j hj hj2) ?_
        rcases hf2 with ⟨q1, q2⟩ | ⟨q1, q2⟩
        · exact Or.inr ⟨q1, v / 3, v % 3, hv3, hv4, q2⟩
        · refine Or.inl ⟨q1, fun x hx => ?_⟩
          by_cases e : x = v
          · subst e; exact q2
          · rcases hf with ⟨-, q4⟩ | ⟨q3, -⟩
            · exact q4 x (by omega)
            · exact absurd (q3.symm.trans c31) (by decide)
theorem c_X12_isByTwo (hA : A.length = 67) (hM : MR u L) (hL : LOk L) (hW : MW u L wn) (hs : s < 8) (hn : n ≤ 10) {a b : Nat} (ha : a < L_h L) (hb : b < L_h L) (hab : a < b) {P cb th : Nat → Int32} : Con M_X12_isByTwo [.ref 67, .int (nI a), .int (nI b), .int (nI s), .int (nI n)] (mH A (mm u P cb th) B) (fun q h' => (∃ v, q = some (.int v) ∧ yn (Two L wn s n a b) v) ∧ mmE u A B h') := by
  have h10 := hL.2.1
  refine Con.of rfl (nb rfl) ?_
  refine T_aload_n dX12_isByTwo_0 rfl ?_
  refine T_get dX12_isByTwo_1 fl_X12_23_12 (mH_get hA rfl) rfl ?_
  refine T_iload_n dX12_isByTwo_4 rfl ?_
  refine T_ialdN dX12_isByTwo_5 (mH_get hA rfl) (by omega) (by decide) ?_
  refine T_top (show (mm u P cb th).2 9 a = nI (wn a) from (hW a ha).1) ?_
  refine T_istore dX12_isByTwo_6 (by decide) rfl ?_
  refine T_aload_n dX12_isByTwo_8 rfl ?_
  refine T_get dX12_isByTwo_9 fl_X12_23_12 (mH_get hA rfl) rfl ?_
  refine T_iload_n dX12_isByTwo_12 rfl ?_
  refine T_ialdN dX12_isByTwo_13 (mH_get hA rfl) (by omega) (by decide) ?_
  refine T_top (show (mm u P cb th).2 9 b = nI (wn b) from (hW b hb).1) ?_
  refine T_istore dX12_isByTwo_14 (by decide) rfl ?_
  refine T_iconst (v := 0) dX12_isByTwo_16 (by decide) ?_
  refine T_istore dX12_isByTwo_17 (by decide) rfl ?_
  refine T_iconst (v := 0) dX12_isByTwo_19 (by decide) ?_
  refine T_istore dX12_isByTwo_20 (by decide) rfl ?_
  exact lp_X12_isByTwo hA hM hL hW hs hn ha hb hab 9 0 (by omega) (u.2 9) P cb th 0 (fun _ _ _ => rfl) (Or.inl ⟨rfl, fun x hx => absurd hx (by omega)⟩)
end M12
