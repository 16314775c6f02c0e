/-! the reference: winds, kinds, speeds: their loops (by program mk28.py) -/
section M19
variable {A B : XH} {u : MSt} {h : XH} {Z : XZ} {L : LK}
theorem or4_N : ∀ v, v < 4 → ∀ m, m < 16 → m < 2 ^ v → nI m ||| ((1 : Int32) <<< (nI v &&& 31)) = nI (m + 2 ^ v) := by decide
theorem tb_N1 : ∀ v, v < 4 → ∀ m, m < 16 → m < 2 ^ v → m + 2 ^ v < 16 ∧ m + 2 ^ v < 2 ^ (v + 1) := by decide
theorem tb_N2 : ∀ v, v < 4 → ∀ m, m < 16 → ∀ j, j < 4 → m < 2 ^ v → ((m + 2 ^ v).testBit j = (m.testBit j || j == v)) := by decide
theorem tb_N {v m : Nat} (hv : v < 4) (hm : m < 16) (h : m < 2 ^ v) : m + 2 ^ v < 16 ∧ m + 2 ^ v < 2 ^ (v + 1) ∧ ∀ j, j < 4 → ((m + 2 ^ v).testBit j = true ↔ (m.testBit j = true ∨ j = v)) := ⟨(tb_N1 v hv m hm h).1, (tb_N1 v hv m hm h).2, fun j hj => by rw [tb_N2 v hv m hm j hj h, Bool.or_eq_true, beq_iff_eq]⟩
theorem pw4 : ∀ v, v < 4 → 2 ^ v < 2 ^ (v + 1) := by decide
/-- a set of numbers lo .. v - 1 of which p holds -/
def Bts (p : Nat → Prop) (lo v m : Nat) : Prop := m < 16 ∧ m < 2 ^ v ∧ ∀ j, j < 4 → (m.testBit j = true ↔ (lo ≤ j ∧ j < v ∧ p j))
theorem Bts.yes {p : Nat → Prop} {lo v m : Nat} (h : Bts p lo v m) (hlo : lo ≤ v) (hv : v < 4) (hp : p v) : Bts p lo (v + 1) (m + 2 ^ v) := by
  obtain ⟨h1, h2, h3⟩ := h
  obtain ⟨t1, t2, t3⟩ := tb_N hv h1 h2
  refine ⟨t1, t2, fun j hj => ?_⟩
  rw [t3 j hj, h3 j hj]
  constructor
  · rintro (⟨a, b, c⟩ | rfl)
    · exact ⟨a, by omega, c⟩
    · exact ⟨hlo, by omega, hp⟩
  · rintro ⟨a, b, c⟩
    by_cases e : j = v
    · exact Or.inr e
    · exact Or.inl ⟨a, by omega, c⟩
theorem Bts.no {p : Nat → Prop} {lo v m : Nat} (h : Bts p lo v m) (hv : v < 4) (hp : ¬ p v) : Bts p lo (v + 1) m := by
  obtain ⟨h1, h2, h3⟩ := h
  refine ⟨h1, Nat.lt_trans h2 (pw4 v hv), fun j hj => ?_⟩
  rw [h3 j hj]
  constructor
  · rintro ⟨a, b, c⟩
    exact ⟨a, by omega, c⟩
  · rintro ⟨a, b, c⟩
    have : j ≠ v := fun e => hp (e ▸ c)
    exact ⟨a, by omega, c⟩
theorem lp_X12_winds (hA : A.length = 67) {g w0 : Nat} {p : Nat → Prop} {x2 x3 x4 x5 x6 : Int32} (hg : g < 10) (hw0 : u.2 9 g = nI w0) (hso : ∀ (W P : Nat → Int32) (v : Nat), (∀ j, j ≠ g → W j = u.2 9 j) → 0 ≤ v → v < 3 → Con M_X12_areSo [.ref 67] (mH A (u.1, va_up (va_up u.2 9 (upd W g (nI v))) 20 P) B) (fun a h' => (∃ x, a = some (.int x) ∧ yn (p v) x) ∧ ∃ P', h' = mH A (u.1, va_up (va_up u.2 9 (upd W g (nI v))) 20 P') B)) :
    ∀ r v, v + r = 3 → 0 ≤ v → ∀ (W P : Nat → Int32) (m : Nat), (∀ j, j ≠ g → W j = u.2 9 j) → Bts p 0 v m → T M_X12_winds x_E (x_Z M_X12_winds (fun a h' => ∃ m, a = some (.int (nI m)) ∧ Bts p 0 3 m ∧ ∃ P, h' = mH A (mP u P) B)) 0 0 48 [(0, .ref 67), (1, .int (nI g)), (2, .int x2), (3, .int x3), (4, .int x4), (5, .int x5), (6, .int x6), (7, .int (nI w0)), (8, .int (nI m)), (9, .int (nI v))] [] (mH A (u.1, va_up (va_up u.2 9 (W)) 20 P) B) := by
  have fin : ∀ W : Nat → Int32, (∀ j, j ≠ g → W j = u.2 9 j) → upd W g (nI w0) = u.2 9 := fun W hw => by
    funext j
    by_cases e : j = g
    · subst e; rw [upd_s]; exact hw0.symm
    · rw [upd_n e]; exact hw j e
  intro r
  induction r with
  | zero =>
    intro v hv hlo W P m hw hm
    obtain rfl : v = 3 := by omega
    refine T_iload dX12_winds_48 rfl ?_
    refine T_iconst (v := nI 3) dX12_winds_50 (by decide) ?_
    refine T_icmp_geN (tgt := 88) dX12_winds_51 (by decide) (by omega) (by omega) (fun c51 => ?_) (fun c51 => ?_)
    · refine T_aload_n dX12_winds_88 rfl ?_
      refine T_get dX12_winds_89 fl_X12_23_12 (mH_get hA rfl) rfl ?_
      refine T_iload_n dX12_winds_92 rfl ?_
      refine T_iload dX12_winds_93 rfl ?_
      refine T_iastN dX12_winds_95 (mH_get hA rfl) (by omega) (by decide) ?_
      refine T_h (h2 := mH A (u.1, va_up (va_up u.2 9 (upd W g (nI w0))) 20 P) B) (mH_set (k := 5) hA (nb rfl) rfl) ?_
      refine T_h (h2 := mH A (mP u P) B) (by rw [fin W hw]; rfl) ?_
      refine T_iload dX12_winds_96 rfl ?_
      refine T_iret dX12_winds_98 rfl (nb rfl) (nb rfl) ?_
      exact ⟨m, rfl, hm, P, rfl⟩
    · omega
  | succ r ih =>
    intro v hv hlo W P m hw hm
    refine T_iload dX12_winds_48 rfl ?_
    refine T_iconst (v := nI 3) dX12_winds_50 (by decide) ?_
    refine T_icmp_geN (tgt := 88) dX12_winds_51 (by decide) (by omega) (by omega) (fun c51 => ?_) (fun c51 => ?_)
    · omega
    · refine T_aload_n dX12_winds_54 rfl ?_
      refine T_get dX12_winds_55 fl_X12_23_12 (mH_get hA rfl) rfl ?_
      refine T_iload_n dX12_winds_58 rfl ?_
      refine T_iload dX12_winds_59 rfl ?_
      refine T_iastN dX12_winds_61 (mH_get hA rfl) (by omega) (by decide) ?_
      refine T_h (h2 := mH A (u.1, va_up (va_up u.2 9 (upd W g (nI v))) 20 P) B) (mH_set (k := 5) hA (nb rfl) rfl) ?_
      refine T_iload dX12_winds_62 rfl ?_
      refine T_aload_n dX12_winds_64 rfl ?_
      refine T_v0q (cu2 := 0) (su2 := 0) dX12_winds_65 lv_X12_219 rfl (mH_get hA rfl) rfl (hso W P v hw (by omega) (by omega)) (nb rfl) (nb rfl) (nb rfl) (nb rfl) (nb rfl) (fun r65 h65 q65 => ?_)
      obtain ⟨⟨x, rfl, hx⟩, P2, rfl⟩ := q65
      refine T_if_eq (tgt := 78) dX12_winds_68 (by decide) (fun c68 => ?_) (fun c68 => ?_)
      · refine T_iconst (v := 0) dX12_winds_78 (by decide) ?_
        refine T_ior dX12_winds_79 ?_
        refine T_istore dX12_winds_80 (by decide) rfl ?_
        refine T_iincN dX12_winds_82 rfl (by decide) rfl ?_
        refine T_goto (tgt := 48) dX12_winds_85 (by decide) ?_
        first
          | (have e : nI m ||| ((1 : Int32) <<< (nI v &&& 31)) = nI (m + 2 ^ v) := or4_N v (by omega) m hm.1 hm.2.1
             have k := ih (v + 1) (by omega) (by omega) (upd W g (nI v)) P2 (m + 2 ^ v) (fun j hj => by rw [upd_n hj]; exact hw j hj) (hm.yes hlo (by omega) (by rcases hx with ⟨q1, q2⟩ | ⟨q1, q2⟩; exact q2; exact absurd q1 c68))
             rw [← e] at k
             exact k)
          | (have e : nI m ||| (0 : Int32) = nI m := by simp
             have k := ih (v + 1) (by omega) (by omega) (upd W g (nI v)) P2 m (fun j hj => by rw [upd_n hj]; exact hw j hj) (hm.no (by omega) (by rcases hx with ⟨q1, q2⟩ | ⟨q1, q2⟩; exact absurd (q1.symm.trans c68) (by decide); exact q2))
             exact T_eq k (by simp only [e]; rfl) rfl)
      · refine T_iconst (v := 1) dX12_winds_71 (by decide) ?_
        refine T_iload dX12_winds_72 rfl ?_
        refine T_ishl dX12_winds_74 ?_
        refine T_goto (tgt := 79) dX12_winds_75 (by decide) ?_
        refine T_ior dX12_winds_79 ?_
        refine T_istore dX12_winds_80 (by decide) rfl ?_
        refine T_iincN dX12_winds_82 rfl (by decide) rfl ?_
        refine T_goto (tgt := 48) dX12_winds_85 (by decide) ?_
        first
          | (have e : nI m ||| ((1 : Int32) <<< (nI v &&& 31)) = nI (m + 2 ^ v) := or4_N v (by omega) m hm.1 hm.2.1
             have k := ih (v + 1) (by omega) (by omega) (upd W g (nI v)) P2 (m + 2 ^ v) (fun j hj => by rw [upd_n hj]; exact hw j hj) (hm.yes hlo (by omega) (by rcases hx with ⟨q1, q2⟩ | ⟨q1, q2⟩; exact q2; exact absurd q1 c68))
             rw [← e] at k
             exact k)
          | (have e : nI m ||| (0 : Int32) = nI m := by simp
             have k := ih (v + 1) (by omega) (by omega) (upd W g (nI v)) P2 m (fun j hj => by rw [upd_n hj]; exact hw j hj) (hm.no (by omega) (by rcases hx with ⟨q1, q2⟩ | ⟨q1, q2⟩; exact absurd (q1.symm.trans c68) (by decide); exact q2))
             exact T_eq k (by simp only [e]; rfl) rfl)
theorem lp_X12_kinds (hA : A.length = 67) {g w0 : Nat} {p : Nat → Prop} {x2 x3 x4 x5 x6 : Int32} (hg : g < 3) (hw0 : u.2 10 g = nI w0) (hso : ∀ (W P : Nat → Int32) (v : Nat), (∀ j, j ≠ g → W j = u.2 10 j) → 0 ≤ v → v < 3 → Con M_X12_areSo [.ref 67] (mH A (u.1, va_up (va_up u.2 10 (upd W g (nI v))) 20 P) B) (fun a h' => (∃ x, a = some (.int x) ∧ yn (p v) x) ∧ ∃ P', h' = mH A (u.1, va_up (va_up u.2 10 (upd W g (nI v))) 20 P') B)) :
    ∀ r v, v + r = 3 → 0 ≤ v → ∀ (W P : Nat → Int32) (m : Nat), (∀ j, j ≠ g → W j = u.2 10 j) → Bts p 0 v m → T M_X12_kinds x_E (x_Z M_X12_kinds (fun a h' => ∃ m, a = some (.int (nI m)) ∧ Bts p 0 3 m ∧ ∃ P, h' = mH A (mP u P) B)) 0 0 47 [(0, .ref 67), (1, .int (nI g)), (2, .int x2), (3, .int x3), (4, .int x4), (5, .int x5), (6, .int x6), (7, .int (nI w0)), (8, .int (nI m)), (9, .int (nI v))] [] (mH A (u.1, va_up (va_up u.2 10 (W)) 20 P) B) := by
  have fin : ∀ W : Nat → Int32, (∀ j, j ≠ g → W j = u.2 10 j) → upd W g (nI w0) = u.2 10 := fun W hw => by
    funext j
    by_cases e : j = g
    · subst e; rw [upd_s]; exact hw0.symm
    · rw [upd_n e]; exact hw j e
  intro r
  induction r with
  | zero =>
    intro v hv hlo W P m hw hm
    obtain rfl : v = 3 := by omega
    refine T_iload dX12_kinds_47 rfl ?_
    refine T_iconst (v := nI 3) dX12_kinds_49 (by decide) ?_
    refine T_icmp_geN (tgt := 87) dX12_kinds_50 (by decide) (by omega) (by omega) (fun c50 => ?_) (fun c50 => ?_)
    · refine T_aload_n dX12_kinds_87 rfl ?_
      refine T_get dX12_kinds_88 fl_X12_26_12 (mH_get hA rfl) rfl ?_
      refine T_iload_n dX12_kinds_91 rfl ?_
      refine T_iload dX12_kinds_92 rfl ?_
      refine T_iastN dX12_kinds_94 (mH_get hA rfl) (by omega) (by decide) ?_
      refine T_h (h2 := mH A (u.1, va_up (va_up u.2 10 (upd W g (nI w0))) 20 P) B) (mH_set (k := 6) hA (nb rfl) rfl) ?_
      refine T_h (h2 := mH A (mP u P) B) (by rw [fin W hw]; rfl) ?_
      refine T_iload dX12_kinds_95 rfl ?_
      refine T_iret dX12_kinds_97 rfl (nb rfl) (nb rfl) ?_
      exact ⟨m, rfl, hm, P, rfl⟩
    · omega
  | succ r ih =>
    intro v hv hlo W P m hw hm
    refine T_iload dX12_kinds_47 rfl ?_
    refine T_iconst (v := nI 3) dX12_kinds_49 (by decide) ?_
    refine T_icmp_geN (tgt := 87) dX12_kinds_50 (by decide) (by omega) (by omega) (fun c50 => ?_) (fun c50 => ?_)
    · omega
    · refine T_aload_n dX12_kinds_53 rfl ?_
      refine T_get dX12_kinds_54 fl_X12_26_12 (mH_get hA rfl) rfl ?_
      refine T_iload_n dX12_kinds_57 rfl ?_
      refine T_iload dX12_kinds_58 rfl ?_
      refine T_iastN dX12_kinds_60 (mH_get hA rfl) (by omega) (by decide) ?_
      refine T_h (h2 := mH A (u.1, va_up (va_up u.2 10 (upd W g (nI v))) 20 P) B) (mH_set (k := 6) hA (nb rfl) rfl) ?_
      refine T_iload dX12_kinds_61 rfl ?_
      refine T_aload_n dX12_kinds_63 rfl ?_
      refine T_v0q (cu2 := 0) (su2 := 0) dX12_kinds_64 lv_X12_219 rfl (mH_get hA rfl) rfl (hso W P v hw (by omega) (by omega)) (nb rfl) (nb rfl) (nb rfl) (nb rfl) (nb rfl) (fun r64 h64 q64 => ?_)
      obtain ⟨⟨x, rfl, hx⟩, P2, rfl⟩ := q64
      refine T_if_eq (tgt := 77) dX12_kinds_67 (by decide) (fun c67 => ?_) (fun c67 => ?_)
      · refine T_iconst (v := 0) dX12_kinds_77 (by decide) ?_
        refine T_ior dX12_kinds_78 ?_
        refine T_istore dX12_kinds_79 (by decide) rfl ?_
        refine T_iincN dX12_kinds_81 rfl (by decide) rfl ?_
        refine T_goto (tgt := 47) dX12_kinds_84 (by decide) ?_
        first
          | (have e : nI m ||| ((1 : Int32) <<< (nI v &&& 31)) = nI (m + 2 ^ v) := or4_N v (by omega) m hm.1 hm.2.1
             have k := ih (v + 1) (by omega) (by omega) (upd W g (nI v)) P2 (m + 2 ^ v) (fun j hj => by rw [upd_n hj]; exact hw j hj) (hm.yes hlo (by omega) (by rcases hx with ⟨q1, q2⟩ | ⟨q1, q2⟩; exact q2; exact absurd q1 c67))
             rw [← e] at k
             exact k)
          | (have e : nI m ||| (0 : Int32) = nI m := by simp
             have k := ih (v + 1) (by omega) (by omega) (upd W g (nI v)) P2 m (fun j hj => by rw [upd_n hj]; exact hw j hj) (hm.no (by omega) (by rcases hx with ⟨q1, q2⟩ | ⟨q1, q2⟩; exact absurd (q1.symm.trans c67) (by decide); exact q2))
             exact T_eq k (by simp only [e]; rfl) rfl)
      · refine T_iconst (v := 1) dX12_kinds_70 (by decide) ?_
        refine T_iload dX12_kinds_71 rfl ?_
        refine T_ishl dX12_kinds_73 ?_
        refine T_goto (tgt := 78) dX12_kinds_74 (by decide) ?_
        refine T_ior dX12_kinds_78 ?_
        refine T_istore dX12_kinds_79 (by decide) rfl ?_
        refine T_iincN dX12_kinds_81 rfl (by decide) rfl ?_
        refine T_goto (tgt := 47) dX12_kinds_84 (by decide) ?_
        first
          | (have e : nI m ||| ((1 : Int32) <<< (nI v &&& 31)) = nI (m + 2 ^ v) := or4_N v (by omega) m hm.1 hm.2.1
             have k := ih (v + 1) (by omega) (by omega) (upd W g (nI v)) P2 (m + 2 ^ v) (fun j hj => by rw [upd_n hj]; exact hw j hj) (hm.yes hlo (by omega) (by rcases hx with ⟨q1, q2⟩ | ⟨q1, q2⟩; exact q2; exact absurd q1 c67))
             rw [← e] at k
             exact k)
          | (have e : nI m ||| (0 : Int32) = nI m := by simp
             have k := ih (v + 1) (by omega) (by omega) (upd W g (nI v)) P2 m (fun j hj => by rw [upd_n hj]; exact hw j hj) (hm.no (by omega) (by rcases hx with ⟨q1, q2⟩ | ⟨q1, q2⟩; exact absurd (q1.symm.trans c67) (by decide); exact q2))
             exact T_eq k (by simp only [e]; rfl) rfl)
theorem lp_X12_speeds (hA : A.length = 67) {g w0 : Nat} {p : Nat → Prop} {x2 x3 x4 x5 x6 : Int32} (hg : g < 3) (hw0 : u.2 12 g = nI w0) (hso : ∀ (W P : Nat → Int32) (v : Nat), (∀ j, j ≠ g → W j = u.2 12 j) → 1 ≤ v → v < 4 → Con M_X12_areSo [.ref 67] (mH A (u.1, va_up (va_up u.2 12 (upd W g (nI v))) 20 P) B) (fun a h' => (∃ x, a = some (.int x) ∧ yn (p v) x) ∧ ∃ P', h' = mH A (u.1, va_up (va_up u.2 12 (upd W g (nI v))) 20 P') B)) :
    ∀ r v, v + r = 4 → 1 ≤ v → ∀ (W P : Nat → Int32) (m : Nat), (∀ j, j ≠ g → W j = u.2 12 j) → Bts p 1 v m → T M_X12_speeds x_E (x_Z M_X12_speeds (fun a h' => ∃ m, a = some (.int (nI m)) ∧ Bts p 1 4 m ∧ ∃ P, h' = mH A (mP u P) B)) 0 0 47 [(0, .ref 67), (1, .int (nI g)), (2, .int x2), (3, .int x3), (4, .int x4), (5, .int x5), (6, .int x6), (7, .int (nI w0)), (8, .int (nI m)), (9, .int (nI v))] [] (mH A (u.1, va_up (va_up u.2 12 (W)) 20 P) B) := by
  have fin : ∀ W : Nat → Int32, (∀ j, j ≠ g → W j = u.2 12 j) → upd W g (nI w0) = u.2 12 := fun W hw => by
    funext j
    by_cases e : j = g
    · subst e; rw [upd_s]; exact hw0.symm
    · rw [upd_n e]; exact hw j e
  intro r
  induction r with
  | zero =>
    intro v hv hlo W P m hw hm
    obtain rfl : v = 4 := by omega
    refine T_iload dX12_speeds_47 rfl ?_
    refine T_iconst (v := nI 3) dX12_speeds_49 (by decide) ?_
    refine T_icmp_gtN (tgt := 87) dX12_speeds_50 (by decide) (by omega) (by omega) (fun c50 => ?_) (fun c50 => ?_)
    · refine T_aload_n dX12_speeds_87 rfl ?_
      refine T_get dX12_speeds_88 fl_X12_32_12 (mH_get hA rfl) rfl ?_
      refine T_iload_n dX12_speeds_91 rfl ?_
      refine T_iload dX12_speeds_92 rfl ?_
      refine T_iastN dX12_speeds_94 (mH_get hA rfl) (by omega) (by decide) ?_
      refine T_h (h2 := mH A (u.1, va_up (va_up u.2 12 (upd W g (nI w0))) 20 P) B) (mH_set (k := 8) hA (nb rfl) rfl) ?_
      refine T_h (h2 := mH A (mP u P) B) (by rw [fin W hw]; rfl) ?_
      refine T_iload dX12_speeds_95 rfl ?_
      refine T_iret dX12_speeds_97 rfl (nb rfl) (nb rfl) ?_
      exact ⟨m, rfl, hm, P, rfl⟩
    · omega
  | succ r ih =>
    intro v hv hlo W P m hw hm
    refine T_iload dX12_speeds_47 rfl ?_
    refine T_iconst (v := nI 3) dX12_speeds_49 (by decide) ?_
    refine T_icmp_gtN (tgt := 87) dX12_speeds_50 (by decide) (by omega) (by omega) (fun c50 => ?_) (fun c50 => ?_)
    · omega
    · refine T_aload_n dX12_speeds_53 rfl ?_
      refine T_get dX12_speeds_54 fl_X12_32_12 (mH_get hA rfl) rfl ?_
      refine T_iload_n dX12_speeds_57 rfl ?_
      refine T_iload dX12_speeds_58 rfl ?_
      refine T_iastN dX12_speeds_60 (mH_get hA rfl) (by omega) (by decide) ?_
      refine T_h (h2 := mH A (u.1, va_up (va_up u.2 12 (upd W g (nI v))) 20 P) B) (mH_set (k := 8) hA (nb rfl) rfl) ?_
      refine T_iload dX12_speeds_61 rfl ?_
      refine T_aload_n dX12_speeds_63 rfl ?_
      refine T_v0q (cu2 := 0) (su2 := 0) dX12_speeds_64 lv_X12_219 rfl (mH_get hA rfl) rfl (hso W P v hw (by omega) (by omega)) (nb rfl) (nb rfl) (nb rfl) (nb rfl) (nb rfl) (fun r64 h64 q64 => ?_)
      obtain ⟨⟨x, rfl, hx⟩, P2, rfl⟩ := q64
      refine T_if_eq (tgt := 77) dX12_speeds_67 (by decide) (fun c67 => ?_) (fun c67 => ?_)
      · refine T_iconst (v := 0) dX12_speeds_77 (by decide) ?_
        refine T_ior dX12_speeds_78 ?_
        refine T_istore dX12_speeds_79 (by decide) rfl ?_
        refine T_iincN dX12_speeds_81 rfl (by decide) rfl ?_
        refine T_goto (tgt := 47) dX12_speeds_84 (by decide) ?_
        first
          | (have e : nI m ||| ((1 : Int32) <<< (nI v &&& 31)) = nI (m + 2 ^ v) := or4_N v (by omega) m hm.1 hm.2.1
             have k := ih (v + 1) (by omega) (by omega) (upd W g (nI v)) P2 (m + 2 ^ v) (fun j hj => by rw [upd_n hj]; exact hw j hj) (hm.yes hlo (by omega) (by rcases hx with ⟨q1, q2⟩ | ⟨q1, q2⟩; exact q2; exact absurd q1 c67))
             rw [← e] at k
             exact k)
          | (have e : nI m ||| (0 : Int32) = nI m := by simp
             have k := ih (v + 1) (by omega) (by omega) (upd W g (nI v)) P2 m (fun j hj => by rw [upd_n hj]; exact hw j hj) (hm.no (by omega) (by rcases hx with ⟨q1, q2⟩ | ⟨q1, q2⟩; exact absurd (q1.symm.trans c67) (by decide); exact q2))
             exact T_eq k (by simp only [e]; rfl) rfl)
      · refine T_iconst (v := 1) dX12_speeds_70 (by decide) ?_
        refine T_iload dX12_speeds_71 rfl ?_
        refine T_ishl dX12_speeds_73 ?_
        refine T_goto (tgt := 78) dX12_speeds_74 (by decide) ?_
        refine T_ior dX12_speeds_78 ?_
        refine T_istore dX12_speeds_79 (by decide) rfl ?_
        refine T_iincN dX12_speeds_81 rfl (by decide) rfl ?_
        refine T_goto (tgt := 47) dX12_speeds_84 (by decide) ?_
        first
          | (have e : nI m ||| ((1 : Int32) <<< (nI v &&& 31)) = nI (m + 2 ^ v) := or4_N v (by omega) m hm.1 hm.2.1
             have k := ih (v + 1) (by omega) (by omega) (upd W g (nI v)) P2 (m + 2 ^ v) (fun j hj => by rw [upd_n hj]; exact hw j hj) (hm.yes hlo (by omega) (by rcases hx with ⟨q1, q2⟩ | ⟨q1, q2⟩; exact q2; exact absurd q1 c67))
             rw [← e] at k
             exact k)
          | (have e : nI m ||| (0 : Int32) = nI m := by simp
             have k := ih (v + 1) (by omega) (by omega) (upd W g (nI v)) P2 m (fun j hj => by rw [upd_n hj]; exact hw j hj) (hm.no (by omega) (by rcases hx with ⟨q1, q2⟩ | ⟨q1, q2⟩; exact absurd (q1.symm.trans c67) (by decide); exact q2))
             exact T_eq k (by simp only [e]; rfl) rfl)
end M19
