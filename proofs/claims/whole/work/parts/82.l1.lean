/-! a text in a sheet's row and in the reference's cells -/
section L1
variable {f g : Nat → Int32} {b e : Nat}
theorem sg_sh (hf : ∀ x, x < 60 → f (b + x) = g x) (he : e ≤ 60) (a : Nat) (c : Int32) : sgP f (b + e) (b + a) c ↔ sgP g e a c := by
  constructor
  · rintro ⟨h1, h2⟩
    exact ⟨by omega, by rw [← hf a (by omega)]; exact h2⟩
  · rintro ⟨h1, h2⟩
    exact ⟨by omega, by rw [hf a (by omega)]; exact h2⟩
theorem dg_sh (hf : ∀ x, x < 60 → f (b + x) = g x) (he : e ≤ 60) (a lo hi : Nat) : dgP f (b + e) (b + a) lo hi ↔ dgP g e a lo hi := by
  constructor
  · rintro ⟨h1, h2⟩
    exact ⟨by omega, by rw [← hf a (by omega)]; exact h2⟩
  · rintro ⟨h1, h2⟩
    exact ⟨by omega, by rw [hf a (by omega)]; exact h2⟩
theorem if_i {p q : Prop} [Decidable p] [Decidable q] {α : Type} {x y : α} (h : p ↔ q) : (if p then x else y) = if q then x else y := by
  by_cases c : q
  · rw [if_pos c, if_pos (h.mpr c)]
  · rw [if_neg c, if_neg (fun z => c (h.mp z))]
theorem isl_sh (hf : ∀ x, x < 60 → f (b + x) = g x) (he : e ≤ 60) : ∀ r a, islP f (b + e) r (b + a) = islP g e r a
  | 0, _ => rfl
  | r + 1, a => by rw [islP, islP, if_i (dg_sh hf he a 0 1), Nat.add_assoc, isl_sh hf he r (a + 1)]
theorem wnd_sh (hf : ∀ x, x < 60 → f (b + x) = g x) (he : e ≤ 60) : ∀ r a, wndP f (b + e) r (b + a) = wndP g e r a
  | 0, _ => rfl
  | r + 1, a => by
    have h1 : (b + a < b + e ∧ ¬ mWb (f (b + a)) = -9) ↔ (a < e ∧ ¬ mWb (g a) = -9) := by
      constructor
      · rintro ⟨h1, h2⟩
        exact ⟨by omega, by rw [← hf a (by omega)]; exact h2⟩
      · rintro ⟨h1, h2⟩
        exact ⟨by omega, by rw [hf a (by omega)]; exact h2⟩
    rw [wndP, wndP, if_i h1, Nat.add_assoc, wnd_sh hf he r (a + 1)]
theorem btK_sh (hf : ∀ x, x < 60 → f (b + x) = g x) (he : e ≤ 60) (a : Nat) : btK f (b + e) (b + a) = btK g e a := by
  have h1 : (b + a < b + e ∧ ¬ kdV (f (b + a)) = -9) ↔ (a < e ∧ ¬ kdV (g a) = -9) := by
    constructor
    · rintro ⟨h1, h2⟩
      exact ⟨by omega, by rw [← hf a (by omega)]; exact h2⟩
    · rintro ⟨h1, h2⟩
      exact ⟨by omega, by rw [hf a (by omega)]; exact h2⟩
  unfold btK
  rw [if_i h1, Nat.add_assoc, Nat.add_assoc, if_i (dg_sh hf he (a + 1) 0 1), if_i (dg_sh hf he (a + 2) 1 3)]
theorem bts_sh (hf : ∀ x, x < 60 → f (b + x) = g x) (he : e ≤ 60) : ∀ r m a, btsP f (b + e) r m (b + a) = ((btsP g e r m a).1, (b + (btsP g e r m a).2.1, (btsP g e r m a).2.2))
  | 0, m, a => by
    rw [btsP, btsP]
    congr 2
    exact decide_eq_decide.mpr (by omega)
  | r + 1, m, a => by
    rw [btsP, btsP]
    rw [if_i (show (m = 0 ∨ b + a < b + e) ↔ (m = 0 ∨ a < e) by omega), if_i (sg_sh hf he a 44), Nat.add_assoc, btK_sh hf he (a + 1), show b + a + 4 = b + (a + 4) by omega, bts_sh hf he r (m + 1) (a + 4)]
    by_cases c1 : m = 0 ∨ a < e
    · rw [if_pos c1, if_pos c1]
      by_cases c2 : sgP g e a 44
      · rw [if_pos c2, if_pos c2]
        by_cases c3 : btK g e (a + 1) = 3
        · rw [if_pos c3, if_pos c3]
        · rw [if_neg c3, if_neg c3]
          show (m, (b + (a + 1) + btK g e (a + 1), false)) = (m, (b + (a + 1 + btK g e (a + 1)), false))
          rw [Nat.add_assoc]
      · rw [if_neg c2, if_neg c2]
    · rw [if_neg c1, if_neg c1]
      show (m, (b + a, decide (b + a = b + e))) = (m, (b + a, decide (a = e)))
      congr 2
      exact decide_eq_decide.mpr (by omega)
theorem rw_sh (hf : ∀ x, x < 60 → f (b + x) = g x) (he : e ≤ 60) (s : Nat) : rwP f (b + e) (b + s) = (b + (rwP g e s).1, (rwP g e s).2) := by
  unfold rwP
  by_cases c1 : sgP g e s 119
  · rw [if_pos c1, if_pos ((sg_sh hf he s 119).mpr c1)]
    by_cases c2 : dgP g e (s + 1) 2 4
    · have ew : wdP f (b + s + 1) = wdP g (s + 1) := by unfold wdP; rw [Nat.add_assoc, hf (s + 1) (by have := c2.1; omega)]
      rw [if_pos c2, if_pos (show dgP f (b + e) (b + s + 1) 2 4 from (dg_sh hf he (s + 1) 2 4).mpr c2), ew, show b + s + 2 = b + (s + 2) by omega, isl_sh hf he]
      by_cases c3 : islP g e (wdP g (s + 1) - 1) (s + 2) = wdP g (s + 1) - 1
      · rw [if_pos c3, if_pos c3, show b + s + 1 + wdP g (s + 1) = b + (s + 1 + wdP g (s + 1)) by omega, if_i (sg_sh hf he _ 59)]
        by_cases c4 : sgP g e (s + 1 + wdP g (s + 1)) 59
        · rw [if_pos c4, if_pos c4]
          show (b + (s + 2) + wdP g (s + 1), true) = (b + (s + 2 + wdP g (s + 1)), true)
          rw [Nat.add_assoc]
        · rw [if_neg c4, if_neg c4]
      · rw [if_neg c3, if_neg c3]
        show (b + (s + 2) + _, false) = (b + (s + 2 + _), false)
        rw [Nat.add_assoc]
    · rw [if_neg c2, if_neg (show ¬ dgP f (b + e) (b + s + 1) 2 4 from fun z => c2 ((dg_sh hf he (s + 1) 2 4).mp z))]
      rfl
  · rw [if_neg c1, if_neg (fun z => c1 ((sg_sh hf he s 119).mp z))]
theorem lake_rw (g : Nat → Int32) (e s : Nat) : lakeP g e s = if (rwP g e s).2 = true then (if wndP g e 10 (s + 2 + wdP g (s + 1)) = 0 then ((s + 2 + wdP g (s + 1), false), (0, (0, 0))) else (((btsP g e 3 0 (s + 2 + wdP g (s + 1) + wndP g e 10 (s + 2 + wdP g (s + 1)))).2.1, (btsP g e 3 0 (s + 2 + wdP g (s + 1) + wndP g e 10 (s + 2 + wdP g (s + 1)))).2.2), (wdP g (s + 1), (wndP g e 10 (s + 2 + wdP g (s + 1)), (btsP g e 3 0 (s + 2 + wdP g (s + 1) + wndP g e 10 (s + 2 + wdP g (s + 1)))).1)))) else (((rwP g e s).1, false), (0, (0, 0))) := by
  unfold lakeP rwP
  by_cases c1 : sgP g e s 119
  · rw [if_pos c1, if_pos c1]
    by_cases c2 : dgP g e (s + 1) 2 4
    · rw [if_pos c2, if_pos c2]
      by_cases c3 : islP g e (wdP g (s + 1) - 1) (s + 2) = wdP g (s + 1) - 1
      · rw [if_pos c3, if_pos c3]
        by_cases c4 : sgP g e (s + 1 + wdP g (s + 1)) 59
        · rw [if_pos c4, if_pos c4, if_pos rfl]
        · rw [if_neg c4, if_neg c4, if_neg (fun q => by cases q)]
      · rw [if_neg c3, if_neg c3, if_neg (fun q => by cases q)]
    · rw [if_neg c2, if_neg c2, if_neg (fun q => by cases q)]
  · rw [if_neg c1, if_neg c1, if_neg (fun q => by cases q)]
theorem rwP_ge (g : Nat → Int32) (e s : Nat) : s ≤ (rwP g e s).1 := by
  unfold rwP
  repeat' split
  all_goals (first | exact Nat.le_refl _ | (show s ≤ s + _; omega) | (show s ≤ s + _ + _; omega))
end L1
