/-! the search: findEnds, all states behind an hour -/
section S6
variable {A R : XH} {s : SSt} {L : LK} {Z : XZ} {lp isl wo fl : Nat} {bp : Nat → Nat}
/-- inside the loop over what was found: k of m have been looked at, f are there now -/
def FeN (k m f : Nat) (mg : Prop) (cn st go : Nat) (E0 C0 E C : Nat → Int32) : Prop :=
  m ≤ f ∧ f ≤ m + k ∧ (∀ j, j < k → E j = E0 j + nI st ∧ C j = C0 j) ∧ (∀ j, k ≤ j → j < m → E j = E0 j ∧ C j = C0 j) ∧ (∀ j, m ≤ j → j < f → ∃ q, q < k ∧ mg ∧ E j = E0 q + nI go ∧ C j = C0 q + nI cn ∧ ¬ 1 < C0 q + nI cn) ∧ (∀ q, q < k → mg → ¬ 1 < C0 q + nI cn → ∃ j, m ≤ j ∧ j < f ∧ E j = E0 q + nI go ∧ C j = C0 q + nI cn)
theorem FeN.no {k m f cn st go : Nat} {mg : Prop} {E0 C0 E C : Nat → Int32} (h : FeN k m f mg cn st go E0 C0 E C) (hk : k < m) (hno : ¬ mg ∨ 1 < C k + nI cn) : FeN (k + 1) m f mg cn st go E0 C0 (upd E k (E k + nI st)) C := by
  obtain ⟨a, b, c, d, e, g⟩ := h
  have hCk := (d k (Nat.le_refl _) hk).2
  refine ⟨a, by omega, fun j hj => ?_, fun j h1 h2 => ?_, fun j h1 h2 => ?_, fun q h1 h2 h3 => ?_⟩
  · by_cases z : j = k
    · subst z
      rw [upd_s, (d j (Nat.le_refl _) hk).1]
      exact ⟨rfl, hCk⟩
    · rw [upd_n z]; exact c j (by omega)
  · rw [upd_n (by omega)]; exact d j (by omega) h2
  · rw [upd_n (by omega)]
    obtain ⟨q, q1, q2⟩ := e j h1 h2
    exact ⟨q, by omega, q2⟩
  · by_cases z : q = k
    · subst z
      rw [← hCk] at h3
      exact (hno.elim (fun n => n h2) (fun n => h3 n)).elim
    · obtain ⟨j, j1, j2, j3, j4⟩ := g q (by omega) h2 h3
      exact ⟨j, j1, j2, by rw [upd_n (by omega)]; exact j3, j4⟩
theorem FeN.yes {k m f cn st go : Nat} {mg : Prop} {E0 C0 E C : Nat → Int32} (h : FeN k m f mg cn st go E0 C0 E C) (hk : k < m) (hm : mg) (hc : ¬ 1 < C k + nI cn) : FeN (k + 1) m (f + 1) mg cn st go E0 C0 (upd (upd E f (E k + nI go)) k (E k + nI st)) (upd C f (C k + nI cn)) := by
  obtain ⟨a, b, c, d, e, g⟩ := h
  have hCk := (d k (Nat.le_refl _) hk).2
  have hEk := (d k (Nat.le_refl _) hk).1
  refine ⟨by omega, by omega, fun j hj => ?_, fun j h1 h2 => ?_, fun j h1 h2 => ?_, fun q h1 h2 h3 => ?_⟩
  · by_cases z : j = k
    · subst z
      rw [upd_s, upd_n (by omega), hEk]
      exact ⟨rfl, hCk⟩
    · rw [upd_n z, upd_n (by omega), upd_n (by omega)]; exact c j (by omega)
  · rw [upd_n (by omega), upd_n (by omega), upd_n (by omega)]; exact d j (by omega) h2
  · by_cases z : j = f
    · subst z
      rw [upd_n (by omega), upd_s, upd_s, hEk, hCk]
      exact ⟨k, by omega, hm, rfl, rfl, by rw [← hCk]; exact hc⟩
    · rw [upd_n (by omega), upd_n z, upd_n z]
      obtain ⟨q, q1, q2⟩ := e j h1 (by omega)
      exact ⟨q, by omega, q2⟩
  · by_cases z : q = k
    · subst z
      refine ⟨f, by omega, by omega, ?_, ?_⟩
      · rw [upd_n (by omega), upd_s, hEk]
      · rw [upd_s, hCk]
    · obtain ⟨j, j1, j2, j3, j4⟩ := g q (by omega) h2 h3
      exact ⟨j, j1, by omega, by rw [upd_n (by omega), upd_n (by omega)]; exact j3, by rw [upd_n (by omega)]; exact j4⟩
abbrev feS (s : SSt) (E C : Nat → Int32) : SSt := sFt (sFt s 14 E) 15 C
theorem feS_E {E C E2 : Nat → Int32} (hA : A.length = 10) : (sH A (feS s E C) R).set 14 (.inl (0, 8, .inl E2)) = sH A (feS s E2 C) R := sH_set (k := 4) hA (nb rfl) rfl
theorem feS_C {E C C2 : Nat → Int32} (hA : A.length = 10) : (sH A (feS s E C) R).set 15 (.inl (0, 8, .inl C2)) = sH A (feS s E C2) R := sH_set (k := 5) hA (nb rfl) rfl
theorem lp_X4_findEnds_123 {w b m cn st go wt cc : Nat} {mg : Prop} [Decidable mg] {E0 C0 : Nat → Int32} {x6 : Value} (hA : A.length = 10) (hm : m ≤ 4)
    (K : ∀ f E C, FeN m m f mg cn st go E0 C0 E C → T M_X4_findEnds x_E Z 0 0 202 [(0, .ref 10), (1, .ref lp), (2, .int (nI w)), (3, .int (nI f)), (4, .int (nI wt)), (5, .int (nI b))] [] (sH A (feS s E C) R)) :
    ∀ r k, k + r = m → ∀ f E C, FeN k m f mg cn st go E0 C0 E C → T M_X4_findEnds x_E Z 0 0 123 [(0, .ref 10), (1, .ref lp), (2, .int (nI w)), (3, .int (nI f)), (4, .int (nI wt)), (5, .int (nI b)), (6, x6), (7, .int (nI cc)), (8, .int (bI mg)), (9, .int (nI cn)), (10, .int (nI st)), (11, .int (nI go)), (12, .int (nI m)), (13, .int (nI k))] [] (sH A (feS s E C) R) := by
  intro r
  induction r with
  | zero =>
    intro k hk f E C hF
    obtain rfl : k = m := by omega
    refine T_iload dX4_findEnds_123 rfl ?_
    refine T_iload dX4_findEnds_125 rfl ?_
    refine T_icmp_geN (tgt := 202) dX4_findEnds_127 (by decide) (by omega) (by omega) (fun c127 => ?_) (fun c127 => ?_)
    · exact T_pick [0, 1, 2, 3, 4, 5] (K f E C hF)
    · exact absurd c127 (by omega)
  | succ r ih =>
    intro k hk f E C hF
    have hf1 := hF.1
    have hf2 := hF.2.1
    have kf : k ≠ f := by omega
    refine T_iload dX4_findEnds_123 rfl ?_
    refine T_iload dX4_findEnds_125 rfl ?_
    refine T_icmp_geN (tgt := 202) dX4_findEnds_127 (by decide) (by omega) (by omega) (fun c127 => ?_) (fun c127 => ?_)
    · exact absurd c127 (by omega)
    · refine T_iload dX4_findEnds_130 rfl ?_
      refine T_if_eqB (tgt := 184) dX4_findEnds_132 (by decide) (fun c132 => ?_) (fun c132 => ?_)
      · refine T_aload_n dX4_findEnds_184 rfl ?_
        refine T_get dX4_findEnds_185 fl_X4_33_4 (sH_get hA rfl) rfl ?_
        refine T_iload dX4_findEnds_188 rfl ?_
        refine T_dup2 dX4_findEnds_190 rfl rfl ?_
        refine T_ialdN dX4_findEnds_191 (sH_get hA rfl) (by omega) (by decide) ?_
        refine T_iload dX4_findEnds_192 rfl ?_
        refine T_iadd dX4_findEnds_194 ?_
        refine T_iastN dX4_findEnds_195 (sH_get hA rfl) (by omega) (by decide) ?_
        refine T_h (feS_E hA) ?_
        refine T_iincN dX4_findEnds_196 rfl (by decide) rfl ?_
        refine T_goto (tgt := 123) dX4_findEnds_199 (by decide) ?_
        first
          | exact ih (k + 1) (by omega) f _ _ (hF.no (by omega) (Or.inl c132))
          | exact ih (k + 1) (by omega) f _ _ (hF.no (by omega) (Or.inr c146))
          | (refine T_h ?_ (ih (k + 1) (by omega) (f + 1) _ _ (hF.yes (by omega) c132 c146))
             show sH A (feS s (upd (upd E f (E k + nI go)) k (upd E f (E k + nI go) k + nI st)) (upd C f (C k + nI cn))) R = _
             rw [upd_n kf])
      · refine T_aload_n dX4_findEnds_135 rfl ?_
        refine T_get dX4_findEnds_136 fl_X4_36_4 (sH_get hA rfl) rfl ?_
        refine T_iload dX4_findEnds_139 rfl ?_
        refine T_ialdN dX4_findEnds_141 (sH_get hA rfl) (by omega) (by decide) ?_
        refine T_iload dX4_findEnds_142 rfl ?_
        refine T_iadd dX4_findEnds_144 ?_
        refine T_iconst (v := 1) dX4_findEnds_145 (by decide) ?_
        refine T_icmp_gt (tgt := 184) dX4_findEnds_146 (by decide) (fun c146 => ?_) (fun c146 => ?_)
        · refine T_aload_n dX4_findEnds_184 rfl ?_
          refine T_get dX4_findEnds_185 fl_X4_33_4 (sH_get hA rfl) rfl ?_
          refine T_iload dX4_findEnds_188 rfl ?_
          refine T_dup2 dX4_findEnds_190 rfl rfl ?_
          refine T_ialdN dX4_findEnds_191 (sH_get hA rfl) (by omega) (by decide) ?_
          refine T_iload dX4_findEnds_192 rfl ?_
          refine T_iadd dX4_findEnds_194 ?_
          refine T_iastN dX4_findEnds_195 (sH_get hA rfl) (by omega) (by decide) ?_
          refine T_h (feS_E hA) ?_
          refine T_iincN dX4_findEnds_196 rfl (by decide) rfl ?_
          refine T_goto (tgt := 123) dX4_findEnds_199 (by decide) ?_
          first
            | exact ih (k + 1) (by omega) f _ _ (hF.no (by omega) (Or.inl c132))
            | exact ih (k + 1) (by omega) f _ _ (hF.no (by omega) (Or.inr c146))
            | (refine T_h ?_ (ih (k + 1) (by omega) (f + 1) _ _ (hF.yes (by omega) c132 c146))
               show sH A (feS s (upd (upd E f (E k + nI go)) k (upd E f (E k + nI go) k + nI st)) (upd C f (C k + nI cn))) R = _
               rw [upd_n kf])
        · refine T_aload_n dX4_findEnds_149 rfl ?_
          refine T_get dX4_findEnds_150 fl_X4_33_4 (sH_get hA rfl) rfl ?_
          refine T_iload_n dX4_findEnds_153 rfl ?_
          refine T_aload_n dX4_findEnds_154 rfl ?_
          refine T_get dX4_findEnds_155 fl_X4_33_4 (sH_get hA rfl) rfl ?_
          refine T_iload dX4_findEnds_158 rfl ?_
          refine T_ialdN dX4_findEnds_160 (sH_get hA rfl) (by omega) (by decide) ?_
          refine T_iload dX4_findEnds_161 rfl ?_
          refine T_iadd dX4_findEnds_163 ?_
          refine T_iastN dX4_findEnds_164 (sH_get hA rfl) (by omega) (by decide) ?_
          refine T_h (feS_E hA) ?_
          refine T_aload_n dX4_findEnds_165 rfl ?_
          refine T_get dX4_findEnds_166 fl_X4_36_4 (sH_get hA rfl) rfl ?_
          refine T_iload_n dX4_findEnds_169 rfl ?_
          refine T_aload_n dX4_findEnds_170 rfl ?_
          refine T_get dX4_findEnds_171 fl_X4_36_4 (sH_get hA rfl) rfl ?_
          refine T_iload dX4_findEnds_174 rfl ?_
          refine T_ialdN dX4_findEnds_176 (sH_get hA rfl) (by omega) (by decide) ?_
          refine T_iload dX4_findEnds_177 rfl ?_
          refine T_iadd dX4_findEnds_179 ?_
          refine T_iastN dX4_findEnds_180 (sH_get hA rfl) (by omega) (by decide) ?_
          refine T_h (feS_C hA) ?_
          refine T_iincN dX4_findEnds_181 rfl (by decide) rfl ?_
          refine T_aload_n dX4_findEnds_184 rfl ?_
          refine T_get dX4_findEnds_185 fl_X4_33_4 (sH_get hA rfl) rfl ?_
          refine T_iload dX4_findEnds_188 rfl ?_
          refine T_dup2 dX4_findEnds_190 rfl rfl ?_
          refine T_ialdN dX4_findEnds_191 (sH_get hA rfl) (by omega) (by decide) ?_
          refine T_iload dX4_findEnds_192 rfl ?_
          refine T_iadd dX4_findEnds_194 ?_
          refine T_iastN dX4_findEnds_195 (sH_get hA rfl) (by omega) (by decide) ?_
          refine T_h (feS_E hA) ?_
          refine T_iincN dX4_findEnds_196 rfl (by decide) rfl ?_
          refine T_goto (tgt := 123) dX4_findEnds_199 (by decide) ?_
          first
            | exact ih (k + 1) (by omega) f _ _ (hF.no (by omega) (Or.inl c132))
            | exact ih (k + 1) (by omega) f _ _ (hF.no (by omega) (Or.inr c146))
            | (refine T_h ?_ (ih (k + 1) (by omega) (f + 1) _ _ (hF.yes (by omega) c132 c146))
               show sH A (feS s (upd (upd E f (E k + nI go)) k (upd E f (E k + nI go) k + nI st)) (upd C f (C k + nI cn))) R = _
               rw [upd_n kf])
end S6
