/-! hats: the component's answer is the reference's -/
section S10
variable {L : LK} {wn : Nat → Nat}
theorem uw_id {g : Nat} : uw wn g (wn g) = wn := by
  funext j
  unfold uw
  by_cases e : j = g
  · rw [if_pos e, e]
  · rw [if_neg e]
theorem One_C (hL : LOk L) {s n g : Nat} (hg : g < L_h L) (hno : ¬ InT L wn s n) : One L wn s n g ↔ (g < min n (L_h L) ∧ OneC L wn s (min n (L_h L)) g) := by
  have hno2 : ¬ OvC L wn s (min n (L_h L)) := fun q => hno ((InT_C hL s n).mpr q)
  constructor
  · rintro ⟨v, v1, v2⟩
    have v2 : OvC L (uw wn g v) s (min n (L_h L)) := (InT_C hL s n).mp v2
    by_cases c : g < min n (L_h L)
    · obtain ⟨t, a, b, d⟩ := (OvC_uw hL c).mp v2
      refine ⟨c, t, a, ⟨v, v1, fun e => hno2 ?_, b⟩, d⟩
      rw [e, uw_id] at v2
      exact v2
    · exact absurd ((OvC_w (fun j hj => (if_neg (by omega) : uw wn g v j = wn j))).mp v2) hno2
  · rintro ⟨c, t, a, ⟨v, v1, -, b⟩, d⟩
    exact ⟨v, v1, (InT_C hL s n).mpr ((OvC_uw hL c).mpr ⟨t, a, b, d⟩)⟩
theorem AftS_ex {w t : Nat} {P : Nat → Nat → Prop} {q : Nat → Prop} : AftS L w (fun u => ∃ x, q x ∧ P x u) t ↔ ∃ x, q x ∧ AftS L w (P x) t := by
  unfold AftS
  by_cases c : w = 0
  · simp only [if_pos c]
  · simp only [if_neg c]
    constructor
    · rintro ⟨u, a, ⟨x, b, d⟩, e⟩
      exact ⟨x, b, u, a, d, e⟩
    · rintro ⟨x, b, u, a, d, e⟩
      exact ⟨u, a, ⟨x, b, d⟩, e⟩
theorem AftS_e {w t : Nat} {P Q : Nat → Prop} (h : ∀ u, P u ↔ Q u) : AftS L w P t ↔ AftS L w Q t := by
  unfold AftS
  by_cases c : w = 0
  · rw [if_pos c, if_pos c]; exact h t
  · rw [if_neg c, if_neg c]
    exact ⟨fun ⟨u, a, b, d⟩ => ⟨u, a, (h u).mp b, d⟩, fun ⟨u, a, b, d⟩ => ⟨u, a, (h u).mpr b, d⟩⟩
/-- the states with a hat in hour e -/
theorem HC_RC {e : Nat} : ∀ h, e < h → ∀ t, HC L wn e h t ↔ ∃ x, (x < 3 ∧ x ≠ wn e) ∧ RC L (uw wn e x) h t := by
  intro h
  induction h with
  | zero => exact fun q => absurd q (by omega)
  | succ h ih =>
    intro he t
    by_cases c : h = e
    · subst c
      rw [HC, if_pos rfl]
      have e4 : ∀ x, RC L (uw wn h x) (h + 1) t ↔ AftS L x (RC L wn h) t := fun x => by
        show AftS L (uw wn h x h) (RC L (uw wn h x) h) t ↔ _
        rw [show uw wn h x h = x from if_pos rfl]
        exact AftS_e (RC_w h (fun j hj => if_neg (by omega)))
      exact ⟨fun ⟨v, a, b, d⟩ => ⟨v, ⟨a, b⟩, (e4 v).mpr d⟩, fun ⟨v, a, b⟩ => ⟨v, a.1, a.2, (e4 v).mp b⟩⟩
    · rw [HC, if_neg c, AftS_e (ih (by omega)), AftS_ex]
      have e4 : ∀ x, RC L (uw wn e x) (h + 1) t ↔ AftS L (wn h) (RC L (uw wn e x) h) t := fun x => by
        show AftS L (uw wn e x h) (RC L (uw wn e x) h) t ↔ _
        rw [show uw wn e x h = wn h from if_neg c]
      exact ⟨fun ⟨x, a, b⟩ => ⟨x, a, (e4 x).mpr b⟩, fun ⟨x, a, b⟩ => ⟨x, a, (e4 x).mp b⟩⟩
theorem Two_C (hL : LOk L) {s n a b : Nat} (hab : a < b) (hb : b < L_h L) (hno : ¬ InT L wn s n) (hno1 : ∀ g, g < L_h L → ¬ One L wn s n g) : Two L wn s n a b ↔ (b < min n (L_h L) ∧ TwoC L wn s (min n (L_h L)) a b) := by
  have hN : ∀ w2 : Nat → Nat, InT L w2 s n ↔ OvC L w2 s (min n (L_h L)) := fun w2 => InT_C hL s n
  constructor
  · rintro ⟨x, y, x1, y1, h⟩
    have h1 : ¬ x = wn a := fun e => hno1 b hb ⟨y, y1, by rw [e, uw_id] at h; exact h⟩
    have hA : ¬ InT L (uw wn a x) s n := fun q => hno1 a (by omega) ⟨x, x1, q⟩
    by_cases c : b < min n (L_h L)
    · have h2 : ¬ y = wn b := fun e => by
        have e2 : uw (uw wn a x) b y = uw wn a x := by
          rw [e]
          have := uw_id (wn := uw wn a x) (g := b)
          rw [show uw wn a x b = wn b from if_neg (by omega)] at this
          exact this
        rw [e2] at h
        exact hA h
      obtain ⟨t, t1, t2, t3⟩ := (OvC_uw hL c).mp ((hN _).mp h)
      refine ⟨c, t, t1, ⟨y, y1, h2, ?_⟩, ?_⟩
      · rw [AftS_e (HC_RC b hab), AftS_ex]
        exact ⟨x, ⟨x1, h1⟩, t2⟩
      · exact (GdP_w _ (by omega) (fun j q1 q2 => (if_neg (by omega) : uw wn a x j = wn j)) t).mp t3
    · refine absurd ?_ hA
      rw [hN] at h ⊢
      exact (OvC_w (fun j hj => (if_neg (by omega) : uw (uw wn a x) b y j = uw wn a x j))).mp h
  · rintro ⟨c, t, t1, ⟨y, y1, y2, h⟩, t3⟩
    rw [AftS_e (HC_RC b hab), AftS_ex] at h
    obtain ⟨x, ⟨x1, x2⟩, h⟩ := h
    refine ⟨x, y, x1, y1, (hN _).mpr ((OvC_uw hL c).mpr ⟨t, t1, h, ?_⟩)⟩
    exact (GdP_w _ (by omega) (fun j q1 q2 => (if_neg (by omega) : uw wn a x j = wn j)) t).mpr t3
theorem pw_le {e h e2 h2 : Nat} (a : e < h) (b : e2 < h2) (q : ¬ ltP e2 h2 e h) : 2 ^ e + 2 ^ h ≤ 2 ^ e2 + 2 ^ h2 := by
  rcases Nat.lt_or_ge h h2 with c | c
  · have h1 : 2 ^ (h + 1) ≤ 2 ^ h2 := Nat.pow_le_pow_right (by decide) c
    have h3 : 2 ^ e ≤ 2 ^ h := Nat.pow_le_pow_right (by decide) (by omega)
    rw [Nat.pow_succ] at h1
    exact Nat.le_trans (show 2 ^ e + 2 ^ h ≤ 2 ^ h2 by omega) (Nat.le_add_left _ _)
  · have e1 : h = h2 := by
      rcases Nat.lt_or_ge h2 h with d | d
      · exact absurd (Or.inl d) q
      · omega
    subst e1
    have h3 : e ≤ e2 := by
      rcases Nat.lt_or_ge e2 e with d | d
      · exact absurd (Or.inr ⟨rfl, d⟩) q
      · exact d
    have : 2 ^ e ≤ 2 ^ e2 := Nat.pow_le_pow_right (by decide) h3
    omega
theorem HtC_R (hL : LOk L) {s n : Nat} {a : Int32} (h : HtC L wn s (min n (L_h L)) a) : HtR L wn s n a := by
  have h10 := hL.2.1
  have hn := nSt_le hL
  have hg : GdP L wn s (min n (L_h L)) (min n (L_h L)) (cdB L (start L)) ↔ InT L wn s n := by
    rw [InT_C hL, cut_C hL (min n (L_h L)) 0 (by omega)]
    have h1 := cdB_lt hL (fun i _ => start_le L i)
    constructor
    · exact fun q => ⟨_, by omega, rfl, q⟩
    · rintro ⟨t, t1, t2, t3⟩
      rw [show t = cdB L (start L) from t2] at t3
      exact t3
  rcases h with ⟨h1, h2⟩ | ⟨h1, x, h2, h3⟩
  · exact Or.inl ⟨hg.mp h1, h2⟩
  · have hno : ¬ InT L wn s n := fun q => h1 (hg.mpr q)
    refine Or.inr ⟨hno, ?_⟩
    rcases h2 with ⟨g, g1, g2, g3, g4⟩ | ⟨g1, g2⟩
    · refine Or.inl ⟨g, by omega, (One_C hL (by omega) hno).mpr ⟨g1, g2⟩, fun j hj q => g3 j hj ((One_C hL (by omega) hno).mp q).2, ?_⟩
      rcases h3 with ⟨-, q⟩ | ⟨q, -⟩
      · rw [q, g4]
      · have : 2 ^ g < 2 ^ 10 := Nat.pow_lt_pow_right (by decide) (by omega)
        exact absurd (g4.symm.trans q) (nI_m9 (by omega))
    · have hno1 : ∀ j, j < L_h L → ¬ One L wn s n j := fun j hj q => g1 j ((One_C hL hj hno).mp q).1 ((One_C hL hj hno).mp q).2
      refine Or.inr ⟨hno1, ?_⟩
      rcases h3 with ⟨q, -⟩ | ⟨-, q⟩
      · exact absurd g2 q
      · rcases q with ⟨e, k, q1, q2, q3, q4, q5⟩ | ⟨q1, q2⟩
        · refine Or.inl ⟨e, k, q1, by omega, (Two_C hL q1 (by omega) hno hno1).mpr ⟨q2, q3⟩, fun i j i1 j1 z => ?_, q5⟩
          have z := (Two_C hL i1 j1 hno hno1).mp z
          exact pw_le q1 i1 (fun l => q4 i j i1 z.1 l z.2)
        · exact Or.inr ⟨fun i j i1 j1 z => q1 i j i1 ((Two_C hL i1 j1 hno hno1).mp z).1 ((Two_C hL i1 j1 hno hno1).mp z).2, q2⟩
theorem HtR_un {s n : Nat} {a b : Int32} (h1 : HtR L wn s n a) (h2 : HtR L wn s n b) : a = b := by
  rcases h1 with ⟨a1, a2⟩ | ⟨a1, a2⟩ <;> rcases h2 with ⟨b1, b2⟩ | ⟨b1, b2⟩
  · rw [a2, b2]
  · exact absurd a1 b1
  · exact absurd b1 a1
  · rcases a2 with ⟨g, c1, c2, c3, c4⟩ | ⟨c1, c2⟩ <;> rcases b2 with ⟨j, d1, d2, d3, d4⟩ | ⟨d1, d2⟩
    · have : g = j := by
        rcases Nat.lt_trichotomy g j with q | q | q
        · exact absurd c2 (d3 g q)
        · exact q
        · exact absurd d2 (c3 j q)
      rw [c4, d4, this]
    · exact absurd c2 (d1 g c1)
    · exact absurd d2 (c1 j d1)
    · rcases c2 with ⟨i, j, e1, e2, e3, e4, e5⟩ | ⟨e1, e2⟩ <;> rcases d2 with ⟨i2, j2, f1, f2, f3, f4, f5⟩ | ⟨f1, f2⟩
      · have := e4 i2 j2 f1 f2 f3
        have := f4 i j e1 e2 e3
        rw [e5, f5, show 2 ^ i + 2 ^ j = 2 ^ i2 + 2 ^ j2 by omega]
      · exact absurd e3 (f1 i j e1 e2)
      · exact absurd f3 (e1 i2 j2 f1 f2)
      · rw [e2, f2]
end S10
