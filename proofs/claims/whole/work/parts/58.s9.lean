/-! the search of the component and that of the reference find the same -/
section S9
variable {L : LK} {wn : Nat → Nat}
theorem cB_dig {B : Nat} {p : Nat → Nat} {n : Nat} (hB : 1 ≤ B) (hn : n ≤ 3) (hp : ∀ i, i < n → p i < B) : ∀ i, i < n → cB B p n n / B ^ i % B = p i := by
  intro i hi
  match n, hn with
  | 0, _ => omega
  | 1, _ =>
    have h0 := hp 0 (by omega)
    obtain rfl : i = 0 := by omega
    simp [cB]
    exact Nat.mod_eq_of_lt h0
  | 2, _ =>
    have h0 := hp 0 (by omega)
    have h1 := hp 1 (by omega)
    rcases (show i = 0 ∨ i = 1 by omega) with rfl | rfl
    · simp [cB]
      exact Nat.mod_eq_of_lt h0
    · simp [cB]
      rw [Nat.add_comm, Nat.add_mul_div_right _ _ (by omega), Nat.div_eq_of_lt h0, Nat.zero_add]
      exact Nat.mod_eq_of_lt h1
  | 3, _ =>
    have h0 := hp 0 (by omega)
    have h1 := hp 1 (by omega)
    have h2 := hp 2 (by omega)
    rcases (show i = 0 ∨ i = 1 ∨ i = 2 by omega) with rfl | rfl | rfl
    · simp [cB]
      exact Nat.mod_eq_of_lt h0
    · simp [cB]
      rw [Nat.add_comm, Nat.add_mul_div_right _ _ (by omega), Nat.div_eq_of_lt h0, Nat.zero_add, Nat.add_comm, Nat.add_mul_mod_self_right]
      exact Nat.mod_eq_of_lt h1
    · simp [cB]
      rw [Nat.pow_two, ← Nat.div_div_eq_div_mul, Nat.add_comm, Nat.add_mul_div_right _ _ (by omega), Nat.div_eq_of_lt h0, Nat.zero_add, Nat.add_comm, Nat.add_mul_div_right _ _ (by omega), Nat.div_eq_of_lt h1, Nat.zero_add]
      exact Nat.mod_eq_of_lt h2
theorem cB_back {B n t : Nat} (hB : 1 ≤ B) (hn : n ≤ 3) (ht : t < B ^ n) : cB B (fun i => t / B ^ i % B) n n = t := by
  have hb : 0 < B := hB
  match n, hn with
  | 0, _ => simp at ht; simp [cB, ht]
  | 1, _ =>
    simp at ht
    simp [cB]
    exact Nat.mod_eq_of_lt ht
  | 2, _ =>
    simp [cB]
    have h1 : t / B < B := Nat.div_lt_of_lt_mul (by rw [← Nat.pow_two]; exact ht)
    rw [Nat.mod_eq_of_lt h1, Nat.mul_comm]
    exact Nat.div_add_mod t B
  | 3, _ =>
    simp [cB]
    have h2 : t / B ^ 2 < B := Nat.div_lt_of_lt_mul (by rw [← Nat.pow_succ]; exact ht)
    rw [Nat.mod_eq_of_lt h2, Nat.pow_two, ← Nat.div_div_eq_div_mul, Nat.mul_comm (t / B / B) B, Nat.div_add_mod (t / B) B, Nat.mul_comm]
    exact Nat.div_add_mod t B
theorem cB_c {B n : Nat} {p q : Nat → Nat} (h : ∀ i, i < n → p i = q i) : ∀ k, k ≤ n → cB B p n k = cB B q n k
  | 0, _ => rfl
  | k + 1, hk => by rw [cB, cB, cB_c h k (by omega), h _ (by omega)]
theorem cN_c {n : Nat} {p q : Nat → Nat} (h : ∀ i, i < n → p i = q i) : ∀ k, k ≤ n → cN p n k = cN q n k
  | 0, _ => rfl
  | k + 1, hk => by rw [cN, cN, cN_c h k (by omega), h _ (by omega)]
theorem ovrN_c {L : LK} {p q : Nat → Nat} : ∀ m, (∀ i, i < m → p i = q i) → ovrN L p m = ovrN L q m
  | 0, _ => rfl
  | m + 1, h => by rw [ovrN, ovrN, ovrN_c m (fun i hi => h i (by omega)), h m (by omega)]
theorem finN_c {s w : Nat} {p q : Nat → Nat} (h : ∀ i, i < L_n L → p i = q i) : finN L s w p = finN L s w q := by
  unfold finN
  rw [cntN_c (L := L) (w := w) (x := s) (y := s) (p := p) (r := q) (L_n L) (fun i hi => ⟨rfl, h i hi⟩)]
/-- the reference's number of a state of the component -/
abbrev fiv (L : LK) (t : Nat) : Nat := cN (dB L t) (L_n L) (L_n L)
theorem dB_le (L : LK) (t i : Nat) : dB L t i ≤ L_w L := Nat.lt_succ_iff.mp (Nat.mod_lt _ (by omega))
theorem dB_cd (hL : LOk L) {p : Nat → Nat} (hp : ∀ i, i < L_n L → p i ≤ L_w L) : ∀ i, i < L_n L → dB L (cdB L p) i = p i := cB_dig (by omega) hL.2.2.1 (fun i hi => by have := hp i hi; omega)
theorem cd_dB (hL : LOk L) {t : Nat} (ht : t < nSt L) : cdB L (dB L t) = t := cB_back (by omega) hL.2.2.1 ht
theorem dg_fiv (hL : LOk L) (t : Nat) : ∀ i, i < L_n L → dg (fiv L t) i = dB L t i := dg_cN hL.2.2.1 (fun i _ => Nat.le_trans (dB_le L t i) hL.1)
theorem fiv_lt (hL : LOk L) (t : Nat) : fiv L t < 125 := cN_lt hL.2.2.1 (fun i _ => Nat.le_trans (dB_le L t i) hL.1)
/-- every state that is reached has places in the lake -/
theorem Rch_form (hL : LOk L) : ∀ h k, Rch L wn h k → ∃ t, t < nSt L ∧ k = fiv L t := by
  intro h
  induction h with
  | zero =>
    intro k hk
    refine ⟨cdB L (start L), cdB_lt hL (fun i _ => start_le L i), ?_⟩
    rw [show k = cN (start L) (L_n L) (L_n L) from hk]
    exact cN_c (fun i hi => (dB_cd hL (fun i _ => start_le L i) i hi).symm) _ (Nat.le_refl _)
  | succ h ih =>
    rintro k ⟨k0, x, a1, a2, a3, a4, a5⟩
    obtain ⟨t0, b1, rfl⟩ := ih k0 a3
    have hle : ∀ i, i < L_n L → aft L (wn h) (x.testBit i) i (dg (fiv L t0) i) ≤ L_w L := fun i hi => aft_le (by rw [dg_fiv hL t0 i hi]; exact dB_le L t0 i)
    refine ⟨cdB L (fun i => aft L (wn h) (x.testBit i) i (dg (fiv L t0) i)), cdB_lt hL hle, ?_⟩
    rw [a5]
    exact cN_c (fun i hi => (dB_cd hL hle i hi).symm) _ (Nat.le_refl _)
theorem fiv_inj (hL : LOk L) {t u : Nat} (ht : t < nSt L) (hu : u < nSt L) (e : fiv L t = fiv L u) : t = u := by
  rw [← cd_dB hL ht, ← cd_dB hL hu]
  refine cB_c (fun i hi => ?_) _ (Nat.le_refl _)
  rw [← dg_fiv hL t i hi, ← dg_fiv hL u i hi, e]
theorem aft_0 {go : Bool} {i c : Nat} : aft L 0 go i c = c := by
  unfold aft
  rw [if_pos (Or.inl rfl)]
theorem cnt0 {w : Nat} {p : Nat → Nat} : ∀ m, cntN L 0 w p m = 0
  | 0 => rfl
  | m + 1 => by
    rw [cntN, cnt0 m, if_neg]
    unfold cnt
    simp
theorem fin0 {w : Nat} {p : Nat → Nat} : finN L 0 w p = 0 := by
  unfold finN
  rw [cnt0]
  rfl
theorem RC_Rch (hL : LOk L) : ∀ h t, RC L wn h t ↔ (t < nSt L ∧ Rch L wn h (fiv L t)) := by
  intro h
  induction h with
  | zero =>
    intro t
    have h1 := cdB_lt hL (fun i _ => start_le L i)
    have e : fiv L (cdB L (start L)) = cN (start L) (L_n L) (L_n L) := cN_c (fun i hi => dB_cd hL (fun i _ => start_le L i) i hi) _ (Nat.le_refl _)
    constructor
    · intro q
      rw [show t = cdB L (start L) from q]
      exact ⟨h1, e⟩
    · rintro ⟨q1, q2⟩
      have q2 : fiv L t = cN (start L) (L_n L) (L_n L) := q2
      exact fiv_inj hL q1 h1 (q2.trans e.symm)
  | succ h ih =>
    intro t
    show AftS L (wn h) (RC L wn h) t ↔ _
    unfold AftS
    by_cases e : wn h = 0
    · rw [if_pos e, ih t]
      constructor
      · rintro ⟨q1, q2⟩
        refine ⟨q1, fiv L t, 0, fiv_lt hL t, Nat.zero_le _, q2, fin0, ?_⟩
        unfold nxN
        refine cN_c (fun i hi => ?_) _ (Nat.le_refl _)
        show dB L t i = aft L (wn h) (Nat.testBit 0 i) i (dg (fiv L t) i)
        rw [e, aft_0, dg_fiv hL t i hi]
      · rintro ⟨q1, k, x, a1, a2, a3, a4, a5⟩
        refine ⟨q1, ?_⟩
        obtain ⟨u, u1, rfl⟩ := Rch_form hL h k a3
        have : fiv L t = fiv L u := by
          rw [a5]
          unfold nxN
          refine cN_c (fun i hi => ?_) _ (Nat.le_refl _)
          show aft L (wn h) (x.testBit i) i (dg (fiv L u) i) = dB L u i
          rw [e, aft_0, dg_fiv hL u i hi]
        rw [this]
        exact a3
    · rw [if_neg e]
      constructor
      · rintro ⟨u, u1, u2, x, x1, x2, x3⟩
        have hle : ∀ i, i < L_n L → aft L (wn h) (x.testBit i) i (dB L u i) ≤ L_w L := fun i _ => aft_le (dB_le L u i)
        refine ⟨by rw [x3]; exact cdB_lt hL hle, fiv L u, x, fiv_lt hL u, x1, ((ih u).mp u2).2, ?_, ?_⟩
        · rw [finN_c (dg_fiv hL u)]; exact x2
        · unfold nxN
          refine cN_c (fun i hi => ?_) _ (Nat.le_refl _)
          show dB L t i = aft L (wn h) (x.testBit i) i (dg (fiv L u) i)
          rw [x3, dB_cd hL hle i hi, dg_fiv hL u i hi]
      · rintro ⟨q1, k, x, a1, a2, a3, a4, a5⟩
        obtain ⟨u, u1, rfl⟩ := Rch_form hL h k a3
        refine ⟨u, u1, (ih u).mpr ⟨u1, a3⟩, x, a2, ?_, ?_⟩
        · rw [← finN_c (dg_fiv hL u)]; exact a4
        · rw [← cd_dB hL q1]
          refine cB_c (fun i hi => ?_) _ (Nat.le_refl _)
          have hle : ∀ i, i < L_n L → aft L (wn h) (x.testBit i) i (dg (fiv L u) i) ≤ 4 := fun i hi => Nat.le_trans (aft_le (by rw [dg_fiv hL u i hi]; exact dB_le L u i)) hL.1
          have := dg_cN hL.2.2.1 hle i hi
          rw [← dg_fiv hL t i hi, a5, ← dg_fiv hL u i hi]
          exact this
theorem RC_lt (hL : LOk L) {h t : Nat} (q : RC L wn h t) : t < nSt L := ((RC_Rch hL h t).mp q).1
theorem OvC_A (hL : LOk L) (s h : Nat) : OvC L wn s h ↔ OvA L wn s h := by
  have e : ∀ u, ovrN L (dg (fiv L u)) (L_n L) = ovS L u := fun u => ovrN_c _ (dg_fiv hL u)
  constructor
  · rintro ⟨u, a, b, c⟩
    exact ⟨fiv L u, fiv_lt hL u, ((RC_Rch hL h u).mp c).2, by rw [e]; exact b⟩
  · rintro ⟨k, a, b, c⟩
    obtain ⟨u, u1, rfl⟩ := Rch_form hL h k b
    exact ⟨u, u1, by rw [← e]; exact c, (RC_Rch hL h u).mpr ⟨u1, b⟩⟩
theorem SoC_R (hL : LOk L) {s H : Nat} {a : Int32} (h : SoC L wn s H a) : SoR L wn s H a := by
  rcases h with ⟨g, a1, a2, a3, a4⟩ | ⟨a1, a2⟩
  · exact Or.inl ⟨g, a1, (OvC_A hL s g).mp a2, fun j hj q => a3 j hj ((OvC_A hL s j).mpr q), a4⟩
  · exact Or.inr ⟨fun j hj q => a1 j hj ((OvC_A hL s j).mpr q), a2⟩
theorem SoR_un {s H : Nat} {a b : Int32} (h1 : SoR L wn s H a) (h2 : SoR L wn s H b) : a = b := by
  rcases h1 with ⟨g, a1, a2, a3, a4⟩ | ⟨a1, a2⟩ <;> rcases h2 with ⟨j, b1, b2, b3, b4⟩ | ⟨b1, b2⟩
  · have : g = j := by
      rcases Nat.lt_trichotomy g j with q | q | q
      · exact absurd a2 (b3 g q)
      · exact q
      · exact absurd b2 (a3 j q)
    rw [a4, b4, this]
  · exact absurd a2 (b1 g a1)
  · exact absurd b2 (a1 j b1)
  · rw [a2, b2]
/-! who is over stays over -/
theorem ovr_tb {L : LK} {p : Nat → Nat} : ∀ m i, (ovrN L p m).testBit i = (decide (i < m) && decide (p i = goal L i))
  | 0, i => by simp [ovrN]
  | m + 1, i => by
    have ih := ovr_tb (L := L) (p := p) m i
    have hlt := ovrN_lt L p m
    rw [ovrN]
    by_cases e : p m = goal L m
    · rw [if_pos e]
      have t := tb_add hlt
      rcases Nat.lt_trichotomy i m with q | q | q
      · rw [t.1 i q, ih]
        simp [q, show i < m + 1 by omega]
      · subst q
        rw [t.2.1]
        simp [e]
      · rw [Nat.testBit_lt_two_pow (Nat.lt_of_lt_of_le (show ovrN L p m + 2 ^ m < 2 ^ (m + 1) by rw [Nat.pow_succ]; omega) (Nat.pow_le_pow_right (by decide) (show m + 1 ≤ i by omega)))]
        simp [show ¬ i < m + 1 by omega]
    · rw [if_neg e, Nat.add_zero, ih]
      by_cases q : i = m
      · subst q
        simp [e]
      · by_cases z : i < m
        · simp [z, show i < m + 1 by omega]
        · simp [z, show ¬ i < m + 1 by omega]
theorem sub_tb {a s : Nat} : (a &&& s) = s ↔ ∀ i, s.testBit i = true → a.testBit i = true := by
  constructor
  · intro h i hi
    have := congrArg (fun x => Nat.testBit x i) h
    simp only [Nat.testBit_and] at this
    rw [hi, Bool.and_true] at this
    exact this
  · intro h
    refine Nat.eq_of_testBit_eq fun i => ?_
    rw [Nat.testBit_and]
    cases hs : s.testBit i with
    | false => simp
    | true => rw [h i hs]; rfl
theorem OvC_up (hL : LOk L) {s h : Nat} (q : OvC L wn s h) : OvC L wn s (h + 1) := by
  obtain ⟨u, u1, u2, u3⟩ := q
  by_cases e : wn h = 0
  · exact ⟨u, u1, u2, by show AftS L (wn h) (RC L wn h) u; unfold AftS; rw [if_pos e]; exact u3⟩
  · have hle : ∀ i, i < L_n L → aft L (wn h) (Nat.testBit 0 i) i (dB L u i) ≤ L_w L := fun i _ => aft_le (dB_le L u i)
    refine ⟨cdB L (fun i => aft L (wn h) (Nat.testBit 0 i) i (dB L u i)), cdB_lt hL hle, ?_, ?_⟩
    · rw [sub_tb] at u2 ⊢
      intro i hi
      have := u2 i hi
      rw [ovr_tb, Bool.and_eq_true, decide_eq_true_iff, decide_eq_true_iff] at this ⊢
      refine ⟨this.1, ?_⟩
      rw [dB_cd hL hle i this.1]
      unfold aft
      rw [if_pos (Or.inr this.2)]
      exact this.2
    · show AftS L (wn h) (RC L wn h) _
      unfold AftS
      rw [if_neg e]
      exact ⟨u, u1, u3, 0, Nat.zero_le _, fin0, rfl⟩
theorem OvC_mono (hL : LOk L) {s h : Nat} (q : OvC L wn s h) : ∀ k, OvC L wn s (h + k)
  | 0 => q
  | k + 1 => OvC_up hL (OvC_mono hL q k)
theorem InT_C (hL : LOk L) (s n : Nat) : InT L wn s n ↔ OvC L wn s (min n (L_h L)) := by
  constructor
  · rintro ⟨h, a, b, c⟩
    have := OvC_mono hL ((OvC_A hL s h).mpr c) (min n (L_h L) - h)
    rw [show h + (min n (L_h L) - h) = min n (L_h L) by omega] at this
    exact this
  · exact fun q => ⟨min n (L_h L), by omega, by omega, (OvC_A hL s _).mp q⟩
/-! cut a run at an hour -/
theorem cut_C (hL : LOk L) {s n : Nat} : ∀ k h, h + k = n → (OvC L wn s n ↔ ∃ t, t < 128 ∧ RC L wn h t ∧ GdP L wn s n k t) := by
  have hn := nSt_le hL
  intro k
  induction k with
  | zero =>
    intro h hh
    obtain rfl : h = n := by omega
    exact ⟨fun ⟨u, a, b, c⟩ => ⟨u, by omega, c, a, b⟩, fun ⟨t, a, b, c⟩ => ⟨t, c.1, c.2, b⟩⟩
  | succ k ih =>
    intro h hh
    rw [ih (h + 1) (by omega)]
    have e1 : n - (k + 1) = h := by omega
    have e2 : ∀ t, GdP L wn s n (k + 1) t ↔ PreP L (wn h) (GdP L wn s n k) t := fun t => by rw [GdP, e1]
    by_cases e : wn h = 0
    · constructor
      · rintro ⟨t, a, b, c⟩
        have b : AftS L (wn h) (RC L wn h) t := b
        unfold AftS at b
        rw [if_pos e] at b
        exact ⟨t, a, b, (e2 t).mpr (by unfold PreP; rw [if_pos e]; exact c)⟩
      · rintro ⟨t, a, b, c⟩
        have c := (e2 t).mp c
        unfold PreP at c
        rw [if_pos e] at c
        exact ⟨t, a, by show AftS L (wn h) (RC L wn h) t; unfold AftS; rw [if_pos e]; exact b, c⟩
    · constructor
      · rintro ⟨t, a, b, c⟩
        have b : AftS L (wn h) (RC L wn h) t := b
        unfold AftS at b
        rw [if_neg e] at b
        obtain ⟨u, u1, u2, u3⟩ := b
        exact ⟨u, by omega, u2, (e2 u).mpr (by unfold PreP; rw [if_neg e]; exact ⟨u1, t, a, u3, c⟩)⟩
      · rintro ⟨t, a, b, c⟩
        have c := (e2 t).mp c
        unfold PreP at c
        rw [if_neg e] at c
        obtain ⟨c1, u, u1, u2, u3⟩ := c
        exact ⟨u, u1, by show AftS L (wn h) (RC L wn h) u; unfold AftS; rw [if_neg e]; exact ⟨t, c1, b, u2⟩, u3⟩
theorem RC_w {w2 : Nat → Nat} : ∀ h, (∀ g, g < h → wn g = w2 g) → ∀ t, RC L wn h t ↔ RC L w2 h t := by
  intro h
  induction h with
  | zero => exact fun _ t => Iff.rfl
  | succ h ih =>
    intro e t
    show AftS L (wn h) (RC L wn h) t ↔ AftS L (w2 h) (RC L w2 h) t
    rw [← e h (by omega)]
    unfold AftS
    have ih := ih (fun g hg => e g (by omega))
    by_cases c : wn h = 0
    · rw [if_pos c, if_pos c]; exact ih t
    · rw [if_neg c, if_neg c]
      exact ⟨fun ⟨u, a, b, d⟩ => ⟨u, a, (ih u).mp b, d⟩, fun ⟨u, a, b, d⟩ => ⟨u, a, (ih u).mpr b, d⟩⟩
theorem OvC_w {w2 : Nat → Nat} {s h : Nat} (e : ∀ g, g < h → wn g = w2 g) : OvC L wn s h ↔ OvC L w2 s h :=
  ⟨fun ⟨u, a, b, c⟩ => ⟨u, a, b, (RC_w h e u).mp c⟩, fun ⟨u, a, b, c⟩ => ⟨u, a, b, (RC_w h e u).mpr c⟩⟩
theorem GdP_w {w2 : Nat → Nat} {s n : Nat} : ∀ k, k ≤ n → (∀ g, n - k ≤ g → g < n → wn g = w2 g) → ∀ t, GdP L wn s n k t ↔ GdP L w2 s n k t := by
  intro k
  induction k with
  | zero => exact fun _ _ t => Iff.rfl
  | succ k ih =>
    intro hk e t
    have ih := ih (by omega) (fun g h1 h2 => e g (by omega) h2)
    show PreP L (wn (n - (k + 1))) (GdP L wn s n k) t ↔ PreP L (w2 (n - (k + 1))) (GdP L w2 s n k) t
    rw [← e (n - (k + 1)) (Nat.le_refl _) (by omega)]
    unfold PreP
    by_cases c : wn (n - (k + 1)) = 0
    · rw [if_pos c, if_pos c]; exact ih t
    · rw [if_neg c, if_neg c]
      exact ⟨fun ⟨a, u, b, d, f⟩ => ⟨a, u, b, d, (ih u).mp f⟩, fun ⟨a, u, b, d, f⟩ => ⟨a, u, b, d, (ih u).mpr f⟩⟩
/-- another wind in hour g -/
theorem OvC_uw (hL : LOk L) {s n g v : Nat} (hg : g < n) : OvC L (uw wn g v) s n ↔ ∃ t, t < 128 ∧ AftS L v (RC L wn g) t ∧ GdP L wn s n (n - (g + 1)) t := by
  rw [cut_C hL (n - (g + 1)) (g + 1) (by omega)]
  have e1 : uw wn g v g = v := if_pos rfl
  have e2 : ∀ t, GdP L (uw wn g v) s n (n - (g + 1)) t ↔ GdP L wn s n (n - (g + 1)) t := GdP_w _ (by omega) (fun j h1 h2 => if_neg (by omega))
  have e3 : ∀ t, RC L (uw wn g v) g t ↔ RC L wn g t := RC_w g (fun j hj => if_neg (by omega))
  have e4 : ∀ t, RC L (uw wn g v) (g + 1) t ↔ AftS L v (RC L wn g) t := fun t => by
    show AftS L (uw wn g v g) (RC L (uw wn g v) g) t ↔ _
    rw [e1]
    unfold AftS
    by_cases c : v = 0
    · rw [if_pos c, if_pos c]; exact e3 t
    · rw [if_neg c, if_neg c]
      exact ⟨fun ⟨u, a, b, d⟩ => ⟨u, a, (e3 u).mp b, d⟩, fun ⟨u, a, b, d⟩ => ⟨u, a, (e3 u).mpr b, d⟩⟩
  exact ⟨fun ⟨t, a, b, c⟩ => ⟨t, a, (e4 t).mp b, (e2 t).mp c⟩, fun ⟨t, a, b, c⟩ => ⟨t, a, (e4 t).mpr b, (e2 t).mpr c⟩⟩
end S9
