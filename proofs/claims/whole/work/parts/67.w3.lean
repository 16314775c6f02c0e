/-! what holds between the component's heap and the reference's state -/
section C67
variable {h h1 : XH} {S : Nat → Prop} {u : MSt} {L : LK} {wn : Nat → Nat} {wy nw wt sp isl nr : Nat} {bp rb rh rc : Nat → Nat} {lf : Int32} {ln sz : Nat → Int32} {g : Nat → Nat → Int32}
def PC (h : XH) (wy nw wt sp : Nat) (lf : Int32) : Prop := h[0]? = some (cwO wy nw wt sp lf) ∧ (wt = 47 ∧ sp = 53 ∨ wt = 53 ∧ sp = 47) ∧ (wy = 45 ∧ nw = 46 ∨ wy = 46 ∧ nw = 45)
def PL (h : XH) (wt isl : Nat) (bp : Nat → Nat) (L : LK) (wn : Nat → Nat) : Prop := LOk L ∧ LkH h wt isl (wt + 1) (wt + 2) bp L ∧ WnH h (wt + 1) L wn ∧ ∀ i, i < L_n L → 86 ≤ bp i
def PS (h : XH) (sp : Nat) : Prop := (∃ a b c d, h[sp]? = some (.inr (1, [.int a, .int b, .int c, .int d, .ref (sp + 1), .ref (sp + 2)]))) ∧ (∃ W, h[sp + 1]? = some (r10 W)) ∧ ∃ F, h[sp + 2]? = some (flO F)
def RdH (h : XH) (nr : Nat) (rb rh rc : Nat → Nat) : Prop := h[4]? = some (rdO nr) ∧ ∃ fb fg fc, h[5]? = some (r8 fb) ∧ h[6]? = some (r8 fg) ∧ h[7]? = some (r8 fc) ∧ ∀ r, r < nr → fb r = nI (rb r) ∧ fg r = nI (rh r) ∧ fc r = nI (rc r)
def PV (h : XH) : Prop := ∃ a b c P, h[8]? = some (voO 9 a b c) ∧ h[9]? = some (r3 P)
def PE (h : XH) (L : LK) : Prop := ∃ A s R, A.length = 10 ∧ h = sH A s R ∧ GOk s ∧ (s.1 0 = 0 → TabOk L s)
def PT (h : XH) (t : Int32) : Prop := h[43]? = some (.inr (9, [.int t]))
def PO (h : XH) : Prop := ∃ O, h[44]? = some (r10 O)
abbrev r125 (f : Nat → Int32) : XC := .inl (0, 125, .inl f)
def PW (h : XH) : Prop := (∃ f, h[45]? = some (r125 f)) ∧ ∃ f, h[46]? = some (r125 f)
def PX (h : XH) : Prop := ∃ a c f e, h[2]? = some (.inr (7, [.int a, .ref c, .int f, .int e]))
/-- the sheets of both -/
def ShU (u : MSt) (ln sz : Nat → Int32) (g : Nat → Nat → Int32) : Prop := ∀ k, k < 4 → ((u.2 2 k = -9 ∧ ln k = -1) ∨ ∃ s, s ≤ 2 ∧ u.2 2 k = nI s ∧ ln k = nI s) ∧ (∃ ll, ll ≤ 60 ∧ u.2 3 k = nI ll ∧ sz k = nI ll) ∧ ∀ i, i < 60 → u.2 4 (60 * k + i) = g k i
theorem PC.ag (p : PC h wy nw wt sp lf) (hg : Ag S h h1) (hS : ¬ S 0) : PC h1 wy nw wt sp lf := ⟨hg.at p.1 hS, p.2⟩
theorem LkH.ag {lp wo fl : Nat} (p : LkH h lp isl wo fl bp L) (hg : Ag S h h1) (h2 : ¬ S lp) (h3 : ¬ S fl) (h4 : ∀ i, i < L_n L → ¬ S (bp i)) : LkH h1 lp isl wo fl bp L := by
  obtain ⟨a1, a2, F, a3, a4⟩ := p
  exact ⟨hg.at a1 h2, a2, F, hg.at a3 h3, fun i hi => ⟨(a4 i hi).1, hg.at (a4 i hi).2 (h4 i hi)⟩⟩
theorem WnH.ag {wo : Nat} (p : WnH h wo L wn) (hg : Ag S h h1) (h2 : ¬ S wo) : WnH h1 wo L wn := by
  obtain ⟨W, a1, a2⟩ := p
  exact ⟨W, hg.at a1 h2, a2⟩
theorem PL.ag (p : PL h wt isl bp L wn) (hg : Ag S h h1) (hw : wt = 47 ∨ wt = 53) (hS : ∀ k, (47 ≤ k ∧ k ≤ 58) ∨ 86 ≤ k → ¬ S k) : PL h1 wt isl bp L wn :=
  ⟨p.1, p.2.1.ag hg (hS _ (by omega)) (hS _ (by omega)) (fun i hi => hS _ (Or.inr (p.2.2.2 i hi))), p.2.2.1.ag hg (hS _ (by omega)), p.2.2.2⟩
theorem PS.ag (p : PS h sp) (hg : Ag S h h1) (hw : sp = 47 ∨ sp = 53) (hS : ∀ k, (47 ≤ k ∧ k ≤ 58) → ¬ S k) : PS h1 sp := by
  obtain ⟨⟨a, b, c, d, p1⟩, ⟨W, p2⟩, F, p3⟩ := p
  exact ⟨⟨a, b, c, d, hg.at p1 (hS _ (by omega))⟩, ⟨W, hg.at p2 (hS _ (by omega))⟩, F, hg.at p3 (hS _ (by omega))⟩
theorem RdH.ag (p : RdH h nr rb rh rc) (hg : Ag S h h1) (hS : ∀ k, 4 ≤ k → k ≤ 7 → ¬ S k) : RdH h1 nr rb rh rc := by
  obtain ⟨p1, fb, fg, fc, p2, p3, p4, p5⟩ := p
  exact ⟨hg.at p1 (hS _ (by decide) (by decide)), fb, fg, fc, hg.at p2 (hS _ (by decide) (by decide)), hg.at p3 (hS _ (by decide) (by decide)), hg.at p4 (hS _ (by decide) (by decide)), p5⟩
theorem PV.ag (p : PV h) (hg : Ag S h h1) (hS : ∀ k, 8 ≤ k → k ≤ 9 → ¬ S k) : PV h1 := by
  obtain ⟨a, b, c, P, p1, p2⟩ := p
  exact ⟨a, b, c, P, hg.at p1 (hS _ (by decide) (by decide)), hg.at p2 (hS _ (by decide) (by decide))⟩
theorem PT.ag {t : Int32} (p : PT h t) (hg : Ag S h h1) (hS : ¬ S 43) : PT h1 t := hg.at p hS
theorem PO.ag (p : PO h) (hg : Ag S h h1) (hS : ¬ S 44) : PO h1 := by
  obtain ⟨O, p1⟩ := p
  exact ⟨O, hg.at p1 hS⟩
theorem PW.ag (p : PW h) (hg : Ag S h h1) (hS : ∀ k, 45 ≤ k → k ≤ 46 → ¬ S k) : PW h1 := by
  obtain ⟨⟨f, p1⟩, f2, p2⟩ := p
  exact ⟨⟨f, hg.at p1 (hS _ (by decide) (by decide))⟩, f2, hg.at p2 (hS _ (by decide) (by decide))⟩
theorem PX.ag (p : PX h) (hg : Ag S h h1) (hS : ¬ S 2) : PX h1 := by
  obtain ⟨a, c, f, e, p1⟩ := p
  exact ⟨a, c, f, e, hg.at p1 hS⟩
theorem ShH.ag (p : ShH h ln sz g) (hg : Ag S h h1) (hS : ∀ k, k = 1 ∨ (59 ≤ k ∧ k ≤ 66) → ¬ S k) : ShH h1 ln sz g := by
  obtain ⟨sf, p1, p2⟩ := p
  exact ⟨sf, hg.at p1 (hS _ (Or.inl rfl)), fun k hk => ⟨(p2 k hk).1, hg.at (p2 k hk).2.1 (hS _ (by omega)), hg.at (p2 k hk).2.2 (hS _ (by omega))⟩⟩
theorem sH_len {A R : XH} {s : SSt} : (sH A s R).length = A.length + (33 + R.length) := by
  unfold sH
  rw [List.length_append, List.length_append]
  rfl
theorem sH_of {A R : XH} {s : SSt} (hA : A.length = 10) (hl : 43 ≤ h1.length) (he : ∀ k, 10 ≤ k → k < 43 → h1[k]? = (sH A s R)[k]?) : h1 = sH (h1.take 10) s (h1.drop 43) := by
  have hA2 : (h1.take 10).length = 10 := by rw [List.length_take]; omega
  have hC : (sC s).length = 33 := rfl
  refine List.ext_getElem? fun k => ?_
  unfold sH
  by_cases c1 : k < 10
  · rw [List.getElem?_append_left (by omega), List.getElem?_take_of_lt c1]
  · by_cases c2 : k < 43
    · rw [he k (by omega) c2]
      unfold sH
      rw [List.getElem?_append_right (by omega), List.getElem?_append_left (by omega), List.getElem?_append_right (by omega), List.getElem?_append_left (by omega), hA, hA2]
    · rw [List.getElem?_append_right (by omega), List.getElem?_append_right (by omega), List.getElem?_drop, hA2, hC]
      congr 1
      omega
theorem PE.ag (p : PE h L) (hg : Ag S h h1) (hS : ∀ k, 10 ≤ k → k ≤ 42 → ¬ S k) : PE h1 L := by
  obtain ⟨A, s, R, hA, rfl, p1, p2⟩ := p
  have hlen := sH_len (A := A) (R := R) (s := s)
  have hl := hg.1
  refine ⟨h1.take 10, s, h1.drop 43, by rw [List.length_take]; omega, ?_, p1, p2⟩
  exact sH_of hA (by omega) (fun k k1 k2 => hg.2 k (by omega) (hS k k1 (by omega)))
/-- the reference's side -/
def URef (u : MSt) (L : LK) (wn : Nat → Nat) (nr : Nat) (rb rh rc : Nat → Nat) (ln sz : Nat → Int32) (g : Nat → Nat → Int32) : Prop := MR u L ∧ MW u L wn ∧ RdR u L nr rb rh rc ∧ ShU u ln sz g
/-- all of it -/
def SimP (h : XH) (u : MSt) (wy nw wt sp isl : Nat) (bp : Nat → Nat) (L : LK) (wn : Nat → Nat) (nr : Nat) (rb rh rc : Nat → Nat) (ln sz : Nat → Int32) (g : Nat → Nat → Int32) : Prop :=
  (PC h wy nw wt sp (u.1 0) ∧ PL h wt isl bp L wn ∧ PS h sp ∧ RdH h nr rb rh rc ∧ PV h ∧ PE h L ∧ PT h (u.1 1) ∧ PO h ∧ PW h ∧ PX h ∧ ShH h ln sz g) ∧ URef u L wn nr rb rh rc ln sz g
def Sim (h : XH) (u : MSt) : Prop := ∃ (wy nw wt sp isl : Nat) (bp : Nat → Nat) (L : LK) (wn : Nat → Nat) (nr : Nat) (rb rh rc : Nat → Nat) (ln sz : Nat → Int32) (g : Nat → Nat → Int32), SimP h u wy nw wt sp isl bp L wn nr rb rh rc ln sz g
theorem SimP.sim (p : SimP h u wy nw wt sp isl bp L wn nr rb rh rc ln sz g) : Sim h u := ⟨wy, nw, wt, sp, isl, bp, L, wn, nr, rb, rh, rc, ln, sz, g, p⟩
theorem SimP.ag (p : SimP h u wy nw wt sp isl bp L wn nr rb rh rc ln sz g) (hg : Ag (fun k => 67 ≤ k ∧ k ≤ 85) h h1) : SimP h1 u wy nw wt sp isl bp L wn nr rb rh rc ln sz g := by
  obtain ⟨⟨p1, p2, p3, p4, p5, p6, p7, p8, p9, p10, p11⟩, q⟩ := p
  have hw := p1.2.1
  exact ⟨⟨p1.ag hg (by omega), p2.ag hg (by omega) (fun k hk => by omega), p3.ag hg (by omega) (fun k hk => by omega), p4.ag hg (fun k k1 k2 => by omega), p5.ag hg (fun k k1 k2 => by omega), p6.ag hg (fun k k1 k2 => by omega), p7.ag hg (by omega), p8.ag hg (by omega), p9.ag hg (fun k k1 k2 => by omega), p10.ag hg (by omega), p11.ag hg (fun k hk => by omega)⟩, q⟩
theorem Sim.ag (p : Sim h u) (hg : Ag (fun k => 67 ≤ k ∧ k ≤ 85) h h1) : Sim h1 u := by
  obtain ⟨wy, nw, wt, sp, isl, bp, L, wn, nr, rb, rh, rc, ln, sz, g, q⟩ := p
  exact (q.ag hg).sim
/-- a call of the component beside one of the reference: the same answer, and all holds again -/
abbrev SQ (h : XH) (Rf : Option Value → MSt → Prop) : Option Value → XH → Prop := fun q h1 => Ag (fun k => k < 67) h h1 ∧ ∀ q2 u2, Rf q2 u2 → q2 = q ∧ Sim h1 u2
/-- the reference's state but for what it works with -/
theorem ref_same {u2 : MSt} (hs : SameE u u2) (q : URef u L wn nr rb rh rc ln sz g) : URef u2 L wn nr rb rh rc ln sz g := by
  refine ⟨hs.MR q.1, hs.MW q.2.1, hs.RdR q.2.2.1, fun k hk => ?_⟩
  have := q.2.2.2 k hk
  rw [(hs 2 (by omega)).2, (hs 3 (by omega)).2, (hs 4 (by omega)).2]
  exact this
theorem SimP.same {u2 : MSt} (p : SimP h u wy nw wt sp isl bp L wn nr rb rh rc ln sz g) (hs : SameE u u2) : SimP h u2 wy nw wt sp isl bp L wn nr rb rh rc ln sz g := by
  obtain ⟨⟨p1, p2, p3, p4, p5, p6, p7, p8, p9, p10, p11⟩, q⟩ := p
  refine ⟨⟨?_, p2, p3, p4, p5, p6, ?_, p8, p9, p10, p11⟩, ref_same hs q⟩
  · rw [(hs 0 (by omega)).1]; exact p1
  · rw [(hs 1 (by omega)).1]; exact p7
/-- the last fault is set -/
theorem SimP.flt (p : SimP h u wy nw wt sp isl bp L wn nr rb rh rc ln sz g) (x : Int32) : SimP (h.set 0 (cwO wy nw wt sp x)) (m0 u x) wy nw wt sp isl bp L wn nr rb rh rc ln sz g := by
  obtain ⟨⟨p1, p2, p3, p4, p5, p6, p7, p8, p9, p10, p11⟩, q⟩ := p
  have hw := p1.2.1
  have hg : Ag (fun k => k = 0) h (h.set 0 (cwO wy nw wt sp x)) := Ag.rf.set rfl
  exact ⟨⟨⟨gs_eq p1.1, p1.2⟩, p2.ag hg (by omega) (fun k hk => by omega), p3.ag hg (by omega) (fun k hk => by omega), p4.ag hg (fun k k1 k2 => by omega), p5.ag hg (fun k k1 k2 => by omega), p6.ag hg (fun k k1 k2 => by omega), p7.ag hg (by omega), p8.ag hg (by omega), p9.ag hg (fun k k1 k2 => by omega), p10.ag hg (by omega), p11.ag hg (fun k hk => by omega)⟩, q⟩
/-- the trace is set -/
theorem SimP.tr (p : SimP h u wy nw wt sp isl bp L wn nr rb rh rc ln sz g) (x : Int32) : SimP (h.set 43 (.inr (9, [.int x]))) (va_up u.1 1 x, u.2) wy nw wt sp isl bp L wn nr rb rh rc ln sz g := by
  obtain ⟨⟨p1, p2, p3, p4, p5, p6, p7, p8, p9, p10, p11⟩, q⟩ := p
  have hw := p1.2.1
  have hg : Ag (fun k => k = 43) h (h.set 43 (.inr (9, [.int x]))) := Ag.rf.set rfl
  exact ⟨⟨p1.ag hg (by omega), p2.ag hg (by omega) (fun k hk => by omega), p3.ag hg (by omega) (fun k hk => by omega), p4.ag hg (fun k k1 k2 => by omega), p5.ag hg (fun k k1 k2 => by omega), p6.ag hg (fun k k1 k2 => by omega), gs_eq p7, p8.ag hg (by omega), p9.ag hg (fun k k1 k2 => by omega), p10.ag hg (by omega), p11.ag hg (fun k hk => by omega)⟩, q⟩
/-- what the component works with: its voyage, orders, ways -/
theorem SimP.scr (p : SimP h u wy nw wt sp isl bp L wn nr rb rh rc ln sz g) (hg : Ag (fun k => k = 8 ∨ k = 9 ∨ k = 44) h h1) (hv : PV h1) (ho : PO h1) : SimP h1 u wy nw wt sp isl bp L wn nr rb rh rc ln sz g := by
  obtain ⟨⟨p1, p2, p3, p4, p5, p6, p7, p8, p9, p10, p11⟩, q⟩ := p
  have hw := p1.2.1
  exact ⟨⟨p1.ag hg (by omega), p2.ag hg (by omega) (fun k hk => by omega), p3.ag hg (by omega) (fun k hk => by omega), p4.ag hg (fun k k1 k2 => by omega), hv, p6.ag hg (fun k k1 k2 => by omega), p7.ag hg (by omega), ho, p9.ag hg (fun k k1 k2 => by omega), p10.ag hg (by omega), p11.ag hg (fun k hk => by omega)⟩, q⟩
theorem ag_lt {S : Nat → Prop} {h h1 : XH} (hg : Ag S h h1) (hS : ∀ k, S k → k < 67) : Ag (fun k => k < 67) h h1 := hg.mono hS
end C67
