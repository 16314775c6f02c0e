/-! lake beside the reference's -/
section L2
variable {h h1 : XH} {u u2 : MSt} {L : LK} {wn : Nat → Nat} {wy nw wt sp isl nr : Nat} {bp rb rh rc : Nat → Nat} {ln sz : Nat → Int32} {g : Nat → Nat → Int32}
/-- the spare lake and the reader have been used -/
theorem SimP.spr (p : SimP h u wy nw wt sp isl bp L wn nr rb rh rc ln sz g) (hg : Ag (fun k => k = 2 ∨ k = sp ∨ k = sp + 1 ∨ k = sp + 2) h h1) (hx : PX h1) (hs : PS h1 sp) : SimP h1 u wy nw wt sp isl bp L wn nr rb rh rc ln sz g := by
  obtain ⟨⟨p1, p2, p3, p4, p5, p6, p7, p8, p9, p10, p11⟩, q⟩ := p
  have hw := p1.2.1
  have p22 := p2.2.2.2
  exact ⟨⟨p1.ag hg (by omega), ⟨p2.1, p2.2.1.ag hg (by omega) (by omega) (fun i hi => by have := p22 i hi; omega), p2.2.2.1.ag hg (by omega), p22⟩, hs, p4.ag hg (fun k k1 k2 => by omega), p5.ag hg (fun k k1 k2 => by omega), p6.ag hg (fun k k1 k2 => by omega), p7.ag hg (by omega), p8.ag hg (by omega), p9.ag hg (fun k k1 k2 => by omega), hx, p11.ag hg (fun k hk => by omega)⟩, q⟩
/-- the lake of a text -/
def txL (g : Nat → Int32) (s w hh m : Nat) : LK := ((w, (hh, m)), ((fun b => (g (s + 2 + w + hh + 4 * b + 2) - 48).toNatClampNeg), ((fun b => (kdV (g (s + 2 + w + hh + 4 * b + 1))).toNatClampNeg), ((fun b => (g (s + 2 + w + hh + 4 * b + 3) - 48).toNatClampNeg), (fun c => if 0 < c ∧ c < w ∧ g (s + 1 + c) - 48 = 1 then 1 else 0)))))
def txW (g : Nat → Int32) (s w k : Nat) : Nat := (mWb (g (s + 2 + w + k))).toNatClampNeg
theorem btK_3 {g : Nat → Int32} {e a : Nat} (h : btK g e a = 3) : a + 2 < e ∧ (∃ v, v ≤ 2 ∧ kdV (g a) = nI v) ∧ (∃ d, d ≤ 1 ∧ g (a + 1) - 48 = nI d) ∧ ∃ d, 1 ≤ d ∧ d ≤ 3 ∧ g (a + 2) - 48 = nI d := by
  unfold btK at h
  by_cases c1 : a < e ∧ ¬ kdV (g a) = -9
  · rw [if_pos c1] at h
    by_cases c2 : dgP g e (a + 1) 0 1
    · rw [if_pos c2] at h
      by_cases c3 : dgP g e (a + 2) 1 3
      · obtain ⟨d, d1, d2, -, d4⟩ := dig_I (by decide) (by decide) c2.2
        obtain ⟨x, x1, x2, -, x4⟩ := dig_I (by decide) (by decide) c3.2
        refine ⟨c3.1, ?_, ⟨d, d2, d4⟩, x, x1, x2, x4⟩
        rcases kdV_N (g a) with z | z
        · exact absurd z c1.2
        · exact z
      · rw [if_neg c3] at h; exact absurd h (by decide)
    · rw [if_neg c2] at h; exact absurd h (by decide)
  · rw [if_neg c1] at h; exact absurd h (by decide)
theorem txL_ok {g : Nat → Int32} {e s w hh m : Nat} (hw : w ≤ 4) (hh1 : hh ≤ 10) (hm : m ≤ 3) (hK : ∀ b, b < m → btK g e (s + 2 + w + hh + 4 * b + 1) = 3) : LOk (txL g s w hh m) ∧ ∀ b, b < m → kdV (g (s + 2 + w + hh + 4 * b + 1)) = nI (L_kd (txL g s w hh m) b) ∧ g (s + 2 + w + hh + 4 * b + 2) - 48 = nI (L_fr (txL g s w hh m) b) ∧ g (s + 2 + w + hh + 4 * b + 3) - 48 = nI (L_fs (txL g s w hh m) b) := by
  have key : ∀ b, b < m → (∃ v, v ≤ 2 ∧ kdV (g (s + 2 + w + hh + 4 * b + 1)) = nI v) ∧ (∃ d, d ≤ 1 ∧ g (s + 2 + w + hh + 4 * b + 2) - 48 = nI d) ∧ ∃ d, 1 ≤ d ∧ d ≤ 3 ∧ g (s + 2 + w + hh + 4 * b + 3) - 48 = nI d := fun b hb => (btK_3 (hK b hb)).2
  refine ⟨⟨hw, hh1, hm, fun b hb => ?_, fun c _ => ?_⟩, fun b hb => ?_⟩
  · obtain ⟨⟨v, v1, v2⟩, ⟨d, d1, d2⟩, x, x1, x2, x3⟩ := key b hb
    show (g (s + 2 + w + hh + 4 * b + 2) - 48).toNatClampNeg ≤ 1 ∧ (kdV (g (s + 2 + w + hh + 4 * b + 1))).toNatClampNeg ≤ 2 ∧ 1 ≤ (g (s + 2 + w + hh + 4 * b + 3) - 48).toNatClampNeg ∧ (g (s + 2 + w + hh + 4 * b + 3) - 48).toNatClampNeg ≤ 3
    rw [v2, d2, x3, nI_clamp (by omega), nI_clamp (by omega), nI_clamp (by omega)]
    omega
  · show (if 0 < c ∧ c < w ∧ g (s + 1 + c) - 48 = 1 then 1 else 0) ≤ 1
    split <;> omega
  · obtain ⟨⟨v, v1, v2⟩, ⟨d, d1, d2⟩, x, x1, x2, x3⟩ := key b hb
    show _ = nI (kdV (g (s + 2 + w + hh + 4 * b + 1))).toNatClampNeg ∧ _ = nI (g (s + 2 + w + hh + 4 * b + 2) - 48).toNatClampNeg ∧ _ = nI (g (s + 2 + w + hh + 4 * b + 3) - 48).toNatClampNeg
    rw [v2, d2, x3, nI_clamp (by omega), nI_clamp (by omega), nI_clamp (by omega)]
    exact ⟨rfl, rfl, rfl⟩
theorem txW_ok {g : Nat → Int32} {s w k : Nat} (h : ¬ mWb (g (s + 2 + w + k)) = -9) : mWb (g (s + 2 + w + k)) = nI (txW g s w k) ∧ txW g s w k ≤ 2 := by
  rcases mWb_N (g (s + 2 + w + k)) with z | ⟨v, v1, v2⟩
  · exact absurd z h
  · unfold txW
    rw [v2, nI_clamp (by omega)]
    exact ⟨rfl, v1⟩
/-- the lake that was read is taken -/
theorem SimP.tak (p : SimP h u wy nw wt sp isl bp L wn nr rb rh rc ln sz g) (h86 : 86 ≤ h.length) {G : Nat → Int32} {bs : XH} {W : Nat → Int32} {F2 : Nat → Option Nat} {c s n w il hh m a : Nat} {rs : List Value} {kk : Nat}
    (hB : TxB h c sp (sp + 1) (sp + 2) G) (hw : 2 ≤ w ∧ w ≤ 4) (hh1 : hh ≤ 10) (hm : m ≤ 3) (he : s + n ≤ 60) (hrng : s + 2 + w + hh ≤ s + n) (hil : IlR G s w il) (hWd : ∀ k, k < hh → WdD G (s + 2 + w) W k) (hBt : BtL h G (s + 2 + w + hh) m bs F2) (hK : ∀ b, b < m → btK G (s + n) (s + 2 + w + hh + 4 * b + 1) = 3) (hk : kk < 4) (hf : ∀ x, x < 60 → u.2 4 (60 * kk + x) = G x) (hT : TkD u2 (u.2 4) (60 * kk + s + n) (60 * kk + s) w hh m) (hSL : SameL u u2)
    {h2 : XH} {y0 : Int32} (h10 : (tL (h ++ bs) c s n sp (sp + 1) (sp + 2) a w il hh m W F2)[10]? = some (.inr (4, .int y0 :: rs))) (e2 : h2 = ((((tL (h ++ bs) c s n sp (sp + 1) (sp + 2) a w il hh m W F2).set 0 (cwO wy nw sp wt (u.1 0))).set 4 (rdO 0)).set 10 (.inr (4, .int 1 :: rs)))) :
    SimP h2 u2 wy nw sp wt il (fun b => h.length + b) (txL G s w hh m) (txW G s w) 0 rb rh rc ln sz g := by
  obtain ⟨⟨p1, p2, p3, p4, p5, p6, p7, p8, p9, p10, p11⟩, q1, q2, q3, q4⟩ := p
  have hws := p1.2.1
  have hB2 := hB.push bs
  obtain ⟨t2, ts, tw, tf, tc⟩ := tL_all (f := s) (n := n) (a := a) (w := w) (il := il) (hh := hh) (nb := m) (W := W) (F := F2) hB2
  have hgT : Ag (fun k => k = 2 ∨ k = sp ∨ k = sp + 1 ∨ k = sp + 2) h (tL (h ++ bs) c s n sp (sp + 1) (sp + 2) a w il hh m W F2) := ((((Ag.rf.push).set (Or.inl rfl)).set (Or.inr (Or.inl rfl))).set (Or.inr (Or.inr (Or.inl rfl)))).set (Or.inr (Or.inr (Or.inr rfl)))
  have hg2 : Ag (fun k => k = 0 ∨ k = 4 ∨ k = 10) (tL (h ++ bs) c s n sp (sp + 1) (sp + 2) a w il hh m W F2) h2 := by rw [e2]; exact ((Ag.rf.set (Or.inl rfl)).set (Or.inr (Or.inl rfl))).set (Or.inr (Or.inr rfl))
  have hg : Ag (fun k => k = 0 ∨ k = 4 ∨ k = 10 ∨ k = 2 ∨ k = sp ∨ k = sp + 1 ∨ k = sp + 2) h h2 := (hgT.mono (fun k hk => by omega)).trans (hg2.mono (fun k hk => by omega))
  have hp6 : PE (tL (h ++ bs) c s n sp (sp + 1) (sp + 2) a w il hh m W F2) L := p6.ag hgT (fun k k1 k2 => by omega)
  obtain ⟨kOk, kB⟩ := txL_ok (g := G) (e := s + n) hw.2 hh1 hm hK
  have bt0 : ∀ b, b < m → h2[h.length + b]? = some (bCL (txL G s w hh m) b) := fun b hb => by
    have e1 : (tL (h ++ bs) c s n sp (sp + 1) (sp + 2) a w il hh m W F2)[h.length + b]? = bs[b]? := by
      have hgp : Ag (fun k => k = 2 ∨ k = sp ∨ k = sp + 1 ∨ k = sp + 2) (h ++ bs) (tL (h ++ bs) c s n sp (sp + 1) (sp + 2) a w il hh m W F2) := (((Ag.rf.set (Or.inl rfl)).set (Or.inr (Or.inl rfl))).set (Or.inr (Or.inr (Or.inl rfl)))).set (Or.inr (Or.inr (Or.inr rfl)))
      rw [hgp.2 (h.length + b) (by rw [List.length_append, hBt.1]; omega) (by omega), List.getElem?_append_right (by omega), Nat.add_sub_cancel_left]
    have e3 : (tL (h ++ bs) c s n sp (sp + 1) (sp + 2) a w il hh m W F2)[h.length + b]? = some (bCL (txL G s w hh m) b) := by
      rw [e1, (hBt.2 b hb).1]
      obtain ⟨k1, k2, k3⟩ := kB b hb
      unfold btC bCL bO
      rw [k2, k3]
      rfl
    exact hg2.at e3 (by omega)
  have hisl : ∀ d, L_is (txL G s w hh m) d = 1 ↔ (0 < d ∧ d < w ∧ G (s + 1 + d) - 48 = 1) := fun d => by
    show (if 0 < d ∧ d < w ∧ G (s + 1 + d) - 48 = 1 then 1 else 0) = 1 ↔ _
    split
    · exact ⟨fun _ => by assumption, fun _ => rfl⟩
    · exact ⟨fun q => absurd q (by decide), fun q => absurd q (by assumption)⟩
  refine ⟨⟨⟨?_, by omega, p1.2.2⟩, ⟨kOk, ⟨?_, ⟨?_, fun d hd => ?_⟩, F2, hg2.at tf (by omega), fun b hb => ⟨(hBt.2 b hb).2, bt0 b hb⟩⟩, ⟨W, hg2.at tw (by omega), fun k hk => ?_⟩, fun b _ => by show 86 ≤ h.length + b; omega⟩, ?_, ?_, p5.ag hg (fun k k1 k2 => by omega), ?_, ?_, p8.ag hg (by omega), p9.ag hg (fun k k1 k2 => by omega), ⟨_, _, _, _, hg2.at t2 (by omega)⟩, p11.ag hg (fun k hk => by omega)⟩, ?_, ?_, ?_, ?_⟩
  · rw [(hSL 0 (by omega) (by omega)).1, e2]
    exact (gs_ne (by decide)).trans ((gs_ne (by decide)).trans (gs_eq (hgT.at p1.1 (by omega))))
  · exact hg2.at ts (by omega)
  · have := hil.1
    have h4 : 2 ^ w ≤ 2 ^ 4 := Nat.pow_le_pow_right (by decide) hw.2
    omega
  · rw [hil.2 d hd, hisl d]
  · have := hWd k hk
    rw [this.2]
    exact txW_ok this.1
  · obtain ⟨l1, l2, F, l3, l4⟩ := p2.2.1
    obtain ⟨W0, w1, w2⟩ := p2.2.2.1
    exact ⟨⟨_, _, _, _, hg.at l1 (by omega)⟩, ⟨W0, hg.at w1 (by omega)⟩, F, hg.at l3 (by omega)⟩
  · obtain ⟨d1, fb, fg, fc, d2, d3, d4, d5⟩ := p4
    refine ⟨?_, fb, fg, fc, hg.at d2 (by omega), hg.at d3 (by omega), hg.at d4 (by omega), fun r hr => absurd hr (by omega)⟩
    rw [e2]
    exact (gs_ne (by decide)).trans (gs_eq ((gs_ne (by decide)).trans (hgT.at d1 (by omega))))
  · have hp6b : PE (((tL (h ++ bs) c s n sp (sp + 1) (sp + 2) a w il hh m W F2).set 0 (cwO wy nw sp wt (u.1 0))).set 4 (rdO 0)) L := hp6.ag (S := fun k => k = 0 ∨ k = 4) ((Ag.rf.set (Or.inl rfl)).set (Or.inr rfl)) (fun k k1 k2 => by omega)
    have h10b : (((tL (h ++ bs) c s n sp (sp + 1) (sp + 2) a w il hh m W F2).set 0 (cwO wy nw sp wt (u.1 0))).set 4 (rdO 0))[10]? = some (.inr (4, .int y0 :: rs)) := (gs_ne (by decide)).trans ((gs_ne (by decide)).trans h10)
    rw [e2]
    obtain ⟨A, sg, R, hA, e, z1, z2⟩ := hp6b
    rw [e] at h10b ⊢
    have e5 : (sH A sg R)[10]? = _ := sH_get (k := 0) hA rfl
    rw [e5] at h10b
    have e3 : (4, Value.int y0 :: rs) = (4, [Value.int (sg.1 0), .int (sg.1 1), .int (sg.1 2), .ref 11, .ref 12, .ref 13, .ref 14, .ref 15, .ref 16, .ref 18, .ref 19, .ref 20, .ref 21]) := Sum.inr.inj (Option.some.inj h10b.symm)
    have e4 := (List.cons.inj (Prod.mk.inj e3).2).2
    rw [e4]
    exact ⟨A, sIt sg 0 1, R, hA, sI_0 (v := 1) hA, z1, fun q => absurd (show (1 : Int32) = 0 from q) (by decide)⟩
  · rw [(hSL 1 (by omega) (by omega)).1]
    exact p7.ag hg (by omega)
  · obtain ⟨a1, a2, a3, a4, -, -, -, -, -, -, a5, a6, a7⟩ := hT
    refine ⟨a1, a2, a3, fun b hb => ?_, fun d hd => ?_⟩
    · obtain ⟨b1, b2, b3, b4⟩ := a7 b hb
      obtain ⟨k1, k2, k3⟩ := kB b hb
      have hr := (btK_3 (hK b hb)).1
      rw [b2, b3, b4, show 60 * kk + s + 2 + w + hh + 4 * b + 1 = 60 * kk + (s + 2 + w + hh + 4 * b + 1) by omega, show 60 * kk + s + 2 + w + hh + 4 * b + 2 = 60 * kk + (s + 2 + w + hh + 4 * b + 2) by omega, show 60 * kk + s + 2 + w + hh + 4 * b + 3 = 60 * kk + (s + 2 + w + hh + 4 * b + 3) by omega, hf _ (by omega), hf _ (by omega), hf _ (by omega)]
      exact ⟨k2, k1, k3⟩
    · rw [a5 d hd]
      by_cases z : 0 < d ∧ d < w ∧ G (s + 1 + d) - 48 = 1
      · rw [(hisl d).mpr z]
        have : 0 < d ∧ d < w ∧ u.2 4 (60 * kk + s + 1 + d) - 48 = 1 := ⟨z.1, z.2.1, by rw [show 60 * kk + s + 1 + d = 60 * kk + (s + 1 + d) by omega, hf _ (by omega)]; exact z.2.2⟩
        unfold bI
        rw [if_pos this]
        rfl
      · have e1 : L_is (txL G s w hh m) d = 0 := by
          show (if 0 < d ∧ d < w ∧ G (s + 1 + d) - 48 = 1 then 1 else 0) = 0
          rw [if_neg z]
        rw [e1]
        unfold bI
        rw [if_neg (fun y => z ⟨y.1, y.2.1, by have := y.2.2; rw [show 60 * kk + s + 1 + d = 60 * kk + (s + 1 + d) by omega, hf _ (by omega)] at this; exact this⟩)]
        rfl
  · intro k hk
    obtain ⟨a1, a2, a3, a4, -, -, -, -, -, -, a5, a6, a7⟩ := hT
    obtain ⟨b1, b2⟩ := a6 k hk
    have hk2 : k < hh := hk
    rw [show 60 * kk + s + 2 + w + k = 60 * kk + (s + 2 + w + k) by omega, hf _ (by omega)] at b1 b2
    rw [b2]
    exact txW_ok b1
  · exact ⟨hT.2.2.2.1, by decide, fun q hq => absurd hq (by omega)⟩
  · intro k hk
    rw [(hSL 2 (by omega) (by omega)).2, (hSL 3 (by omega) (by omega)).2, (hSL 4 (by omega) (by omega)).2]
    exact q4 k hk
end L2
