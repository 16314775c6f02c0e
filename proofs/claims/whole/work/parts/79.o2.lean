/-! odds: the ways, in the heap -/
section O2
variable {h : XH} {u : MSt} {L : LK} {wn st : Nat → Nat} {wy nw wt sp isl nr nn : Nat} {bp rb rh rc : Nat → Nat} {lf : Int32} {ln sz : Nat → Int32} {g : Nat → Nat → Int32}
def oH (h : XH) (wy nw wt sp : Nat) (lf : Int32) (F : Nat → Nat → Int32) (P : Nat → Int32) : XH := (((h.set 0 (cwO wy nw wt sp lf)).set 45 (r125 (F 45))).set 46 (r125 (F 46))).set 9 (r3 P)
/-- what it needs of the heap -/
def OdB (h : XH) (wt sp isl : Nat) (bp : Nat → Nat) (L : LK) (O : Nat → Int32) : Prop := (∃ a b lf, h[0]? = some (cwO a b wt sp lf)) ∧ (∃ f, h[45]? = some (r125 f)) ∧ (∃ f, h[46]? = some (r125 f)) ∧ (∃ P, h[9]? = some (r3 P)) ∧ (∃ a b c, h[8]? = some (voO 9 a b c)) ∧ h[44]? = some (r10 O) ∧ LkH h wt isl (wt + 1) (wt + 2) bp L
abbrev is2 (wy nw : Nat) : Prop := wy = 45 ∧ nw = 46 ∨ wy = 46 ∧ nw = 45
variable {F : Nat → Nat → Int32} {P : Nat → Int32} {O : Nat → Int32}
theorem oH_at {k : Nat} {c : XC} (hk : h[k]? = some c) (h1 : k ≠ 0) (h2 : k ≠ 45) (h3 : k ≠ 46) (h4 : k ≠ 9) : (oH h wy nw wt sp lf F P)[k]? = some c := (gs_ne (Ne.symm h4)).trans ((gs_ne (Ne.symm h3)).trans ((gs_ne (Ne.symm h2)).trans ((gs_ne (Ne.symm h1)).trans hk)))
theorem oH_all (hB : OdB h wt sp isl bp L O) : (oH h wy nw wt sp lf F P)[0]? = some (cwO wy nw wt sp lf) ∧ (oH h wy nw wt sp lf F P)[45]? = some (r125 (F 45)) ∧ (oH h wy nw wt sp lf F P)[46]? = some (r125 (F 46)) ∧ (oH h wy nw wt sp lf F P)[9]? = some (r3 P) ∧ (∃ a b c, (oH h wy nw wt sp lf F P)[8]? = some (voO 9 a b c)) ∧ (oH h wy nw wt sp lf F P)[44]? = some (r10 O) ∧ LkH (oH h wy nw wt sp lf F P) wt isl (wt + 1) (wt + 2) bp L := by
  obtain ⟨⟨a, b, l, b0⟩, ⟨f1, b1⟩, ⟨f2, b2⟩, ⟨P0, b3⟩, ⟨x, y, z, b4⟩, b5, b6⟩ := hB
  have c1 : (h.set 0 (cwO wy nw wt sp lf))[45]? = some (r125 f1) := (gs_ne (by decide)).trans b1
  have c2 : ((h.set 0 (cwO wy nw wt sp lf)).set 45 (r125 (F 45)))[46]? = some (r125 f2) := (gs_ne (by decide)).trans ((gs_ne (by decide)).trans b2)
  have c3 : (((h.set 0 (cwO wy nw wt sp lf)).set 45 (r125 (F 45))).set 46 (r125 (F 46)))[9]? = some (r3 P0) := (gs_ne (by decide)).trans ((gs_ne (by decide)).trans ((gs_ne (by decide)).trans b3))
  exact ⟨(gs_ne (by decide)).trans ((gs_ne (by decide)).trans ((gs_ne (by decide)).trans (gs_eq b0))), (gs_ne (by decide)).trans ((gs_ne (by decide)).trans (gs_eq c1)), (gs_ne (by decide)).trans (gs_eq c2), gs_eq c3, ⟨x, y, z, oH_at b4 (by decide) (by decide) (by decide) (by decide)⟩, oH_at b5 (by decide) (by decide) (by decide) (by decide), (((b6.set b0 rfl).set c1 rfl).set c2 rfl).set c3 rfl⟩
theorem oH_r (hB : OdB h wt sp isl bp L O) {k : Nat} (hk : k = 45 ∨ k = 46) : (oH h wy nw wt sp lf F P)[k]? = some (r125 (F k)) := by
  obtain ⟨-, a, b, -⟩ := oH_all (wy := wy) (nw := nw) (lf := lf) (F := F) (P := P) hB
  rcases hk with rfl | rfl
  · exact a
  · exact b
theorem oH_sr {k : Nat} {f : Nat → Int32} (hk : k = 45 ∨ k = 46) : (oH h wy nw wt sp lf F P).set k (r125 f) = oH h wy nw wt sp lf (va_up F k f) P := by
  unfold oH
  rcases hk with rfl | rfl
  · rw [List.set_comm _ _ (show (9 : Nat) ≠ 45 by decide), List.set_comm _ _ (show (46 : Nat) ≠ 45 by decide), List.set_set]
    rfl
  · rw [List.set_comm _ _ (show (9 : Nat) ≠ 46 by decide), List.set_set]
    rfl
theorem oH_s9 {P2 : Nat → Int32} : (oH h wy nw wt sp lf F P).set 9 (r3 P2) = oH h wy nw wt sp lf F P2 := List.set_set ..
theorem oH_s0 {a b : Nat} {l : Int32} : (oH h wy nw wt sp lf F P).set 0 (cwO a b wt sp l) = oH h a b wt sp l F P := by
  unfold oH
  rw [List.set_comm _ _ (show (9 : Nat) ≠ 0 by decide), List.set_comm _ _ (show (46 : Nat) ≠ 0 by decide), List.set_comm _ _ (show (45 : Nat) ≠ 0 by decide), List.set_set]
abbrev rowN2 (L : LK) (f : Nat → Int32) (b : Nat → Nat) : Prop := ∀ t, t < nSt L → f t = nI (b t)
theorem c_X11_sailByChance (hL : LOk L) (hB : OdB h wt sp isl bp L O) (h2 : is2 wy nw) {s x a : Nat} {b : Nat → Nat} (hs : s < nSt L) (hx : x < 8) (ha : F wy s = nI a) (hb : rowN2 L (F nw) b) :
    Con M_X11_sailByChance [.ref 0, .int (nI s), .int (nI x)] (oH h wy nw wt sp lf F P) (fun q h' => q = none ∧ ∃ f2 b2 P2, h' = oH h wy nw wt sp lf (va_up F nw f2) P2 ∧ rowN2 L f2 b2 ∧ ∀ φ, wgh L b2 φ = wgh L b φ + a * ph2 L x φ s) := by
  have hn := nSt_le hL
  have h4 := hL.1
  have key : ∀ m v, v + m = 3 → 1 ≤ v → ∀ f2 b2 P2, rowN2 L f2 b2 → (∀ φ, wgh L b2 φ = wgh L b φ + a * ((if 1 < v then phV L x 1 φ s else 0) + (if 2 < v then phV L x 2 φ s else 0))) → T M_X11_sailByChance x_E (x_Z M_X11_sailByChance (fun q h' => q = none ∧ ∃ f2 b2 P2, h' = oH h wy nw wt sp lf (va_up F nw f2) P2 ∧ rowN2 L f2 b2 ∧ ∀ φ, wgh L b2 φ = wgh L b φ + a * ph2 L x φ s)) 0 0 2 [(0, .ref 0), (1, .int (nI s)), (2, .int (nI x)), (3, .int (nI v))] [] (oH h wy nw wt sp lf (va_up F nw f2) P2) := by
    intro m
    induction m with
    | zero =>
      intro v hv h1 f2 b2 P2 hr hw
      obtain rfl : v = 3 := by omega
      refine T_iload_n dX11_sailByChance_2 rfl ?_
      refine T_iconst (v := nI 2) dX11_sailByChance_3 (by decide) ?_
      refine T_icmp_gtN (tgt := 66) dX11_sailByChance_4 (by decide) (by omega) (by omega) (fun c4 => ?_) (fun c4 => ?_)
      · refine T_vret dX11_sailByChance_66 rfl (nb rfl) (nb rfl) ?_
        exact ⟨rfl, f2, b2, P2, rfl, hr, fun φ => by rw [hw φ, if_pos (by decide), if_pos (by decide)]; rfl⟩
      · exact absurd c4 (by omega)
    | succ m ih =>
      intro v hv h1 f2 b2 P2 hr hw
      have A1 := fun P => oH_all (wy := wy) (nw := nw) (lf := lf) (F := va_up F nw f2) (P := P) hB
      obtain ⟨q0, -, -, q9, ⟨va, vb, vc, q8⟩, -, ql⟩ := A1 P2
      have R1 := fun P k hk => oH_r (wy := wy) (nw := nw) (lf := lf) (F := va_up F nw f2) (P := P) (k := k) hB hk
      have fin : ∀ f3 b3 P3, rowN2 L f3 b3 → (∀ φ, wgh L b3 φ = wgh L b2 φ + a * phV L x v φ s) → T M_X11_sailByChance x_E (x_Z M_X11_sailByChance (fun q h' => q = none ∧ ∃ f2 b2 P2, h' = oH h wy nw wt sp lf (va_up F nw f2) P2 ∧ rowN2 L f2 b2 ∧ ∀ φ, wgh L b2 φ = wgh L b φ + a * ph2 L x φ s)) 0 0 2 [(0, .ref 0), (1, .int (nI s)), (2, .int (nI x)), (3, .int (nI (v + 1)))] [] (oH h wy nw wt sp lf (va_up F nw f3) P3) := by
        intro f3 b3 P3 hr3 hw3
        refine ih (v + 1) (by omega) (by omega) f3 b3 P3 hr3 (fun φ => ?_)
        rw [hw3, hw]
        rcases (show v = 1 ∨ v = 2 by omega) with rfl | rfl
        · rw [if_neg (by decide), if_neg (by decide), if_pos (by decide), if_neg (by decide)]
          simp only [Nat.add_zero, Nat.mul_zero]
        · rw [if_pos (by decide), if_neg (by decide), if_pos (by decide), if_pos (by decide)]
          simp only [Nat.add_zero, Nat.mul_zero, Nat.mul_add]
          omega
      have eu : ∀ f3 : Nat → Int32, va_up (va_up F nw f2) nw f3 = va_up F nw f3 := fun f3 => by
        funext j
        unfold va_up
        split <;> rfl
      have ewy : (va_up F nw f2) wy s = nI a := by rw [va_up_ne _ _ (by omega)]; exact ha
      have enw : (va_up F nw f2) nw = f2 := va_up_self _ _ _
      refine T_iload_n dX11_sailByChance_2 rfl ?_
      refine T_iconst (v := nI 2) dX11_sailByChance_3 (by decide) ?_
      refine T_icmp_gtN (tgt := 66) dX11_sailByChance_4 (by decide) (by omega) (by omega) (fun c4 => ?_) (fun c4 => ?_)
      · exact absurd c4 (by omega)
      · refine T_aload_n dX11_sailByChance_7 rfl ?_
        refine T_get dX11_sailByChance_8 fl_X11_34_11 q0 rfl ?_
        refine T_aload_n dX11_sailByChance_11 rfl ?_
        refine T_get dX11_sailByChance_12 fl_X11_65_11 q0 rfl ?_
        refine T_iload_n dX11_sailByChance_15 rfl ?_
        refine T_v2q (cu2 := 0) (su2 := 0) dX11_sailByChance_16 lv_X11_279 rfl q8 rfl (c_X10_place hL ql q8 q9 (by omega)) (nb rfl) (nb rfl) (nb rfl) (nb rfl) (nb rfl) (fun r16 h16 q16 => ?_)
        obtain ⟨rfl, P3, rfl, hP3⟩ := q16
        refine T_h oH_s9 ?_
        have hP3 : PR L P3 (dB L s) := hP3
        obtain ⟨r0, -, -, r9, ⟨wa, wb, wc, r8⟩, -, rl⟩ := A1 P3
        refine T_aload_n dX11_sailByChance_19 rfl ?_
        refine T_get dX11_sailByChance_20 fl_X11_34_11 r0 rfl ?_
        refine T_aload_n dX11_sailByChance_23 rfl ?_
        refine T_get dX11_sailByChance_24 fl_X11_65_11 r0 rfl ?_
        refine T_iload_n dX11_sailByChance_27 rfl ?_
        refine T_iload_n dX11_sailByChance_28 rfl ?_
        refine T_v3q (cu2 := 0) (su2 := 0) dX11_sailByChance_29 lv_X11_251 rfl r8 rfl (c_X10_sail hL rl r8 r9 hx (by omega) hP3) (nb rfl) (nb rfl) (nb rfl) (nb rfl) (nb rfl) (fun r29 h29 q29 => ?_)
        obtain ⟨rfl, P4, rfl, hP4⟩ := q29
        refine T_h oH_s9 ?_
        obtain ⟨s0, -, -, s9, ⟨ya, yb, yc, s8⟩, -, sl⟩ := A1 P4
        have hfl := finN_le hL x v (dB L s)
        have hle : ∀ i, i < L_n L → aft L v (x.testBit i) i (dB L s i) ≤ L_w L := fun i _ => aft_le (dB_le L s i)
        have hc1 := cdB_lt hL hle
        refine T_if_neN (tgt := 60) dX11_sailByChance_32 (by decide) (by omega) (fun c32 => ?_) (fun c32 => ?_)
        · refine T_iincN dX11_sailByChance_60 rfl (by decide) rfl ?_
          refine T_goto (tgt := 2) dX11_sailByChance_63 (by decide) ?_
          first
            | (refine fin f2 b2 P4 hr (fun φ => ?_)
               unfold phV
               rw [if_neg (show ¬ finN L x v (dB L s) = 0 from c32), Nat.mul_zero, Nat.add_zero])
            | (refine fin _ (uw b2 (cdB L (fun i => aft L v (x.testBit i) i (dB L s i))) (b2 (cdB L (fun i => aft L v (x.testBit i) i (dB L s i))) + a)) P4 (fun t ht => ?_) (fun φ => ?_)
               · unfold uw
                 by_cases z : t = cdB L (fun i => aft L v (x.testBit i) i (dB L s i))
                 · rw [if_pos z, z]; exact upd_s
                 · rw [if_neg z, upd_n z]; exact hr t ht
               · unfold phV wgh
                 rw [if_pos (show finN L x v (dB L s) = 0 from c32)]
                 exact sm_upd (nSt L) hc1)
        · refine T_aload_n dX11_sailByChance_35 rfl ?_
          refine T_get dX11_sailByChance_36 fl_X11_59_11 s0 rfl ?_
          refine T_aload_n dX11_sailByChance_39 rfl ?_
          refine T_get dX11_sailByChance_40 fl_X11_34_11 s0 rfl ?_
          refine T_aload_n dX11_sailByChance_43 rfl ?_
          refine T_get dX11_sailByChance_44 fl_X11_65_11 s0 rfl ?_
          refine T_v1e (cu2 := 0) (su2 := 0) dX11_sailByChance_47 lv_X11_272 rfl s8 rfl (c_X10_stateNumber hL sl s8 s9 hP4) (nb rfl) (nb rfl) (nb rfl) (nb rfl) (nb rfl) ?_
          refine T_dup2 dX11_sailByChance_50 rfl rfl ?_
          refine T_ialdN dX11_sailByChance_51 (R1 _ nw (by omega)) (by show cdB L _ < 125; omega) (by decide) ?_
          refine T_top (show (va_up F nw f2) nw (cdB L (fun i => aft L v (x.testBit i) i (dB L s i))) = nI (b2 (cdB L (fun i => aft L v (x.testBit i) i (dB L s i)))) by rw [enw]; exact hr _ hc1) ?_
          refine T_aload_n dX11_sailByChance_52 rfl ?_
          refine T_get dX11_sailByChance_53 fl_X11_56_11 s0 rfl ?_
          refine T_iload_n dX11_sailByChance_56 rfl ?_
          refine T_ialdN dX11_sailByChance_57 (R1 _ wy (by omega)) (by omega) (by decide) ?_
          refine T_top ewy ?_
          refine T_iaddN dX11_sailByChance_58 ?_
          refine T_iastN dX11_sailByChance_59 (R1 _ nw (by omega)) (by show cdB L _ < 125; omega) (by decide) ?_
          refine T_h (oH_sr (by omega)) ?_
          rw [eu, enw]
          refine T_iincN dX11_sailByChance_60 rfl (by decide) rfl ?_
          refine T_goto (tgt := 2) dX11_sailByChance_63 (by decide) ?_
          first
            | (refine fin f2 b2 P4 hr (fun φ => ?_)
               unfold phV
               rw [if_neg (show ¬ finN L x v (dB L s) = 0 from c32), Nat.mul_zero, Nat.add_zero])
            | (refine fin _ (uw b2 (cdB L (fun i => aft L v (x.testBit i) i (dB L s i))) (b2 (cdB L (fun i => aft L v (x.testBit i) i (dB L s i))) + a)) P4 (fun t ht => ?_) (fun φ => ?_)
               · unfold uw
                 by_cases z : t = cdB L (fun i => aft L v (x.testBit i) i (dB L s i))
                 · rw [if_pos z, z]; exact upd_s
                 · rw [if_neg z, upd_n z]; exact hr t ht
               · unfold phV wgh
                 rw [if_pos (show finN L x v (dB L s) = 0 from c32)]
                 exact sm_upd (nSt L) hc1)
  refine Con.of rfl (nb rfl) ?_
  have e0 : va_up F nw (F nw) = F := (va_upS F nw).symm
  refine T_iconst (v := nI 1) dX11_sailByChance_0 (by decide) ?_
  refine T_istore_n dX11_sailByChance_1 (by decide) rfl ?_
  have K := key 2 1 (by omega) (by omega) (F nw) b P hb (fun φ => by rw [if_neg (by decide), if_neg (by decide)]; omega)
  rw [e0] at K
  exact K
end O2
