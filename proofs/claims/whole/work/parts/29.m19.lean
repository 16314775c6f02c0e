/-! the reference: winds, kinds, speeds (by program mk29.py) -/
section M20
variable {A B : XH} {u : MSt} {h : XH} {Z : XZ} {L : LK} {wn st : Nat → Nat} {nr nn : Nat} {rb rh rc : Nat → Nat}
theorem SameE.RdR {u2 : MSt} (h : SameE u u2) (hR : RdR u L nr rb rh rc) : RdR u2 L nr rb rh rc := by
  obtain ⟨a, b, c⟩ := hR
  refine ⟨(h 28 (by omega)).1.trans a, b, fun q hq => ?_⟩
  rw [(h 29 (by omega)).2, (h 30 (by omega)).2, (h 31 (by omega)).2]
  exact c q hq
def setKd (L : LK) (b v : Nat) : LK := (L.1, (L.2.1, (uw L.2.2.1 b v, (L.2.2.2.1, L.2.2.2.2))))
def setFs (L : LK) (b v : Nat) : LK := (L.1, (L.2.1, (L.2.2.1, (uw L.2.2.2.1 b v, L.2.2.2.2))))
theorem LaA_0 {r sh sort i n : Int32} {u' : MSt} (hr : r = 0) (h : LaA L u r sh sort i n 0 u') : ∃ kk nn, kk < 4 ∧ nn ≤ 10 ∧ sh = nI kk ∧ n = nI nn ∧ LyQ L u kk sort i nn 0 u' := by
  unfold LaA at h
  rw [if_pos hr] at h
  split at h
  next h1 =>
    split at h
    next h2 =>
      obtain ⟨kk, hk, rfl⟩ := shN h1
      obtain ⟨nn, hn, rfl⟩ := setN (a := 10) (by omega) h2.2
      rw [nI_clamp (by omega), nI_clamp (by omega)] at h
      exact ⟨kk, nn, hk, by omega, rfl, rfl, h⟩
    next h2 => exact absurd h.1 (by decide)
  next h1 => exact absurd h.1 (by decide)
theorem lay_same (S : Nat → Int32) (nn : Nat) : SameE u (va_up u.1 21 (nI nn), va_up u.2 22 S) := fun j hj => by
  refine ⟨?_, ?_⟩
  · show va_up u.1 21 (nI nn) j = u.1 j
    unfold va_up; rw [if_neg (by omega)]
  · show va_up u.2 22 S j = u.2 j
    unfold va_up; rw [if_neg (by omega)]
theorem mP_same (P : Nat → Int32) : SameE u (mP u P) := fun j hj => by
  refine ⟨rfl, ?_⟩
  show va_up u.2 20 P j = u.2 j
  unfold va_up; rw [if_neg (by omega)]
/-- a call by such a plan: what laying answers, or a set of numbers of which p holds -/
def ByA (L : LK) (u : MSt) (p : (Nat → Nat) → Nat → Nat → Prop) (lo hi : Nat) (r sh sort i n v : Int32) (u' : MSt) : Prop := ∃ x u2, LaA L u r sh sort i n x u2 ∧ ((¬ x = 0 ∧ v = x ∧ u' = u2) ∨ (x = 0 ∧ SameE u2 u' ∧ ∃ m, v = nI m ∧ Bts (p (fun k => (u.2 4 (60 * sh.toNatClampNeg + i.toNatClampNeg + k)).toNatClampNeg) n.toNatClampNeg) lo hi m))
theorem SoN_ext {L : LK} {wn st st2 : Nat → Nat} (h : ∀ k, k < nn → st k = st2 k) : SoN L wn st nn nr rb rh rc → SoN L wn st2 nn nr rb rh rc := by
  have key : ∀ g, g ≤ nn → posN L wn st g = posN L wn st2 g := by
    intro g
    induction g with
    | zero => exact fun _ => rfl
    | succ g ih =>
      intro hg
      funext i
      show aft L (wn g) ((st g).testBit i) i (posN L wn st g i) = aft L (wn g) ((st2 g).testBit i) i (posN L wn st2 g i)
      rw [ih (by omega), h g (by omega)]
  intro s q hq
  obtain ⟨a, b⟩ := s q hq
  exact ⟨a, by rw [← key _ (by omega)]; exact b⟩
theorem lp_X12_winds_w (hA : A.length = 67) (hM : MR u L) (hL : LOk L) (hW : MW u L wn) (hR : RdR u L nr rb rh rc) {g : Nat} {x2 x3 x4 x5 x6 : Int32} (hg : g < L_h L) (hnn : nn ≤ L_h L) (hpl : u.1 21 = nI nn) (hst : ∀ k, k < nn → u.2 22 k = nI (st k) ∧ st k ≤ allN L) (hv : u.2 9 g = nI (wn g)) :
    T M_X12_winds x_E (x_Z M_X12_winds (fun a h' => ∃ m, a = some (.int (nI m)) ∧ Bts (fun v => SoN L (uw wn g v) st nn nr rb rh rc) 0 3 m ∧ ∃ P, h' = mH A (mP u P) B)) 0 0 34 [(0, .ref 67), (1, .int (nI g)), (2, .int x2), (3, .int x3), (4, .int x4), (5, .int x5), (6, .int x6)] [] (mH A u B) := by
  have h10 := hL.2.1
  have h3 := hL.2.2.1
  refine T_aload_n dX12_winds_34 rfl ?_
  refine T_get dX12_winds_35 fl_X12_23_12 (mH_get hA rfl) rfl ?_
  refine T_iload_n dX12_winds_38 rfl ?_
  refine T_ialdN dX12_winds_39 (mH_get hA rfl) (by omega) (by decide) ?_
  refine T_top hv ?_
  refine T_istore dX12_winds_40 (by decide) rfl ?_
  refine T_iconst (v := nI 0) dX12_winds_42 (by decide) ?_
  refine T_istore dX12_winds_43 (by decide) rfl ?_
  refine T_iconst (v := nI 0) dX12_winds_45 (by decide) ?_
  refine T_istore dX12_winds_46 (by decide) rfl ?_
  refine T_eq (lp_X12_winds hA (show g < 10 by omega) hv (p := fun v => SoN L (uw wn g v) st nn nr rb rh rc) (fun W P v hw hlo hhi => ?_) 3 0 (by omega) (by omega) (u.2 9) (u.2 20) 0 (fun _ _ => rfl) ⟨by decide, by decide, fun j hj => ?_⟩) rfl rfl
  · refine (c_X12_areSo (u := (u.1, va_up (va_up u.2 9 (upd W g (nI v))) 20 P)) (wn := uw wn g v) hA hM hL (fun j hj => ?_) hR hnn hpl hst).mono (fun r h' hh => ⟨hh.1, hh.2.elim fun P' e => ⟨P', e⟩⟩)
    show upd W g (nI v) j = nI (uw wn g v j) ∧ uw wn g v j ≤ 2
    unfold uw
    by_cases e : j = g
    · subst e; rw [if_pos rfl, upd_s]; exact ⟨rfl, by omega⟩
    · rw [if_neg e, upd_n e, hw j e]; exact hW j hj
  · rw [Nat.zero_testBit]
    exact ⟨fun q => absurd q (by decide), fun q => absurd q (by omega)⟩
theorem lp_X12_kinds_w (hA : A.length = 67) (hM : MR u L) (hL : LOk L) (hW : MW u L wn) (hR : RdR u L nr rb rh rc) {g : Nat} {x2 x3 x4 x5 x6 : Int32} (hg : g < L_n L) (hnn : nn ≤ L_h L) (hpl : u.1 21 = nI nn) (hst : ∀ k, k < nn → u.2 22 k = nI (st k) ∧ st k ≤ allN L) (hv : u.2 10 g = nI (L_kd L g)) :
    T M_X12_kinds x_E (x_Z M_X12_kinds (fun a h' => ∃ m, a = some (.int (nI m)) ∧ Bts (fun v => SoN (setKd L g v) wn st nn nr rb rh rc) 0 3 m ∧ ∃ P, h' = mH A (mP u P) B)) 0 0 33 [(0, .ref 67), (1, .int (nI g)), (2, .int x2), (3, .int x3), (4, .int x4), (5, .int x5), (6, .int x6)] [] (mH A u B) := by
  have h10 := hL.2.1
  have h3 := hL.2.2.1
  refine T_aload_n dX12_kinds_33 rfl ?_
  refine T_get dX12_kinds_34 fl_X12_26_12 (mH_get hA rfl) rfl ?_
  refine T_iload_n dX12_kinds_37 rfl ?_
  refine T_ialdN dX12_kinds_38 (mH_get hA rfl) (by omega) (by decide) ?_
  refine T_top hv ?_
  refine T_istore dX12_kinds_39 (by decide) rfl ?_
  refine T_iconst (v := nI 0) dX12_kinds_41 (by decide) ?_
  refine T_istore dX12_kinds_42 (by decide) rfl ?_
  refine T_iconst (v := nI 0) dX12_kinds_44 (by decide) ?_
  refine T_istore dX12_kinds_45 (by decide) rfl ?_
  refine T_eq (lp_X12_kinds hA (show g < 3 by omega) hv (p := fun v => SoN (setKd L g v) wn st nn nr rb rh rc) (fun W P v hw hlo hhi => ?_) 3 0 (by omega) (by omega) (u.2 10) (u.2 20) 0 (fun _ _ => rfl) ⟨by decide, by decide, fun j hj => ?_⟩) rfl rfl
  · refine (c_X12_areSo (u := (u.1, va_up (va_up u.2 10 (upd W g (nI v))) 20 P)) (L := setKd L g v) hA ⟨hM.1, hM.2.1, hM.2.2.1, fun j hj => ?_, hM.2.2.2.2⟩ ⟨hL.1, hL.2.1, hL.2.2.1, fun j hj => ?_, hL.2.2.2.2⟩ hW hR hnn hpl hst).mono (fun r h' hh => ⟨hh.1, hh.2.elim fun P' e => ⟨P', e⟩⟩)
    · obtain ⟨b1, b2, b3⟩ := hM.2.2.2.1 j hj
      refine ⟨b1, ?_, b3⟩
      show upd W g (nI v) j = nI (uw (L_kd L) g v j)
      unfold uw
      by_cases e : j = g
      · subst e; rw [if_pos rfl, upd_s]
      · rw [if_neg e, upd_n e, hw j e]; exact b2
    · obtain ⟨b1, b2, b3, b4⟩ := hL.2.2.2.1 j hj
      refine ⟨b1, ?_, b3, b4⟩
      show uw (L_kd L) g v j ≤ 2
      unfold uw
      split <;> omega
  · rw [Nat.zero_testBit]
    exact ⟨fun q => absurd q (by decide), fun q => absurd q (by omega)⟩
theorem lp_X12_speeds_w (hA : A.length = 67) (hM : MR u L) (hL : LOk L) (hW : MW u L wn) (hR : RdR u L nr rb rh rc) {g : Nat} {x2 x3 x4 x5 x6 : Int32} (hg : g < L_n L) (hnn : nn ≤ L_h L) (hpl : u.1 21 = nI nn) (hst : ∀ k, k < nn → u.2 22 k = nI (st k) ∧ st k ≤ allN L) (hv : u.2 12 g = nI (L_fs L g)) :
    T M_X12_speeds x_E (x_Z M_X12_speeds (fun a h' => ∃ m, a = some (.int (nI m)) ∧ Bts (fun v => SoN (setFs L g v) wn st nn nr rb rh rc) 1 4 m ∧ ∃ P, h' = mH A (mP u P) B)) 0 0 33 [(0, .ref 67), (1, .int (nI g)), (2, .int x2), (3, .int x3), (4, .int x4), (5, .int x5), (6, .int x6)] [] (mH A u B) := by
  have h10 := hL.2.1
  have h3 := hL.2.2.1
  refine T_aload_n dX12_speeds_33 rfl ?_
  refine T_get dX12_speeds_34 fl_X12_32_12 (mH_get hA rfl) rfl ?_
  refine T_iload_n dX12_speeds_37 rfl ?_
  refine T_ialdN dX12_speeds_38 (mH_get hA rfl) (by omega) (by decide) ?_
  refine T_top hv ?_
  refine T_istore dX12_speeds_39 (by decide) rfl ?_
  refine T_iconst (v := nI 0) dX12_speeds_41 (by decide) ?_
  refine T_istore dX12_speeds_42 (by decide) rfl ?_
  refine T_iconst (v := nI 1) dX12_speeds_44 (by decide) ?_
  refine T_istore dX12_speeds_45 (by decide) rfl ?_
  refine T_eq (lp_X12_speeds hA (show g < 3 by omega) hv (p := fun v => SoN (setFs L g v) wn st nn nr rb rh rc) (fun W P v hw hlo hhi => ?_) 3 1 (by omega) (by omega) (u.2 12) (u.2 20) 0 (fun _ _ => rfl) ⟨by decide, by decide, fun j hj => ?_⟩) rfl rfl
  · refine (c_X12_areSo (u := (u.1, va_up (va_up u.2 12 (upd W g (nI v))) 20 P)) (L := setFs L g v) hA ⟨hM.1, hM.2.1, hM.2.2.1, fun j hj => ?_, hM.2.2.2.2⟩ ⟨hL.1, hL.2.1, hL.2.2.1, fun j hj => ?_, hL.2.2.2.2⟩ hW hR hnn hpl hst).mono (fun r h' hh => ⟨hh.1, hh.2.elim fun P' e => ⟨P', e⟩⟩)
    · obtain ⟨b1, b2, b3⟩ := hM.2.2.2.1 j hj
      refine ⟨b1, b2, ?_⟩
      show upd W g (nI v) j = nI (uw (L_fs L) g v j)
      unfold uw
      by_cases e : j = g
      · subst e; rw [if_pos rfl, upd_s]
      · rw [if_neg e, upd_n e, hw j e]; exact b3
    · obtain ⟨b1, b2, b3, b4⟩ := hL.2.2.2.1 j hj
      refine ⟨b1, b2, ?_⟩
      show 1 ≤ uw (L_fs L) g v j ∧ uw (L_fs L) g v j ≤ 3
      unfold uw
      split <;> omega
  · rw [Nat.zero_testBit]
    exact ⟨fun q => absurd q (by decide), fun q => absurd q (by omega)⟩
theorem c_X12_winds (hA : A.length = 67) (hM : MR u L) (hL : LOk L) (hW : MW u L wn) (hR : RdR u L nr rb rh rc) (b sh sort i n : Int32) (hl : ∀ j, j < 4 → ∃ ll : Nat, ll ≤ 60 ∧ u.2 3 j = nI ll) : Con M_X12_winds [.ref 67, .int b, .int sh, .int sort, .int i, .int n] (mH A u B) (fun q h' => ∃ v u', q = some (.int v) ∧ h' = mH A u' B ∧ ByA L (m0 u 0) (fun st nn v => SoN L (uw wn b.toNatClampNeg v) st nn nr rb rh rc) 0 3 (if 0 ≤ b ∧ b < nI (L_h L) then 0 else -2) sh sort i n v u') := by
  have h10 := hL.2.1
  have h3 := hL.2.2.1
  refine Con.of rfl (nb rfl) ?_
  by_cases hb : 0 ≤ b ∧ b < nI (L_h L)
  · rw [if_pos hb]
    obtain ⟨g, hg0, rfl⟩ := nI_of (show ¬ b < 0 by rw [Int32.not_lt]; exact hb.1)
    have hg : g < L_h L := (nI_ltI hg0 (by omega)).mp hb.2
    have cg : (nI g).toNatClampNeg = g := nI_clamp hg0
    rw [cg]
    refine T_aload_n dX12_winds_0 rfl ?_
    refine T_aload_n dX12_winds_1 rfl ?_
    refine T_iload_n dX12_winds_2 rfl ?_
    refine T_v1e (cu2 := 0) (su2 := 0) dX12_winds_3 lv_X12_137 rfl (mH_get hA rfl) rfl (c_X12_isHour hA _) (nb rfl) (nb rfl) (nb rfl) (nb rfl) (nb rfl) ?_
    refine T_if_eqB (tgt := 13) dX12_winds_6 (by decide) (fun c6 => ?_) (fun c6 => ?_)
    · exact absurd (by rw [hM.2.1]; exact hb) c6
    · refine T_iconst (v := 0) dX12_winds_9 (by decide) ?_
      refine T_goto (tgt := 15) dX12_winds_10 (by decide) ?_
      refine T_iload_n dX12_winds_15 rfl ?_
      refine T_iload_n dX12_winds_16 rfl ?_
      refine T_iload dX12_winds_17 rfl ?_
      refine T_iload dX12_winds_19 rfl ?_
      refine T_v5q (cu2 := 0) (su2 := 0) dX12_winds_21 lv_X12_215 rfl (mH_get hA rfl) rfl (c_X12_lay hA hM hL _ _ _ _ _ hl) (nb rfl) (nb rfl) (nb rfl) (nb rfl) (nb rfl) (fun r21 h21 q21 => ?_)
      obtain ⟨x, u2, rfl, rfl, hx⟩ := q21
      refine T_istore dX12_winds_24 (by decide) rfl ?_
      refine T_iload dX12_winds_26 rfl ?_
      refine T_if_eq (tgt := 34) dX12_winds_28 (by decide) (fun c28 => ?_) (fun c28 => ?_)
      · subst c28
        obtain ⟨kk, nn, hkk, hnn10, rfl, rfl, hy⟩ := LaA_0 rfl hx
        obtain ⟨hn0, hnh, hin, S, rfl, hS⟩ := LyQ_0 hy
        have hE : SameE (m0 u 0) (va_up (m0 u 0).1 21 (nI nn), va_up (m0 u 0).2 22 S) := lay_same S nn
        have hst := st_of hL hin hS
        generalize hu2 : ((va_up (m0 u 0).1 21 (nI nn), va_up (m0 u 0).2 22 S) : MSt) = u2 at *
        have hM2 : MR u2 L := hE.MR hM
        have hW2 : MW u2 L wn := hE.MW hW
        have hR2 : RdR u2 L nr rb rh rc := hE.RdR hR
        have hp2 : u2.1 21 = nI nn := by rw [← hu2]; rfl
        have hs2 : ∀ k, k < nn → u2.2 22 k = nI ((((m0 u 0).2 4) (60 * kk + i.toNatClampNeg + k)).toNatClampNeg) ∧ (((m0 u 0).2 4) (60 * kk + i.toNatClampNeg + k)).toNatClampNeg ≤ allN L := by rw [← hu2]; exact hst
        have hv : u2.2 9 g = nI (wn g) := (hW2 g hg).1
        refine T_Q (Qa := fun a h' => ∃ m, a = some (.int (nI m)) ∧ Bts (fun v => (fun (st : Nat → Nat) (nn v : Nat) => SoN L (uw wn g v) st nn nr rb rh rc) (fun k => (((m0 u 0).2 4) (60 * kk + i.toNatClampNeg + k)).toNatClampNeg) nn v) 0 3 m ∧ ∃ P, h' = mH A (mP u2 P) B) (fun r h' hh => ?_) ?_
        · obtain ⟨m, e1, e2, P, e3⟩ := hh
          refine ⟨nI m, mP u2 P, e1, e3, 0, u2, hx, Or.inr ⟨rfl, mP_same P, m, rfl, ?_⟩⟩
          rw [nI_clamp (show kk < 2 ^ 31 by omega), nI_clamp (show nn < 2 ^ 31 by omega)]
          exact e2
        · exact lp_X12_winds_w hA hM2 hL hW2 hR2 hg hnh hp2 hs2 hv
      · refine T_iload dX12_winds_31 rfl ?_
        refine T_iret dX12_winds_33 rfl (nb rfl) (nb rfl) ?_
        exact ⟨_, _, rfl, rfl, x, u2, hx, Or.inl ⟨c28, rfl, rfl⟩⟩
  · rw [if_neg hb]
    refine T_aload_n dX12_winds_0 rfl ?_
    refine T_aload_n dX12_winds_1 rfl ?_
    refine T_iload_n dX12_winds_2 rfl ?_
    refine T_v1e (cu2 := 0) (su2 := 0) dX12_winds_3 lv_X12_137 rfl (mH_get hA rfl) rfl (c_X12_isHour hA _) (nb rfl) (nb rfl) (nb rfl) (nb rfl) (nb rfl) ?_
    refine T_if_eqB (tgt := 13) dX12_winds_6 (by decide) (fun c6 => ?_) (fun c6 => ?_)
    · refine T_bipush (v := (-2)) dX12_winds_13 (by decide) ?_
      refine T_iload_n dX12_winds_15 rfl ?_
      refine T_iload_n dX12_winds_16 rfl ?_
      refine T_iload dX12_winds_17 rfl ?_
      refine T_iload dX12_winds_19 rfl ?_
      refine T_v5q (cu2 := 0) (su2 := 0) dX12_winds_21 lv_X12_215 rfl (mH_get hA rfl) rfl (c_X12_lay hA hM hL _ _ _ _ _ hl) (nb rfl) (nb rfl) (nb rfl) (nb rfl) (nb rfl) (fun r21 h21 q21 => ?_)
      obtain ⟨x, u2, rfl, rfl, hx⟩ := q21
      refine T_istore dX12_winds_24 (by decide) rfl ?_
      refine T_iload dX12_winds_26 rfl ?_
      refine T_if_eq (tgt := 34) dX12_winds_28 (by decide) (fun c28 => ?_) (fun c28 => ?_)
      · subst c28
        exact absurd (show (0 : Int32) = -2 by unfold LaA at hx; rw [if_neg (by decide)] at hx; exact hx.1) (by decide)
      · refine T_iload dX12_winds_31 rfl ?_
        refine T_iret dX12_winds_33 rfl (nb rfl) (nb rfl) ?_
        exact ⟨_, _, rfl, rfl, x, u2, hx, Or.inl ⟨c28, rfl, rfl⟩⟩
    · exact absurd (by rw [← hM.2.1]; exact c6) hb
theorem c_X12_kinds (hA : A.length = 67) (hM : MR u L) (hL : LOk L) (hW : MW u L wn) (hR : RdR u L nr rb rh rc) (b sh sort i n : Int32) (hl : ∀ j, j < 4 → ∃ ll : Nat, ll ≤ 60 ∧ u.2 3 j = nI ll) : Con M_X12_kinds [.ref 67, .int b, .int sh, .int sort, .int i, .int n] (mH A u B) (fun q h' => ∃ v u', q = some (.int v) ∧ h' = mH A u' B ∧ ByA L (m0 u 0) (fun st nn v => SoN (setKd L b.toNatClampNeg v) wn st nn nr rb rh rc) 0 3 (if 0 ≤ b ∧ b < nI (L_n L) then 0 else -1) sh sort i n v u') := by
  have h10 := hL.2.1
  have h3 := hL.2.2.1
  refine Con.of rfl (nb rfl) ?_
  by_cases hb : 0 ≤ b ∧ b < nI (L_n L)
  · rw [if_pos hb]
    obtain ⟨g, hg0, rfl⟩ := nI_of (show ¬ b < 0 by rw [Int32.not_lt]; exact hb.1)
    have hg : g < L_n L := (nI_ltI hg0 (by omega)).mp hb.2
    have cg : (nI g).toNatClampNeg = g := nI_clamp hg0
    rw [cg]
    refine T_aload_n dX12_kinds_0 rfl ?_
    refine T_aload_n dX12_kinds_1 rfl ?_
    refine T_iload_n dX12_kinds_2 rfl ?_
    refine T_v1e (cu2 := 0) (su2 := 0) dX12_kinds_3 lv_X12_134 rfl (mH_get hA rfl) rfl (c_X12_isBoat hA _) (nb rfl) (nb rfl) (nb rfl) (nb rfl) (nb rfl) ?_
    refine T_if_eqB (tgt := 13) dX12_kinds_6 (by decide) (fun c6 => ?_) (fun c6 => ?_)
    · exact absurd (by rw [hM.2.2.1]; exact hb) c6
    · refine T_iconst (v := 0) dX12_kinds_9 (by decide) ?_
      refine T_goto (tgt := 14) dX12_kinds_10 (by decide) ?_
      refine T_iload_n dX12_kinds_14 rfl ?_
      refine T_iload_n dX12_kinds_15 rfl ?_
      refine T_iload dX12_kinds_16 rfl ?_
      refine T_iload dX12_kinds_18 rfl ?_
      refine T_v5q (cu2 := 0) (su2 := 0) dX12_kinds_20 lv_X12_215 rfl (mH_get hA rfl) rfl (c_X12_lay hA hM hL _ _ _ _ _ hl) (nb rfl) (nb rfl) (nb rfl) (nb rfl) (nb rfl) (fun r20 h20 q20 => ?_)
      obtain ⟨x, u2, rfl, rfl, hx⟩ := q20
      refine T_istore dX12_kinds_23 (by decide) rfl ?_
      refine T_iload dX12_kinds_25 rfl ?_
      refine T_if_eq (tgt := 33) dX12_kinds_27 (by decide) (fun c27 => ?_) (fun c27 => ?_)
      · subst c27
        obtain ⟨kk, nn, hkk, hnn10, rfl, rfl, hy⟩ := LaA_0 rfl hx
        obtain ⟨hn0, hnh, hin, S, rfl, hS⟩ := LyQ_0 hy
        have hE : SameE (m0 u 0) (va_up (m0 u 0).1 21 (nI nn), va_up (m0 u 0).2 22 S) := lay_same S nn
        have hst := st_of hL hin hS
        generalize hu2 : ((va_up (m0 u 0).1 21 (nI nn), va_up (m0 u 0).2 22 S) : MSt) = u2 at *
        have hM2 : MR u2 L := hE.MR hM
        have hW2 : MW u2 L wn := hE.MW hW
        have hR2 : RdR u2 L nr rb rh rc := hE.RdR hR
        have hp2 : u2.1 21 = nI nn := by rw [← hu2]; rfl
        have hs2 : ∀ k, k < nn → u2.2 22 k = nI ((((m0 u 0).2 4) (60 * kk + i.toNatClampNeg + k)).toNatClampNeg) ∧ (((m0 u 0).2 4) (60 * kk + i.toNatClampNeg + k)).toNatClampNeg ≤ allN L := by rw [← hu2]; exact hst
        have hv : u2.2 10 g = nI (L_kd L g) := (hM2.2.2.2.1 g hg).2.1
        refine T_Q (Qa := fun a h' => ∃ m, a = some (.int (nI m)) ∧ Bts (fun v => (fun (st : Nat → Nat) (nn v : Nat) => SoN (setKd L g v) wn st nn nr rb rh rc) (fun k => (((m0 u 0).2 4) (60 * kk + i.toNatClampNeg + k)).toNatClampNeg) nn v) 0 3 m ∧ ∃ P, h' = mH A (mP u2 P) B) (fun r h' hh => ?_) ?_
        · obtain ⟨m, e1, e2, P, e3⟩ := hh
          refine ⟨nI m, mP u2 P, e1, e3, 0, u2, hx, Or.inr ⟨rfl, mP_same P, m, rfl, ?_⟩⟩
          rw [nI_clamp (show kk < 2 ^ 31 by omega), nI_clamp (show nn < 2 ^ 31 by omega)]
          exact e2
        · exact lp_X12_kinds_w hA hM2 hL hW2 hR2 hg hnh hp2 hs2 hv
      · refine T_iload dX12_kinds_30 rfl ?_
        refine T_iret dX12_kinds_32 rfl (nb rfl) (nb rfl) ?_
        exact ⟨_, _, rfl, rfl, x, u2, hx, Or.inl ⟨c27, rfl, rfl⟩⟩
  · rw [if_neg hb]
    refine T_aload_n dX12_kinds_0 rfl ?_
    refine T_aload_n dX12_kinds_1 rfl ?_
    refine T_iload_n dX12_kinds_2 rfl ?_
    refine T_v1e (cu2 := 0) (su2 := 0) dX12_kinds_3 lv_X12_134 rfl (mH_get hA rfl) rfl (c_X12_isBoat hA _) (nb rfl) (nb rfl) (nb rfl) (nb rfl) (nb rfl) ?_
    refine T_if_eqB (tgt := 13) dX12_kinds_6 (by decide) (fun c6 => ?_) (fun c6 => ?_)
    · refine T_iconst (v := (-1)) dX12_kinds_13 (by decide) ?_
      refine T_iload_n dX12_kinds_14 rfl ?_
      refine T_iload_n dX12_kinds_15 rfl ?_
      refine T_iload dX12_kinds_16 rfl ?_
      refine T_iload dX12_kinds_18 rfl ?_
      refine T_v5q (cu2 := 0) (su2 := 0) dX12_kinds_20 lv_X12_215 rfl (mH_get hA rfl) rfl (c_X12_lay hA hM hL _ _ _ _ _ hl) (nb rfl) (nb rfl) (nb rfl) (nb rfl) (nb rfl) (fun r20 h20 q20 => ?_)
      obtain ⟨x, u2, rfl, rfl, hx⟩ := q20
      refine T_istore dX12_kinds_23 (by decide) rfl ?_
      refine T_iload dX12_kinds_25 rfl ?_
      refine T_if_eq (tgt := 33) dX12_kinds_27 (by decide) (fun c27 => ?_) (fun c27 => ?_)
      · subst c27
        exact absurd (show (0 : Int32) = -1 by unfold LaA at hx; rw [if_neg (by decide)] at hx; exact hx.1) (by decide)
      · refine T_iload dX12_kinds_30 rfl ?_
        refine T_iret dX12_kinds_32 rfl (nb rfl) (nb rfl) ?_
        exact ⟨_, _, rfl, rfl, x, u2, hx, Or.inl ⟨c27, rfl, rfl⟩⟩
    · exact absurd (by rw [← hM.2.2.1]; exact c6) hb
theorem c_X12_speeds (hA : A.length = 67) (hM : MR u L) (hL : LOk L) (hW : MW u L wn) (hR : RdR u L nr rb rh rc) (b sh sort i n : Int32) (hl : ∀ j, j < 4 → ∃ ll : Nat, ll ≤ 60 ∧ u.2 3 j = nI ll) : Con M_X12_speeds [.ref 67, .int b, .int sh, .int sort, .int i, .int n] (mH A u B) (fun q h' => ∃ v u', q = some (.int v) ∧ h' = mH A u' B ∧ ByA L (m0 u 0) (fun st nn v => SoN (setFs L b.toNatClampNeg v) wn st nn nr rb rh rc) 1 4 (if 0 ≤ b ∧ b < nI (L_n L) then 0 else -1) sh sort i n v u') := by
  have h10 := hL.2.1
  have h3 := hL.2.2.1
  refine Con.of rfl (nb rfl) ?_
  by_cases hb : 0 ≤ b ∧ b < nI (L_n L)
  · rw [if_pos hb]
    obtain ⟨g, hg0, rfl⟩ := nI_of (show ¬ b < 0 by rw [Int32.not_lt]; exact hb.1)
    have hg : g < L_n L := (nI_ltI hg0 (by omega)).mp hb.2
    have cg : (nI g).toNatClampNeg = g := nI_clamp hg0
    rw [cg]
    refine T_aload_n dX12_speeds_0 rfl ?_
    refine T_aload_n dX12_speeds_1 rfl ?_
    refine T_iload_n dX12_speeds_2 rfl ?_
    refine T_v1e (cu2 := 0) (su2 := 0) dX12_speeds_3 lv_X12_134 rfl (mH_get hA rfl) rfl (c_X12_isBoat hA _) (nb rfl) (nb rfl) (nb rfl) (nb rfl) (nb rfl) ?_
    refine T_if_eqB (tgt := 13) dX12_speeds_6 (by decide) (fun c6 => ?_) (fun c6 => ?_)
    · exact absurd (by rw [hM.2.2.1]; exact hb) c6
    · refine T_iconst (v := 0) dX12_speeds_9 (by decide) ?_
      refine T_goto (tgt := 14) dX12_speeds_10 (by decide) ?_
      refine T_iload_n dX12_speeds_14 rfl ?_
      refine T_iload_n dX12_speeds_15 rfl ?_
      refine T_iload dX12_speeds_16 rfl ?_
      refine T_iload dX12_speeds_18 rfl ?_
      refine T_v5q (cu2 := 0) (su2 := 0) dX12_speeds_20 lv_X12_215 rfl (mH_get hA rfl) rfl (c_X12_lay hA hM hL _ _ _ _ _ hl) (nb rfl) (nb rfl) (nb rfl) (nb rfl) (nb rfl) (fun r20 h20 q20 => ?_)
      obtain ⟨x, u2, rfl, rfl, hx⟩ := q20
      refine T_istore dX12_speeds_23 (by decide) rfl ?_
      refine T_iload dX12_speeds_25 rfl ?_
      refine T_if_eq (tgt := 33) dX12_speeds_27 (by decide) (fun c27 => ?_) (fun c27 => ?_)
      · subst c27
        obtain ⟨kk, nn, hkk, hnn10, rfl, rfl, hy⟩ := LaA_0 rfl hx
        obtain ⟨hn0, hnh, hin, S, rfl, hS⟩ := LyQ_0 hy
        have hE : SameE (m0 u 0) (va_up (m0 u 0).1 21 (nI nn), va_up (m0 u 0).2 22 S) := lay_same S nn
        have hst := st_of hL hin hS
        generalize hu2 : ((va_up (m0 u 0).1 21 (nI nn), va_up (m0 u 0).2 22 S) : MSt) = u2 at *
        have hM2 : MR u2 L := hE.MR hM
        have hW2 : MW u2 L wn := hE.MW hW
        have hR2 : RdR u2 L nr rb rh rc := hE.RdR hR
        have hp2 : u2.1 21 = nI nn := by rw [← hu2]; rfl
        have hs2 : ∀ k, k < nn → u2.2 22 k = nI ((((m0 u 0).2 4) (60 * kk + i.toNatClampNeg + k)).toNatClampNeg) ∧ (((m0 u 0).2 4) (60 * kk + i.toNatClampNeg + k)).toNatClampNeg ≤ allN L := by rw [← hu2]; exact hst
        have hv : u2.2 12 g = nI (L_fs L g) := (hM2.2.2.2.1 g hg).2.2
        refine T_Q (Qa := fun a h' => ∃ m, a = some (.int (nI m)) ∧ Bts (fun v => (fun (st : Nat → Nat) (nn v : Nat) => SoN (setFs L g v) wn st nn nr rb rh rc) (fun k => (((m0 u 0).2 4) (60 * kk + i.toNatClampNeg + k)).toNatClampNeg) nn v) 1 4 m ∧ ∃ P, h' = mH A (mP u2 P) B) (fun r h' hh => ?_) ?_
        · obtain ⟨m, e1, e2, P, e3⟩ := hh
          refine ⟨nI m, mP u2 P, e1, e3, 0, u2, hx, Or.inr ⟨rfl, mP_same P, m, rfl, ?_⟩⟩
          rw [nI_clamp (show kk < 2 ^ 31 by omega), nI_clamp (show nn < 2 ^ 31 by omega)]
          exact e2
        · exact lp_X12_speeds_w hA hM2 hL hW2 hR2 hg hnh hp2 hs2 hv
      · refine T_iload dX12_speeds_30 rfl ?_
        refine T_iret dX12_speeds_32 rfl (nb rfl) (nb rfl) ?_
        exact ⟨_, _, rfl, rfl, x, u2, hx, Or.inl ⟨c27, rfl, rfl⟩⟩
  · rw [if_neg hb]
    refine T_aload_n dX12_speeds_0 rfl ?_
    refine T_aload_n dX12_speeds_1 rfl ?_
    refine T_iload_n dX12_speeds_2 rfl ?_
    refine T_v1e (cu2 := 0) (su2 := 0) dX12_speeds_3 lv_X12_134 rfl (mH_get hA rfl) rfl (c_X12_isBoat hA _) (nb rfl) (nb rfl) (nb rfl) (nb rfl) (nb rfl) ?_
    refine T_if_eqB (tgt := 13) dX12_speeds_6 (by decide) (fun c6 => ?_) (fun c6 => ?_)
    · refine T_iconst (v := (-1)) dX12_speeds_13 (by decide) ?_
      refine T_iload_n dX12_speeds_14 rfl ?_
      refine T_iload_n dX12_speeds_15 rfl ?_
      refine T_iload dX12_speeds_16 rfl ?_
      refine T_iload dX12_speeds_18 rfl ?_
      refine T_v5q (cu2 := 0) (su2 := 0) dX12_speeds_20 lv_X12_215 rfl (mH_get hA rfl) rfl (c_X12_lay hA hM hL _ _ _ _ _ hl) (nb rfl) (nb rfl) (nb rfl) (nb rfl) (nb rfl) (fun r20 h20 q20 => ?_)
      obtain ⟨x, u2, rfl, rfl, hx⟩ := q20
      refine T_istore dX12_speeds_23 (by decide) rfl ?_
      refine T_iload dX12_speeds_25 rfl ?_
      refine T_if_eq (tgt := 33) dX12_speeds_27 (by decide) (fun c27 => ?_) (fun c27 => ?_)
      · subst c27
        exact absurd (show (0 : Int32) = -1 by unfold LaA at hx; rw [if_neg (by decide)] at hx; exact hx.1) (by decide)
      · refine T_iload dX12_speeds_30 rfl ?_
        refine T_iret dX12_speeds_32 rfl (nb rfl) (nb rfl) ?_
        exact ⟨_, _, rfl, rfl, x, u2, hx, Or.inl ⟨c27, rfl, rfl⟩⟩
    · exact absurd (by rw [← hM.2.2.1]; exact c6) hb
end M20
