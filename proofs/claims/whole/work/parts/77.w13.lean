/-! kinds, speeds beside the reference's -/
section C77
variable {h h1 : XH} {u : MSt} {L : LK} {wn st : Nat → Nat} {wy nw wt sp isl wo fl nr nn : Nat} {bp rb rh rc : Nat → Nat} {lf : Int32} {ln sz : Nat → Int32} {g : Nat → Nat → Int32}
theorem flX_148 {k : Nat} (hk : k ≤ 2) : x_FL RX11 148 (bC k) 1 := by
  rcases k3 hk with rfl | rfl | rfl
  · exact fl_X11_148_0
  · exact fl_X11_148_2
  · exact fl_X11_148_8
theorem flX_151 {k : Nat} (hk : k ≤ 2) : x_FL RX11 151 (bC k) 2 := by
  rcases k3 hk with rfl | rfl | rfl
  · exact fl_X11_151_0
  · exact fl_X11_151_2
  · exact fl_X11_151_8
theorem T_kind_sp {Z : XZ} {cu su : Nat} {ls : List (Nat × Value)} {rest : List Value} {b k nm fr fs : Nat} (hk : k ≤ 2) (hb : h[b]? = some (bO k nm fr fs)) (hr : x_cats rest ≤ 8) (h1 : cu ≤ 3) (h2 : su ≤ 9) (kk : T M_X11_speeds x_E Z cu su 57 ls (.int (nI k) :: rest) h) : T M_X11_speeds x_E Z cu su 54 ls (.ref b :: rest) h := by
  rcases k3 hk with rfl | rfl | rfl
  · exact T_v0e (cu2 := cu) (su2 := su) dX11_speeds_54 lv_X11_142 rfl hb rfl c_X0_kindNumber hr (Nat.le_refl _) (Nat.le_refl _) h1 h2 kk
  · exact T_u0e (cu2 := cu) (su2 := su) dX11_speeds_54 lu_X11_142_X2 rfl hb rfl c_X2_kindNumber hr (Nat.le_refl _) (Nat.le_refl _) h1 h2 kk
  · exact T_u0e (cu2 := cu) (su2 := su) dX11_speeds_54 lu_X11_142_X8 rfl hb rfl c_X8_kindNumber hr (Nat.le_refl _) (Nat.le_refl _) h1 h2 kk
theorem LOk_Kd (hL : LOk L) {b v : Nat} (hv : v ≤ 2) : LOk (setKd L b v) := by
  refine ⟨hL.1, hL.2.1, hL.2.2.1, fun i hi => ?_, hL.2.2.2.2⟩
  obtain ⟨a1, a2, a3, a4⟩ := hL.2.2.2.1 i hi
  refine ⟨a1, ?_, a3, a4⟩
  show uw L.2.2.1 b v i ≤ 2
  unfold uw
  split
  · exact hv
  · exact a2
theorem LOk_Fs (hL : LOk L) {b v : Nat} (h1 : 1 ≤ v) (hv : v ≤ 3) : LOk (setFs L b v) := by
  refine ⟨hL.1, hL.2.1, hL.2.2.1, fun i hi => ?_, hL.2.2.2.2⟩
  obtain ⟨a1, a2, a3, a4⟩ := hL.2.2.2.1 i hi
  refine ⟨a1, a2, ?_⟩
  show 1 ≤ uw L.2.2.2.1 b v i ∧ uw L.2.2.2.1 b v i ≤ 3
  unfold uw
  split
  · exact ⟨h1, hv⟩
  · exact ⟨a3, a4⟩
/-- the heap while another boat stands in the fleet -/
def kH (h bs : XH) (fl : Nat) (F : Nat → Option Nat) (P : Nat → Int32) : XH := ((h ++ bs).set fl (flO F)).set 9 (r3 P)
section KH
variable {bs : XH} {F F0 : Nat → Option Nat} {P P0 : Nat → Int32}
theorem ap_l {k : Nat} {c : XC} (hk : h[k]? = some c) : (h ++ bs)[k]? = some c := by rw [List.getElem?_append_left (List.getElem?_eq_some_iff.mp hk).1]; exact hk
theorem kH_9 (hf : h[fl]? = some (flO F0)) (h9 : h[9]? = some (r3 P0)) : ((h ++ bs).set fl (flO F))[9]? = some (r3 P0) := gs_tg (ap_l hf) (ap_l h9) rfl
theorem kH_at {k : Nat} {c : XC} (hf : h[fl]? = some (flO F0)) (h9 : h[9]? = some (r3 P0)) (hk : h[k]? = some c) (t1 : tne (flO F0) c = true) (t2 : tne (r3 P0) c = true) : (kH h bs fl F P)[k]? = some c := gs_tg (kH_9 hf h9) (gs_tg (ap_l hf) (ap_l hk) t1) t2
theorem kH_fl (hf : h[fl]? = some (flO F0)) (h9 : h[9]? = some (r3 P0)) : (kH h bs fl F P)[fl]? = some (flO F) := gs_tg (kH_9 hf h9) (gs_eq (ap_l hf)) rfl
theorem kH_P (hf : h[fl]? = some (flO F0)) (h9 : h[9]? = some (r3 P0)) : (kH h bs fl F P)[9]? = some (r3 P) := gs_eq (kH_9 hf h9)
theorem kH_s9 {P2 : Nat → Int32} : (kH h bs fl F P).set 9 (r3 P2) = kH h bs fl F P2 := List.set_set ..
theorem kH_sf {F2 : Nat → Option Nat} (hf : h[fl]? = some (flO F0)) (h9 : h[9]? = some (r3 P0)) : (kH h bs fl F P).set fl (flO F2) = kH h bs fl F2 P := by
  unfold kH
  rw [List.set_comm _ _ (ne_tg hf h9 rfl).symm, List.set_set]
theorem kH_push {l : XH} (hf : h[fl]? = some (flO F0)) (h9 : h[9]? = some (r3 P0)) : kH h bs fl F P ++ l = kH h (bs ++ l) fl F P := by
  have q1 : fl < (h ++ bs).length := (List.getElem?_eq_some_iff.mp (ap_l hf)).1
  have q2 : 9 < ((h ++ bs).set fl (flO F)).length := by rw [List.length_set]; exact (List.getElem?_eq_some_iff.mp (ap_l h9)).1
  unfold kH
  rw [← List.append_assoc, List.set_append_left fl (flO F) q1, List.set_append_left 9 (r3 P) q2]
theorem kH_len : (kH h bs fl F P).length = (h ++ bs).length := by unfold kH; simp only [List.length_set]
theorem kH_new {c : XC} (hf : h[fl]? = some (flO F0)) (h9 : h[9]? = some (r3 P0)) : (kH h (bs ++ [c]) fl F P)[(kH h bs fl F P).length]? = some c := by rw [← kH_push hf h9]; exact push_get
end KH
theorem rbp_a {w il hh n : Nat} (h0 : h[0]? = some (cwO wy nw wt sp lf)) (hl : h[wt]? = some (lkO w il hh n wo fl)) {b sh sort i nn : Int32} (qb : ¬ (0 ≤ b ∧ b < nI n)) : ConE M_X11_refusalOfBoatPlan [.ref 0, .int b, .int sh, .int sort, .int i, .int nn] h (some (.int (-1))) (h.set 0 (cwO wy nw wt sp 0)) := by
  refine Con.of rfl (nb rfl) ?_
  refine T_aload_n dX11_refusalOfBoatPlan_0 rfl ?_
  refine T_iconst (v := 0) dX11_refusalOfBoatPlan_1 (by decide) ?_
  refine T_put dX11_refusalOfBoatPlan_2 fp_X11_72_11 h0 (nb rfl) (fun _ => ⟨rfl, rfl⟩) ?_
  refine T_aload_n dX11_refusalOfBoatPlan_5 rfl ?_
  refine T_iload_n dX11_refusalOfBoatPlan_6 rfl ?_
  refine T_v1e (cu2 := 0) (su2 := 0) dX11_refusalOfBoatPlan_7 lv_X11_135 rfl (gs_eq h0) rfl (c_X11_isBoat (gs_eq h0) (gs_tg h0 hl rfl) _) (nb rfl) (nb rfl) (nb rfl) (nb rfl) (nb rfl) ?_
  refine T_if_neB (tgt := 15) dX11_refusalOfBoatPlan_10 (by decide) (fun c10 => ?_) (fun c10 => ?_)
  · exact absurd c10 qb
  · refine T_iconst (v := (-1)) dX11_refusalOfBoatPlan_13 (by decide) ?_
    refine T_iret dX11_refusalOfBoatPlan_14 rfl (nb rfl) (nb rfl) ?_
    exact ⟨rfl, rfl⟩
theorem rbp_b {w il hh n : Nat} (h0 : h[0]? = some (cwO wy nw wt sp lf)) (hl : h[wt]? = some (lkO w il hh n wo fl)) {b sh sort i nn : Int32} (qb : 0 ≤ b ∧ b < nI n) (hr : ¬ rrC sh sort nn = 0) : ConE M_X11_refusalOfBoatPlan [.ref 0, .int b, .int sh, .int sort, .int i, .int nn] h (some (.int (rrC sh sort nn))) (h.set 0 (cwO wy nw wt sp 0)) := by
  refine Con.of rfl (nb rfl) ?_
  refine T_aload_n dX11_refusalOfBoatPlan_0 rfl ?_
  refine T_iconst (v := 0) dX11_refusalOfBoatPlan_1 (by decide) ?_
  refine T_put dX11_refusalOfBoatPlan_2 fp_X11_72_11 h0 (nb rfl) (fun _ => ⟨rfl, rfl⟩) ?_
  refine T_aload_n dX11_refusalOfBoatPlan_5 rfl ?_
  refine T_iload_n dX11_refusalOfBoatPlan_6 rfl ?_
  refine T_v1e (cu2 := 0) (su2 := 0) dX11_refusalOfBoatPlan_7 lv_X11_135 rfl (gs_eq h0) rfl (c_X11_isBoat (gs_eq h0) (gs_tg h0 hl rfl) _) (nb rfl) (nb rfl) (nb rfl) (nb rfl) (nb rfl) ?_
  refine T_if_neB (tgt := 15) dX11_refusalOfBoatPlan_10 (by decide) (fun c10 => ?_) (fun c10 => ?_)
  · refine T_aload_n dX11_refusalOfBoatPlan_15 rfl ?_
    refine T_iload_n dX11_refusalOfBoatPlan_16 rfl ?_
    refine T_iload_n dX11_refusalOfBoatPlan_17 rfl ?_
    refine T_iload dX11_refusalOfBoatPlan_18 rfl ?_
    refine T_v3e (cu2 := 0) (su2 := 0) dX11_refusalOfBoatPlan_20 lv_X11_176 rfl (gs_eq h0) rfl (c_X11_refusalOfRow _ _ _) (nb rfl) (nb rfl) (nb rfl) (nb rfl) (nb rfl) ?_
    refine T_istore dX11_refusalOfBoatPlan_23 (by decide) rfl ?_
    refine T_iload dX11_refusalOfBoatPlan_25 rfl ?_
    refine T_if_eq (tgt := 35) dX11_refusalOfBoatPlan_27 (by decide) (fun c27 => ?_) (fun c27 => ?_)
    · exact absurd c27 hr
    · refine T_iload dX11_refusalOfBoatPlan_30 rfl ?_
      refine T_goto (tgt := 45) dX11_refusalOfBoatPlan_32 (by decide) ?_
      refine T_iret dX11_refusalOfBoatPlan_45 rfl (nb rfl) (nb rfl) ?_
      exact ⟨rfl, rfl⟩
  · exact absurd qb c10
theorem rbp_c {O : Nat → Int32} (hL : LOk L) (h0 : h[0]? = some (cwO wy nw wt sp lf)) (hl : h[wt]? = some (lkC L isl wo fl)) (ho : h[44]? = some (r10 O)) (hS : ShH (h.set 0 (cwO wy nw wt sp 0)) ln sz g) {kk nn ll : Nat} (hk : kk < 4) (hz : sz kk = nI ll) (hll : ll ≤ 60) (hnn : nn ≤ 10) {b sort i : Int32} (qb : 0 ≤ b ∧ b < nI (L_n L)) (hr : rrC (nI kk) sort (nI nn) = 0) : Con M_X11_refusalOfBoatPlan [.ref 0, .int b, .int (nI kk), .int sort, .int i, .int (nI nn)] h (TkQ (h.set 0 (cwO wy nw wt sp 0)) L wy nw wt sp (ln kk) (sz kk) (g kk) sort i nn 0) := by
  refine Con.of rfl (nb rfl) ?_
  refine T_aload_n dX11_refusalOfBoatPlan_0 rfl ?_
  refine T_iconst (v := 0) dX11_refusalOfBoatPlan_1 (by decide) ?_
  refine T_put dX11_refusalOfBoatPlan_2 fp_X11_72_11 h0 (nb rfl) (fun _ => ⟨rfl, rfl⟩) ?_
  refine T_aload_n dX11_refusalOfBoatPlan_5 rfl ?_
  refine T_iload_n dX11_refusalOfBoatPlan_6 rfl ?_
  refine T_v1e (cu2 := 0) (su2 := 0) dX11_refusalOfBoatPlan_7 lv_X11_135 rfl (gs_eq h0) rfl (c_X11_isBoat (gs_eq h0) (gs_tg h0 hl rfl) _) (nb rfl) (nb rfl) (nb rfl) (nb rfl) (nb rfl) ?_
  refine T_if_neB (tgt := 15) dX11_refusalOfBoatPlan_10 (by decide) (fun c10 => ?_) (fun c10 => ?_)
  · refine T_aload_n dX11_refusalOfBoatPlan_15 rfl ?_
    refine T_iload_n dX11_refusalOfBoatPlan_16 rfl ?_
    refine T_iload_n dX11_refusalOfBoatPlan_17 rfl ?_
    refine T_iload dX11_refusalOfBoatPlan_18 rfl ?_
    refine T_v3e (cu2 := 0) (su2 := 0) dX11_refusalOfBoatPlan_20 lv_X11_176 rfl (gs_eq h0) rfl (c_X11_refusalOfRow _ _ _) (nb rfl) (nb rfl) (nb rfl) (nb rfl) (nb rfl) ?_
    refine T_istore dX11_refusalOfBoatPlan_23 (by decide) rfl ?_
    refine T_iload dX11_refusalOfBoatPlan_25 rfl ?_
    refine T_if_eq (tgt := 35) dX11_refusalOfBoatPlan_27 (by decide) (fun c27 => ?_) (fun c27 => ?_)
    · refine T_aload_n dX11_refusalOfBoatPlan_35 rfl ?_
      refine T_iload_n dX11_refusalOfBoatPlan_36 rfl ?_
      refine T_iload_n dX11_refusalOfBoatPlan_37 rfl ?_
      refine T_iload dX11_refusalOfBoatPlan_38 rfl ?_
      refine T_iload dX11_refusalOfBoatPlan_40 rfl ?_
      refine T_v4q (cu2 := 0) (su2 := 0) dX11_refusalOfBoatPlan_42 lv_X11_183 rfl (gs_eq h0) rfl (c_X11_takeOrders hL (gs_eq h0) (gs_tg h0 hl rfl) (gs_tg h0 ho rfl) hS hk hz hll hnn _ _) (nb rfl) (nb rfl) (nb rfl) (nb rfl) (nb rfl) (fun r42 h42 q42 => ?_)
      obtain ⟨v, lf2, O2, rfl, rfl, hT⟩ := q42
      refine T_iret dX11_refusalOfBoatPlan_45 rfl (nb rfl) (nb rfl) ?_
      exact ⟨v, lf2, O2, rfl, rfl, hT⟩
    · exact absurd hr c27
  · exact absurd qb c10
theorem lp_X11_kinds {O : Nat → Int32} {a0 b0 c0 : Int32} {F : Nat → Option Nat} {P0 : Nat → Int32} {b : Nat} {x2 x3 x4 x6 : Int32} (hL : LOk L) (h0 : h[0]? = some (cwO wy nw wt sp lf)) (hl1 : h[wt]? = some (lkC L isl wo fl)) (hl2 : IsR isl L) (hf : h[fl]? = some (flO F)) (hl4 : ∀ i, i < L_n L → F i = some (bp i) ∧ h[bp i]? = some (bCL L i)) (hW : WnH h wo L wn) (hR : RdH h nr rb rh rc) (hR2 : nr ≤ 8 ∧ ∀ r, r < nr → rb r < L_n L ∧ rh r < 10 ∧ rc r ≤ L_w L) (h8 : h[8]? = some (voO 9 a0 b0 c0)) (h9 : h[9]? = some (r3 P0)) (ho : h[44]? = some (r10 O)) (hnn : nn ≤ L_h L) (hst : ∀ k, k < nn → O k = nI (st k) ∧ st k ≤ allN L) (hb : b < L_n L)
    {Qa : Option Value → XH → Prop} (hQ : ∀ m P bs, Bts (fun v => SoN (setKd L b v) wn st nn nr rb rh rc) 0 3 m → Qa (some (.int (nI m))) ((h ++ bs).set 9 (r3 P))) :
    ∀ r v, v + r = 3 → 0 ≤ v → ∀ m P bs F2, Bts (fun v => SoN (setKd L b v) wn st nn nr rb rh rc) 0 v m → (∀ j, j ≠ b → F2 j = F j) → T M_X11_kinds x_E (x_Z M_X11_kinds Qa) v (3 * v) 38 [(0, .ref 0), (1, .int (nI b)), (2, .int x2), (3, .int x3), (4, .int x4), (5, .int (nI nn)), (6, .int x6), (7, .ref (bp b)), (8, .int (nI m)), (9, .int (nI v))] [] (kH h bs fl F2 P) := by
  have h10 := hL.2.1
  have h3 := hL.2.2.1
  have hq := hL.2.2.2.1 b hb
  have hbb := (hl4 b hb).2
  have f0 : ∀ bs F2 P, (kH h bs fl F2 P)[0]? = some (cwO wy nw wt sp lf) := fun bs F2 P => kH_at hf h9 h0 rfl rfl
  have f1 : ∀ bs F2 P, (kH h bs fl F2 P)[wt]? = some (lkC L isl wo fl) := fun bs F2 P => kH_at hf h9 hl1 rfl rfl
  have fb : ∀ bs F2 P, (kH h bs fl F2 P)[bp b]? = some (bCL L b) := fun bs F2 P => kH_at hf h9 hbb rfl rfl
  intro r
  induction r with
  | zero =>
    intro v hv hlo m P bs F2 hB hF2
    obtain rfl : v = 3 := by omega
    have eF : va_up F2 (nI b).toNatClampNeg (some (bp b)) = F := by
      rw [nI_clamp (by omega)]
      funext j
      by_cases z : j = b
      · subst z; rw [va_up_self]; exact (hl4 j hb).1.symm
      · rw [va_up_ne _ _ z]; exact hF2 j z
    refine T_iload dX11_kinds_38 rfl ?_
    refine T_iconst (v := nI 3) dX11_kinds_40 (by decide) ?_
    refine T_icmp_geN (tgt := 88) dX11_kinds_41 (by decide) (by omega) (by omega) (fun c41 => ?_) (fun c41 => ?_)
    · refine T_aload_n dX11_kinds_88 rfl ?_
      refine T_get dX11_kinds_89 fl_X11_65_11 (f0 _ _ _) rfl ?_
      refine T_get dX11_kinds_92 fl_X11_138_1 (f1 _ _ _) rfl ?_
      refine T_iload_n dX11_kinds_95 rfl ?_
      refine T_aload dX11_kinds_96 rfl ?_
      refine T_aast_b (v := L_kd L b) hq.2.1 dX11_kinds_98 (kH_fl hf h9) (fb _ _ _) (nI_in3 h3 hb) ?_
      refine T_h (kH_sf hf h9) ?_
      refine T_iload dX11_kinds_99 rfl ?_
      refine T_iret dX11_kinds_101 rfl (nb rfl) (nb rfl) ?_
      rw [eF]
      have e : kH h bs fl F P = (h ++ bs).set 9 (r3 P) := by unfold kH; rw [← gs_id (ap_l hf)]
      rw [e]
      exact hQ m P bs hB
    · exact absurd c41 (by omega)
  | succ r ih =>
    intro v hv hlo m P bs F2 hB hF2
    have hcu1 : (v + 1) ≤ M_X11_kinds.2.2.2.2.cells := by show (v + 1) ≤ 3; omega
    have hsu1 : (3 * v + 3) ≤ M_X11_kinds.2.2.2.2.slots := by show (3 * v + 3) ≤ 9; omega
    have hL2 : LOk (setKd L b v) := LOk_Kd hL (by omega)
    generalize hc : (Sum.inr (bC (v), [.int (nI b), .int (nI (L_fr L b)), .int (nI (L_fs L b))]) : XC) = cc
    have hp : (kH h (bs ++ [cc]) fl F2 P)[(h ++ bs).length]? = some cc := by have := kH_new (bs := bs) (F := F2) (P := P) (c := cc) hf h9; rw [kH_len] at this; exact this
    have hp2 : ∀ F3, (kH h (bs ++ [cc]) fl F3 P)[(h ++ bs).length]? = some cc := fun F3 => by have := kH_new (bs := bs) (F := F3) (P := P) (c := cc) hf h9; rw [kH_len] at this; exact this
    have hlk : LkH (kH h (bs ++ [cc]) fl (va_up F2 b (some (h ++ bs).length)) P) wt isl wo fl (uw bp b (h ++ bs).length) (setKd L b v) := by
      refine ⟨f1 _ _ _, hl2, _, kH_fl hf h9, fun i hi => ?_⟩
      by_cases z : i = b
      · subst z
        rw [va_up_self]
        refine ⟨by unfold uw; rw [if_pos rfl], ?_⟩
        rw [show uw bp i (h ++ bs).length i = (h ++ bs).length from if_pos rfl, hp2, ← hc]
        unfold bCL bO
        show _ = some (Sum.inr (bC (uw L.2.2.1 i v i), [Value.int (nI i), Value.int (nI (L_fr L i)), Value.int (nI (L_fs L i))]))
        rw [show uw L.2.2.1 i v i = v from if_pos rfl]
      · rw [va_up_ne _ _ z, hF2 i z]
        refine ⟨by unfold uw; rw [if_neg z]; exact (hl4 i hi).1, ?_⟩
        rw [show uw bp b (h ++ bs).length i = bp i from if_neg z, kH_at hf h9 (hl4 i hi).2 rfl rfl]
        unfold bCL bO
        show _ = some (Sum.inr (bC (uw L.2.2.1 b v i), [Value.int (nI i), Value.int (nI (L_fr L i)), Value.int (nI (L_fs L i))]))
        rw [show uw L.2.2.1 b v i = L_kd L i from if_neg z]
    have hwn : WnH (kH h (bs ++ [cc]) fl (va_up F2 b (some (h ++ bs).length)) P) wo (setKd L b v) wn := by
      obtain ⟨W, w1, w2⟩ := hW
      exact ⟨W, kH_at hf h9 w1 rfl rfl, w2⟩
    have hRk : RdH (kH h (bs ++ [cc]) fl (va_up F2 b (some (h ++ bs).length)) P) nr rb rh rc := by
      obtain ⟨d1, fb, fg, fc, d2, d3, d4, d5⟩ := hR
      exact ⟨kH_at hf h9 d1 rfl rfl, fb, fg, fc, kH_at hf h9 d2 rfl rfl, kH_at hf h9 d3 rfl rfl, kH_at hf h9 d4 rfl rfl, d5⟩
    refine T_iload dX11_kinds_38 rfl ?_
    refine T_iconst (v := nI 3) dX11_kinds_40 (by decide) ?_
    refine T_icmp_geN (tgt := 88) dX11_kinds_41 (by decide) (by omega) (by omega) (fun c41 => ?_) (fun c41 => ?_)
    · exact absurd c41 (by omega)
    · refine T_aload_n dX11_kinds_44 rfl ?_
      refine T_get dX11_kinds_45 fl_X11_65_11 (f0 _ _ _) rfl ?_
      refine T_get dX11_kinds_48 fl_X11_138_1 (f1 _ _ _) rfl ?_
      refine T_iload_n dX11_kinds_51 rfl ?_
      refine T_iload dX11_kinds_52 rfl ?_
      refine T_iload_n dX11_kinds_54 rfl ?_
      refine T_aload dX11_kinds_55 rfl ?_
      refine T_get dX11_kinds_57 (flX_148 hq.2.1) (fb _ _ _) rfl ?_
      refine T_aload dX11_kinds_60 rfl ?_
      refine T_get dX11_kinds_62 (flX_151 hq.2.1) (fb _ _ _) rfl ?_
      refine T_s4e (cu2 := v + 1) (su2 := 3 * v + 3) dX11_kinds_65 ls_X11_241 rfl (c_X11_newBoat (k := v) (by omega) _ _ _) (nb rfl) (Nat.le_refl _) (Nat.le_refl _) hcu1 hsu1 ?_
      rw [hc]
      refine T_h (kH_push hf h9) ?_
      rw [kH_len]
      refine T_aast_b (v := v) (by omega) dX11_kinds_68 (kH_fl hf h9) (by rw [hp, ← hc]) (nI_in3 h3 hb) ?_
      refine T_h (kH_sf hf h9) ?_
      rw [nI_clamp (show b < 2 ^ 31 by omega)]
      refine T_iload dX11_kinds_69 rfl ?_
      refine T_aload_n dX11_kinds_71 rfl ?_
      refine T_iload dX11_kinds_72 rfl ?_
      refine T_iload dX11_kinds_74 rfl ?_
      refine T_v2q (cu2 := (v + 1)) (su2 := (3 * v + 3)) dX11_kinds_76 lv_X11_234 rfl (f0 _ _ _) rfl (c_X11_bitIfAsRead hL2 (f0 _ _ _) hlk hwn hRk hR2 (kH_at hf h9 h8 rfl rfl) (kH_P hf h9) (kH_at hf h9 ho rfl rfl) hnn hst v) (nb rfl) (Nat.le_refl _) (Nat.le_refl _) hcu1 hsu1 (fun r76 h76 q76 => ?_)
      obtain ⟨⟨x, rfl, hx⟩, P2, rfl⟩ := q76
      refine T_h kH_s9 ?_
      obtain ⟨m2, em, hB2⟩ := bit_or (p := (fun v => SoN (setKd L b v) wn st nn nr rb rh rc)) hB hlo (by omega) hx
      refine T_ior dX11_kinds_79 ?_
      refine T_top em ?_
      refine T_istore dX11_kinds_80 (by decide) rfl ?_
      refine T_iincN dX11_kinds_82 rfl (by decide) rfl ?_
      refine T_goto (tgt := 38) dX11_kinds_85 (by decide) ?_
      refine ih (v + 1) (by omega) (by omega) m2 P2 (bs ++ [cc]) _ hB2 (fun j hj => ?_)
      rw [va_up_ne _ _ hj]; exact hF2 j hj
theorem s_kinds (p0 : SimP h u wy nw wt sp isl bp L wn nr rb rh rc ln sz g) (b sh sort i n : Int32) : Con M_X11_kinds [.ref 0, .int b, .int sh, .int sort, .int i, .int n] h (SQ h (fun q2 u2 => ∃ v, q2 = some (.int v) ∧ ByA L (m0 u 0) (fun st nn v => SoN (setKd L b.toNatClampNeg v) wn st nn nr rb rh rc) 0 3 (if 0 ≤ b ∧ b < nI (L_n L) then 0 else -1) sh sort i n v u2)) := by
  have p := p0.flt 0
  have hL := p.1.2.1.1
  have h3 := hL.2.2.1
  have h10 := hL.2.1
  have hU := p.2.2.2.2
  have hRd := p.2.2.2.1
  have hw := p.1.1.2.1
  have hS := p.1.2.2.2.2.2.2.2.2.2.2
  obtain ⟨O, o0⟩ := p0.1.2.2.2.2.2.2.2.1
  have l0 := p0.1.2.1.2.1.1
  have ag0 : ∀ x, Ag (fun k => k < 67) h (h.set 0 (cwO wy nw wt sp x)) := fun x => Ag.rf.set (by decide)
  have same1 : ∀ x0 : Int32, ¬ x0 = 0 → (∀ x u3, LaA L (m0 u 0) (if 0 ≤ b ∧ b < nI (L_n L) then 0 else -1) sh sort i n x u3 → x = x0 ∧ u3 = m0 u 0) → SQ h (fun q2 u2 => ∃ v, q2 = some (.int v) ∧ ByA L (m0 u 0) (fun st nn v => SoN (setKd L b.toNatClampNeg v) wn st nn nr rb rh rc) 0 3 (if 0 ≤ b ∧ b < nI (L_n L) then 0 else -1) sh sort i n v u2) (some (.int x0)) (h.set 0 (cwO wy nw wt sp 0)) := by
    intro x0 hx0 e
    refine ⟨ag0 0, ?_⟩
    rintro q2 u2 ⟨v, rfl, x, u3, a1, a2⟩
    obtain ⟨rfl, rfl⟩ := e x u3 a1
    rcases a2 with ⟨-, rfl, rfl⟩ | ⟨a3, -⟩
    · exact ⟨rfl, p.sim⟩
    · exact absurd a3 hx0
  refine Con.of rfl (nb rfl) ?_
  by_cases qb : 0 ≤ b ∧ b < nI (L_n L)
  · by_cases q : 0 ≤ sh ∧ sh ≤ 3
    · by_cases y : (0 ≤ sort ∧ sort ≤ 2) ∧ 0 ≤ n ∧ n ≤ 10
      · obtain ⟨kk, hk, rfl⟩ := shN q
        obtain ⟨nn, hn, rfl⟩ := setN (a := 10) (by decide) y.2
        obtain ⟨bb, hb, rfl⟩ := bt_N h3 qb
        have ek : (nI kk).toNatClampNeg = kk := nI_clamp (by omega)
        have en : (nI nn).toNatClampNeg = nn := nI_clamp (by omega)
        have eb : (nI bb).toNatClampNeg = bb := nI_clamp (by omega)
        obtain ⟨-, ⟨ll, l1, -, l3⟩, -⟩ := hU kk hk
        have ePl : ∀ v u2, ByA L (m0 u 0) (fun st nn v => SoN (setKd L (nI bb).toNatClampNeg v) wn st nn nr rb rh rc) 0 3 (if 0 ≤ nI bb ∧ nI bb < nI (L_n L) then 0 else -1) (nI kk) sort i (nI nn) v u2 → ∃ x u3, LyQ L (m0 u 0) kk sort i nn x u3 ∧ ((¬ x = 0 ∧ v = x ∧ u2 = u3) ∨ (x = 0 ∧ SameE u3 u2 ∧ ∃ m, v = nI m ∧ Bts (fun v => SoN (setKd L bb v) wn (stU (m0 u 0) kk i.toNatClampNeg) nn nr rb rh rc) 0 3 m)) := by
          rintro v u2 ⟨x, u3, a1, a2⟩
          unfold LaA at a1
          rw [if_pos (if_pos qb), if_pos q, if_pos y, ek, en] at a1
          rw [ek, en, eb] at a2
          exact ⟨x, u3, a1, a2⟩
        refine T_aload_n dX11_kinds_0 rfl ?_
        refine T_iload_n dX11_kinds_1 rfl ?_
        refine T_iload_n dX11_kinds_2 rfl ?_
        refine T_iload_n dX11_kinds_3 rfl ?_
        refine T_iload dX11_kinds_4 rfl ?_
        refine T_iload dX11_kinds_6 rfl ?_
        refine T_v5q (cu2 := 0) (su2 := 0) dX11_kinds_8 lv_X11_237 rfl p0.1.1.1 rfl (rbp_c hL p0.1.1.1 l0 o0 hS hk l3 l1 hn qb (rr_0 q y)) (nb rfl) (nb rfl) (nb rfl) (nb rfl) (nb rfl) (fun r8 h8 q8 => ?_)
        obtain ⟨v, lf2, O2, rfl, rfl, hT⟩ := q8
        have pt := p.tk lf2 O2
        refine T_istore dX11_kinds_11 (by decide) rfl ?_
        refine T_iload dX11_kinds_13 rfl ?_
        refine T_if_eq (tgt := 21) dX11_kinds_15 (by decide) (fun c15 => ?_) (fun c15 => ?_)
        · subst c15
          obtain ⟨t1, t2, t3, t4⟩ := Tk_0 (u := m0 u 0) hL hU hk hn hT
          obtain ⟨a0, b0, c0, P0, v1, v2⟩ := pt.1.2.2.2.2.1
          obtain ⟨g1, g2, F, g3, g4⟩ := pt.1.2.1.2.1
          have o2 : (aH (h.set 0 (cwO wy nw wt sp 0)) wy nw wt sp lf2 O2)[44]? = some (r10 O2) := gs_eq ((gs_ne (by decide)).trans ((gs_ne (by decide)).trans o0))
          refine T_aload_n dX11_kinds_21 rfl ?_
          refine T_get dX11_kinds_22 fl_X11_65_11 pt.1.1.1 rfl ?_
          refine T_get dX11_kinds_25 fl_X11_138_1 g1 rfl ?_
          refine T_iload_n dX11_kinds_28 rfl ?_
          refine T_aald4 dX11_kinds_29 g3 (nI_in3 h3 hb) (by rw [eb]; exact (g4 bb hb).1) ?_
          refine T_astore dX11_kinds_30 (by decide) rfl ?_
          refine T_iconst (v := nI 0) dX11_kinds_32 (by decide) ?_
          refine T_istore dX11_kinds_33 (by decide) rfl ?_
          refine T_iconst (v := nI 0) dX11_kinds_35 (by decide) ?_
          refine T_istore dX11_kinds_36 (by decide) rfl ?_
          have e0 : aH (h.set 0 (cwO wy nw wt sp 0)) wy nw wt sp lf2 O2 = kH (aH (h.set 0 (cwO wy nw wt sp 0)) wy nw wt sp lf2 O2) [] (wt + 2) F P0 := by
            unfold kH
            rw [List.append_nil, ← gs_id g3]
            exact gs_id v2
          refine T_h e0 (lp_X11_kinds (wn := wn) (x2 := nI kk) hL pt.1.1.1 g1 g2 g3 g4 pt.1.2.1.2.2.1 pt.1.2.2.2.1 ⟨hRd.2.1, fun r hr => ⟨(hRd.2.2 r hr).2.1, (hRd.2.2 r hr).2.2.2.1, (hRd.2.2 r hr).2.2.2.2.2⟩⟩ v1 v2 o2 t3 t4 hb (fun m P bs hB => ?_) 3 0 (by omega) (by omega) 0 P0 [] F ⟨by decide, by decide, fun j hj => ⟨fun q => absurd q (by simp), fun q => absurd q.2.1 (by have := q.1; omega)⟩⟩ (fun j _ => rfl))
          have hgv : Ag (fun k => k = 8 ∨ k = 9 ∨ k = 44) (aH (h.set 0 (cwO wy nw wt sp 0)) wy nw wt sp lf2 O2) ((aH (h.set 0 (cwO wy nw wt sp 0)) wy nw wt sp lf2 O2 ++ bs).set 9 (r3 P)) := Ag.rf.push.set (Or.inr (Or.inl rfl))
          have pv := pt.scr hgv ⟨a0, b0, c0, P, (gs_ne (by decide)).trans (ap_l v1), gs_eq (ap_l v2)⟩ ⟨O2, (gs_ne (by decide)).trans (ap_l o2)⟩
          refine ⟨(((ag0 0).set (by decide)).set (by decide)).push.set (by decide), ?_⟩
          rintro q2 u2 ⟨v9, rfl, hv⟩
          obtain ⟨x, u3, a1, a2⟩ := ePl v9 u2 hv
          obtain ⟨rfl, b2⟩ := Tk_Ly (u := m0 u 0) hU hk hn hT a1
          rcases a2 with ⟨a3, -⟩ | ⟨-, a4, m2, rfl, a6⟩
          · exact absurd rfl a3
          · exact ⟨by rw [Bts_un (fun _ _ => Iff.rfl) a6 hB], ((pv.same b2).same a4).sim⟩
        · refine T_iload dX11_kinds_18 rfl ?_
          refine T_iret dX11_kinds_20 rfl (nb rfl) (nb rfl) ?_
          refine ⟨((ag0 0).set (by decide)).set (by decide), ?_⟩
          rintro q2 u2 ⟨v2, rfl, hv⟩
          obtain ⟨x, u3, a1, a2⟩ := ePl v2 u2 hv
          obtain ⟨rfl, b2⟩ := Tk_Ly (u := m0 u 0) hU hk hn hT a1
          rcases a2 with ⟨-, rfl, rfl⟩ | ⟨a3, -⟩
          · exact ⟨rfl, (pt.same b2).sim⟩
          · exact absurd a3 c15
      · have er : rrC sh sort n = -2 := by unfold rrC; rw [if_pos q, if_neg y]
        refine T_aload_n dX11_kinds_0 rfl ?_
        refine T_iload_n dX11_kinds_1 rfl ?_
        refine T_iload_n dX11_kinds_2 rfl ?_
        refine T_iload_n dX11_kinds_3 rfl ?_
        refine T_iload dX11_kinds_4 rfl ?_
        refine T_iload dX11_kinds_6 rfl ?_
        refine T_v5e (cu2 := 0) (su2 := 0) dX11_kinds_8 lv_X11_237 rfl p0.1.1.1 rfl (rbp_b p0.1.1.1 l0 qb (by rw [er]; decide)) (nb rfl) (nb rfl) (nb rfl) (nb rfl) (nb rfl) ?_
        refine T_top er ?_
        refine T_istore dX11_kinds_11 (by decide) rfl ?_
        refine T_iload dX11_kinds_13 rfl ?_
        refine T_if_eq (tgt := 21) dX11_kinds_15 (by decide) (fun c15 => ?_) (fun c15 => ?_)
        · exact absurd c15 (by decide)
        · refine T_iload dX11_kinds_18 rfl ?_
          refine T_iret dX11_kinds_20 rfl (nb rfl) (nb rfl) ?_
          exact same1 _ (by decide) (fun x u3 a1 => by unfold LaA at a1; rw [if_pos (if_pos qb), if_pos q, if_neg y] at a1; exact a1)
    · have er : rrC sh sort n = -1 := by unfold rrC; rw [if_neg q]
      refine T_aload_n dX11_kinds_0 rfl ?_
      refine T_iload_n dX11_kinds_1 rfl ?_
      refine T_iload_n dX11_kinds_2 rfl ?_
      refine T_iload_n dX11_kinds_3 rfl ?_
      refine T_iload dX11_kinds_4 rfl ?_
      refine T_iload dX11_kinds_6 rfl ?_
      refine T_v5e (cu2 := 0) (su2 := 0) dX11_kinds_8 lv_X11_237 rfl p0.1.1.1 rfl (rbp_b p0.1.1.1 l0 qb (by rw [er]; decide)) (nb rfl) (nb rfl) (nb rfl) (nb rfl) (nb rfl) ?_
      refine T_top er ?_
      refine T_istore dX11_kinds_11 (by decide) rfl ?_
      refine T_iload dX11_kinds_13 rfl ?_
      refine T_if_eq (tgt := 21) dX11_kinds_15 (by decide) (fun c15 => ?_) (fun c15 => ?_)
      · exact absurd c15 (by decide)
      · refine T_iload dX11_kinds_18 rfl ?_
        refine T_iret dX11_kinds_20 rfl (nb rfl) (nb rfl) ?_
        exact same1 _ (by decide) (fun x u3 a1 => by unfold LaA at a1; rw [if_pos (if_pos qb), if_neg q] at a1; exact a1)
  · refine T_aload_n dX11_kinds_0 rfl ?_
    refine T_iload_n dX11_kinds_1 rfl ?_
    refine T_iload_n dX11_kinds_2 rfl ?_
    refine T_iload_n dX11_kinds_3 rfl ?_
    refine T_iload dX11_kinds_4 rfl ?_
    refine T_iload dX11_kinds_6 rfl ?_
    refine T_v5e (cu2 := 0) (su2 := 0) dX11_kinds_8 lv_X11_237 rfl p0.1.1.1 rfl (rbp_a p0.1.1.1 l0 qb) (nb rfl) (nb rfl) (nb rfl) (nb rfl) (nb rfl) ?_
    refine T_istore dX11_kinds_11 (by decide) rfl ?_
    refine T_iload dX11_kinds_13 rfl ?_
    refine T_if_eq (tgt := 21) dX11_kinds_15 (by decide) (fun c15 => ?_) (fun c15 => ?_)
    · exact absurd c15 (by decide)
    · refine T_iload dX11_kinds_18 rfl ?_
      refine T_iret dX11_kinds_20 rfl (nb rfl) (nb rfl) ?_
      exact same1 _ (by decide) (fun x u3 a1 => by rw [if_neg qb] at a1; unfold LaA at a1; rw [if_neg (by decide)] at a1; exact a1)
theorem lp_X11_speeds {O : Nat → Int32} {a0 b0 c0 : Int32} {F : Nat → Option Nat} {P0 : Nat → Int32} {b : Nat} {x2 x3 x4 x6 : Int32} (hL : LOk L) (h0 : h[0]? = some (cwO wy nw wt sp lf)) (hl1 : h[wt]? = some (lkC L isl wo fl)) (hl2 : IsR isl L) (hf : h[fl]? = some (flO F)) (hl4 : ∀ i, i < L_n L → F i = some (bp i) ∧ h[bp i]? = some (bCL L i)) (hW : WnH h wo L wn) (hR : RdH h nr rb rh rc) (hR2 : nr ≤ 8 ∧ ∀ r, r < nr → rb r < L_n L ∧ rh r < 10 ∧ rc r ≤ L_w L) (h8 : h[8]? = some (voO 9 a0 b0 c0)) (h9 : h[9]? = some (r3 P0)) (ho : h[44]? = some (r10 O)) (hnn : nn ≤ L_h L) (hst : ∀ k, k < nn → O k = nI (st k) ∧ st k ≤ allN L) (hb : b < L_n L)
    {Qa : Option Value → XH → Prop} (hQ : ∀ m P bs, Bts (fun v => SoN (setFs L b v) wn st nn nr rb rh rc) 1 4 m → Qa (some (.int (nI m))) ((h ++ bs).set 9 (r3 P))) :
    ∀ r v, v + r = 4 → 1 ≤ v → ∀ m P bs F2, Bts (fun v => SoN (setFs L b v) wn st nn nr rb rh rc) 1 v m → (∀ j, j ≠ b → F2 j = F j) → T M_X11_speeds x_E (x_Z M_X11_speeds Qa) (v - 1) (3 * (v - 1)) 38 [(0, .ref 0), (1, .int (nI b)), (2, .int x2), (3, .int x3), (4, .int x4), (5, .int (nI nn)), (6, .int x6), (7, .ref (bp b)), (8, .int (nI m)), (9, .int (nI v))] [] (kH h bs fl F2 P) := by
  have h10 := hL.2.1
  have h3 := hL.2.2.1
  have hq := hL.2.2.2.1 b hb
  have hbb := (hl4 b hb).2
  have f0 : ∀ bs F2 P, (kH h bs fl F2 P)[0]? = some (cwO wy nw wt sp lf) := fun bs F2 P => kH_at hf h9 h0 rfl rfl
  have f1 : ∀ bs F2 P, (kH h bs fl F2 P)[wt]? = some (lkC L isl wo fl) := fun bs F2 P => kH_at hf h9 hl1 rfl rfl
  have fb : ∀ bs F2 P, (kH h bs fl F2 P)[bp b]? = some (bCL L b) := fun bs F2 P => kH_at hf h9 hbb rfl rfl
  intro r
  induction r with
  | zero =>
    intro v hv hlo m P bs F2 hB hF2
    obtain rfl : v = 4 := by omega
    have eF : va_up F2 (nI b).toNatClampNeg (some (bp b)) = F := by
      rw [nI_clamp (by omega)]
      funext j
      by_cases z : j = b
      · subst z; rw [va_up_self]; exact (hl4 j hb).1.symm
      · rw [va_up_ne _ _ z]; exact hF2 j z
    refine T_iload dX11_speeds_38 rfl ?_
    refine T_iconst (v := nI 3) dX11_speeds_40 (by decide) ?_
    refine T_icmp_gtN (tgt := 88) dX11_speeds_41 (by decide) (by omega) (by omega) (fun c41 => ?_) (fun c41 => ?_)
    · refine T_aload_n dX11_speeds_88 rfl ?_
      refine T_get dX11_speeds_89 fl_X11_65_11 (f0 _ _ _) rfl ?_
      refine T_get dX11_speeds_92 fl_X11_138_1 (f1 _ _ _) rfl ?_
      refine T_iload_n dX11_speeds_95 rfl ?_
      refine T_aload dX11_speeds_96 rfl ?_
      refine T_aast_b (v := L_kd L b) hq.2.1 dX11_speeds_98 (kH_fl hf h9) (fb _ _ _) (nI_in3 h3 hb) ?_
      refine T_h (kH_sf hf h9) ?_
      refine T_iload dX11_speeds_99 rfl ?_
      refine T_iret dX11_speeds_101 rfl (nb rfl) (nb rfl) ?_
      rw [eF]
      have e : kH h bs fl F P = (h ++ bs).set 9 (r3 P) := by unfold kH; rw [← gs_id (ap_l hf)]
      rw [e]
      exact hQ m P bs hB
    · exact absurd c41 (by omega)
  | succ r ih =>
    intro v hv hlo m P bs F2 hB hF2
    have hcu1 : (v - 1 + 1) ≤ M_X11_speeds.2.2.2.2.cells := by show (v - 1 + 1) ≤ 3; omega
    have hsu1 : (3 * (v - 1) + 3) ≤ M_X11_speeds.2.2.2.2.slots := by show (3 * (v - 1) + 3) ≤ 9; omega
    have hL2 : LOk (setFs L b v) := LOk_Fs hL (by omega) (by omega)
    generalize hc : (Sum.inr (bC (L_kd L b), [.int (nI b), .int (nI (L_fr L b)), .int (nI (v))]) : XC) = cc
    have hp : (kH h (bs ++ [cc]) fl F2 P)[(h ++ bs).length]? = some cc := by have := kH_new (bs := bs) (F := F2) (P := P) (c := cc) hf h9; rw [kH_len] at this; exact this
    have hp2 : ∀ F3, (kH h (bs ++ [cc]) fl F3 P)[(h ++ bs).length]? = some cc := fun F3 => by have := kH_new (bs := bs) (F := F3) (P := P) (c := cc) hf h9; rw [kH_len] at this; exact this
    have hlk : LkH (kH h (bs ++ [cc]) fl (va_up F2 b (some (h ++ bs).length)) P) wt isl wo fl (uw bp b (h ++ bs).length) (setFs L b v) := by
      refine ⟨f1 _ _ _, hl2, _, kH_fl hf h9, fun i hi => ?_⟩
      by_cases z : i = b
      · subst z
        rw [va_up_self]
        refine ⟨by unfold uw; rw [if_pos rfl], ?_⟩
        rw [show uw bp i (h ++ bs).length i = (h ++ bs).length from if_pos rfl, hp2, ← hc]
        unfold bCL bO
        show _ = some (Sum.inr (bC (L_kd L i), [Value.int (nI i), Value.int (nI (L_fr L i)), Value.int (nI (uw L.2.2.2.1 i v i))]))
        rw [show uw L.2.2.2.1 i v i = v from if_pos rfl]
      · rw [va_up_ne _ _ z, hF2 i z]
        refine ⟨by unfold uw; rw [if_neg z]; exact (hl4 i hi).1, ?_⟩
        rw [show uw bp b (h ++ bs).length i = bp i from if_neg z, kH_at hf h9 (hl4 i hi).2 rfl rfl]
        unfold bCL bO
        show _ = some (Sum.inr (bC (L_kd L i), [Value.int (nI i), Value.int (nI (L_fr L i)), Value.int (nI (uw L.2.2.2.1 b v i))]))
        rw [show uw L.2.2.2.1 b v i = L_fs L i from if_neg z]
    have hwn : WnH (kH h (bs ++ [cc]) fl (va_up F2 b (some (h ++ bs).length)) P) wo (setFs L b v) wn := by
      obtain ⟨W, w1, w2⟩ := hW
      exact ⟨W, kH_at hf h9 w1 rfl rfl, w2⟩
    have hRk : RdH (kH h (bs ++ [cc]) fl (va_up F2 b (some (h ++ bs).length)) P) nr rb rh rc := by
      obtain ⟨d1, fb, fg, fc, d2, d3, d4, d5⟩ := hR
      exact ⟨kH_at hf h9 d1 rfl rfl, fb, fg, fc, kH_at hf h9 d2 rfl rfl, kH_at hf h9 d3 rfl rfl, kH_at hf h9 d4 rfl rfl, d5⟩
    refine T_iload dX11_speeds_38 rfl ?_
    refine T_iconst (v := nI 3) dX11_speeds_40 (by decide) ?_
    refine T_icmp_gtN (tgt := 88) dX11_speeds_41 (by decide) (by omega) (by omega) (fun c41 => ?_) (fun c41 => ?_)
    · exact absurd c41 (by omega)
    · refine T_aload_n dX11_speeds_44 rfl ?_
      refine T_get dX11_speeds_45 fl_X11_65_11 (f0 _ _ _) rfl ?_
      refine T_get dX11_speeds_48 fl_X11_138_1 (f1 _ _ _) rfl ?_
      refine T_iload_n dX11_speeds_51 rfl ?_
      refine T_aload dX11_speeds_52 rfl ?_
      refine T_kind_sp hq.2.1 (fb _ _ _) (nb rfl) (by omega) (by omega) ?_
      refine T_iload_n dX11_speeds_57 rfl ?_
      refine T_aload dX11_speeds_58 rfl ?_
      refine T_get dX11_speeds_60 (flX_148 hq.2.1) (fb _ _ _) rfl ?_
      refine T_iload dX11_speeds_63 rfl ?_
      refine T_s4e (cu2 := v - 1 + 1) (su2 := 3 * (v - 1) + 3) dX11_speeds_65 ls_X11_241 rfl (c_X11_newBoat (k := L_kd L b) hq.2.1 _ _ _) (nb rfl) (Nat.le_refl _) (Nat.le_refl _) hcu1 hsu1 ?_
      rw [hc]
      refine T_h (kH_push hf h9) ?_
      rw [kH_len]
      refine T_aast_b (v := L_kd L b) hq.2.1 dX11_speeds_68 (kH_fl hf h9) (by rw [hp, ← hc]) (nI_in3 h3 hb) ?_
      refine T_h (kH_sf hf h9) ?_
      rw [nI_clamp (show b < 2 ^ 31 by omega)]
      refine T_iload dX11_speeds_69 rfl ?_
      refine T_aload_n dX11_speeds_71 rfl ?_
      refine T_iload dX11_speeds_72 rfl ?_
      refine T_iload dX11_speeds_74 rfl ?_
      refine T_v2q (cu2 := (v - 1 + 1)) (su2 := (3 * (v - 1) + 3)) dX11_speeds_76 lv_X11_234 rfl (f0 _ _ _) rfl (c_X11_bitIfAsRead hL2 (f0 _ _ _) hlk hwn hRk hR2 (kH_at hf h9 h8 rfl rfl) (kH_P hf h9) (kH_at hf h9 ho rfl rfl) hnn hst v) (nb rfl) (Nat.le_refl _) (Nat.le_refl _) hcu1 hsu1 (fun r76 h76 q76 => ?_)
      obtain ⟨⟨x, rfl, hx⟩, P2, rfl⟩ := q76
      refine T_h kH_s9 ?_
      obtain ⟨m2, em, hB2⟩ := bit_or (p := (fun v => SoN (setFs L b v) wn st nn nr rb rh rc)) hB hlo (by omega) hx
      refine T_ior dX11_speeds_79 ?_
      refine T_top em ?_
      refine T_istore dX11_speeds_80 (by decide) rfl ?_
      refine T_iincN dX11_speeds_82 rfl (by decide) rfl ?_
      refine T_goto (tgt := 38) dX11_speeds_85 (by decide) ?_
      have K := ih (v + 1) (by omega) (by omega) m2 P2 (bs ++ [cc]) (va_up F2 b (some (h ++ bs).length)) hB2 (fun j hj => by rw [va_up_ne _ _ hj]; exact hF2 j hj)
      rw [show v + 1 - 1 = v - 1 + 1 by omega, show 3 * (v - 1 + 1) = 3 * (v - 1) + 3 by omega] at K
      exact K
theorem s_speeds (p0 : SimP h u wy nw wt sp isl bp L wn nr rb rh rc ln sz g) (b sh sort i n : Int32) : Con M_X11_speeds [.ref 0, .int b, .int sh, .int sort, .int i, .int n] h (SQ h (fun q2 u2 => ∃ v, q2 = some (.int v) ∧ ByA L (m0 u 0) (fun st nn v => SoN (setFs L b.toNatClampNeg v) wn st nn nr rb rh rc) 1 4 (if 0 ≤ b ∧ b < nI (L_n L) then 0 else -1) sh sort i n v u2)) := by
  have p := p0.flt 0
  have hL := p.1.2.1.1
  have h3 := hL.2.2.1
  have h10 := hL.2.1
  have hU := p.2.2.2.2
  have hRd := p.2.2.2.1
  have hw := p.1.1.2.1
  have hS := p.1.2.2.2.2.2.2.2.2.2.2
  obtain ⟨O, o0⟩ := p0.1.2.2.2.2.2.2.2.1
  have l0 := p0.1.2.1.2.1.1
  have ag0 : ∀ x, Ag (fun k => k < 67) h (h.set 0 (cwO wy nw wt sp x)) := fun x => Ag.rf.set (by decide)
  have same1 : ∀ x0 : Int32, ¬ x0 = 0 → (∀ x u3, LaA L (m0 u 0) (if 0 ≤ b ∧ b < nI (L_n L) then 0 else -1) sh sort i n x u3 → x = x0 ∧ u3 = m0 u 0) → SQ h (fun q2 u2 => ∃ v, q2 = some (.int v) ∧ ByA L (m0 u 0) (fun st nn v => SoN (setFs L b.toNatClampNeg v) wn st nn nr rb rh rc) 1 4 (if 0 ≤ b ∧ b < nI (L_n L) then 0 else -1) sh sort i n v u2) (some (.int x0)) (h.set 0 (cwO wy nw wt sp 0)) := by
    intro x0 hx0 e
    refine ⟨ag0 0, ?_⟩
    rintro q2 u2 ⟨v, rfl, x, u3, a1, a2⟩
    obtain ⟨rfl, rfl⟩ := e x u3 a1
    rcases a2 with ⟨-, rfl, rfl⟩ | ⟨a3, -⟩
    · exact ⟨rfl, p.sim⟩
    · exact absurd a3 hx0
  refine Con.of rfl (nb rfl) ?_
  by_cases qb : 0 ≤ b ∧ b < nI (L_n L)
  · by_cases q : 0 ≤ sh ∧ sh ≤ 3
    · by_cases y : (0 ≤ sort ∧ sort ≤ 2) ∧ 0 ≤ n ∧ n ≤ 10
      · obtain ⟨kk, hk, rfl⟩ := shN q
        obtain ⟨nn, hn, rfl⟩ := setN (a := 10) (by decide) y.2
        obtain ⟨bb, hb, rfl⟩ := bt_N h3 qb
        have ek : (nI kk).toNatClampNeg = kk := nI_clamp (by omega)
        have en : (nI nn).toNatClampNeg = nn := nI_clamp (by omega)
        have eb : (nI bb).toNatClampNeg = bb := nI_clamp (by omega)
        obtain ⟨-, ⟨ll, l1, -, l3⟩, -⟩ := hU kk hk
        have ePl : ∀ v u2, ByA L (m0 u 0) (fun st nn v => SoN (setFs L (nI bb).toNatClampNeg v) wn st nn nr rb rh rc) 1 4 (if 0 ≤ nI bb ∧ nI bb < nI (L_n L) then 0 else -1) (nI kk) sort i (nI nn) v u2 → ∃ x u3, LyQ L (m0 u 0) kk sort i nn x u3 ∧ ((¬ x = 0 ∧ v = x ∧ u2 = u3) ∨ (x = 0 ∧ SameE u3 u2 ∧ ∃ m, v = nI m ∧ Bts (fun v => SoN (setFs L bb v) wn (stU (m0 u 0) kk i.toNatClampNeg) nn nr rb rh rc) 1 4 m)) := by
          rintro v u2 ⟨x, u3, a1, a2⟩
          unfold LaA at a1
          rw [if_pos (if_pos qb), if_pos q, if_pos y, ek, en] at a1
          rw [ek, en, eb] at a2
          exact ⟨x, u3, a1, a2⟩
        refine T_aload_n dX11_speeds_0 rfl ?_
        refine T_iload_n dX11_speeds_1 rfl ?_
        refine T_iload_n dX11_speeds_2 rfl ?_
        refine T_iload_n dX11_speeds_3 rfl ?_
        refine T_iload dX11_speeds_4 rfl ?_
        refine T_iload dX11_speeds_6 rfl ?_
        refine T_v5q (cu2 := 0) (su2 := 0) dX11_speeds_8 lv_X11_237 rfl p0.1.1.1 rfl (rbp_c hL p0.1.1.1 l0 o0 hS hk l3 l1 hn qb (rr_0 q y)) (nb rfl) (nb rfl) (nb rfl) (nb rfl) (nb rfl) (fun r8 h8 q8 => ?_)
        obtain ⟨v, lf2, O2, rfl, rfl, hT⟩ := q8
        have pt := p.tk lf2 O2
        refine T_istore dX11_speeds_11 (by decide) rfl ?_
        refine T_iload dX11_speeds_13 rfl ?_
        refine T_if_eq (tgt := 21) dX11_speeds_15 (by decide) (fun c15 => ?_) (fun c15 => ?_)
        · subst c15
          obtain ⟨t1, t2, t3, t4⟩ := Tk_0 (u := m0 u 0) hL hU hk hn hT
          obtain ⟨a0, b0, c0, P0, v1, v2⟩ := pt.1.2.2.2.2.1
          obtain ⟨g1, g2, F, g3, g4⟩ := pt.1.2.1.2.1
          have o2 : (aH (h.set 0 (cwO wy nw wt sp 0)) wy nw wt sp lf2 O2)[44]? = some (r10 O2) := gs_eq ((gs_ne (by decide)).trans ((gs_ne (by decide)).trans o0))
          refine T_aload_n dX11_speeds_21 rfl ?_
          refine T_get dX11_speeds_22 fl_X11_65_11 pt.1.1.1 rfl ?_
          refine T_get dX11_speeds_25 fl_X11_138_1 g1 rfl ?_
          refine T_iload_n dX11_speeds_28 rfl ?_
          refine T_aald4 dX11_speeds_29 g3 (nI_in3 h3 hb) (by rw [eb]; exact (g4 bb hb).1) ?_
          refine T_astore dX11_speeds_30 (by decide) rfl ?_
          refine T_iconst (v := nI 0) dX11_speeds_32 (by decide) ?_
          refine T_istore dX11_speeds_33 (by decide) rfl ?_
          refine T_iconst (v := nI 1) dX11_speeds_35 (by decide) ?_
          refine T_istore dX11_speeds_36 (by decide) rfl ?_
          have e0 : aH (h.set 0 (cwO wy nw wt sp 0)) wy nw wt sp lf2 O2 = kH (aH (h.set 0 (cwO wy nw wt sp 0)) wy nw wt sp lf2 O2) [] (wt + 2) F P0 := by
            unfold kH
            rw [List.append_nil, ← gs_id g3]
            exact gs_id v2
          refine T_h e0 (lp_X11_speeds (wn := wn) (x2 := nI kk) hL pt.1.1.1 g1 g2 g3 g4 pt.1.2.1.2.2.1 pt.1.2.2.2.1 ⟨hRd.2.1, fun r hr => ⟨(hRd.2.2 r hr).2.1, (hRd.2.2 r hr).2.2.2.1, (hRd.2.2 r hr).2.2.2.2.2⟩⟩ v1 v2 o2 t3 t4 hb (fun m P bs hB => ?_) 3 1 (by omega) (by omega) 0 P0 [] F ⟨by decide, by decide, fun j hj => ⟨fun q => absurd q (by simp), fun q => absurd q.2.1 (by have := q.1; omega)⟩⟩ (fun j _ => rfl))
          have hgv : Ag (fun k => k = 8 ∨ k = 9 ∨ k = 44) (aH (h.set 0 (cwO wy nw wt sp 0)) wy nw wt sp lf2 O2) ((aH (h.set 0 (cwO wy nw wt sp 0)) wy nw wt sp lf2 O2 ++ bs).set 9 (r3 P)) := Ag.rf.push.set (Or.inr (Or.inl rfl))
          have pv := pt.scr hgv ⟨a0, b0, c0, P, (gs_ne (by decide)).trans (ap_l v1), gs_eq (ap_l v2)⟩ ⟨O2, (gs_ne (by decide)).trans (ap_l o2)⟩
          refine ⟨(((ag0 0).set (by decide)).set (by decide)).push.set (by decide), ?_⟩
          rintro q2 u2 ⟨v9, rfl, hv⟩
          obtain ⟨x, u3, a1, a2⟩ := ePl v9 u2 hv
          obtain ⟨rfl, b2⟩ := Tk_Ly (u := m0 u 0) hU hk hn hT a1
          rcases a2 with ⟨a3, -⟩ | ⟨-, a4, m2, rfl, a6⟩
          · exact absurd rfl a3
          · exact ⟨by rw [Bts_un (fun _ _ => Iff.rfl) a6 hB], ((pv.same b2).same a4).sim⟩
        · refine T_iload dX11_speeds_18 rfl ?_
          refine T_iret dX11_speeds_20 rfl (nb rfl) (nb rfl) ?_
          refine ⟨((ag0 0).set (by decide)).set (by decide), ?_⟩
          rintro q2 u2 ⟨v2, rfl, hv⟩
          obtain ⟨x, u3, a1, a2⟩ := ePl v2 u2 hv
          obtain ⟨rfl, b2⟩ := Tk_Ly (u := m0 u 0) hU hk hn hT a1
          rcases a2 with ⟨-, rfl, rfl⟩ | ⟨a3, -⟩
          · exact ⟨rfl, (pt.same b2).sim⟩
          · exact absurd a3 c15
      · have er : rrC sh sort n = -2 := by unfold rrC; rw [if_pos q, if_neg y]
        refine T_aload_n dX11_speeds_0 rfl ?_
        refine T_iload_n dX11_speeds_1 rfl ?_
        refine T_iload_n dX11_speeds_2 rfl ?_
        refine T_iload_n dX11_speeds_3 rfl ?_
        refine T_iload dX11_speeds_4 rfl ?_
        refine T_iload dX11_speeds_6 rfl ?_
        refine T_v5e (cu2 := 0) (su2 := 0) dX11_speeds_8 lv_X11_237 rfl p0.1.1.1 rfl (rbp_b p0.1.1.1 l0 qb (by rw [er]; decide)) (nb rfl) (nb rfl) (nb rfl) (nb rfl) (nb rfl) ?_
        refine T_top er ?_
        refine T_istore dX11_speeds_11 (by decide) rfl ?_
        refine T_iload dX11_speeds_13 rfl ?_
        refine T_if_eq (tgt := 21) dX11_speeds_15 (by decide) (fun c15 => ?_) (fun c15 => ?_)
        · exact absurd c15 (by decide)
        · refine T_iload dX11_speeds_18 rfl ?_
          refine T_iret dX11_speeds_20 rfl (nb rfl) (nb rfl) ?_
          exact same1 _ (by decide) (fun x u3 a1 => by unfold LaA at a1; rw [if_pos (if_pos qb), if_pos q, if_neg y] at a1; exact a1)
    · have er : rrC sh sort n = -1 := by unfold rrC; rw [if_neg q]
      refine T_aload_n dX11_speeds_0 rfl ?_
      refine T_iload_n dX11_speeds_1 rfl ?_
      refine T_iload_n dX11_speeds_2 rfl ?_
      refine T_iload_n dX11_speeds_3 rfl ?_
      refine T_iload dX11_speeds_4 rfl ?_
      refine T_iload dX11_speeds_6 rfl ?_
      refine T_v5e (cu2 := 0) (su2 := 0) dX11_speeds_8 lv_X11_237 rfl p0.1.1.1 rfl (rbp_b p0.1.1.1 l0 qb (by rw [er]; decide)) (nb rfl) (nb rfl) (nb rfl) (nb rfl) (nb rfl) ?_
      refine T_top er ?_
      refine T_istore dX11_speeds_11 (by decide) rfl ?_
      refine T_iload dX11_speeds_13 rfl ?_
      refine T_if_eq (tgt := 21) dX11_speeds_15 (by decide) (fun c15 => ?_) (fun c15 => ?_)
      · exact absurd c15 (by decide)
      · refine T_iload dX11_speeds_18 rfl ?_
        refine T_iret dX11_speeds_20 rfl (nb rfl) (nb rfl) ?_
        exact same1 _ (by decide) (fun x u3 a1 => by unfold LaA at a1; rw [if_pos (if_pos qb), if_neg q] at a1; exact a1)
  · refine T_aload_n dX11_speeds_0 rfl ?_
    refine T_iload_n dX11_speeds_1 rfl ?_
    refine T_iload_n dX11_speeds_2 rfl ?_
    refine T_iload_n dX11_speeds_3 rfl ?_
    refine T_iload dX11_speeds_4 rfl ?_
    refine T_iload dX11_speeds_6 rfl ?_
    refine T_v5e (cu2 := 0) (su2 := 0) dX11_speeds_8 lv_X11_237 rfl p0.1.1.1 rfl (rbp_a p0.1.1.1 l0 qb) (nb rfl) (nb rfl) (nb rfl) (nb rfl) (nb rfl) ?_
    refine T_istore dX11_speeds_11 (by decide) rfl ?_
    refine T_iload dX11_speeds_13 rfl ?_
    refine T_if_eq (tgt := 21) dX11_speeds_15 (by decide) (fun c15 => ?_) (fun c15 => ?_)
    · exact absurd c15 (by decide)
    · refine T_iload dX11_speeds_18 rfl ?_
      refine T_iret dX11_speeds_20 rfl (nb rfl) (nb rfl) ?_
      exact same1 _ (by decide) (fun x u3 a1 => by rw [if_neg qb] at a1; unfold LaA at a1; rw [if_neg (by decide)] at a1; exact a1)
end C77
