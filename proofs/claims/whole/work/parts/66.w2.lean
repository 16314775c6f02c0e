/-! LakeWind: takeOrders; the voyage's answer -/
section C66
variable {h : XH} {Z : XZ} {L : LK} {wn : Nat → Nat} {wy nw wt sp isl wo fl : Nat} {bp : Nat → Nat} {lf : Int32} {ln sz : Nat → Int32} {g : Nat → Nat → Int32} {O : Nat → Int32}
def toF (lane size sort i n : Int32) : Int32 := if shF lane sort = 0 then (if shH size i n then 0 else 3) else shF lane sort
def TkR (L : LK) (lane size : Int32) (g : Nat → Int32) (sort i : Int32) (nn : Nat) (v lf lf2 : Int32) (O2 : Nat → Int32) : Prop :=
  if toF lane size sort i (nI nn) = 0 then (lf2 = lf ∧ (if L_n L = 0 then v = -3 else if L_h L < nn then v = -2 else ((v = 0 ∧ (∀ k, k < nn → inAll L g i.toNatClampNeg k) ∧ ∀ k, k < nn → O2 k = g (i.toNatClampNeg + k)) ∨ (v = -2 ∧ ∃ k, k < nn ∧ ¬ inAll L g i.toNatClampNeg k)))) else (v = -10 - toF lane size sort i (nI nn) ∧ lf2 = toF lane size sort i (nI nn))
theorem shH_N {i : Int32} {ll nn : Nat} (hl : ll ≤ 60) (h : shH (nI ll) i (nI nn)) (hn : nn < 2 ^ 31) : ∃ ii, i = nI ii ∧ ii + nn ≤ ll := by
  obtain ⟨-, h1, h2, h3⟩ := h
  obtain ⟨ii, hi, rfl⟩ := nI_of (Int32.not_lt.mpr h1)
  rw [nI_leI hi (by omega)] at h2
  rw [pk_sub h2, nI_leI hn (by omega)] at h3
  exact ⟨ii, rfl, by omega⟩
abbrev aH (h : XH) (wy nw wt sp : Nat) (lf : Int32) (O : Nat → Int32) : XH := (h.set 0 (cwO wy nw wt sp lf)).set 44 (r10 O)
abbrev TkQ (h : XH) (L : LK) (wy nw wt sp : Nat) (lane size : Int32) (g : Nat → Int32) (sort i : Int32) (nn : Nat) (lf : Int32) : Option Value → XH → Prop := fun q h' => ∃ v lf2 O2, q = some (.int v) ∧ h' = aH h wy nw wt sp lf2 O2 ∧ TkR L lane size g sort i nn v lf lf2 O2
theorem lp_X11_takeOrders_78 (hL : LOk L) (h0 : h[0]? = some (cwO wy nw wt sp lf)) (hl : h[wt]? = some (lkC L isl wo fl)) (ho : h[44]? = some (r10 O)) {kk ii nn : Nat} {sort : Int32} {g : Nat → Int32} {lane size : Int32} (hs : h[59 + 2 * kk]? = some (shO lane size (60 + 2 * kk))) (hg : h[60 + 2 * kk]? = some (r60 g)) (hi : ii + nn ≤ 60) (hnn : nn ≤ L_h L)
    {Qa : Option Value → XH → Prop} (hQ0 : ∀ O2, (∀ k, k < nn → inAll L g ii k) → (∀ k, k < nn → O2 k = g (ii + k)) → Qa (some (.int 0)) (aH h wy nw wt sp lf O2)) (hQ1 : ∀ O2 k, k < nn → ¬ inAll L g ii k → Qa (some (.int (-2))) (aH h wy nw wt sp lf O2)) :
    ∀ r k, k + r = nn → (∀ j, j < k → inAll L g ii j) → ∀ O2, (∀ j, j < k → O2 j = g (ii + j)) → T M_X11_takeOrders x_E (x_Z M_X11_takeOrders Qa) 0 0 78 [(0, .ref 0), (1, .int (nI kk)), (2, .int sort), (3, .int (nI ii)), (4, .int (nI nn)), (5, .ref (59 + 2 * kk)), (6, .int 0), (7, .int (nI k))] [] (h.set 44 (r10 O2)) := by
  have h10 := hL.2.1
  have h3 := hL.2.2.1
  have ea : ∀ O2, h.set 44 (r10 O2) = aH h wy nw wt sp lf O2 := fun O2 => by unfold aH; rw [← gs_id h0]
  intro r
  induction r with
  | zero =>
    intro k hk hin O2 hO
    obtain rfl : k = nn := by omega
    refine T_iload dX11_takeOrders_78 rfl ?_
    refine T_iload dX11_takeOrders_80 rfl ?_
    refine T_icmp_geN (tgt := 128) dX11_takeOrders_82 (by decide) (by omega) (by omega) (fun c82 => ?_) (fun c82 => ?_)
    · refine T_iconst (v := 0) dX11_takeOrders_128 (by decide) ?_
      refine T_iret dX11_takeOrders_129 rfl (nb rfl) (nb rfl) ?_
      rw [ea]; exact hQ0 O2 hin hO
    · exact absurd c82 (by omega)
  | succ r ih =>
    intro k hk hin O2 hO
    have b0 : (h.set 44 (r10 O2))[0]? = some (cwO wy nw wt sp lf) := gs_tg ho h0 rfl
    have bl : (h.set 44 (r10 O2))[wt]? = some (lkC L isl wo fl) := gs_tg ho hl rfl
    have bs : (h.set 44 (r10 O2))[59 + 2 * kk]? = some (shO lane size (60 + 2 * kk)) := gs_tg ho hs rfl
    have bg : (h.set 44 (r10 O2))[60 + 2 * kk]? = some (r60 g) := gs_tg ho hg rfl
    have eset : ConE M_X11_isSet [.ref 0, .int (g (ii + k))] (h.set 44 (r10 O2)) (some (.int (bI (inAll L g ii k)))) (h.set 44 (r10 O2)) := c_X11_isSet b0 bl h3 _
    refine T_iload dX11_takeOrders_78 rfl ?_
    refine T_iload dX11_takeOrders_80 rfl ?_
    refine T_icmp_geN (tgt := 128) dX11_takeOrders_82 (by decide) (by omega) (by omega) (fun c82 => ?_) (fun c82 => ?_)
    · exact absurd c82 (by omega)
    · refine T_aload_n dX11_takeOrders_85 rfl ?_
      refine T_aload dX11_takeOrders_86 rfl ?_
      refine T_get dX11_takeOrders_88 fl_X11_92_5 bs rfl ?_
      refine T_iload_n dX11_takeOrders_91 rfl ?_
      refine T_iload dX11_takeOrders_92 rfl ?_
      refine T_iaddN dX11_takeOrders_94 ?_
      refine T_ialdN dX11_takeOrders_95 bg (by omega) (by decide) ?_
      refine T_v1e (cu2 := 0) (su2 := 0) dX11_takeOrders_96 lv_X11_211 rfl b0 rfl eset (nb rfl) (nb rfl) (nb rfl) (nb rfl) (nb rfl) ?_
      refine T_if_neB (tgt := 105) dX11_takeOrders_99 (by decide) (fun c99 => ?_) (fun c99 => ?_)
      · refine T_aload_n dX11_takeOrders_105 rfl ?_
        refine T_get dX11_takeOrders_106 fl_X11_52_11 b0 rfl ?_
        refine T_iload dX11_takeOrders_109 rfl ?_
        refine T_aload dX11_takeOrders_111 rfl ?_
        refine T_get dX11_takeOrders_113 fl_X11_92_5 bs rfl ?_
        refine T_iload_n dX11_takeOrders_116 rfl ?_
        refine T_iload dX11_takeOrders_117 rfl ?_
        refine T_iaddN dX11_takeOrders_119 ?_
        refine T_ialdN dX11_takeOrders_120 bg (by omega) (by decide) ?_
        refine T_iastN dX11_takeOrders_121 (gs_eq ho) (by omega) (by decide) ?_
        refine T_h (List.set_set ..) ?_
        refine T_iincN dX11_takeOrders_122 rfl (by decide) rfl ?_
        refine T_goto (tgt := 78) dX11_takeOrders_125 (by decide) ?_
        refine ih (k + 1) (by omega) (fun j hj => ?_) _ (fun j hj => ?_)
        · by_cases z : j = k
          · subst z; exact c99
          · exact hin j (by omega)
        · by_cases z : j = k
          · subst z; exact upd_s
          · rw [upd_n z]; exact hO j (by omega)
      · refine T_bipush (v := (-2)) dX11_takeOrders_102 (by decide) ?_
        refine T_iret dX11_takeOrders_104 rfl (nb rfl) (nb rfl) ?_
        rw [ea]; exact hQ1 O2 k (by omega) c99
theorem c_X11_takeOrders (hL : LOk L) (h0 : h[0]? = some (cwO wy nw wt sp lf)) (hl : h[wt]? = some (lkC L isl wo fl)) (ho : h[44]? = some (r10 O)) (hS : ShH h ln sz g) {kk nn ll : Nat} (hk : kk < 4) (hz : sz kk = nI ll) (hll : ll ≤ 60) (hnn : nn ≤ 10) (sort i : Int32) : Con M_X11_takeOrders [.ref 0, .int (nI kk), .int sort, .int i, .int (nI nn)] h (TkQ h L wy nw wt sp (ln kk) (sz kk) (g kk) sort i nn lf) := by
  have h10 := hL.2.1
  have h3 := hL.2.2.1
  obtain ⟨sf, s1, s2⟩ := hS
  obtain ⟨s3, s4, s5⟩ := s2 kk hk
  have ea : ∀ lf2, h.set 0 (cwO wy nw wt sp lf2) = aH h wy nw wt sp lf2 O := fun lf2 => gs_id (gs_tg h0 ho rfl)
  have ea0 : h = aH h wy nw wt sp lf O := (gs_id h0).trans (ea lf)
  have K35 : ∀ x : Int32, x = toF (ln kk) (sz kk) sort i (nI nn) → T M_X11_takeOrders x_E (x_Z M_X11_takeOrders (TkQ h L wy nw wt sp (ln kk) (sz kk) (g kk) sort i nn lf)) 0 0 35 [(0, .ref 0), (1, .int (nI kk)), (2, .int sort), (3, .int i), (4, .int (nI nn)), (5, .ref (59 + 2 * kk)), (6, .int x)] [] h := by
    intro x ex
    by_cases hx : x = 0
    · have hx2 : toF (ln kk) (sz kk) sort i (nI nn) = 0 := by rw [← ex]; exact hx
      subst hx
      have hh : shH (sz kk) i (nI nn) := by
        unfold toF at hx2
        by_cases q : shF (ln kk) sort = 0
        · rw [if_pos q] at hx2
          by_cases z : shH (sz kk) i (nI nn)
          · exact z
          · rw [if_neg z] at hx2; exact absurd hx2 (by decide)
        · rw [if_neg q] at hx2; exact absurd hx2 q
      rw [hz] at hh
      obtain ⟨ii, rfl, hii⟩ := shH_N hll hh (by omega)
      have eii : (nI ii).toNatClampNeg = ii := nI_clamp (by omega)
      refine T_iload dX11_takeOrders_35 rfl ?_
      refine T_if_eq (tgt := 47) dX11_takeOrders_37 (by decide) (fun c37 => ?_) (fun c37 => ?_)
      · refine T_aload_n dX11_takeOrders_47 rfl ?_
        refine T_get dX11_takeOrders_48 fl_X11_65_11 h0 rfl ?_
        refine T_v0e (cu2 := 0) (su2 := 0) dX11_takeOrders_51 lv_X11_157 rfl hl rfl (c_X1_isThere hl h3) (nb rfl) (nb rfl) (nb rfl) (nb rfl) (nb rfl) ?_
        refine T_if_neB (tgt := 60) dX11_takeOrders_54 (by decide) (fun c54 => ?_) (fun c54 => ?_)
        · refine T_iload dX11_takeOrders_60 rfl ?_
          refine T_aload_n dX11_takeOrders_62 rfl ?_
          refine T_get dX11_takeOrders_63 fl_X11_65_11 h0 rfl ?_
          refine T_get dX11_takeOrders_66 fl_X11_208_1 hl rfl ?_
          refine T_icmp_leN (tgt := 75) dX11_takeOrders_69 (by decide) (by omega) (by omega) (fun c69 => ?_) (fun c69 => ?_)
          · refine T_iconst (v := nI 0) dX11_takeOrders_75 (by decide) ?_
            refine T_istore dX11_takeOrders_76 (by decide) rfl ?_
            refine T_h (gs_id ho) (lp_X11_takeOrders_78 hL h0 hl ho s4 s5 (by omega) (by omega) (fun O2 q1 q2 => ?_) (fun O2 k q1 q2 => ?_) nn 0 (by omega) (fun j hj => absurd hj (by omega)) O (fun j hj => absurd hj (by omega)))
            · exact ⟨_, lf, O2, rfl, rfl, by unfold TkR; rw [if_pos hx2, if_neg (by omega), if_neg (by omega), eii]; exact ⟨rfl, Or.inl ⟨rfl, q1, q2⟩⟩⟩
            · exact ⟨_, lf, O2, rfl, rfl, by unfold TkR; rw [if_pos hx2, if_neg (by omega), if_neg (by omega), eii]; exact ⟨rfl, Or.inr ⟨rfl, k, q1, q2⟩⟩⟩
          · refine T_bipush (v := (-2)) dX11_takeOrders_72 (by decide) ?_
            refine T_iret dX11_takeOrders_74 rfl (nb rfl) (nb rfl) ?_
            exact ⟨_, lf, O, rfl, ea0, by unfold TkR; rw [if_pos hx2, if_neg (by omega), if_pos (by omega)]; exact ⟨rfl, rfl⟩⟩
        · refine T_bipush (v := (-3)) dX11_takeOrders_57 (by decide) ?_
          refine T_iret dX11_takeOrders_59 rfl (nb rfl) (nb rfl) ?_
          exact ⟨_, lf, O, rfl, ea0, by unfold TkR; rw [if_pos hx2, if_pos (by omega)]; exact ⟨rfl, rfl⟩⟩
      · exact absurd rfl c37
    · have hx2 : ¬ toF (ln kk) (sz kk) sort i (nI nn) = 0 := by rw [← ex]; exact hx
      refine T_iload dX11_takeOrders_35 rfl ?_
      refine T_if_eq (tgt := 47) dX11_takeOrders_37 (by decide) (fun c37 => ?_) (fun c37 => ?_)
      · exact absurd c37 hx
      · refine T_aload_n dX11_takeOrders_40 rfl ?_
        refine T_iload dX11_takeOrders_41 rfl ?_
        refine T_v1e (cu2 := 0) (su2 := 0) dX11_takeOrders_43 lv_X11_88 rfl h0 rfl (c_X11_faulted h0 _) (nb rfl) (nb rfl) (nb rfl) (nb rfl) (nb rfl) ?_
        refine T_iret dX11_takeOrders_46 rfl (nb rfl) (nb rfl) ?_
        exact ⟨_, x, O, rfl, ea x, by unfold TkR; rw [if_neg hx2, ← ex]; exact ⟨rfl, rfl⟩⟩
  refine Con.of rfl (nb rfl) ?_
  refine T_aload_n dX11_takeOrders_0 rfl ?_
  refine T_get dX11_takeOrders_1 fl_X11_13_11 h0 rfl ?_
  refine T_iload_n dX11_takeOrders_4 rfl ?_
  refine T_aald3 dX11_takeOrders_5 s1 (nI_in (by omega) (by decide)) (by rw [nI_clamp (by omega)]; exact s3) ?_
  refine T_astore dX11_takeOrders_6 (by decide) rfl ?_
  refine T_aload dX11_takeOrders_8 rfl ?_
  refine T_iload_n dX11_takeOrders_10 rfl ?_
  refine T_v1e (cu2 := 0) (su2 := 0) dX11_takeOrders_11 lv_X11_121 rfl s4 rfl (c_X5_faultAs s4 _) (nb rfl) (nb rfl) (nb rfl) (nb rfl) (nb rfl) ?_
  refine T_istore dX11_takeOrders_14 (by decide) rfl ?_
  refine T_iload dX11_takeOrders_16 rfl ?_
  refine T_if_ne (tgt := 35) dX11_takeOrders_18 (by decide) (fun c18 => ?_) (fun c18 => ?_)
  · refine K35 _ ?_
    unfold toF
    first
      | exact (if_neg c18).symm
      | (rw [if_pos c18]; exact (if_neg c29).symm)
      | (rw [if_pos c18, if_pos c29]; exact c18)
  · refine T_aload dX11_takeOrders_21 rfl ?_
    refine T_iload_n dX11_takeOrders_23 rfl ?_
    refine T_iload dX11_takeOrders_24 rfl ?_
    refine T_v2e (cu2 := 0) (su2 := 0) dX11_takeOrders_26 lv_X11_124 rfl s4 rfl (c_X5_holds s4 _ _) (nb rfl) (nb rfl) (nb rfl) (nb rfl) (nb rfl) ?_
    refine T_if_neB (tgt := 35) dX11_takeOrders_29 (by decide) (fun c29 => ?_) (fun c29 => ?_)
    · refine K35 _ ?_
      unfold toF
      first
        | exact (if_neg c18).symm
        | (rw [if_pos c18]; exact (if_neg c29).symm)
        | (rw [if_pos c18, if_pos c29]; exact c18)
    · refine T_iconst (v := 3) dX11_takeOrders_32 (by decide) ?_
      refine T_istore dX11_takeOrders_33 (by decide) rfl ?_
      refine K35 _ ?_
      unfold toF
      first
        | exact (if_neg c18).symm
        | (rw [if_pos c18]; exact (if_neg c29).symm)
        | (rw [if_pos c18, if_pos c29]; exact c18)
theorem PnR_vo {st : Nat → Nat} {nn : Nat} (hL : LOk L) (hl : LkH h wt isl wo fl bp L) {P : Nat → Int32} {a b c what : Int32} (h0 : h[0]? = some (cwO wy nw wt sp lf)) (h8 : h[8]? = some (voO 9 a b c)) (h9 : h[9]? = some (r3 P)) (hP : PR L P (posN L wn st nn)) (ha : a = nI (fsum L wn st nn)) (hb : Fst (finP L wn st) nn b) (hc : Fst (ovrP L wn st) nn c) : Con M_X11_answerOfVoyage [.ref 0, .int what] h (fun q h' => (∃ v, q = some (.int v) ∧ PnR L wn st nn what v) ∧ h' = h) := by
  have h3 := hL.2.2.1
  refine Con.of rfl (nb rfl) ?_
  refine T_iload_n dX11_answerOfVoyage_0 rfl ?_
  refine T_tb4 (t0 := 32) (t1 := 44) (t2 := 52) (t3 := 60) (td := 68) dX11_answerOfVoyage_1 (by decide) (by decide) (by decide) (by decide) (by decide) (fun c1 => ?_) (fun c1 => ?_) (fun c1 => ?_) (fun c1 => ?_) (fun c1_0 c1_1 c1_2 c1_3 => ?_)
  · refine T_aload_n dX11_answerOfVoyage_32 rfl ?_
    refine T_get dX11_answerOfVoyage_33 fl_X11_34_11 h0 rfl ?_
    refine T_aload_n dX11_answerOfVoyage_36 rfl ?_
    refine T_get dX11_answerOfVoyage_37 fl_X11_65_11 h0 rfl ?_
    refine T_v1e (cu2 := 0) (su2 := 0) dX11_answerOfVoyage_40 lv_X11_194 rfl h8 rfl (c_X10_overSet hL hl h8 h9 hP) (nb rfl) (nb rfl) (nb rfl) (nb rfl) (nb rfl) ?_
    refine T_iret dX11_answerOfVoyage_43 rfl (nb rfl) (nb rfl) ?_
    exact ⟨⟨_, rfl, by unfold PnR; rw [if_pos c1]⟩, rfl⟩
  · refine T_aload_n dX11_answerOfVoyage_44 rfl ?_
    refine T_get dX11_answerOfVoyage_45 fl_X11_34_11 h0 rfl ?_
    refine T_get dX11_answerOfVoyage_48 fl_X11_198_10 h8 rfl ?_
    refine T_iret dX11_answerOfVoyage_51 rfl (nb rfl) (nb rfl) ?_
    exact ⟨⟨_, rfl, by unfold PnR; rw [if_neg (by rw [c1]; decide), if_pos c1]; exact ha⟩, rfl⟩
  · refine T_aload_n dX11_answerOfVoyage_52 rfl ?_
    refine T_get dX11_answerOfVoyage_53 fl_X11_34_11 h0 rfl ?_
    refine T_get dX11_answerOfVoyage_56 fl_X11_201_10 h8 rfl ?_
    refine T_iret dX11_answerOfVoyage_59 rfl (nb rfl) (nb rfl) ?_
    exact ⟨⟨_, rfl, by unfold PnR; rw [if_neg (by rw [c1]; decide), if_neg (by rw [c1]; decide), if_pos c1]; exact hb⟩, rfl⟩
  · refine T_aload_n dX11_answerOfVoyage_60 rfl ?_
    refine T_get dX11_answerOfVoyage_61 fl_X11_34_11 h0 rfl ?_
    refine T_get dX11_answerOfVoyage_64 fl_X11_204_10 h8 rfl ?_
    refine T_iret dX11_answerOfVoyage_67 rfl (nb rfl) (nb rfl) ?_
    exact ⟨⟨_, rfl, by unfold PnR; rw [if_neg (by rw [c1]; decide), if_neg (by rw [c1]; decide), if_neg (by rw [c1]; decide), if_pos c1]; exact hc⟩, rfl⟩
  · refine T_aload_n dX11_answerOfVoyage_68 rfl ?_
    refine T_iload_n dX11_answerOfVoyage_69 rfl ?_
    refine T_bipush (v := 10) dX11_answerOfVoyage_70 (by decide) ?_
    refine T_isub dX11_answerOfVoyage_72 ?_
    refine T_v1e (cu2 := 0) (su2 := 0) dX11_answerOfVoyage_73 lv_X11_135 rfl h0 rfl (c_X11_isBoat h0 hl.1 _) (nb rfl) (nb rfl) (nb rfl) (nb rfl) (nb rfl) ?_
    refine T_if_eqB (tgt := 94) dX11_answerOfVoyage_76 (by decide) (fun c76 => ?_) (fun c76 => ?_)
    · refine T_bipush (v := (-9)) dX11_answerOfVoyage_94 (by decide) ?_
      refine T_iret dX11_answerOfVoyage_96 rfl (nb rfl) (nb rfl) ?_
      refine ⟨⟨_, rfl, ?_⟩, rfl⟩
      unfold PnR
      rw [if_neg c1_0, if_neg c1_1, if_neg c1_2, if_neg c1_3]
      first
        | (rw [if_neg c76])
        | (rw [if_pos c76]
           have hlt : (what - 10).toNatClampNeg < L_n L := by
             obtain ⟨j, j1, j2⟩ := nI_of (Int32.not_lt.mpr c76.1)
             have := c76.2
             rw [j2, nI_ltI j1 (by omega)] at this
             rw [j2, nI_clamp j1]
             exact this
           exact (hP _ hlt).1)
    · refine T_aload_n dX11_answerOfVoyage_79 rfl ?_
      refine T_get dX11_answerOfVoyage_80 fl_X11_34_11 h0 rfl ?_
      refine T_get dX11_answerOfVoyage_83 fl_X11_207_10 h8 rfl ?_
      refine T_iload_n dX11_answerOfVoyage_86 rfl ?_
      refine T_bipush (v := 10) dX11_answerOfVoyage_87 (by decide) ?_
      refine T_isub dX11_answerOfVoyage_89 ?_
      refine T_iald dX11_answerOfVoyage_90 h9 (pl_in h3 c76) ?_
      refine T_goto (tgt := 96) dX11_answerOfVoyage_91 (by decide) ?_
      refine T_iret dX11_answerOfVoyage_96 rfl (nb rfl) (nb rfl) ?_
      refine ⟨⟨_, rfl, ?_⟩, rfl⟩
      unfold PnR
      rw [if_neg c1_0, if_neg c1_1, if_neg c1_2, if_neg c1_3]
      first
        | (rw [if_neg c76])
        | (rw [if_pos c76]
           have hlt : (what - 10).toNatClampNeg < L_n L := by
             obtain ⟨j, j1, j2⟩ := nI_of (Int32.not_lt.mpr c76.1)
             have := c76.2
             rw [j2, nI_ltI j1 (by omega)] at this
             rw [j2, nI_clamp j1]
             exact this
           exact (hP _ hlt).1)
end C66
