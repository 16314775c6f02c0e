/-! odds: waysWithoutFine; odds beside the reference's -/
section O3
variable {h : XH} {u : MSt} {L : LK} {wn st : Nat → Nat} {wy nw wt sp isl nr nn : Nat} {bp rb rh rc : Nat → Nat} {lf : Int32} {ln sz : Nat → Int32} {g : Nat → Nat → Int32} {F : Nat → Nat → Int32} {P : Nat → Int32} {O : Nat → Int32}
theorem nSt_lt31 (hL : LOk L) : nSt L < 2 ^ 31 := by have := nSt_le hL; omega
abbrev wwL (nn N j : Nat) : List (Nat × Value) := [(0, .ref 0), (1, .int (nI nn)), (2, .int (nI N)), (3, .int (nI j))]
/-- one hour of all ways -/
theorem lp_X11_waysWithoutFine_62 {Z : XZ} (hL : LOk L) (hB : OdB h wt sp isl bp L O) (h2 : is2 wy nw) {j x : Nat} (hj : j < 10) (hO : O j = nI x) (hx : x < 8) {a : Nat → Nat} (ha : rowN2 L (F wy) a) (hal : ∀ s, s < nSt L → a s < 2 ^ 31) (K : ∀ f2 b2 P2, rowN2 L f2 b2 → (∀ φ, wgh L b2 φ = wgh L a (ph2 L x φ)) → T M_X11_waysWithoutFine x_E Z 0 0 96 (wwL nn (nSt L) j) [] (oH h wy nw wt sp lf (va_up F nw f2) P2)) :
    ∀ r i, i + r = nSt L → ∀ f2 b2 P2, rowN2 L f2 b2 → (∀ φ, wgh L b2 φ = sm (fun s => a s * ph2 L x φ s) i) → T M_X11_waysWithoutFine x_E Z 0 0 62 (wwL nn (nSt L) j ++ [(4, .int (nI i))]) [] (oH h wy nw wt sp lf (va_up F nw f2) P2) := by
  have hn := nSt_le hL
  intro r
  induction r with
  | zero =>
    intro i hi f2 b2 P2 hr hw
    obtain rfl : i = nSt L := by omega
    refine T_iload dX11_waysWithoutFine_62 rfl ?_
    refine T_iload_n dX11_waysWithoutFine_64 rfl ?_
    refine T_icmp_geN (tgt := 96) dX11_waysWithoutFine_65 (by decide) (by omega) (by omega) (fun c65 => ?_) (fun c65 => ?_)
    · exact T_pick [0, 1, 2, 3] (K f2 b2 P2 hr hw)
    · exact absurd c65 (by omega)
  | succ r ih =>
    intro i hi f2 b2 P2 hr hw
    obtain ⟨q0, -, -, -, -, q44, -⟩ := oH_all (wy := wy) (nw := nw) (lf := lf) (F := va_up F nw f2) (P := P2) hB
    have hwy := oH_r (wy := wy) (nw := nw) (lf := lf) (F := va_up F nw f2) (P := P2) (k := wy) hB (by omega)
    have ewy : (va_up F nw f2) wy i = nI (a i) := by rw [va_up_ne _ _ (by omega)]; exact ha i (by omega)
    have hai := hal i (by omega)
    have eu : ∀ f3 : Nat → Int32, va_up (va_up F nw f2) nw f3 = va_up F nw f3 := fun f3 => by
      funext k
      unfold va_up
      split <;> rfl
    have enw : rowN2 L ((va_up F nw f2) nw) b2 := by rw [va_up_self]; exact hr
    refine T_iload dX11_waysWithoutFine_62 rfl ?_
    refine T_iload_n dX11_waysWithoutFine_64 rfl ?_
    refine T_icmp_geN (tgt := 96) dX11_waysWithoutFine_65 (by decide) (by omega) (by omega) (fun c65 => ?_) (fun c65 => ?_)
    · exact absurd c65 (by omega)
    · refine T_aload_n dX11_waysWithoutFine_68 rfl ?_
      refine T_get dX11_waysWithoutFine_69 fl_X11_56_11 q0 rfl ?_
      refine T_iload dX11_waysWithoutFine_72 rfl ?_
      refine T_ialdN dX11_waysWithoutFine_74 hwy (by omega) (by decide) ?_
      refine T_top ewy ?_
      refine T_if_leN (tgt := 90) dX11_waysWithoutFine_75 (by decide) (by omega) (fun c75 => ?_) (fun c75 => ?_)
      · refine T_iincN dX11_waysWithoutFine_90 rfl (by decide) rfl ?_
        refine T_goto (tgt := 62) dX11_waysWithoutFine_93 (by decide) ?_
        first
          | (refine ih (i + 1) (by omega) f2 b2 P2 hr (fun φ => ?_)
             rw [hw, sm, c75, Nat.zero_mul, Nat.add_zero])
          | (refine ih (i + 1) (by omega) f3 b3 P3 h3 (fun φ => ?_)
             rw [w3, hw, sm])
      · refine T_aload_n dX11_waysWithoutFine_78 rfl ?_
        refine T_iload dX11_waysWithoutFine_79 rfl ?_
        refine T_aload_n dX11_waysWithoutFine_81 rfl ?_
        refine T_get dX11_waysWithoutFine_82 fl_X11_52_11 q0 rfl ?_
        refine T_iload_n dX11_waysWithoutFine_85 rfl ?_
        refine T_ialdN dX11_waysWithoutFine_86 q44 (by omega) (by decide) ?_
        refine T_top hO ?_
        refine T_v2q (cu2 := 0) (su2 := 0) dX11_waysWithoutFine_87 lv_X11_275 rfl q0 rfl (c_X11_sailByChance hL hB h2 (by omega) hx ewy enw) (nb rfl) (nb rfl) (nb rfl) (nb rfl) (nb rfl) (fun r87 h87 q87 => ?_)
        obtain ⟨rfl, f3, b3, P3, rfl, h3, w3⟩ := q87
        rw [eu]
        refine T_iincN dX11_waysWithoutFine_90 rfl (by decide) rfl ?_
        refine T_goto (tgt := 62) dX11_waysWithoutFine_93 (by decide) ?_
        first
          | (refine ih (i + 1) (by omega) f2 b2 P2 hr (fun φ => ?_)
             rw [hw, sm, c75, Nat.zero_mul, Nat.add_zero])
          | (refine ih (i + 1) (by omega) f3 b3 P3 h3 (fun φ => ?_)
             rw [w3, hw, sm])
theorem lp_X11_waysWithoutFine_46 (hL : LOk L) (hB : OdB h wt sp isl bp L O) (hnn : nn ≤ 10) (hst : ∀ k, k < nn → O k = nI (st k) ∧ st k < 8) {Qa : Option Value → XH → Prop} (hQ : ∀ m wy nw F P, is2 wy nw → Cnt (fun z => FreeN L z st nn) (2 ^ nn) m → Qa (some (.int (nI m))) (oH h wy nw wt sp lf F P)) :
    ∀ r j, j + r = nn → ∀ wy nw F P a, is2 wy nw → rowN2 L (F wy) a → WyI L st j a → T M_X11_waysWithoutFine x_E (x_Z M_X11_waysWithoutFine Qa) 0 0 46 (wwL nn (nSt L) j) [] (oH h wy nw wt sp lf F P) := by
  have hn := nSt_le hL
  intro r
  induction r with
  | zero =>
    intro j hj wy nw F P a h2 ha hw
    obtain rfl : j = nn := by omega
    obtain ⟨q0, -, -, -, -, q44, -⟩ := oH_all (wy := wy) (nw := nw) (lf := lf) (F := F) (P := P) hB
    have hwy := oH_r (wy := wy) (nw := nw) (lf := lf) (F := F) (P := P) (k := wy) hB (by omega)
    have key : ∀ r i, i + r = nSt L → T M_X11_waysWithoutFine x_E (x_Z M_X11_waysWithoutFine Qa) 0 0 127 [(0, .ref 0), (1, .int (nI j)), (2, .int (nI (nSt L))), (3, .int (nI (sm a i))), (4, .int (nI i))] [] (oH h wy nw wt sp lf F P) := by
      intro r
      induction r with
      | zero =>
        intro i hi
        obtain rfl : i = nSt L := by omega
        refine T_iload dX11_waysWithoutFine_127 rfl ?_
        refine T_iload_n dX11_waysWithoutFine_129 rfl ?_
        refine T_icmp_geN (tgt := 149) dX11_waysWithoutFine_130 (by decide) (by omega) (by omega) (fun c130 => ?_) (fun c130 => ?_)
        · refine T_iload_n dX11_waysWithoutFine_149 rfl ?_
          refine T_iret dX11_waysWithoutFine_150 rfl (nb rfl) (nb rfl) ?_
          exact hQ _ wy nw F P h2 hw.cnt
        · exact absurd c130 (by omega)
      | succ r ih =>
        intro i hi
        refine T_iload dX11_waysWithoutFine_127 rfl ?_
        refine T_iload_n dX11_waysWithoutFine_129 rfl ?_
        refine T_icmp_geN (tgt := 149) dX11_waysWithoutFine_130 (by decide) (by omega) (by omega) (fun c130 => ?_) (fun c130 => ?_)
        · exact absurd c130 (by omega)
        · refine T_iload_n dX11_waysWithoutFine_133 rfl ?_
          refine T_aload_n dX11_waysWithoutFine_134 rfl ?_
          refine T_get dX11_waysWithoutFine_135 fl_X11_56_11 q0 rfl ?_
          refine T_iload dX11_waysWithoutFine_138 rfl ?_
          refine T_ialdN dX11_waysWithoutFine_140 hwy (by omega) (by decide) ?_
          refine T_top (ha i (by omega)) ?_
          refine T_iaddN dX11_waysWithoutFine_141 ?_
          refine T_istore_n dX11_waysWithoutFine_142 (by decide) rfl ?_
          refine T_iincN dX11_waysWithoutFine_143 rfl (by decide) rfl ?_
          refine T_goto (tgt := 127) dX11_waysWithoutFine_146 (by decide) ?_
          exact ih (i + 1) (by omega)
    refine T_iload_n dX11_waysWithoutFine_46 rfl ?_
    refine T_iload_n dX11_waysWithoutFine_47 rfl ?_
    refine T_icmp_geN (tgt := 122) dX11_waysWithoutFine_48 (by decide) (by omega) (by omega) (fun c48 => ?_) (fun c48 => ?_)
    · refine T_iconst (v := nI 0) dX11_waysWithoutFine_122 (by decide) ?_
      refine T_istore_n dX11_waysWithoutFine_123 (by decide) rfl ?_
      refine T_iconst (v := nI 0) dX11_waysWithoutFine_124 (by decide) ?_
      refine T_istore dX11_waysWithoutFine_125 (by decide) rfl ?_
      exact key (nSt L) 0 (by omega)
    · exact absurd c48 (by omega)
  | succ r ih =>
    intro j hj wy nw F P a h2 ha hw
    have hsj := hst j (by omega)
    obtain ⟨q0, -, -, -, -, q44, -⟩ := oH_all (wy := wy) (nw := nw) (lf := lf) (F := F) (P := P) hB
    have hnw := oH_r (wy := wy) (nw := nw) (lf := lf) (F := F) (P := P) (k := nw) hB (by omega)
    have hal : ∀ s, s < nSt L → a s < 2 ^ 31 := fun s hs => by
      have h1 := hw.le hs
      have h3 : 2 ^ j ≤ 2 ^ 10 := Nat.pow_le_pow_right (by decide) (by omega)
      omega
    have K96 : ∀ f2 b2 P2, rowN2 L f2 b2 → (∀ φ, wgh L b2 φ = wgh L a (ph2 L (st j) φ)) → T M_X11_waysWithoutFine x_E (x_Z M_X11_waysWithoutFine Qa) 0 0 96 (wwL nn (nSt L) j) [] (oH h wy nw wt sp lf (va_up F nw f2) P2) := by
      intro f2 b2 P2 hr2 hw2
      have q1 := fun wy nw => (oH_all (wy := wy) (nw := nw) (lf := lf) (F := va_up F nw f2) (P := P2) hB).1
      have q1' := fun wy1 nw1 => (oH_all (wy := wy1) (nw := nw1) (lf := lf) (F := va_up F nw f2) (P := P2) hB).1
      refine T_aload_n dX11_waysWithoutFine_96 rfl ?_
      refine T_get dX11_waysWithoutFine_97 fl_X11_56_11 (q1' wy nw) rfl ?_
      refine T_astore dX11_waysWithoutFine_100 (by decide) rfl ?_
      refine T_aload_n dX11_waysWithoutFine_102 rfl ?_
      refine T_aload_n dX11_waysWithoutFine_103 rfl ?_
      refine T_get dX11_waysWithoutFine_104 fl_X11_59_11 (q1' wy nw) rfl ?_
      refine T_put dX11_waysWithoutFine_107 fp_X11_56_11 (q1' wy nw) (nb rfl) (fun _ => ⟨rfl, rfl⟩) ?_
      refine T_h (oH_s0 (a := nw) (b := nw)) ?_
      refine T_aload_n dX11_waysWithoutFine_110 rfl ?_
      refine T_aload dX11_waysWithoutFine_111 rfl ?_
      refine T_put dX11_waysWithoutFine_113 fp_X11_59_11 (q1' nw nw) (nb rfl) (fun _ => ⟨rfl, rfl⟩) ?_
      refine T_h (oH_s0 (a := nw) (b := wy)) ?_
      refine T_iincN dX11_waysWithoutFine_116 rfl (by decide) rfl ?_
      refine T_goto (tgt := 46) dX11_waysWithoutFine_119 (by decide) ?_
      refine T_pick [0, 1, 2, 3] (ih (j + 1) (by omega) nw wy (va_up F nw f2) P2 b2 (by omega) ?_ (hw.next hL hw2))
      rw [va_up_self]; exact hr2
    refine T_iload_n dX11_waysWithoutFine_46 rfl ?_
    refine T_iload_n dX11_waysWithoutFine_47 rfl ?_
    refine T_icmp_geN (tgt := 122) dX11_waysWithoutFine_48 (by decide) (by omega) (by omega) (fun c48 => ?_) (fun c48 => ?_)
    · exact absurd c48 (by omega)
    · refine T_aload_n dX11_waysWithoutFine_51 rfl ?_
      refine T_get dX11_waysWithoutFine_52 fl_X11_59_11 q0 rfl ?_
      refine T_iconst (v := 0) dX11_waysWithoutFine_55 (by decide) ?_
      refine T_s2e (cu2 := 0) (su2 := 0) dX11_waysWithoutFine_56 ls_X11_266 rfl (c_A_fill (by decide) hnw _) (nb rfl) (nb rfl) (nb rfl) (nb rfl) (nb rfl) ?_
      refine T_h (oH_sr (by omega)) ?_
      refine T_iconst (v := nI 0) dX11_waysWithoutFine_59 (by decide) ?_
      refine T_istore dX11_waysWithoutFine_60 (by decide) rfl ?_
      exact lp_X11_waysWithoutFine_62 hL hB h2 (by omega) hsj.1 hsj.2 ha hal K96 (nSt L) 0 (by omega) _ (fun _ => 0) P (fun t ht => fil_in (by omega)) (fun φ => by unfold wgh; rw [sm_c (g := fun _ => 0) (nSt L) (fun i _ => Nat.zero_mul _), sm_0]; rfl)
theorem c_X11_waysWithoutFine (hL : LOk L) (hB : OdB h wt sp isl bp L O) (h2 : is2 wy nw) (hnn : nn ≤ 10) (hst : ∀ k, k < nn → O k = nI (st k) ∧ st k < 8) : Con M_X11_waysWithoutFine [.ref 0, .int (nI nn)] (oH h wy nw wt sp lf F P) (fun q h' => ∃ m wy nw F P, is2 wy nw ∧ q = some (.int (nI m)) ∧ h' = oH h wy nw wt sp lf F P ∧ Cnt (fun z => FreeN L z st nn) (2 ^ nn) m) := by
  have hn := nSt_le hL
  have A1 := fun F P => oH_all (wy := wy) (nw := nw) (lf := lf) (F := F) (P := P) hB
  have R1 := fun F P k hk => oH_r (wy := wy) (nw := nw) (lf := lf) (F := F) (P := P) (k := k) hB hk
  have h1 := cdB_lt hL (fun i _ => start_le L i)
  refine Con.of rfl (nb rfl) ?_
  refine T_aload_n dX11_waysWithoutFine_0 rfl ?_
  refine T_get dX11_waysWithoutFine_1 fl_X11_65_11 (A1 _ _).1 rfl ?_
  refine T_v0e (cu2 := 0) (su2 := 0) dX11_waysWithoutFine_4 lv_X11_263 rfl (A1 _ _).2.2.2.2.2.2.1 rfl (c_X1_states hL (A1 _ _).2.2.2.2.2.2.1) (nb rfl) (nb rfl) (nb rfl) (nb rfl) (nb rfl) ?_
  refine T_istore_n dX11_waysWithoutFine_7 (by decide) rfl ?_
  refine T_aload_n dX11_waysWithoutFine_8 rfl ?_
  refine T_get dX11_waysWithoutFine_9 fl_X11_56_11 (A1 _ _).1 rfl ?_
  refine T_iconst (v := 0) dX11_waysWithoutFine_12 (by decide) ?_
  refine T_s2e (cu2 := 0) (su2 := 0) dX11_waysWithoutFine_13 ls_X11_266 rfl (c_A_fill (by decide) (R1 _ _ wy (by omega)) _) (nb rfl) (nb rfl) (nb rfl) (nb rfl) (nb rfl) ?_
  refine T_h (oH_sr (by omega)) ?_
  obtain ⟨-, -, -, t9, ⟨va, vb, vc, t8⟩, -, tl⟩ := A1 (va_up F wy (fil (F wy) 0 125)) P
  refine T_aload_n dX11_waysWithoutFine_16 rfl ?_
  refine T_get dX11_waysWithoutFine_17 fl_X11_34_11 (A1 _ _).1 rfl ?_
  refine T_aload_n dX11_waysWithoutFine_20 rfl ?_
  refine T_get dX11_waysWithoutFine_21 fl_X11_65_11 (A1 _ _).1 rfl ?_
  refine T_v1q (cu2 := 0) (su2 := 0) dX11_waysWithoutFine_24 lv_X11_248 rfl t8 rfl (c_X10_begin hL tl t8 t9) (nb rfl) (nb rfl) (nb rfl) (nb rfl) (nb rfl) (fun r24 h24 q24 => ?_)
  obtain ⟨rfl, P2, rfl, hP2⟩ := q24
  refine T_h oH_s9 ?_
  obtain ⟨-, -, -, r9, ⟨wa, wb, wc, r8⟩, -, rl⟩ := A1 (va_up F wy (fil (F wy) 0 125)) P2
  refine T_aload_n dX11_waysWithoutFine_27 rfl ?_
  refine T_get dX11_waysWithoutFine_28 fl_X11_56_11 (A1 _ _).1 rfl ?_
  refine T_aload_n dX11_waysWithoutFine_31 rfl ?_
  refine T_get dX11_waysWithoutFine_32 fl_X11_34_11 (A1 _ _).1 rfl ?_
  refine T_aload_n dX11_waysWithoutFine_35 rfl ?_
  refine T_get dX11_waysWithoutFine_36 fl_X11_65_11 (A1 _ _).1 rfl ?_
  refine T_v1e (cu2 := 0) (su2 := 0) dX11_waysWithoutFine_39 lv_X11_272 rfl r8 rfl (c_X10_stateNumber hL rl r8 r9 hP2) (nb rfl) (nb rfl) (nb rfl) (nb rfl) (nb rfl) ?_
  refine T_iconst (v := 1) dX11_waysWithoutFine_42 (by decide) ?_
  refine T_iastN dX11_waysWithoutFine_43 (R1 _ _ wy (by omega)) (by show cdB L _ < 125; omega) (by decide) ?_
  refine T_h (oH_sr (by omega)) ?_
  refine T_iconst (v := nI 0) dX11_waysWithoutFine_44 (by decide) ?_
  refine T_istore_n dX11_waysWithoutFine_45 (by decide) rfl ?_
  refine lp_X11_waysWithoutFine_46 (st := st) hL hB hnn hst (fun m wy nw F P q1 q2 => ⟨m, wy, nw, F, P, q1, rfl, rfl, q2⟩) nn 0 (by omega) wy nw _ P2 (fun s => if s = cdB L (start L) then 1 else 0) h2 (fun t ht => ?_) (WyI.zero hL (fun s _ => rfl))
  rw [va_up_self, va_up_self]
  show upd (fil (F wy) 0 125) (cdB L (start L)) 1 t = nI (if t = cdB L (start L) then 1 else 0)
  by_cases z : t = cdB L (start L)
  · rw [if_pos z, z]; exact upd_s
  · rw [if_neg z, upd_n z]; exact fil_in (by omega)
end O3
