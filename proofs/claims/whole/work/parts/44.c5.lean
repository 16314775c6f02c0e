/-! Voyage -/
theorem gs_id {h : XH} {k : Nat} {c : XC} (hk : h[k]? = some c) : h = h.set k c := by
  refine List.ext_getElem? fun j => ?_
  by_cases e : k = j
  · subst e
    rw [gs_eq hk, hk]
  · rw [gs_ne e]
section C5
variable {h : XH} {L : LK} {Z : XZ}
/-- a cell that is no part of a lake's picture, its winds aside -/
def lkT (c : XC) : Bool := match c with
  | .inl a => !(Nat.beq a.1 4)
  | .inr o => !(Nat.beq o.1 0) && (!(Nat.beq o.1 1) && (!(Nat.beq o.1 2) && !(Nat.beq o.1 8)))
abbrev flO (F : Nat → Option Nat) : XC := .inl (4, 3, .inr (.inr F))
abbrev r3 (P : Nat → Int32) : XC := .inl (0, 3, .inl P)
abbrev voO (vc : Nat) (a b c : Int32) : XC := .inr (10, [.ref vc, .int a, .int b, .int c])
/-- the lake at lp, its boats -/
def LkH (h : XH) (lp isl wo fl : Nat) (bp : Nat → Nat) (L : LK) : Prop := h[lp]? = some (lkC L isl wo fl) ∧ IsR isl L ∧ ∃ F, h[fl]? = some (flO F) ∧ ∀ i, i < L_n L → F i = some (bp i) ∧ h[bp i]? = some (bCL L i)
def WnH (h : XH) (wo : Nat) (L : LK) (wn : Nat → Nat) : Prop := ∃ W, h[wo]? = some (.inl (0, 10, .inl W)) ∧ ∀ g, g < L_h L → W g = nI (wn g) ∧ wn g ≤ 2
theorem lkT_r {c : XC} {k : Nat} {fs : List Value} (h : lkT c = true) (hk : k = 0 ∨ k = 1 ∨ k = 2 ∨ k = 8) : tne c (.inr (k, fs)) = true := by
  rcases c with x | x
  · rfl
  · unfold lkT at h
    simp only [Bool.and_eq_true] at h
    show (!(Nat.beq x.1 k)) = true
    rcases hk with rfl | rfl | rfl | rfl
    · exact h.1
    · exact h.2.1
    · exact h.2.2.1
    · exact h.2.2.2
theorem lkT_l {c : XC} {n : Nat} {f : XA} (h : lkT c = true) : tne c (.inl (4, n, f)) = true := by
  rcases c with x | x
  · have h : (!(Nat.beq x.1 4)) = true := h
    show (!(Nat.beq x.1 4) || _) = true
    rw [h]
    rfl
  · rfl
theorem bC_or (k : Nat) : bC k = 0 ∨ bC k = 1 ∨ bC k = 2 ∨ bC k = 8 := by
  unfold bC
  split
  · exact Or.inl rfl
  · exact Or.inr (Or.inr (Or.inl rfl))
  · exact Or.inr (Or.inr (Or.inr rfl))
theorem LkH.set {lp isl wo fl vc : Nat} {bp : Nat → Nat} {c0 c : XC} (hl : LkH h lp isl wo fl bp L) (hv : h[vc]? = some c0) (ht : lkT c0 = true) : LkH (h.set vc c) lp isl wo fl bp L := by
  obtain ⟨a1, a2, F, a3, a4⟩ := hl
  refine ⟨gs_tg hv a1 (lkT_r ht (Or.inr (Or.inl rfl))), a2, F, gs_tg hv a3 (lkT_l ht), fun i hi => ⟨(a4 i hi).1, gs_tg hv (a4 i hi).2 (lkT_r ht (bC_or _))⟩⟩
theorem WnH.set {wo vc : Nat} {wn : Nat → Nat} {c0 c : XC} (hl : WnH h wo L wn) (hv : h[vc]? = some c0) (ht : ∀ W : Nat → Int32, tne c0 (.inl (0, 10, .inl W)) = true) : WnH (h.set vc c) wo L wn := by
  obtain ⟨W, a1, a2⟩ := hl
  exact ⟨W, gs_tg hv a1 (ht W), a2⟩
theorem start_le (L : LK) (i : Nat) : start L i ≤ L_w L := by unfold start; split <;> omega
theorem goal_le (L : LK) (i : Nat) : goal L i ≤ L_w L := by unfold goal; split <;> omega
theorem nI_in3 {i n : Nat} (h3 : n ≤ 3) (hi : i < n) : vp_in (nI i) 3 := nI_in (by omega) (by decide)
theorem c_X10_begin {v vc lp isl wo fl : Nat} {bp : Nat → Nat} {P0 : Nat → Int32} {a b c : Int32} (hL : LOk L) (hl : LkH h lp isl wo fl bp L) (hv : h[v]? = some (voO vc a b c)) (hc : h[vc]? = some (r3 P0)) : Con M_X10_begin [.ref v, .ref lp] h (fun q h' => q = none ∧ ∃ P, h' = h.set vc (r3 P) ∧ PR L P (start L)) := by
  have h3 := hL.2.2.1
  have key : ∀ m i, i + m = L_n L → ∀ P : Nat → Int32, (∀ j, j < i → P j = nI (start L j)) → T M_X10_begin x_E (x_Z M_X10_begin (fun q h' => q = none ∧ ∃ P, h' = h.set vc (r3 P) ∧ PR L P (start L))) 0 0 2 [(0, .ref v), (1, .ref lp), (2, .int (nI i))] [] (h.set vc (r3 P)) := by
    intro m
    induction m with
    | zero =>
      intro i hi P hP
      obtain rfl : i = L_n L := by omega
      have hl2 := hl.set (c := r3 P) hc rfl
      refine T_iload_n dX10_begin_2 rfl ?_
      refine T_aload_n dX10_begin_3 rfl ?_
      refine T_get dX10_begin_4 fl_X10_25_1 hl2.1 rfl ?_
      refine T_icmp_geN (tgt := 32) dX10_begin_7 (by decide) (by omega) (by omega) (fun c7 => ?_) (fun c7 => ?_)
      · refine T_vret dX10_begin_32 rfl (nb rfl) (nb rfl) ?_
        exact ⟨rfl, P, rfl, fun j hj => ⟨hP j hj, start_le L j⟩⟩
      · exact absurd c7 (by omega)
    | succ m ih =>
      intro i hi P hP
      have hl2 := hl.set (c := r3 P) hc rfl
      obtain ⟨b1, b2, F, b3, b4⟩ := hl2
      have hq := hL.2.2.2.1 i (by omega)
      refine T_iload_n dX10_begin_2 rfl ?_
      refine T_aload_n dX10_begin_3 rfl ?_
      refine T_get dX10_begin_4 fl_X10_25_1 b1 rfl ?_
      refine T_icmp_geN (tgt := 32) dX10_begin_7 (by decide) (by omega) (by omega) (fun c7 => ?_) (fun c7 => ?_)
      · exact absurd c7 (by omega)
      · refine T_aload_n dX10_begin_10 rfl ?_
        refine T_get dX10_begin_11 fl_X10_9_10 (gs_tg hc hv rfl) rfl ?_
        refine T_iload_n dX10_begin_14 rfl ?_
        refine T_aload_n dX10_begin_15 rfl ?_
        refine T_aload_n dX10_begin_16 rfl ?_
        refine T_get dX10_begin_17 fl_X10_30_1 b1 rfl ?_
        refine T_iload_n dX10_begin_20 rfl ?_
        refine T_aald4 dX10_begin_21 b3 (nI_in3 h3 (by omega)) (by rw [nI_clamp (by omega)]; exact (b4 i (by omega)).1) ?_
        refine T_v1e (cu2 := 0) (su2 := 0) dX10_begin_22 lv_X10_34 rfl b1 rfl (c_X1_startOf b1 (b4 i (by omega)).2 hq.2.1 hq.1) (nb rfl) (nb rfl) (nb rfl) (nb rfl) (nb rfl) ?_
        refine T_iastN dX10_begin_25 (gs_eq hc) (by omega) (by decide) ?_
        refine T_h (List.set_set ..) ?_
        refine T_iincN dX10_begin_26 rfl (by decide) rfl ?_
        refine T_goto (tgt := 2) dX10_begin_29 (by decide) ?_
        refine ih (i + 1) (by omega) _ (fun j hj => ?_)
        by_cases e : j = i
        · subst e; exact upd_s
        · rw [upd_n e]; exact hP j (by omega)
  refine Con.of rfl (nb rfl) ?_
  refine T_iconst (v := nI 0) dX10_begin_0 (by decide) ?_
  refine T_istore_n dX10_begin_1 (by decide) rfl ?_
  exact T_h (gs_id hc) (key (L_n L) 0 (by omega) P0 (fun j hj => absurd hj (by omega)))
/-- behind the first i boats of an hour -/
def SlR (L : LK) (s w : Nat) (p : Nat → Nat) (i : Nat) (P : Nat → Int32) : Prop := (∀ j, j < i → P j = nI (aft L w (s.testBit j) j (p j))) ∧ ∀ j, i ≤ j → j < L_n L → P j = nI (p j)
theorem aft_go {L : LK} {w s i c : Nat} : aft L w (s.testBit i && !(c == goal L i)) i c = aft L w (s.testBit i) i c := by
  by_cases e : c = goal L i
  · unfold aft
    rw [if_pos (Or.inr e), if_pos (Or.inr e)]
  · have : (c == goal L i) = false := by simp [e]
    rw [this]
    simp
theorem lp_X10_sail_75 {v vc lp isl wo fl s w i ct : Nat} {bp p : Nat → Nat} {P0 P : Nat → Int32} {a b c : Int32} (hL : LOk L) (hl : LkH h lp isl wo fl bp L) (hv : h[v]? = some (voO vc a b c)) (hc : h[vc]? = some (r3 P0)) (hi : i < L_n L) (hw : w ≤ 2) (hp : ∀ j, j < L_n L → p j ≤ L_w L) (hP : SlR L s w p i P)
    (K : ∀ P, SlR L s w p (i + 1) P → T M_X10_sail x_E Z 0 0 6 [(0, .ref v), (1, .ref lp), (2, .int (nI s)), (3, .int (nI w)), (4, .int (nI ct)), (5, .int (nI (i + 1)))] [] (h.set vc (r3 P))) :
    T M_X10_sail x_E Z 0 0 75 [(0, .ref v), (1, .ref lp), (2, .int (nI s)), (3, .int (nI w)), (4, .int (nI ct)), (5, .int (nI i)), (6, .ref (bp i)), (7, .int (bI ((s.testBit i && !(p i == goal L i)) = true)))] [] (h.set vc (r3 P)) := by
  have h3 := hL.2.2.1
  have h4 := hL.1
  have hl2 := hl.set (c := r3 P) hc rfl
  obtain ⟨b1, b2, F, b3, b4⟩ := hl2
  have hpi := hp i hi
  refine T_aload_n dX10_sail_75 rfl ?_
  refine T_get dX10_sail_76 fl_X10_9_10 (gs_tg hc hv rfl) rfl ?_
  refine T_iload dX10_sail_79 rfl ?_
  refine T_aload_n dX10_sail_81 rfl ?_
  refine T_aload dX10_sail_82 rfl ?_
  refine T_aload_n dX10_sail_84 rfl ?_
  refine T_get dX10_sail_85 fl_X10_9_10 (gs_tg hc hv rfl) rfl ?_
  refine T_iload dX10_sail_88 rfl ?_
  refine T_ialdN dX10_sail_90 (gs_eq hc) (by omega) (by decide) ?_
  refine T_top (hP.2 i (Nat.le_refl _) hi) ?_
  refine T_iload_n dX10_sail_91 rfl ?_
  refine T_iload dX10_sail_92 rfl ?_
  refine T_v4e (cu2 := 0) (su2 := 0) dX10_sail_94 lv_X10_45 rfl b1 rfl (c_X1_cellAfter hL hi b2 b1 (b4 i hi).2 hpi hw (s.testBit i && !(p i == goal L i))) (nb rfl) (nb rfl) (nb rfl) (nb rfl) (nb rfl) ?_
  refine T_iastN dX10_sail_97 (gs_eq hc) (by omega) (by decide) ?_
  refine T_h (List.set_set ..) ?_
  refine T_iincN dX10_sail_98 rfl (by decide) rfl ?_
  refine T_goto (tgt := 6) dX10_sail_101 (by decide) ?_
  refine T_pick [0, 1, 2, 3, 4, 5] (K _ ⟨fun j hj => ?_, fun j h1 h2 => ?_⟩)
  · by_cases e : j = i
    · subst e; rw [upd_s, aft_go]
    · rw [upd_n e]; exact hP.1 j (by omega)
  · rw [upd_n (by omega)]; exact hP.2 j (by omega) h2
theorem lp_X10_sail_55 {v vc lp isl wo fl s w i : Nat} {bp p : Nat → Nat} {P0 P : Nat → Int32} {a b c : Int32} (hL : LOk L) (hl : LkH h lp isl wo fl bp L) (hv : h[v]? = some (voO vc a b c)) (hc : h[vc]? = some (r3 P0)) (hi : i < L_n L) (hw : w ≤ 2) (hp : ∀ j, j < L_n L → p j ≤ L_w L) (hP : SlR L s w p i P)
    (K : ∀ P, SlR L s w p (i + 1) P → T M_X10_sail x_E Z 0 0 6 [(0, .ref v), (1, .ref lp), (2, .int (nI s)), (3, .int (nI w)), (4, .int (nI (cntN L s w p (i + 1)))), (5, .int (nI (i + 1)))] [] (h.set vc (r3 P))) :
    T M_X10_sail x_E Z 0 0 55 [(0, .ref v), (1, .ref lp), (2, .int (nI s)), (3, .int (nI w)), (4, .int (nI (cntN L s w p i))), (5, .int (nI i)), (6, .ref (bp i))] [.int (bI ((s.testBit i && !(p i == goal L i)) = true))] (h.set vc (r3 P)) := by
  have hl2 := hl.set (c := r3 P) hc rfl
  obtain ⟨b1, b2, F, b3, b4⟩ := hl2
  have hq := hL.2.2.2.1 i hi
  have ecnt : cnt L s w p i = true ↔ (s.testBit i && !(p i == goal L i)) = true ∧ ¬ L_kd L i = 2 ∧ w = L_fr L i + 1 := by
    unfold cnt
    simp only [Bool.and_eq_true, Bool.not_eq_true', beq_iff_eq, beq_eq_false_iff_ne, ne_eq]
    exact ⟨fun q => ⟨q.1.1, q.2, q.1.2⟩, fun q => ⟨⟨q.1, q.2.2⟩, q.2.1⟩⟩
  have e1 : cnt L s w p i = true → cntN L s w p (i + 1) = cntN L s w p i + 1 := fun q => by rw [cntN, if_pos q]
  have e2 : ¬ cnt L s w p i = true → cntN L s w p (i + 1) = cntN L s w p i := fun q => by rw [cntN, if_neg q]; rfl
  refine T_istore dX10_sail_55 (by decide) rfl ?_
  refine T_iload dX10_sail_57 rfl ?_
  refine T_if_eqB (tgt := 75) dX10_sail_59 (by decide) (fun c59 => ?_) (fun c59 => ?_)
  · first
      | (rw [e2 (fun q => c59 (ecnt.mp q).1)] at K; exact lp_X10_sail_75 hL hl hv hc hi hw hp hP K)
      | (rw [e2 (fun q => c69 (ecnt.mp q).2)] at K; exact lp_X10_sail_75 hL hl hv hc hi hw hp hP K)
      | (rw [e1 (ecnt.mpr ⟨c59, c69⟩)] at K; exact lp_X10_sail_75 hL hl hv hc hi hw hp hP K)
  · refine T_aload_n dX10_sail_62 rfl ?_
    refine T_aload dX10_sail_63 rfl ?_
    refine T_iload_n dX10_sail_65 rfl ?_
    refine T_v2e (cu2 := 0) (su2 := 0) dX10_sail_66 lv_X10_41 rfl b1 rfl (c_X1_countsWith b1 (b4 i hi).2 hq.2.1 hq.1 hw) (nb rfl) (nb rfl) (nb rfl) (nb rfl) (nb rfl) ?_
    refine T_if_eqB (tgt := 75) dX10_sail_69 (by decide) (fun c69 => ?_) (fun c69 => ?_)
    · first
        | (rw [e2 (fun q => c59 (ecnt.mp q).1)] at K; exact lp_X10_sail_75 hL hl hv hc hi hw hp hP K)
        | (rw [e2 (fun q => c69 (ecnt.mp q).2)] at K; exact lp_X10_sail_75 hL hl hv hc hi hw hp hP K)
        | (rw [e1 (ecnt.mpr ⟨c59, c69⟩)] at K; exact lp_X10_sail_75 hL hl hv hc hi hw hp hP K)
    · refine T_iincN dX10_sail_72 rfl (by decide) rfl ?_
      first
        | (rw [e2 (fun q => c59 (ecnt.mp q).1)] at K; exact lp_X10_sail_75 hL hl hv hc hi hw hp hP K)
        | (rw [e2 (fun q => c69 (ecnt.mp q).2)] at K; exact lp_X10_sail_75 hL hl hv hc hi hw hp hP K)
        | (rw [e1 (ecnt.mpr ⟨c59, c69⟩)] at K; exact lp_X10_sail_75 hL hl hv hc hi hw hp hP K)
theorem c_X10_sail {v vc lp isl wo fl s w : Nat} {bp p : Nat → Nat} {P0 : Nat → Int32} {a b c : Int32} (hL : LOk L) (hl : LkH h lp isl wo fl bp L) (hv : h[v]? = some (voO vc a b c)) (hc : h[vc]? = some (r3 P0)) (hs : s < 8) (hw : w ≤ 2) (hp : PR L P0 p) : Con M_X10_sail [.ref v, .ref lp, .int (nI s), .int (nI w)] h (fun q h' => q = some (.int (nI (finN L s w p))) ∧ ∃ P, h' = h.set vc (r3 P) ∧ PR L P (fun i => aft L w (s.testBit i) i (p i))) := by
  have h3 := hL.2.2.1
  have h4 := hL.1
  have key : ∀ m i, i + m = L_n L → ∀ P : Nat → Int32, SlR L s w p i P → T M_X10_sail x_E (x_Z M_X10_sail (fun q h' => q = some (.int (nI (finN L s w p))) ∧ ∃ P, h' = h.set vc (r3 P) ∧ PR L P (fun i => aft L w (s.testBit i) i (p i)))) 0 0 6 [(0, .ref v), (1, .ref lp), (2, .int (nI s)), (3, .int (nI w)), (4, .int (nI (cntN L s w p i))), (5, .int (nI i))] [] (h.set vc (r3 P)) := by
    intro m
    induction m with
    | zero =>
      intro i hi P hP
      obtain rfl : i = L_n L := by omega
      have hl2 := hl.set (c := r3 P) hc rfl
      have hcl := cntN_le L s w p (L_n L)
      have hend : ∀ x, x = finN L s w p → (some (Value.int (nI x)) = some (Value.int (nI (finN L s w p))) ∧ ∃ P', h.set vc (r3 P) = h.set vc (r3 P') ∧ PR L P' (fun i => aft L w (s.testBit i) i (p i))) := fun x e => ⟨by rw [e], P, rfl, fun j hj => ⟨hP.1 j hj, aft_le (hp j hj).2⟩⟩
      refine T_iload dX10_sail_6 rfl ?_
      refine T_aload_n dX10_sail_8 rfl ?_
      refine T_get dX10_sail_9 fl_X10_25_1 hl2.1 rfl ?_
      refine T_icmp_geN (tgt := 104) dX10_sail_12 (by decide) (by omega) (by omega) (fun c12 => ?_) (fun c12 => ?_)
      · refine T_iload dX10_sail_104 rfl ?_
        refine T_iconst (v := nI 1) dX10_sail_106 (by decide) ?_
        refine T_icmp_leN (tgt := 115) dX10_sail_107 (by decide) (by omega) (by omega) (fun c107 => ?_) (fun c107 => ?_)
        · refine T_iconst (v := nI 0) dX10_sail_115 (by decide) ?_
          refine T_iret dX10_sail_116 rfl (nb rfl) (nb rfl) ?_
          exact hend _ (by unfold finN; first | rw [if_pos (by omega)] | rw [if_neg (by omega)])
        · refine T_iload dX10_sail_110 rfl ?_
          refine T_goto (tgt := 116) dX10_sail_112 (by decide) ?_
          refine T_iret dX10_sail_116 rfl (nb rfl) (nb rfl) ?_
          exact hend _ (by unfold finN; first | rw [if_pos (by omega)] | rw [if_neg (by omega)])
      · exact absurd c12 (by omega)
    | succ m ih =>
      intro i hi P hP
      have hl2 := hl.set (c := r3 P) hc rfl
      obtain ⟨b1, b2, F, b3, b4⟩ := hl2
      have hq := hL.2.2.2.1 i (by omega)
      have hbit := bit_N s hs i (by omega)
      have hpi := (hp i (by omega)).2
      have hgl := goal_le L i
      have egoal : ConE M_X1_goalOf [.ref lp, .ref (bp i)] (h.set vc (r3 P)) (some (.int (nI (goal L i)))) (h.set vc (r3 P)) := c_X1_goalOf b1 (b4 i (by omega)).2 hq.2.1 hq.1
      have K55 : ∀ go : Bool, go = (s.testBit i && !(p i == goal L i)) → T M_X10_sail x_E (x_Z M_X10_sail (fun q h' => q = some (.int (nI (finN L s w p))) ∧ ∃ P, h' = h.set vc (r3 P) ∧ PR L P (fun i => aft L w (s.testBit i) i (p i)))) 0 0 55 [(0, .ref v), (1, .ref lp), (2, .int (nI s)), (3, .int (nI w)), (4, .int (nI (cntN L s w p i))), (5, .int (nI i)), (6, .ref (bp i))] [.int (bI (go = true))] (h.set vc (r3 P)) := by
        intro go eg
        subst eg
        exact lp_X10_sail_55 hL hl hv hc (by omega) hw (fun j hj => (hp j hj).2) hP (fun P2 hP2 => ih (i + 1) (by omega) P2 hP2)
      refine T_iload dX10_sail_6 rfl ?_
      refine T_aload_n dX10_sail_8 rfl ?_
      refine T_get dX10_sail_9 fl_X10_25_1 b1 rfl ?_
      refine T_icmp_geN (tgt := 104) dX10_sail_12 (by decide) (by omega) (by omega) (fun c12 => ?_) (fun c12 => ?_)
      · exact absurd c12 (by omega)
      · refine T_aload_n dX10_sail_15 rfl ?_
        refine T_get dX10_sail_16 fl_X10_30_1 b1 rfl ?_
        refine T_iload dX10_sail_19 rfl ?_
        refine T_aald4 dX10_sail_21 b3 (nI_in3 h3 (by omega)) (by rw [nI_clamp (by omega)]; exact (b4 i (by omega)).1) ?_
        refine T_astore dX10_sail_22 (by decide) rfl ?_
        refine T_iload_n dX10_sail_24 rfl ?_
        refine T_iload dX10_sail_25 rfl ?_
        refine T_ishr dX10_sail_27 ?_
        refine T_iconst (v := 1) dX10_sail_28 (by decide) ?_
        refine T_iand dX10_sail_29 ?_
        refine T_iconst (v := 1) dX10_sail_30 (by decide) ?_
        refine T_icmp_ne (tgt := 54) dX10_sail_31 (by decide) (fun c31 => ?_) (fun c31 => ?_)
        · refine T_iconst (v := 0) dX10_sail_54 (by decide) ?_
          first
            | exact K55 false (by rw [Bool.eq_false_iff.mpr (fun q => c31 (hbit.mpr q))]; rfl)
            | exact K55 false (by rw [show (p i == goal L i) = true from by simp [c47]]; simp)
            | exact K55 true (by rw [hbit.mp c31, show (p i == goal L i) = false from by simp [c47]]; rfl)
        · refine T_aload_n dX10_sail_34 rfl ?_
          refine T_get dX10_sail_35 fl_X10_9_10 (gs_tg hc hv rfl) rfl ?_
          refine T_iload dX10_sail_38 rfl ?_
          refine T_ialdN dX10_sail_40 (gs_eq hc) (by omega) (by decide) ?_
          refine T_top (hP.2 i (Nat.le_refl _) (by omega)) ?_
          refine T_aload_n dX10_sail_41 rfl ?_
          refine T_aload dX10_sail_42 rfl ?_
          refine T_v1e (cu2 := 0) (su2 := 0) dX10_sail_44 lv_X10_38 rfl b1 rfl egoal (nb rfl) (nb rfl) (nb rfl) (nb rfl) (nb rfl) ?_
          refine T_icmp_eqN (tgt := 54) dX10_sail_47 (by decide) (by omega) (by omega) (fun c47 => ?_) (fun c47 => ?_)
          · refine T_iconst (v := 0) dX10_sail_54 (by decide) ?_
            first
              | exact K55 false (by rw [Bool.eq_false_iff.mpr (fun q => c31 (hbit.mpr q))]; rfl)
              | exact K55 false (by rw [show (p i == goal L i) = true from by simp [c47]]; simp)
              | exact K55 true (by rw [hbit.mp c31, show (p i == goal L i) = false from by simp [c47]]; rfl)
          · refine T_iconst (v := 1) dX10_sail_50 (by decide) ?_
            refine T_goto (tgt := 55) dX10_sail_51 (by decide) ?_
            first
              | exact K55 false (by rw [Bool.eq_false_iff.mpr (fun q => c31 (hbit.mpr q))]; rfl)
              | exact K55 false (by rw [show (p i == goal L i) = true from by simp [c47]]; simp)
              | exact K55 true (by rw [hbit.mp c31, show (p i == goal L i) = false from by simp [c47]]; rfl)
  refine Con.of rfl (nb rfl) ?_
  refine T_iconst (v := nI 0) dX10_sail_0 (by decide) ?_
  refine T_istore dX10_sail_1 (by decide) rfl ?_
  refine T_iconst (v := nI 0) dX10_sail_3 (by decide) ?_
  refine T_istore dX10_sail_4 (by decide) rfl ?_
  exact T_h (gs_id hc) (key (L_n L) 0 (by omega) P0 ⟨fun j hj => absurd hj (by omega), fun j _ hj => (hp j hj).1⟩)
end C5
