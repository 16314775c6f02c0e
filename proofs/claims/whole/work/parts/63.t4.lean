/-! Text: the winds, the boats -/
section C63
variable {h : XH} {Z : XZ} {g : Nat → Int32} {a c f n sp wo fl w il hh mb : Nat} {W : Nat → Int32} {F : Nat → Option Nat}
theorem wndP_s {e : Nat} : ∀ r p k, k ≤ r → (∀ j, j < k → p + j < e ∧ ¬ mWb (g (p + j)) = -9) → wndP g e r p = k + wndP g e (r - k) (p + k)
  | r, p, 0, _, _ => by rw [Nat.zero_add]; rfl
  | r, p, k + 1, hk, hd => by
    obtain ⟨r, rfl⟩ : ∃ q, r = q + 1 := ⟨r - 1, by omega⟩
    rw [wndP, if_pos (show p < e ∧ ¬ mWb (g p) = -9 from hd 0 (by omega)), wndP_s r (p + 1) k (by omega) (fun j hj => by have := hd (j + 1) (by omega); rwa [show p + (j + 1) = p + 1 + j by omega] at this), show r + 1 - (k + 1) = r - k by omega, show p + (k + 1) = p + 1 + k by omega]
    omega
abbrev WdQ (h : XH) (c f n sp wo fl a w il : Nat) (g : Nat → Int32) (F : Nat → Option Nat) : Option Value → XH → Prop := fun q h' => ∃ W, q = some (.int (bI (¬ wndP g (f + n) 10 (f + a) = 0))) ∧ h' = tL h c f n sp wo fl (a + wndP g (f + n) 10 (f + a)) w il (wndP g (f + n) 10 (f + a)) 0 W F ∧ a + wndP g (f + n) 10 (f + a) ≤ n ∧ wndP g (f + n) 10 (f + a) ≤ 10 ∧ ∀ k, k < wndP g (f + n) 10 (f + a) → WdD g (f + a) W k
theorem lp_X7_readWinds (hB : TxB h c sp wo fl g) (hn : f + n ≤ 60) :
    ∀ r k, k + r = 10 → a + k ≤ n → ∀ W, (∀ j, j < k → WdD g (f + a) W j ∧ f + a + j < f + n) → T M_X7_readWinds x_E (x_Z M_X7_readWinds (WdQ h c f n sp wo fl a w il g F)) 0 0 2 [(0, .ref 2), (1, .ref sp), (2, .int (nI k))] [] (tL h c f n sp wo fl (a + k) w il k 0 W F) := by
  intro r
  induction r with
  | zero =>
    intro k hk hkn W hW
    obtain rfl : k = 10 := by omega
    have e : wndP g (f + n) 10 (f + a) = 10 := by
      rw [wndP_s 10 (f + a) 10 (Nat.le_refl _) (fun j hj => ⟨(hW j hj).2, (hW j hj).1.1⟩)]
      rfl
    refine T_iload_n dX7_readWinds_2 rfl ?_
    refine T_bipush (v := nI 10) dX7_readWinds_3 (by decide) ?_
    refine T_icmp_geN (tgt := 47) dX7_readWinds_5 (by decide) (by omega) (by omega) (fun c5 => ?_) (fun c5 => ?_)
    · refine T_iconst (v := 1) dX7_readWinds_47 (by decide) ?_
      refine T_zret dX7_readWinds_48 rfl rfl (nb rfl) (nb rfl) ?_
      unfold WdQ
      rw [e]
      exact ⟨W, sI (bI_t (by decide)), rfl, hkn, Nat.le_refl _, fun j hj => (hW j hj).1⟩
    · exact absurd c5 (by omega)
  | succ r ih =>
    intro k hk hkn W hW
    obtain ⟨t2, ts, tw, tf, tc⟩ := tL_all (f := f) (n := n) (a := a + k) (w := w) (il := il) (hh := k) (nb := 0) (W := W) (F := F) hB
    by_cases q : f + (a + k) < f + n ∧ ¬ mWb (g (f + (a + k))) = -9
    · rcases mWb_N (g (f + (a + k))) with z | ⟨v, v2, v3⟩
      · exact absurd z q.2
      have hq1 := q.1
      obtain ⟨t22, ts2, tw2, -, -⟩ := tL_all (f := f) (n := n) (a := a + k + 1) (w := w) (il := il) (hh := k) (nb := 0) (W := W) (F := F) hB
      obtain ⟨-, ts3, -, -, -⟩ := tL_all (f := f) (n := n) (a := a + k + 1) (w := w) (il := il) (hh := k) (nb := 0) (W := upd W k (nI v)) (F := F) hB
      refine T_iload_n dX7_readWinds_2 rfl ?_
      refine T_bipush (v := nI 10) dX7_readWinds_3 (by decide) ?_
      refine T_icmp_geN (tgt := 47) dX7_readWinds_5 (by decide) (by omega) (by omega) (fun c5 => ?_) (fun c5 => ?_)
      · exact absurd c5 (by omega)
      · refine T_aload_n dX7_readWinds_8 rfl ?_
        refine T_v0e (cu2 := 0) (su2 := 0) dX7_readWinds_9 lv_X7_41 rfl t2 rfl (c_X7_windSignY t2 tc (by omega) hn (by omega) v3 v2) (nb rfl) (nb rfl) (nb rfl) (nb rfl) (nb rfl) ?_
        refine T_h (tL_2 hB) ?_
        refine T_istore_n dX7_readWinds_12 (by decide) rfl ?_
        refine T_iload_n dX7_readWinds_13 rfl ?_
        refine T_if_geN (tgt := 27) dX7_readWinds_14 (by decide) (by omega) (fun c14 => ?_) (fun c14 => ?_)
        · refine T_aload_n dX7_readWinds_27 rfl ?_
          refine T_get dX7_readWinds_28 fl_X7_45_1 ts2 rfl ?_
          refine T_iload_n dX7_readWinds_31 rfl ?_
          refine T_iload_n dX7_readWinds_32 rfl ?_
          refine T_iastN dX7_readWinds_33 tw2 (by omega) (by decide) ?_
          refine T_h (tL_wo hB) ?_
          refine T_aload_n dX7_readWinds_34 rfl ?_
          refine T_iload_n dX7_readWinds_35 rfl ?_
          refine T_iconst (v := nI 1) dX7_readWinds_36 (by decide) ?_
          refine T_iaddN dX7_readWinds_37 ?_
          refine T_put dX7_readWinds_38 fp_X7_48_1 ts3 (nb rfl) (fun _ => ⟨rfl, rfl⟩) ?_
          refine T_h (h2 := tL h c f n sp wo fl (a + (k + 1)) w il (k + 1) 0 (upd W k (nI v)) F) (tL_sp hB) ?_
          refine T_iincN dX7_readWinds_41 rfl (by decide) rfl ?_
          refine T_goto (tgt := 2) dX7_readWinds_44 (by decide) ?_
          refine T_pick [0, 1, 2] (ih (k + 1) (by omega) (by omega) _ (fun j hj => ?_))
          by_cases z : j = k
          · subst z
            refine ⟨⟨by rw [Nat.add_assoc]; exact q.2, ?_⟩, by omega⟩
            rw [upd_s, Nat.add_assoc]
            exact v3.symm
          · have := hW j (by omega)
            exact ⟨⟨this.1.1, by rw [upd_n z]; exact this.1.2⟩, this.2⟩
        · exact c14.elim
    · have e : wndP g (f + n) 10 (f + a) = k := by
        rw [wndP_s 10 (f + a) k (by omega) (fun j hj => ⟨(hW j hj).2, (hW j hj).1.1⟩), show 10 - k = r + 1 by omega, wndP, if_neg (by rw [Nat.add_assoc]; exact q)]
        omega
      refine T_iload_n dX7_readWinds_2 rfl ?_
      refine T_bipush (v := nI 10) dX7_readWinds_3 (by decide) ?_
      refine T_icmp_geN (tgt := 47) dX7_readWinds_5 (by decide) (by omega) (by omega) (fun c5 => ?_) (fun c5 => ?_)
      · exact absurd c5 (by omega)
      · refine T_aload_n dX7_readWinds_8 rfl ?_
        refine T_v0e (cu2 := 0) (su2 := 0) dX7_readWinds_9 lv_X7_41 rfl t2 rfl (c_X7_windSignN t2 tc (by omega) hn q) (nb rfl) (nb rfl) (nb rfl) (nb rfl) (nb rfl) ?_
        refine T_istore_n dX7_readWinds_12 (by decide) rfl ?_
        refine T_iload_n dX7_readWinds_13 rfl ?_
        refine T_if_ge (tgt := 27) dX7_readWinds_14 (by decide) (fun c14 => ?_) (fun c14 => ?_)
        · exact absurd c14 (by decide)
        · refine T_iload_n dX7_readWinds_17 rfl ?_
          refine T_if_leN (tgt := 25) dX7_readWinds_18 (by decide) (by omega) (fun c18 => ?_) (fun c18 => ?_)
          · refine T_iconst (v := 0) dX7_readWinds_25 (by decide) ?_
            refine T_zret dX7_readWinds_26 rfl rfl (nb rfl) (nb rfl) ?_
            unfold WdQ
            rw [e]
            exact ⟨W, sI (by first | exact bI_t (by omega) | exact bI_f (by omega)), rfl, hkn, by omega, fun j hj => (hW j hj).1⟩
          · refine T_iconst (v := 1) dX7_readWinds_21 (by decide) ?_
            refine T_goto (tgt := 26) dX7_readWinds_22 (by decide) ?_
            refine T_zret dX7_readWinds_26 rfl rfl (nb rfl) (nb rfl) ?_
            unfold WdQ
            rw [e]
            exact ⟨W, sI (by first | exact bI_t (by omega) | exact bI_f (by omega)), rfl, hkn, by omega, fun j hj => (hW j hj).1⟩
theorem c_X7_readWinds (hB : TxB h c sp wo fl g) (hn : f + n ≤ 60) (ha : a ≤ n) : Con M_X7_readWinds [.ref 2, .ref sp] (tL h c f n sp wo fl a w il 0 0 W F) (WdQ h c f n sp wo fl a w il g F) := by
  refine Con.of rfl (nb rfl) ?_
  refine T_iconst (v := nI 0) dX7_readWinds_0 (by decide) ?_
  refine T_istore_n dX7_readWinds_1 (by decide) rfl ?_
  exact lp_X7_readWinds hB hn 10 0 (by omega) (by omega) W (fun j hj => absurd hj (by omega))
/-! boats -/
/-- a boat into the fleet -/
theorem T_aast_b {M : XM} {E : XE} {Z : XZ} {cu su pc : Nat} {ls : List (Nat × Value)} {st : List Value} {h : XH} {fl b i : Nat} {F : Nat → Option Nat} {vs : List Value} {v : Nat} (hv2 : v ≤ 2) (hd : decode M.2.1 pc = .ok (.aastore, 1)) (hf : h[fl]? = some (flO F)) (hb : h[b]? = some (.inr (bC v, vs))) (hi : vp_in (nI i) 3) (kk : T M E Z cu su (pc + 1) ls st (h.set fl (flO (va_up F (nI i).toNatClampNeg (some b))))) : T M E Z cu su pc ls (.ref b :: .int (nI i) :: .ref fl :: st) h := by
  rcases k3 hv2 with rfl | rfl | rfl
  · exact T_aast hd (fun G => rfl) hf hb rfl (Or.inl rfl) hi kk
  · exact T_aast hd (fun G => rfl) hf hb rfl (Or.inr (List.mem_of_getElem? (i := 1) rfl)) hi kk
  · exact T_aast hd (fun G => rfl) hf hb rfl (Or.inr (List.mem_of_getElem? (i := 2) rfl)) hi kk
theorem tL_len : (tL h c f n sp wo fl a w il hh mb W F).length = h.length := by
  unfold tL
  simp only [List.length_set]
theorem TxB.push (hB : TxB h c sp wo fl g) (l : XH) : TxB (h ++ l) c sp wo fl g := by
  have k : ∀ {j : Nat} {x : XC}, h[j]? = some x → (h ++ l)[j]? = some x := fun q => by rw [List.getElem?_append_left (List.getElem?_eq_some_iff.mp q).1]; exact q
  obtain ⟨⟨x1, x2, x3, x4, h2⟩, ⟨y1, y2, y3, y4, hs⟩, ⟨W0, hw⟩, ⟨F0, hf⟩, hc⟩ := hB
  exact ⟨⟨x1, x2, x3, x4, k h2⟩, ⟨y1, y2, y3, y4, k hs⟩, ⟨W0, k hw⟩, ⟨F0, k hf⟩, k hc⟩
theorem tL_push (hB : TxB h c sp wo fl g) {l : XH} : tL h c f n sp wo fl a w il hh mb W F ++ l = tL (h ++ l) c f n sp wo fl a w il hh mb W F := by
  obtain ⟨⟨x1, x2, x3, x4, h2⟩, ⟨y1, y2, y3, y4, hs⟩, ⟨W0, hw⟩, ⟨F0, hf⟩, hc⟩ := hB
  have l2 := (List.getElem?_eq_some_iff.mp h2).1
  have ls := (List.getElem?_eq_some_iff.mp hs).1
  have lw := (List.getElem?_eq_some_iff.mp hw).1
  have lf := (List.getElem?_eq_some_iff.mp hf).1
  unfold tL
  rw [List.set_append_left _ _ l2, List.set_append_left _ _ (by rw [List.length_set]; exact ls), List.set_append_left _ _ (by rw [List.length_set, List.length_set]; exact lw), List.set_append_left _ _ (by rw [List.length_set, List.length_set, List.length_set]; exact lf)]
/-- the boat of a text whose comma stands at p -/
def btC (g : Nat → Int32) (p b : Nat) : XC := .inr (bC (kdV (g (p + 1))).toNatClampNeg, [.int (nI b), .int (g (p + 2) - 48), .int (g (p + 3) - 48)])
abbrev B1Q (h : XH) (c f n sp wo fl a w il hh mb b : Nat) (g W : Nat → Int32) (F : Nat → Option Nat) : Option Value → XH → Prop := fun q h' =>
  (sgP g (f + n) (f + a) 44 ∧ btK g (f + n) (f + a + 1) = 3 ∧ q = some (.int 1) ∧ a + 4 ≤ n ∧ h' = tL (h ++ [btC g (f + a) b]) c f n sp wo fl (a + 4) w il hh mb W (va_up F b (some h.length))) ∨
  (sgP g (f + n) (f + a) 44 ∧ ¬ btK g (f + n) (f + a + 1) = 3 ∧ q = some (.int 0) ∧ a + 1 + btK g (f + n) (f + a + 1) ≤ n ∧ h' = tL h c f n sp wo fl (a + 1 + btK g (f + n) (f + a + 1)) w il hh mb W F) ∨
  (¬ sgP g (f + n) (f + a) 44 ∧ q = some (.int 0) ∧ h' = tL h c f n sp wo fl a w il hh mb W F)
theorem c_X7_readBoat (hB : TxB h c sp wo fl g) (hn : f + n ≤ 60) (ha : a ≤ n) {b : Nat} (hb : b < 3) : Con M_X7_readBoat [.ref 2, .ref sp, .int (nI b)] (tL h c f n sp wo fl a w il hh mb W F) (B1Q h c f n sp wo fl a w il hh mb b g W F) := by
  have tt := fun a => tL_all (f := f) (n := n) (a := a) (w := w) (il := il) (hh := hh) (nb := mb) (W := W) (F := F) hB
  refine Con.of rfl (nb rfl) ?_
  by_cases q1 : sgP g (f + n) (f + a) 44
  · have hq1 := q1.1
    by_cases q2 : f + (a + 1) < f + n ∧ ¬ kdV (g (f + (a + 1))) = -9
    · have hq2 := q2.1
      rcases kdV_N (g (f + (a + 1))) with z | ⟨v, v2, v3⟩
      · exact absurd z q2.2
      by_cases q3 : dgP g (f + n) (f + (a + 1 + 1)) 0 1
      · have hq3 := q3.1
        obtain ⟨d, d1, d2, d3, d4⟩ := dig_I (by decide) (by decide) q3.2
        by_cases q4 : dgP g (f + n) (f + (a + 1 + 1 + 1)) 1 3
        · have hq4 := q4.1
          obtain ⟨e, e1, e2, e3, e4⟩ := dig_I (by decide) (by decide) q4.2
          have ek : btK g (f + n) (f + a + 1) = 3 := by
            unfold btK
            rw [if_pos (show f + a + 1 < f + n ∧ ¬ kdV (g (f + a + 1)) = -9 from q2), if_pos (show dgP g (f + n) (f + a + 1 + 1) 0 1 from q3), if_pos (show dgP g (f + n) (f + a + 1 + 2) 1 3 from q4)]
          have hb2 := hB.push [(Sum.inr (bC v, [.int (nI b), .int (nI d), .int (nI e)]) : XC)]
          refine T_aload_n dX7_readBoat_0 rfl ?_
          refine T_bipush (v := 44) dX7_readBoat_1 (by decide) ?_
          refine T_v1e (cu2 := 0) (su2 := 0) dX7_readBoat_3 lv_X7_25 rfl (tt a).1 rfl (c_X7_skipY (tt a).1 (tt a).2.2.2.2 ha hn q1) (nb rfl) (nb rfl) (nb rfl) (nb rfl) (nb rfl) ?_
          refine T_h (tL_2 hB) ?_
          refine T_if_neB (tgt := 11) dX7_readBoat_6 (by decide) (fun c6 => ?_) (fun c6 => ?_)
          · refine T_aload_n dX7_readBoat_11 rfl ?_
            refine T_v0e (cu2 := 0) (su2 := 0) dX7_readBoat_12 lv_X7_58 rfl (tt _).1 rfl (c_X7_kindLetterY (tt _).1 (tt _).2.2.2.2 (by omega) hn (by omega) v3 v2) (nb rfl) (nb rfl) (nb rfl) (nb rfl) (nb rfl) ?_
            refine T_h (tL_2 hB) ?_
            refine T_istore_n dX7_readBoat_15 (by decide) rfl ?_
            refine T_iload_n dX7_readBoat_16 rfl ?_
            refine T_if_geN (tgt := 22) dX7_readBoat_17 (by decide) (by omega) (fun c17 => ?_) (fun c17 => ?_)
            · refine T_aload_n dX7_readBoat_22 rfl ?_
              refine T_iconst (v := nI 0) dX7_readBoat_23 (by decide) ?_
              refine T_iconst (v := nI 1) dX7_readBoat_24 (by decide) ?_
              refine T_v2e (cu2 := 0) (su2 := 0) dX7_readBoat_25 lv_X7_29 rfl (tt _).1 rfl (c_X7_digitY (d := d) (tt _).1 (tt _).2.2.2.2 (by omega) hn (by decide) (by decide) (by omega) d3 d1 d2) (nb rfl) (nb rfl) (nb rfl) (nb rfl) (nb rfl) ?_
              refine T_h (tL_2 hB) ?_
              refine T_istore dX7_readBoat_28 (by decide) rfl ?_
              refine T_iload dX7_readBoat_30 rfl ?_
              refine T_if_geN (tgt := 37) dX7_readBoat_32 (by decide) (by omega) (fun c32 => ?_) (fun c32 => ?_)
              · refine T_aload_n dX7_readBoat_37 rfl ?_
                refine T_iconst (v := nI 1) dX7_readBoat_38 (by decide) ?_
                refine T_iconst (v := nI 3) dX7_readBoat_39 (by decide) ?_
                refine T_v2e (cu2 := 0) (su2 := 0) dX7_readBoat_40 lv_X7_29 rfl (tt _).1 rfl (c_X7_digitY (d := e) (tt _).1 (tt _).2.2.2.2 (by omega) hn (by decide) (by decide) (by omega) e3 e1 e2) (nb rfl) (nb rfl) (nb rfl) (nb rfl) (nb rfl) ?_
                refine T_h (tL_2 hB) ?_
                refine T_istore dX7_readBoat_43 (by decide) rfl ?_
                refine T_iload dX7_readBoat_45 rfl ?_
                refine T_if_geN (tgt := 52) dX7_readBoat_47 (by decide) (by omega) (fun c47 => ?_) (fun c47 => ?_)
                · refine T_aload_n dX7_readBoat_52 rfl ?_
                  refine T_get dX7_readBoat_53 fl_X7_61_1 (tt _).2.1 rfl ?_
                  refine T_iload_n dX7_readBoat_56 rfl ?_
                  refine T_iload_n dX7_readBoat_57 rfl ?_
                  refine T_iload_n dX7_readBoat_58 rfl ?_
                  refine T_iload dX7_readBoat_59 rfl ?_
                  refine T_iload dX7_readBoat_61 rfl ?_
                  refine T_s4e (cu2 := 1) (su2 := 3) dX7_readBoat_63 ls_X7_65 rfl (c_X11_newBoat v2 _ _ _) (nb rfl) (nb rfl) (nb rfl) (nb rfl) (nb rfl) ?_
                  refine T_h (tL_push hB) ?_
                  have hfl := (tL_all (f := f) (n := n) (a := a + 1 + 1 + 1 + 1) (w := w) (il := il) (hh := hh) (nb := mb) (W := W) (F := F) hb2).2.2.2.1
                  have hbt : (tL (h ++ [(Sum.inr (bC v, [.int (nI b), .int (nI d), .int (nI e)]) : XC)]) c f n sp wo fl (a + 1 + 1 + 1 + 1) w il hh mb W F)[(tL h c f n sp wo fl (a + 1 + 1 + 1 + 1) w il hh mb W F).length]? = some (Sum.inr (bC v, [.int (nI b), .int (nI d), .int (nI e)])) := by rw [← tL_push hB]; exact push_get
                  refine T_aast_b (v := v) v2 dX7_readBoat_66 hfl hbt (nI_in3 (Nat.le_refl 3) hb) ?_
                  refine T_h tL_fl ?_
                  refine T_iconst (v := 1) dX7_readBoat_67 (by decide) ?_
                  refine T_zret dX7_readBoat_68 rfl rfl (nb rfl) (nb rfl) ?_
                  refine Or.inl ⟨q1, ek, rfl, by omega, ?_⟩
                  have eb : btC g (f + a) b = (Sum.inr (bC v, [.int (nI b), .int (nI d), .int (nI e)]) : XC) := by
                    unfold btC
                    rw [show kdV (g (f + a + 1)) = nI v from v3, show g (f + a + 2) - 48 = nI d from d4, show g (f + a + 3) - 48 = nI e from e4, nI_clamp (by omega)]
                  rw [eb, nI_clamp (by omega), tL_len]
                · exact c47.elim
              · exact c32.elim
            · exact c17.elim
          · exact absurd q1 c6
        · have ek : btK g (f + n) (f + a + 1) = 2 := by
            unfold btK
            rw [if_pos (show f + a + 1 < f + n ∧ ¬ kdV (g (f + a + 1)) = -9 from q2), if_pos (show dgP g (f + n) (f + a + 1 + 1) 0 1 from q3), if_neg (show ¬ dgP g (f + n) (f + a + 1 + 2) 1 3 from q4)]
          refine T_aload_n dX7_readBoat_0 rfl ?_
          refine T_bipush (v := 44) dX7_readBoat_1 (by decide) ?_
          refine T_v1e (cu2 := 0) (su2 := 0) dX7_readBoat_3 lv_X7_25 rfl (tt a).1 rfl (c_X7_skipY (tt a).1 (tt a).2.2.2.2 ha hn q1) (nb rfl) (nb rfl) (nb rfl) (nb rfl) (nb rfl) ?_
          refine T_h (tL_2 hB) ?_
          refine T_if_neB (tgt := 11) dX7_readBoat_6 (by decide) (fun c6 => ?_) (fun c6 => ?_)
          · refine T_aload_n dX7_readBoat_11 rfl ?_
            refine T_v0e (cu2 := 0) (su2 := 0) dX7_readBoat_12 lv_X7_58 rfl (tt _).1 rfl (c_X7_kindLetterY (tt _).1 (tt _).2.2.2.2 (by omega) hn (by omega) v3 v2) (nb rfl) (nb rfl) (nb rfl) (nb rfl) (nb rfl) ?_
            refine T_h (tL_2 hB) ?_
            refine T_istore_n dX7_readBoat_15 (by decide) rfl ?_
            refine T_iload_n dX7_readBoat_16 rfl ?_
            refine T_if_geN (tgt := 22) dX7_readBoat_17 (by decide) (by omega) (fun c17 => ?_) (fun c17 => ?_)
            · refine T_aload_n dX7_readBoat_22 rfl ?_
              refine T_iconst (v := nI 0) dX7_readBoat_23 (by decide) ?_
              refine T_iconst (v := nI 1) dX7_readBoat_24 (by decide) ?_
              refine T_v2e (cu2 := 0) (su2 := 0) dX7_readBoat_25 lv_X7_29 rfl (tt _).1 rfl (c_X7_digitY (d := d) (tt _).1 (tt _).2.2.2.2 (by omega) hn (by decide) (by decide) (by omega) d3 d1 d2) (nb rfl) (nb rfl) (nb rfl) (nb rfl) (nb rfl) ?_
              refine T_h (tL_2 hB) ?_
              refine T_istore dX7_readBoat_28 (by decide) rfl ?_
              refine T_iload dX7_readBoat_30 rfl ?_
              refine T_if_geN (tgt := 37) dX7_readBoat_32 (by decide) (by omega) (fun c32 => ?_) (fun c32 => ?_)
              · refine T_aload_n dX7_readBoat_37 rfl ?_
                refine T_iconst (v := nI 1) dX7_readBoat_38 (by decide) ?_
                refine T_iconst (v := nI 3) dX7_readBoat_39 (by decide) ?_
                refine T_v2e (cu2 := 0) (su2 := 0) dX7_readBoat_40 lv_X7_29 rfl (tt _).1 rfl (c_X7_digitN (tt _).1 (tt _).2.2.2.2 (by omega) hn (by decide) (by decide) q4) (nb rfl) (nb rfl) (nb rfl) (nb rfl) (nb rfl) ?_
                refine T_istore dX7_readBoat_43 (by decide) rfl ?_
                refine T_iload dX7_readBoat_45 rfl ?_
                refine T_if_ge (tgt := 52) dX7_readBoat_47 (by decide) (fun c47 => ?_) (fun c47 => ?_)
                · exact absurd c47 (by decide)
                · refine T_iconst (v := 0) dX7_readBoat_50 (by decide) ?_
                  refine T_zret dX7_readBoat_51 rfl rfl (nb rfl) (nb rfl) ?_
                  exact Or.inr (Or.inl ⟨q1, by omega, rfl, by omega, by rw [ek]⟩)
              · exact c32.elim
            · exact c17.elim
          · exact absurd q1 c6
      · have ek : btK g (f + n) (f + a + 1) = 1 := by
          unfold btK
          rw [if_pos (show f + a + 1 < f + n ∧ ¬ kdV (g (f + a + 1)) = -9 from q2), if_neg (show ¬ dgP g (f + n) (f + a + 1 + 1) 0 1 from q3)]
        refine T_aload_n dX7_readBoat_0 rfl ?_
        refine T_bipush (v := 44) dX7_readBoat_1 (by decide) ?_
        refine T_v1e (cu2 := 0) (su2 := 0) dX7_readBoat_3 lv_X7_25 rfl (tt a).1 rfl (c_X7_skipY (tt a).1 (tt a).2.2.2.2 ha hn q1) (nb rfl) (nb rfl) (nb rfl) (nb rfl) (nb rfl) ?_
        refine T_h (tL_2 hB) ?_
        refine T_if_neB (tgt := 11) dX7_readBoat_6 (by decide) (fun c6 => ?_) (fun c6 => ?_)
        · refine T_aload_n dX7_readBoat_11 rfl ?_
          refine T_v0e (cu2 := 0) (su2 := 0) dX7_readBoat_12 lv_X7_58 rfl (tt _).1 rfl (c_X7_kindLetterY (tt _).1 (tt _).2.2.2.2 (by omega) hn (by omega) v3 v2) (nb rfl) (nb rfl) (nb rfl) (nb rfl) (nb rfl) ?_
          refine T_h (tL_2 hB) ?_
          refine T_istore_n dX7_readBoat_15 (by decide) rfl ?_
          refine T_iload_n dX7_readBoat_16 rfl ?_
          refine T_if_geN (tgt := 22) dX7_readBoat_17 (by decide) (by omega) (fun c17 => ?_) (fun c17 => ?_)
          · refine T_aload_n dX7_readBoat_22 rfl ?_
            refine T_iconst (v := nI 0) dX7_readBoat_23 (by decide) ?_
            refine T_iconst (v := nI 1) dX7_readBoat_24 (by decide) ?_
            refine T_v2e (cu2 := 0) (su2 := 0) dX7_readBoat_25 lv_X7_29 rfl (tt _).1 rfl (c_X7_digitN (tt _).1 (tt _).2.2.2.2 (by omega) hn (by decide) (by decide) q3) (nb rfl) (nb rfl) (nb rfl) (nb rfl) (nb rfl) ?_
            refine T_istore dX7_readBoat_28 (by decide) rfl ?_
            refine T_iload dX7_readBoat_30 rfl ?_
            refine T_if_ge (tgt := 37) dX7_readBoat_32 (by decide) (fun c32 => ?_) (fun c32 => ?_)
            · exact absurd c32 (by decide)
            · refine T_iconst (v := 0) dX7_readBoat_35 (by decide) ?_
              refine T_zret dX7_readBoat_36 rfl rfl (nb rfl) (nb rfl) ?_
              exact Or.inr (Or.inl ⟨q1, by omega, rfl, by omega, by rw [ek]⟩)
          · exact c17.elim
        · exact absurd q1 c6
    · have ek : btK g (f + n) (f + a + 1) = 0 := by
        unfold btK
        rw [if_neg (show ¬ (f + a + 1 < f + n ∧ ¬ kdV (g (f + a + 1)) = -9) from q2)]
      refine T_aload_n dX7_readBoat_0 rfl ?_
      refine T_bipush (v := 44) dX7_readBoat_1 (by decide) ?_
      refine T_v1e (cu2 := 0) (su2 := 0) dX7_readBoat_3 lv_X7_25 rfl (tt a).1 rfl (c_X7_skipY (tt a).1 (tt a).2.2.2.2 ha hn q1) (nb rfl) (nb rfl) (nb rfl) (nb rfl) (nb rfl) ?_
      refine T_h (tL_2 hB) ?_
      refine T_if_neB (tgt := 11) dX7_readBoat_6 (by decide) (fun c6 => ?_) (fun c6 => ?_)
      · refine T_aload_n dX7_readBoat_11 rfl ?_
        refine T_v0e (cu2 := 0) (su2 := 0) dX7_readBoat_12 lv_X7_58 rfl (tt _).1 rfl (c_X7_kindLetterN (tt _).1 (tt _).2.2.2.2 (by omega) hn q2) (nb rfl) (nb rfl) (nb rfl) (nb rfl) (nb rfl) ?_
        refine T_istore_n dX7_readBoat_15 (by decide) rfl ?_
        refine T_iload_n dX7_readBoat_16 rfl ?_
        refine T_if_ge (tgt := 22) dX7_readBoat_17 (by decide) (fun c17 => ?_) (fun c17 => ?_)
        · exact absurd c17 (by decide)
        · refine T_iconst (v := 0) dX7_readBoat_20 (by decide) ?_
          refine T_zret dX7_readBoat_21 rfl rfl (nb rfl) (nb rfl) ?_
          exact Or.inr (Or.inl ⟨q1, by omega, rfl, by omega, by rw [ek]⟩)
      · exact absurd q1 c6
  · refine T_aload_n dX7_readBoat_0 rfl ?_
    refine T_bipush (v := 44) dX7_readBoat_1 (by decide) ?_
    refine T_v1e (cu2 := 0) (su2 := 0) dX7_readBoat_3 lv_X7_25 rfl (tt a).1 rfl (c_X7_skipN (tt a).1 (tt a).2.2.2.2 ha hn q1) (nb rfl) (nb rfl) (nb rfl) (nb rfl) (nb rfl) ?_
    refine T_if_neB (tgt := 11) dX7_readBoat_6 (by decide) (fun c6 => ?_) (fun c6 => ?_)
    · exact absurd c6 q1
    · refine T_iconst (v := 0) dX7_readBoat_9 (by decide) ?_
      refine T_zret dX7_readBoat_10 rfl rfl (nb rfl) (nb rfl) ?_
      exact Or.inr (Or.inr ⟨q1, rfl, rfl⟩)
end C63
