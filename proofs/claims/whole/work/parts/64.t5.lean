/-! Text: all boats -/
section C64
variable {h : XH} {Z : XZ} {g : Nat → Int32} {a c f n sp wo fl w il hh mb : Nat} {W : Nat → Int32} {F : Nat → Option Nat}
/-- the boats that have been read, as cells, and in the fleet -/
def BtL (h : XH) (g : Nat → Int32) (p : Nat) (b : Nat) (bs : XH) (F : Nat → Option Nat) : Prop := bs.length = b ∧ ∀ j, j < b → bs[j]? = some (btC g (p + 4 * j) j) ∧ F j = some (h.length + j)
abbrev BbQ (h : XH) (c f n sp wo fl a w il hh : Nat) (g W : Nat → Int32) : Option Value → XH → Prop := fun q h' => ∃ bs F mb, q = some (.int (bI ((btsP g (f + n) 3 0 (f + a)).2.2 = true))) ∧ h' = tL (h ++ bs) c f n sp wo fl ((btsP g (f + n) 3 0 (f + a)).2.1 - f) w il hh mb W F ∧ f ≤ (btsP g (f + n) 3 0 (f + a)).2.1 ∧ (btsP g (f + n) 3 0 (f + a)).2.1 ≤ f + n ∧ ((btsP g (f + n) 3 0 (f + a)).2.2 = true → mb = (btsP g (f + n) 3 0 (f + a)).1 ∧ 1 ≤ mb ∧ mb ≤ 3 ∧ BtL h g (f + a) mb bs F ∧ ∀ j, j < mb → btK g (f + n) (f + a + 4 * j + 1) = 3)
theorem lp_X7_readBoats (hB : TxB h c sp wo fl g) (hn : f + n ≤ 60) (a0 : Nat) :
    ∀ r b, b + r = 3 → a0 + 4 * b ≤ n → ∀ bs F, BtL h g (f + a0) b bs F → (∀ j, j < b → btK g (f + n) (f + a0 + 4 * j + 1) = 3) → btsP g (f + n) 3 0 (f + a0) = btsP g (f + n) r b (f + a0 + 4 * b) →
    T M_X7_readBoats x_E (x_Z M_X7_readBoats (BbQ h c f n sp wo fl a0 w il hh g W)) b (3 * b) 2 [(0, .ref 2), (1, .ref sp), (2, .int (nI b))] [] (tL (h ++ bs) c f n sp wo fl (a0 + 4 * b) w il hh b W F) := by
  intro r
  induction r with
  | zero =>
    intro b hb hbn bs F hL hK e
    obtain rfl : b = 3 := by omega
    have e2 : btsP g (f + n) 3 0 (f + a0) = (3, (f + a0 + 12, decide (f + a0 + 12 = f + n))) := e
    obtain ⟨t2, ts, -, -, -⟩ := tL_all (f := f) (n := n) (a := a0 + 4 * 3) (w := w) (il := il) (hh := hh) (nb := 3) (W := W) (F := F) (hB.push bs)
    refine T_iload_n dX7_readBoats_2 rfl ?_
    refine T_iconst (v := nI 3) dX7_readBoats_3 (by decide) ?_
    refine T_icmp_geN (tgt := 48) dX7_readBoats_4 (by decide) (by omega) (by omega) (fun c4 => ?_) (fun c4 => ?_)
    · refine T_aload_n dX7_readBoats_48 rfl ?_
      refine T_get dX7_readBoats_49 fl_X7_9_7 t2 rfl ?_
      refine T_aload_n dX7_readBoats_52 rfl ?_
      refine T_get dX7_readBoats_53 fl_X7_22_7 t2 rfl ?_
      refine T_icmp_neN (tgt := 63) dX7_readBoats_56 (by decide) (by omega) (by omega) (fun c56 => ?_) (fun c56 => ?_)
      · refine T_iconst (v := 0) dX7_readBoats_63 (by decide) ?_
        refine T_zret dX7_readBoats_64 rfl rfl (nb rfl) (nb rfl) ?_
        unfold BbQ
        rw [e2]
        refine ⟨bs, F, 3, sI (by first | exact bI_t (decide_eq_true (by omega)) | exact bI_f (fun q => absurd (of_decide_eq_true q) (by omega))), by rw [show (3, (f + a0 + 12, decide (f + a0 + 12 = f + n))).2.1 - f = a0 + 4 * 3 by show f + a0 + 12 - f = _; omega], by show f ≤ f + a0 + 12; omega, by show f + a0 + 12 ≤ f + n; omega, fun _ => ⟨rfl, by decide, by decide, hL, hK⟩⟩
      · refine T_iconst (v := 1) dX7_readBoats_59 (by decide) ?_
        refine T_goto (tgt := 64) dX7_readBoats_60 (by decide) ?_
        refine T_zret dX7_readBoats_64 rfl rfl (nb rfl) (nb rfl) ?_
        unfold BbQ
        rw [e2]
        refine ⟨bs, F, 3, sI (by first | exact bI_t (decide_eq_true (by omega)) | exact bI_f (fun q => absurd (of_decide_eq_true q) (by omega))), by rw [show (3, (f + a0 + 12, decide (f + a0 + 12 = f + n))).2.1 - f = a0 + 4 * 3 by show f + a0 + 12 - f = _; omega], by show f ≤ f + a0 + 12; omega, by show f + a0 + 12 ≤ f + n; omega, fun _ => ⟨rfl, by decide, by decide, hL, hK⟩⟩
    · exact absurd c4 (by omega)
  | succ r ih =>
    intro b hb hbn bs F hL hK e
    have hcu : b ≤ M_X7_readBoats.2.2.2.2.cells := by show b ≤ 3; omega
    have hsu : 3 * b ≤ M_X7_readBoats.2.2.2.2.slots := by show 3 * b ≤ 9; omega
    have hcu1 : b + 1 ≤ M_X7_readBoats.2.2.2.2.cells := by show b + 1 ≤ 3; omega
    have hsu1 : 3 * b + 3 ≤ M_X7_readBoats.2.2.2.2.slots := by show 3 * b + 3 ≤ 9; omega
    have hc1 : b + M_X7_readBoat.2.2.2.2.cells ≤ b + 1 := Nat.le_refl _
    have hs1 : 3 * b + M_X7_readBoat.2.2.2.2.slots ≤ 3 * b + 3 := Nat.le_refl _
    obtain ⟨t2, ts, -, -, -⟩ := tL_all (f := f) (n := n) (a := a0 + 4 * b) (w := w) (il := il) (hh := hh) (nb := b) (W := W) (F := F) (hB.push bs)
    have e3 : ∀ x, btsP g (f + n) (r + 1) b x = (if b = 0 ∨ x < f + n then (if sgP g (f + n) x 44 then (if btK g (f + n) (x + 1) = 3 then btsP g (f + n) r (b + 1) (x + 4) else (b, (x + 1 + btK g (f + n) (x + 1), false))) else (b, (x, false))) else (b, (x, decide (x = f + n)))) := fun _ => rfl
    rw [e3] at e
    by_cases q1 : b = 0 ∨ f + a0 + 4 * b < f + n
    · rw [if_pos q1] at e
      have K24 : T M_X7_readBoats x_E (x_Z M_X7_readBoats (BbQ h c f n sp wo fl a0 w il hh g W)) b (3 * b) 24 [(0, .ref 2), (1, .ref sp), (2, .int (nI b))] [] (tL (h ++ bs) c f n sp wo fl (a0 + 4 * b) w il hh b W F) := by
        refine T_aload_n dX7_readBoats_24 rfl ?_
        refine T_aload_n dX7_readBoats_25 rfl ?_
        refine T_iload_n dX7_readBoats_26 rfl ?_
        refine T_v2q (cu2 := (b+1)) (su2 := (3*b+3)) dX7_readBoats_27 lv_X7_51 rfl t2 rfl (c_X7_readBoat (hB.push bs) hn hbn (by omega)) (nb rfl) hc1 hs1 hcu1 hsu1 (fun r27 h27 q27 => ?_)
        rcases q27 with ⟨y1, y2, rfl, y3, rfl⟩ | ⟨y1, y2, rfl, y3, rfl⟩ | ⟨y1, rfl, rfl⟩
        · obtain ⟨-, us, -, -, -⟩ := tL_all (f := f) (n := n) (a := a0 + 4 * b + 4) (w := w) (il := il) (hh := hh) (nb := b) (W := W) (F := va_up F b (some (h ++ bs).length)) ((hB.push bs).push [btC g (f + (a0 + 4 * b)) b])
          refine T_if_ne (tgt := 35) dX7_readBoats_30 (by decide) (fun _ => ?_) (fun q => absurd q (by decide))
          refine T_aload_n dX7_readBoats_35 rfl ?_
          refine T_iload_n dX7_readBoats_36 rfl ?_
          refine T_iconst (v := nI 1) dX7_readBoats_37 (by decide) ?_
          refine T_iaddN dX7_readBoats_38 ?_
          refine T_put dX7_readBoats_39 fp_X7_55_1 us (nb rfl) (fun _ => ⟨rfl, rfl⟩) ?_
          refine T_iincN dX7_readBoats_42 rfl (by decide) rfl ?_
          refine T_goto (tgt := 2) dX7_readBoats_45 (by decide) ?_
          refine T_h (h2 := tL (h ++ (bs ++ [btC g (f + a0 + 4 * b) b])) c f n sp wo fl (a0 + 4 * (b + 1)) w il hh (b + 1) W (va_up F b (some (h ++ bs).length))) ?_ ?_
          · rw [← Nat.add_assoc, ← List.append_assoc]
            exact tL_sp ((hB.push bs).push _)
          · refine ih (b + 1) (by omega) (by omega) _ _ ⟨by rw [List.length_append, hL.1]; rfl, fun j hj => ?_⟩ (fun j hj => ?_) ?_
            · by_cases z : j = b
              · subst z
                rw [va_up_self, List.length_append, hL.1]
                refine ⟨?_, rfl⟩
                have := push_get (h := bs) (a := btC g (f + a0 + 4 * j) j)
                rw [hL.1] at this
                exact this
              · have hj2 : j < b := by omega
                rw [va_up_ne _ _ z, List.getElem?_append_left (by rw [hL.1]; exact hj2)]
                exact hL.2 j hj2
            · by_cases z : j = b
              · subst z
                rw [show f + a0 + 4 * j + 1 = f + (a0 + 4 * j) + 1 by omega]; exact y2
              · exact hK j (by omega)
            · rw [e, if_pos (by rw [Nat.add_assoc]; exact y1), if_pos (by rw [show f + a0 + 4 * b + 1 = f + (a0 + 4 * b) + 1 by omega]; exact y2)]
              rfl
        · have er : btsP g (f + n) 3 0 (f + a0) = (b, (f + a0 + 4 * b + 1 + btK g (f + n) (f + a0 + 4 * b + 1), false)) := by
            rw [e, if_pos (by rw [Nat.add_assoc]; exact y1), if_neg (by rw [show f + a0 + 4 * b + 1 = f + (a0 + 4 * b) + 1 by omega]; exact y2)]
          refine T_if_ne (tgt := 35) dX7_readBoats_30 (by decide) (fun q => absurd rfl q) (fun _ => ?_)
          refine T_iconst (v := 0) dX7_readBoats_33 (by decide) ?_
          refine T_zret dX7_readBoats_34 rfl rfl hcu1 hsu1 ?_
          unfold BbQ
          rw [er]
          have ep : f + (a0 + 4 * b) + 1 = f + a0 + 4 * b + 1 := by omega
          rw [ep] at y3 ⊢
          exact ⟨bs, F, b, rfl, by rw [show f + a0 + 4 * b + 1 + btK g (f + n) (f + a0 + 4 * b + 1) - f = a0 + 4 * b + 1 + btK g (f + n) (f + a0 + 4 * b + 1) by omega], by show f ≤ f + a0 + 4 * b + 1 + _; omega, by show f + a0 + 4 * b + 1 + _ ≤ f + n; omega, fun q => (by cases q)⟩
        · have er : btsP g (f + n) 3 0 (f + a0) = (b, (f + a0 + 4 * b, false)) := by
            rw [e, if_neg (by rw [Nat.add_assoc]; exact y1)]
          refine T_if_ne (tgt := 35) dX7_readBoats_30 (by decide) (fun q => absurd rfl q) (fun _ => ?_)
          refine T_iconst (v := 0) dX7_readBoats_33 (by decide) ?_
          refine T_zret dX7_readBoats_34 rfl rfl hcu1 hsu1 ?_
          unfold BbQ
          rw [er]
          exact ⟨bs, F, b, rfl, by rw [show f + a0 + 4 * b - f = a0 + 4 * b by omega], by show f ≤ f + a0 + 4 * b; omega, by show f + a0 + 4 * b ≤ f + n; omega, fun q => (by cases q)⟩
        skip
      refine T_iload_n dX7_readBoats_2 rfl ?_
      refine T_iconst (v := nI 3) dX7_readBoats_3 (by decide) ?_
      refine T_icmp_geN (tgt := 48) dX7_readBoats_4 (by decide) (by omega) (by omega) (fun c4 => ?_) (fun c4 => ?_)
      · exact absurd c4 (by omega)
      · refine T_iload_n dX7_readBoats_7 rfl ?_
        refine T_if_leN (tgt := 24) dX7_readBoats_8 (by decide) (by omega) (fun c8 => ?_) (fun c8 => ?_)
        · exact K24
        · refine T_aload_n dX7_readBoats_11 rfl ?_
          refine T_get dX7_readBoats_12 fl_X7_9_7 t2 rfl ?_
          refine T_aload_n dX7_readBoats_15 rfl ?_
          refine T_get dX7_readBoats_16 fl_X7_22_7 t2 rfl ?_
          refine T_icmp_neN (tgt := 24) dX7_readBoats_19 (by decide) (by omega) (by omega) (fun c19 => ?_) (fun c19 => ?_)
          · exact K24
          · exact absurd c19 (by omega)
    · rw [if_neg q1] at e
      refine T_iload_n dX7_readBoats_2 rfl ?_
      refine T_iconst (v := nI 3) dX7_readBoats_3 (by decide) ?_
      refine T_icmp_geN (tgt := 48) dX7_readBoats_4 (by decide) (by omega) (by omega) (fun c4 => ?_) (fun c4 => ?_)
      · exact absurd c4 (by omega)
      · refine T_iload_n dX7_readBoats_7 rfl ?_
        refine T_if_leN (tgt := 24) dX7_readBoats_8 (by decide) (by omega) (fun c8 => ?_) (fun c8 => ?_)
        · exact absurd c8 (by omega)
        · refine T_aload_n dX7_readBoats_11 rfl ?_
          refine T_get dX7_readBoats_12 fl_X7_9_7 t2 rfl ?_
          refine T_aload_n dX7_readBoats_15 rfl ?_
          refine T_get dX7_readBoats_16 fl_X7_22_7 t2 rfl ?_
          refine T_icmp_neN (tgt := 24) dX7_readBoats_19 (by decide) (by omega) (by omega) (fun c19 => ?_) (fun c19 => ?_)
          · exact absurd c19 (by omega)
          · refine T_iconst (v := 1) dX7_readBoats_22 (by decide) ?_
            refine T_zret dX7_readBoats_23 rfl rfl hcu hsu ?_
            unfold BbQ
            rw [e]
            exact ⟨bs, F, b, sI (bI_t (decide_eq_true (by omega))), by rw [show (b, (f + a0 + 4 * b, decide (f + a0 + 4 * b = f + n))).2.1 - f = a0 + 4 * b by show f + a0 + 4 * b - f = _; omega], by show f ≤ f + a0 + 4 * b; omega, by show f + a0 + 4 * b ≤ f + n; omega, fun _ => ⟨rfl, by omega, by omega, hL, hK⟩⟩
theorem c_X7_readBoats (hB : TxB h c sp wo fl g) (hn : f + n ≤ 60) (ha : a ≤ n) : Con M_X7_readBoats [.ref 2, .ref sp] (tL h c f n sp wo fl a w il hh 0 W F) (BbQ h c f n sp wo fl a w il hh g W) := by
  refine Con.of rfl (nb rfl) ?_
  refine T_h (h2 := tL (h ++ []) c f n sp wo fl a w il hh 0 W F) (by rw [List.append_nil]) ?_
  refine T_iconst (v := nI 0) dX7_readBoats_0 (by decide) ?_
  refine T_istore_n dX7_readBoats_1 (by decide) rfl ?_
  exact lp_X7_readBoats hB hn a 3 0 (by omega) (by omega) [] F ⟨rfl, fun j hj => absurd hj (by omega)⟩ (fun j hj => absurd hj (by omega)) rfl
end C64
