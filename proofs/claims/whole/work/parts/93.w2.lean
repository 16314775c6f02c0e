/-! the law from its entry -/
section W3
variable {nm : String} {b L : Nat} {xs : Nat → Int32} {s : State} {args : Array Value}
theorem law_T (hL : L ≤ 384) : T (M_L_law nm) (lwE b L xs) lwZ 0 0 0 [(0, .float 0)] [] [] := by
  refine T_newO (a := 0) (cu2 := 1) (su2 := 12) dL_law_0 nw_L_7 rfl (nb rfl) (nb rfl) (nb rfl) (nb rfl) ?_
  refine T_dup dL_law_3 rfl ?_
  refine T_i0e (cu2 := 101) (su2 := 2012) dL_law_4 li_L_9 rfl c_X11_new (nb rfl) (nb rfl) (nb rfl) (nb rfl) (nb rfl) ?_
  refine T_astore_n dL_law_7 (nb rfl) rfl ?_
  refine T_newO (a := 67) (cu2 := 102) (su2 := 2044) dL_law_8 nw_L_10 rfl (nb rfl) (nb rfl) (nb rfl) (nb rfl) ?_
  refine T_dup dL_law_11 rfl ?_
  refine T_i0e (cu2 := 142) (su2 := 4044) dL_law_12 li_L_12 rfl (c_X12_new hX0_len) (nb rfl) (nb rfl) (nb rfl) (nb rfl) (nb rfl) ?_
  refine T_astore_n dL_law_15 (nb rfl) rfl ?_
  refine T_iconst (v := nI 0) dL_law_16 (by decide) ?_
  refine T_istore_n dL_law_17 (nb rfl) rfl ?_
  exact lp_law hL 64 0 142 4044 hX0 uZ [] ⟨hX0_len, sim_0.sim⟩ (by omega) (by omega) (by omega) (by omega)
theorem mem_t {i : Nat} {w : Cond} (h : tables_1[i]? = some w) : w ∈ lw_tbl := List.mem_append_right _ (List.mem_of_getElem? h)
theorem arr_i (h : (Cond.arrayClass .int).before args s = true) : ∃ cA, ArrOfT s cA .int ∧ va_RA s cA .int := by
  obtain ⟨c, k, comp, h1, h2, h3⟩ := Cond.arrayClass_spec h
  exact ⟨c, fun n z => ⟨fun k h => (by cases h), k, h2, comp, h3⟩, h1⟩
theorem arr_l (h : (Cond.arrayClass .long).before args s = true) : ∃ cA, ArrOfT s cA .long ∧ va_RA s cA .long := by
  obtain ⟨c, k, comp, h1, h2, h3⟩ := Cond.arrayClass_spec h
  exact ⟨c, fun n z => ⟨fun k h => (by cases h), k, h2, comp, h3⟩, h1⟩
theorem arr_z (h : (Cond.arrayClass .boolean).before args s = true) : ∃ cA, ArrOfT s cA .boolean ∧ va_RA s cA .boolean := by
  obtain ⟨c, k, comp, h1, h2, h3⟩ := Cond.arrayClass_spec h
  exact ⟨c, fun n z => ⟨fun k h => (by cases h), k, h2, comp, h3⟩, h1⟩
theorem arr_o {C : String} (h : (Cond.arrayOver (.object C)).before args s = true) : ∃ cA, ArrOfT s cA (.object C) ∧ va_RA s cA (.object C) := by
  obtain ⟨comp, c, k, h1, h2, h3, h4, h5⟩ := Cond.arrayOver_spec h
  exact ⟨c, fun n z => ⟨fun k h => (by cases h), k, h3, comp, h4⟩, k, comp, h3, h4, h1, h5⟩
theorem known (hts : ∀ w ∈ lw_tbl, w.before args s = true) (hgv : (Jvm.Cond.and given_1 narrow_1).before args s = true) : ∃ (aC : Nat → ClassId) (D : va_G), ∀ n b : Nat, x_K (n, (b, (aC, D))) s := by
  have hgw : ∀ w ∈ x_gw, w.before args s = true := fun w hw => hts w (List.mem_filter.mp hw).1
  obtain ⟨c0, i0, k0⟩ := u_known (C := RX0) (T := TX0) (N := 3) (n := 3) hgw uw_0 (hts (.instantiable RX0 3) (mem_t (i := 177) (by decide +kernel)))
  obtain ⟨c1, i1, k1⟩ := u_known (C := RX1) (T := TX1) (N := 6) (n := 6) hgw uw_1 (hts (.instantiable RX1 6) (mem_t (i := 170) (by decide +kernel)))
  obtain ⟨c2, i2, k2⟩ := u_known (C := RX2) (T := TX2) (N := 3) (n := 3) hgw uw_2 (hts (.instantiable RX2 3) (mem_t (i := 371) (by decide +kernel)))
  obtain ⟨c3, i3, k3⟩ := u_known (C := RX3) (T := TX3) (N := 4) (n := 4) hgw uw_3 (hts (.instantiable RX3 4) (mem_t (i := 49) (by decide +kernel)))
  obtain ⟨c4, i4, k4⟩ := u_known (C := RX4) (T := TX4) (N := 13) (n := 13) hgw uw_4 (hts (.instantiable RX4 13) (mem_t (i := 93) (by decide +kernel)))
  obtain ⟨c5, i5, k5⟩ := u_known (C := RX5) (T := TX5) (N := 3) (n := 3) hgw uw_5 (hts (.instantiable RX5 3) (mem_t (i := 240) (by decide +kernel)))
  obtain ⟨c6, i6, k6⟩ := u_known (C := RX6) (T := TX6) (N := 2) (n := 2) hgw uw_6 (hts (.instantiable RX6 2) (mem_t (i := 101) (by decide +kernel)))
  obtain ⟨c7, i7, k7⟩ := u_known (C := RX7) (T := TX7) (N := 4) (n := 4) hgw uw_7 (hts (.instantiable RX7 4) (mem_t (i := 28) (by decide +kernel)))
  obtain ⟨c8, i8, k8⟩ := u_known (C := RX8) (T := TX8) (N := 3) (n := 3) hgw uw_8 (hts (.instantiable RX8 3) (mem_t (i := 381) (by decide +kernel)))
  obtain ⟨c9, i9, k9⟩ := u_known (C := RX9) (T := TX9) (N := 1) (n := 1) hgw uw_9 (hts (.instantiable RX9 1) (mem_t (i := 159) (by decide +kernel)))
  obtain ⟨c10, i10, k10⟩ := u_known (C := RX10) (T := TX10) (N := 4) (n := 4) hgw uw_10 (hts (.instantiable RX10 4) (mem_t (i := 69) (by decide +kernel)))
  obtain ⟨c11, i11, k11⟩ := u_known (C := RX11) (T := TX11) (N := 12) (n := 12) hgw uw_11 (hts (.instantiable RX11 12) (mem_t (i := 18) (by decide +kernel)))
  obtain ⟨c12, i12, k12⟩ := u_known (C := RX12) (T := TX12) (N := 32) (n := 32) hgw uw_12 (hts (.instantiable RX12 32) (mem_t (i := 800) (by decide +kernel)))
  obtain ⟨a0, ha0⟩ := arr_i (hts (.arrayClass .int) (mem_t (i := 47) (by decide +kernel)))
  obtain ⟨a1, ha1⟩ := arr_l (hts (.arrayClass .long) (mem_t (i := 115) (by decide +kernel)))
  obtain ⟨a2, ha2⟩ := arr_z (hts (.arrayClass .boolean) (mem_t (i := 902) (by decide +kernel)))
  have o5 := hts (.arrayOver (.object RX5)) (mem_t (i := 26) (by decide +kernel))
  have o0 := hts (.arrayOver (.object RX0)) (mem_t (i := 176) (by decide +kernel))
  have o6 := hts (.arrayOver (.object RX6)) (mem_t (i := 116) (by decide +kernel))
  obtain ⟨a3, ha3⟩ := arr_o o5
  obtain ⟨a4, ha4⟩ := arr_o o0
  obtain ⟨a5, ha5⟩ := arr_o o6
  have fb := flat_of_before _ hgv
  refine ⟨fun k => match k with | 0 => a0 | 1 => a1 | 2 => a2 | 3 => a3 | 4 => a4 | _ => a5, (fun k => match k with | 0 => c0 | 1 => c1 | 2 => c2 | 3 => c3 | 4 => c4 | 5 => c5 | 6 => c6 | 7 => c7 | 8 => c8 | 9 => c9 | 10 => c10 | 11 => c11 | _ => c12, fun k => match k with | 0 => i0 | 1 => i1 | 2 => i2 | 3 => i3 | 4 => i4 | 5 => i5 | 6 => i6 | 7 => i7 | 8 => i8 | 9 => i9 | 10 => i10 | 11 => i11 | _ => i12), fun n b => ⟨⟨fun c q hq => ?_, fun k q hq => ?_⟩, va_Nc.of (fb (.not (.castable RX0 RX2)) (by decide +kernel)), va_Nc.of (fb (.not (.castable RX0 RX8)) (by decide +kernel)), va_Nc.of (fb (.not (.castable RX2 RX8)) (by decide +kernel)), fun q hq => ?_, fun q hq => ?_, va_Nw.of rfl (hts (.declares yX0_tellingOfBoat) (mem_t (i := 760) (by decide +kernel))), va_AO.of o5, va_AO.of o0, va_AO.of o6⟩⟩
  · match c, hq with
    | 0, hq => cases hq; exact k0
    | 1, hq => cases hq; exact k1
    | 2, hq => cases hq; exact k2
    | 3, hq => cases hq; exact k3
    | 4, hq => cases hq; exact k4
    | 5, hq => cases hq; exact k5
    | 6, hq => cases hq; exact k6
    | 7, hq => cases hq; exact k7
    | 8, hq => cases hq; exact k8
    | 9, hq => cases hq; exact k9
    | 10, hq => cases hq; exact k10
    | 11, hq => cases hq; exact k11
    | 12, hq => cases hq; exact k12
    | k + 13, hq => simp [vwCl] at hq
  · match k, hq with
    | 0, hq => cases hq; exact ha0
    | 1, hq => cases hq; exact ha1
    | 2, hq => cases hq; exact ha2
    | 3, hq => cases hq; exact ha3
    | 4, hq => cases hq; exact ha4
    | 5, hq => cases hq; exact ha5
    | k + 6, hq => simp [x_tys] at hq
  · obtain ⟨i, hi⟩ := List.getElem?_of_mem hq
    match i, hi with
    | 0, hi => cases hi; exact va_Nw.of rfl (hts (.methodLinkNest RX11 19 yX7_init RX11) (mem_t (i := 29) (by decide +kernel)))
    | 1, hi => cases hi; exact va_Nw.of rfl (hts (.methodLinkNest RX11 26 yX3_init RX11) (mem_t (i := 50) (by decide +kernel)))
    | 2, hi => cases hi; exact va_Nw.of rfl (hts (.methodLinkNest RX11 33 yX10_init RX11) (mem_t (i := 70) (by decide +kernel)))
    | 3, hi => cases hi; exact va_Nw.of rfl (hts (.methodLinkNest RX4 41 yX10_init RX11) (mem_t (i := 99) (by decide +kernel)))
    | 4, hi => cases hi; exact va_Nw.of rfl (hts (.methodLinkNest RX4 48 yX6_init RX11) (mem_t (i := 102) (by decide +kernel)))
    | 5, hi => cases hi; exact va_Nw.of rfl (hts (.methodLinkNest RX11 47 yX9_init RX11) (mem_t (i := 160) (by decide +kernel)))
    | 6, hi => cases hi; exact va_Nw.of rfl (hts (.methodLinkNest RX11 76 yX5_init RX11) (mem_t (i := 241) (by decide +kernel)))
    | 7, hi => cases hi; exact va_Nw.of rfl (hts (.methodLinkNest RX7 65 yX11_newBoat RX11) (mem_t (i := 367) (by decide +kernel)))
    | k + 8, hi => simp [x_nst] at hi
  · obtain ⟨i, hi⟩ := List.getElem?_of_mem hq
    match i, hi with
    | 0, hi => cases hi; exact va_Nw.of rfl (hts (.castable RX8 RX2) (mem_t (i := 1155) (by decide +kernel)))
    | 1, hi => cases hi; exact va_Nw.of rfl (hts (.castable RX2 RX0) (mem_t (i := 1156) (by decide +kernel)))
    | 2, hi => cases hi; exact va_Nw.of rfl (hts (.castable RX8 RX0) (mem_t (i := 1157) (by decide +kernel)))
    | k + 3, hi => simp [x_cst] at hi
theorem whole_start {p : Program} {e : Env} {s : State} {m : MethodId} {below : List Frame} {meth : Method} {c : Code} (l : Launch) {b L : Nat} {xs : Nat → Int32} (hL : L ≤ 384) (C0 : lw_At p s m meth c b L xs) : W p l e room_1 s m #[Value.ref b] below meth c s.heap [] 0 0 (lw_Z below #[Value.ref b] s) (entryFrame m ([Value.ref b] : List Value).toArray 4) := by
  obtain ⟨hx, hb, hr, hml, hown, hts, hX, hbl, hlocks, hgv⟩ := id C0
  obtain ⟨aC, D, hK⟩ := known hts hgv
  have hl := lv_entry ([.ref b]) (n := 4) (Nat.le_of_ble_eq_true rfl)
  rw [lg_entry_eq]
  exact law_T (nm := meth.name) (b := b) (xs := xs) hL p l e (s.heap.size, (b, (aC, D))) s m #[Value.ref b] below meth c s.heap [] _ ⟨hx, hb, hr, hml, hown, fun w hw => hts w (List.mem_filter.mp hw).1, hlocks, rfl, hK _ _, Nat.le_refl _⟩ ⟨rfl, hX, hbl, rfl⟩ ⟨rfl, fun k q h => by simp [x_W] at h⟩ va_S.rf hl
end W3
