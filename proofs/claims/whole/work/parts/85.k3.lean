/-! the constructors -/
section K3
variable {M : XM} {E : XE} {Z : XZ} {cu su pc : Nat} {ls : List (Nat × Value)} {st : List Value} {h A : XH}
theorem T_newO {idx ci N a cu2 su2 : Nat} {fs : List Value} (hd : decode M.2.1 pc = .ok (.new idx, 3)) (hN : x_NW M.1.cls idx ci N fs) (hl : h.length = a) (h1 : cu + 1 ≤ cu2) (h2 : su + N ≤ su2) (h3 : cu2 ≤ M.2.2.2.2.cells) (h4 : su2 ≤ M.2.2.2.2.slots) (kk : T M E Z cu2 su2 (pc + 3) ls (.ref a :: st) (h ++ [.inr (ci, fs)])) : T M E Z cu su pc ls st h := by
  subst hl
  exact T_new hd hN h1 h2 h3 h4 kk
theorem T_newR {t idx N a cu2 su2 : Nat} {C0 : String} (hd : decode M.2.1 pc = .ok (.anewarray idx, 3)) (hcl : Cond.classLink M.1.cls idx C0 ∈ x_gw) (hov : ∀ U : State, x_X U → va_AO C0 U) (ht : ∀ G : XG, (x_tys G)[t]? = some (G.2.2.1 t, .object C0)) (hl : h.length = a) (hb : N < 100000) (h1 : cu + 1 ≤ cu2) (h2 : su + N ≤ su2) (h3 : cu2 ≤ M.2.2.2.2.cells) (h4 : su2 ≤ M.2.2.2.2.slots) (kk : T M E Z cu2 su2 (pc + 3) ls (.ref a :: st) (h ++ [.inl (t, N, .inr (.inr (fun _ => none)))])) : T M E Z cu su pc ls (.int (nI N) :: st) h := by
  subst hl
  exact T_newq hd hcl hov ht (nI_lt0 _ (by omega)) (nI_clamp (by omega)) (by omega) h1 h2 h3 h4 kk
theorem T_aastN {t a n v ci j : Nat} {f : Nat → Option Nat} {C0 E0 : String} {F : u_T} {N : Nat} {vs : List Value} (hd : decode M.2.1 pc = .ok (.aastore, 1)) (ht : ∀ G : XG, (x_tys G)[t]? = some (G.2.2.1 t, .object E0)) (ha : h[a]? = some (.inl (t, n, .inr (.inr f)))) (hv : h[v]? = some (.inr (ci, vs))) (hc : vwCl[ci]? = some (C0, F, N)) (hca : C0 = E0 ∨ (C0, E0) ∈ x_cst) (hj : j < n) (hn : n < 2 ^ 31)
    (kk : T M E Z cu su (pc + 1) ls st (h.set a (.inl (t, n, .inr (.inr (va_up f j (some v))))))) : T M E Z cu su pc ls (.ref v :: .int (nI j) :: .ref a :: st) h :=
  T_aast hd ht ha hv hc hca (nI_in hj hn) (by rw [nI_clamp (by omega)]; exact kk)
def k6 : XC := .inr (6, [.long 0, .long 0])
def k250 : XC := .inl (1, 250, .inr (.inl (fun _ => 0)))
def k0i : XC := .inl (0, 0, .inl (fun _ => 0))
def k3i : XC := .inl (0, 3, .inl (fun _ => 0))
def k4i : XC := .inl (0, 4, .inl (fun _ => 0))
def k8i : XC := .inl (0, 8, .inl (fun _ => 0))
def k10i : XC := .inl (0, 10, .inl (fun _ => 0))
def k60i : XC := .inl (0, 60, .inl (fun _ => 0))
def k125i : XC := .inl (0, 125, .inl (fun _ => 0))
def k5i : XC := .inl (0, 5, .inl (fun _ => 0))
def k9i : XC := .inl (0, 9, .inl (fun _ => 0))
def k240i : XC := .inl (0, 240, .inl (fun _ => 0))
def k5z : XC := .inl (2, 5, .inl (fun _ => 0))
def k125z : XC := .inl (2, 125, .inl (fun _ => 0))
theorem c_X7_init {n : Nat} (hA : A.length = n) : ConE M_X7_init [.ref n] (A ++ [.inr (7, [.int 0, .null, .int 0, .int 0])]) none (A ++ [.inr (7, [.int 0, .ref (n + 1), .int 0, .int 0]), k0i]) := by
  refine Con.of rfl (nb rfl) ?_
  refine T_aload_n dX7_init_0 rfl ?_
  refine T_obj dX7_init_1 ob_X7_3 ob_1 ob_2 (nb rfl) (nb rfl) ?_
  refine T_aload_n dX7_init_4 rfl ?_
  refine T_iconst (v := 0) dX7_init_5 (by decide) ?_
  refine T_put dX7_init_6 fp_X7_9_7 (ap_get (k := 0) hA rfl) (nb rfl) (fun _ => ⟨rfl, rfl⟩) ?_
  refine T_h (h2 := A ++ [.inr (7, [.int 0, .null, .int 0, .int 0])]) (ap_set (k := 0) hA) ?_
  refine T_aload_n dX7_init_9 rfl ?_
  refine T_iconst (v := nI 0) dX7_init_10 (by decide) ?_
  refine T_newI (N := 0) (a := (n + 1)) (cu2 := 1) (su2 := 0) dX7_init_11 (by rw [List.length_append, hA]; rfl) (by decide) (by decide) (by decide) (nb rfl) (nb rfl) ?_
  refine T_h (h2 := A ++ [.inr (7, [.int 0, .null, .int 0, .int 0]), k0i]) (List.append_assoc _ _ _) ?_
  refine T_put dX7_init_13 fp_X7_15_7 (ap_get (k := 0) hA rfl) (nb rfl) (fun _ => ⟨rfl, rfl⟩) ?_
  refine T_h (h2 := A ++ [.inr (7, [.int 0, .ref (n + 1), .int 0, .int 0]), k0i]) (ap_set (k := 0) hA) ?_
  refine T_aload_n dX7_init_16 rfl ?_
  refine T_iconst (v := 0) dX7_init_17 (by decide) ?_
  refine T_put dX7_init_18 fp_X7_19_7 (ap_get (k := 0) hA rfl) (nb rfl) (fun _ => ⟨rfl, rfl⟩) ?_
  refine T_h (h2 := A ++ [.inr (7, [.int 0, .ref (n + 1), .int 0, .int 0]), k0i]) (ap_set (k := 0) hA) ?_
  refine T_aload_n dX7_init_21 rfl ?_
  refine T_iconst (v := 0) dX7_init_22 (by decide) ?_
  refine T_put dX7_init_23 fp_X7_22_7 (ap_get (k := 0) hA rfl) (nb rfl) (fun _ => ⟨rfl, rfl⟩) ?_
  refine T_h (h2 := A ++ [.inr (7, [.int 0, .ref (n + 1), .int 0, .int 0]), k0i]) (ap_set (k := 0) hA) ?_
  refine T_vret dX7_init_26 rfl (nb rfl) (nb rfl) ?_
  exact ⟨rfl, rfl⟩
theorem c_X3_init {n : Nat} (hA : A.length = n) : ConE M_X3_init [.ref n] (A ++ [.inr (3, [.int 0, .null, .null, .null])]) none (A ++ [.inr (3, [.int 0, .ref (n + 1), .ref (n + 2), .ref (n + 3)]), k8i, k8i, k8i]) := by
  refine Con.of rfl (nb rfl) ?_
  refine T_aload_n dX3_init_0 rfl ?_
  refine T_obj dX3_init_1 ob_X3_3 ob_1 ob_2 (nb rfl) (nb rfl) ?_
  refine T_aload_n dX3_init_4 rfl ?_
  refine T_iconst (v := 0) dX3_init_5 (by decide) ?_
  refine T_put dX3_init_6 fp_X3_9_3 (ap_get (k := 0) hA rfl) (nb rfl) (fun _ => ⟨rfl, rfl⟩) ?_
  refine T_h (h2 := A ++ [.inr (3, [.int 0, .null, .null, .null])]) (ap_set (k := 0) hA) ?_
  refine T_aload_n dX3_init_9 rfl ?_
  refine T_bipush (v := nI 8) dX3_init_10 (by decide) ?_
  refine T_newI (N := 8) (a := (n + 1)) (cu2 := 1) (su2 := 8) dX3_init_12 (by rw [List.length_append, hA]; rfl) (by decide) (by decide) (by decide) (nb rfl) (nb rfl) ?_
  refine T_h (h2 := A ++ [.inr (3, [.int 0, .null, .null, .null]), k8i]) (List.append_assoc _ _ _) ?_
  refine T_putF dX3_init_14 fp_X3_15_3 rfl (ap_get (k := 0) hA rfl) (nb rfl) (fun _ => ⟨rfl, rfl⟩) ?_
  refine T_h (h2 := A ++ [.inr (3, [.int 0, .ref (n + 1), .null, .null]), k8i]) (ap_set (k := 0) hA) ?_
  refine T_aload_n dX3_init_17 rfl ?_
  refine T_bipush (v := nI 8) dX3_init_18 (by decide) ?_
  refine T_newI (N := 8) (a := (n + 2)) (cu2 := 2) (su2 := 16) dX3_init_20 (by rw [List.length_append, hA]; rfl) (by decide) (by decide) (by decide) (nb rfl) (nb rfl) ?_
  refine T_h (h2 := A ++ [.inr (3, [.int 0, .ref (n + 1), .null, .null]), k8i, k8i]) (List.append_assoc _ _ _) ?_
  refine T_putF dX3_init_22 fp_X3_19_3 rfl (ap_get (k := 0) hA rfl) (nb rfl) (fun _ => ⟨rfl, rfl⟩) ?_
  refine T_h (h2 := A ++ [.inr (3, [.int 0, .ref (n + 1), .ref (n + 2), .null]), k8i, k8i]) (ap_set (k := 0) hA) ?_
  refine T_aload_n dX3_init_25 rfl ?_
  refine T_bipush (v := nI 8) dX3_init_26 (by decide) ?_
  refine T_newI (N := 8) (a := (n + 3)) (cu2 := 3) (su2 := 24) dX3_init_28 (by rw [List.length_append, hA]; rfl) (by decide) (by decide) (by decide) (nb rfl) (nb rfl) ?_
  refine T_h (h2 := A ++ [.inr (3, [.int 0, .ref (n + 1), .ref (n + 2), .null]), k8i, k8i, k8i]) (List.append_assoc _ _ _) ?_
  refine T_putF dX3_init_30 fp_X3_22_3 rfl (ap_get (k := 0) hA rfl) (nb rfl) (fun _ => ⟨rfl, rfl⟩) ?_
  refine T_h (h2 := A ++ [.inr (3, [.int 0, .ref (n + 1), .ref (n + 2), .ref (n + 3)]), k8i, k8i, k8i]) (ap_set (k := 0) hA) ?_
  refine T_vret dX3_init_33 rfl (nb rfl) (nb rfl) ?_
  exact ⟨rfl, rfl⟩
theorem c_X10_init {n : Nat} (hA : A.length = n) : ConE M_X10_init [.ref n] (A ++ [.inr (10, [.null, .int 0, .int 0, .int 0])]) none (A ++ [.inr (10, [.ref (n + 1), .int 0, .int (-9), .int (-9)]), k3i]) := by
  refine Con.of rfl (nb rfl) ?_
  refine T_aload_n dX10_init_0 rfl ?_
  refine T_obj dX10_init_1 ob_X10_3 ob_1 ob_2 (nb rfl) (nb rfl) ?_
  refine T_aload_n dX10_init_4 rfl ?_
  refine T_iconst (v := nI 3) dX10_init_5 (by decide) ?_
  refine T_newI (N := 3) (a := (n + 1)) (cu2 := 1) (su2 := 3) dX10_init_6 (by rw [List.length_append, hA]; rfl) (by decide) (by decide) (by decide) (nb rfl) (nb rfl) ?_
  refine T_h (h2 := A ++ [.inr (10, [.null, .int 0, .int 0, .int 0]), k3i]) (List.append_assoc _ _ _) ?_
  refine T_putF dX10_init_8 fp_X10_9_10 rfl (ap_get (k := 0) hA rfl) (nb rfl) (fun _ => ⟨rfl, rfl⟩) ?_
  refine T_h (h2 := A ++ [.inr (10, [.ref (n + 1), .int 0, .int 0, .int 0]), k3i]) (ap_set (k := 0) hA) ?_
  refine T_aload_n dX10_init_11 rfl ?_
  refine T_iconst (v := 0) dX10_init_12 (by decide) ?_
  refine T_put dX10_init_13 fp_X10_15_10 (ap_get (k := 0) hA rfl) (nb rfl) (fun _ => ⟨rfl, rfl⟩) ?_
  refine T_h (h2 := A ++ [.inr (10, [.ref (n + 1), .int 0, .int 0, .int 0]), k3i]) (ap_set (k := 0) hA) ?_
  refine T_aload_n dX10_init_16 rfl ?_
  refine T_bipush (v := (-9)) dX10_init_17 (by decide) ?_
  refine T_put dX10_init_19 fp_X10_19_10 (ap_get (k := 0) hA rfl) (nb rfl) (fun _ => ⟨rfl, rfl⟩) ?_
  refine T_h (h2 := A ++ [.inr (10, [.ref (n + 1), .int 0, .int (-9), .int 0]), k3i]) (ap_set (k := 0) hA) ?_
  refine T_aload_n dX10_init_22 rfl ?_
  refine T_bipush (v := (-9)) dX10_init_23 (by decide) ?_
  refine T_put dX10_init_25 fp_X10_22_10 (ap_get (k := 0) hA rfl) (nb rfl) (fun _ => ⟨rfl, rfl⟩) ?_
  refine T_h (h2 := A ++ [.inr (10, [.ref (n + 1), .int 0, .int (-9), .int (-9)]), k3i]) (ap_set (k := 0) hA) ?_
  refine T_vret dX10_init_28 rfl (nb rfl) (nb rfl) ?_
  exact ⟨rfl, rfl⟩
theorem c_X6_init {n : Nat} (hA : A.length = n) : ConE M_X6_init [.ref n] (A ++ [k6]) none (A ++ [k6]) := by
  refine Con.of rfl (nb rfl) ?_
  refine T_aload_n dX6_init_0 rfl ?_
  refine T_obj dX6_init_1 ob_X6_1 ob_1 ob_2 (nb rfl) (nb rfl) ?_
  refine T_aload_n dX6_init_4 rfl ?_
  refine T_lconst (v := 0) dX6_init_5 (by decide) ?_
  refine T_put dX6_init_6 fp_X6_7_6 (ap_get (k := 0) hA rfl) (nb rfl) (fun _ => ⟨rfl, rfl⟩) ?_
  refine T_h (h2 := A ++ [k6]) (ap_set (k := 0) hA) ?_
  refine T_aload_n dX6_init_9 rfl ?_
  refine T_lconst (v := 0) dX6_init_10 (by decide) ?_
  refine T_put dX6_init_11 fp_X6_13_6 (ap_get (k := 0) hA rfl) (nb rfl) (fun _ => ⟨rfl, rfl⟩) ?_
  refine T_h (h2 := A ++ [k6]) (ap_set (k := 0) hA) ?_
  refine T_vret dX6_init_14 rfl (nb rfl) (nb rfl) ?_
  exact ⟨rfl, rfl⟩
theorem c_X9_init {n : Nat} (hA : A.length = n) : ConE M_X9_init [.ref n] (A ++ [.inr (9, [.int 0])]) none (A ++ [.inr (9, [.int 0])]) := by
  refine Con.of rfl (nb rfl) ?_
  refine T_aload_n dX9_init_0 rfl ?_
  refine T_obj dX9_init_1 ob_X9_1 ob_1 ob_2 (nb rfl) (nb rfl) ?_
  refine T_aload_n dX9_init_4 rfl ?_
  refine T_iconst (v := 0) dX9_init_5 (by decide) ?_
  refine T_put dX9_init_6 fp_X9_7_9 (ap_get (k := 0) hA rfl) (nb rfl) (fun _ => ⟨rfl, rfl⟩) ?_
  refine T_h (h2 := A ++ [.inr (9, [.int 0])]) (ap_set (k := 0) hA) ?_
  refine T_vret dX9_init_9 rfl (nb rfl) (nb rfl) ?_
  exact ⟨rfl, rfl⟩
theorem c_X5_init {n : Nat} (hA : A.length = n) : ConE M_X5_init [.ref n] (A ++ [.inr (5, [.int 0, .int 0, .null])]) none (A ++ [.inr (5, [.int (-1), .int 0, .ref (n + 1)]), k60i]) := by
  refine Con.of rfl (nb rfl) ?_
  refine T_aload_n dX5_init_0 rfl ?_
  refine T_obj dX5_init_1 ob_X5_3 ob_1 ob_2 (nb rfl) (nb rfl) ?_
  refine T_aload_n dX5_init_4 rfl ?_
  refine T_iconst (v := (-1)) dX5_init_5 (by decide) ?_
  refine T_put dX5_init_6 fp_X5_11_5 (ap_get (k := 0) hA rfl) (nb rfl) (fun _ => ⟨rfl, rfl⟩) ?_
  refine T_h (h2 := A ++ [.inr (5, [.int (-1), .int 0, .null])]) (ap_set (k := 0) hA) ?_
  refine T_aload_n dX5_init_9 rfl ?_
  refine T_iconst (v := 0) dX5_init_10 (by decide) ?_
  refine T_put dX5_init_11 fp_X5_15_5 (ap_get (k := 0) hA rfl) (nb rfl) (fun _ => ⟨rfl, rfl⟩) ?_
  refine T_h (h2 := A ++ [.inr (5, [.int (-1), .int 0, .null])]) (ap_set (k := 0) hA) ?_
  refine T_aload_n dX5_init_14 rfl ?_
  refine T_bipush (v := nI 60) dX5_init_15 (by decide) ?_
  refine T_newI (N := 60) (a := (n + 1)) (cu2 := 1) (su2 := 60) dX5_init_17 (by rw [List.length_append, hA]; rfl) (by decide) (by decide) (by decide) (nb rfl) (nb rfl) ?_
  refine T_h (h2 := A ++ [.inr (5, [.int (-1), .int 0, .null]), k60i]) (List.append_assoc _ _ _) ?_
  refine T_putF dX5_init_19 fp_X5_18_5 rfl (ap_get (k := 0) hA rfl) (nb rfl) (fun _ => ⟨rfl, rfl⟩) ?_
  refine T_h (h2 := A ++ [.inr (5, [.int (-1), .int 0, .ref (n + 1)]), k60i]) (ap_set (k := 0) hA) ?_
  refine T_vret dX5_init_22 rfl (nb rfl) (nb rfl) ?_
  exact ⟨rfl, rfl⟩
def fB1 (n : Nat) : Nat → Option Nat := va_up (fun _ => none) 0 (some (n + 3))
def fB2 (n : Nat) : Nat → Option Nat := va_up (fB1 n) 1 (some (n + 4))
def fB3 (n : Nat) : Nat → Option Nat := va_up (fB2 n) 2 (some (n + 5))
theorem c_X1_init {n : Nat} (hA : A.length = n) : ConE M_X1_init [.ref n] (A ++ [.inr (1, [.int 0, .int 0, .int 0, .int 0, .null, .null])]) none (A ++ [.inr (1, [.int 0, .int 0, .int 0, .int 0, .ref (n + 1), .ref (n + 2)]), k10i, .inl (4, 3, .inr (.inr (fB3 n))), .inr (0, [.int (nI 0), .int 0, .int 1]), .inr (0, [.int (nI 1), .int 0, .int 1]), .inr (0, [.int (nI 2), .int 0, .int 1])]) := by
  refine Con.of rfl (nb rfl) ?_
  refine T_aload_n dX1_init_0 rfl ?_
  refine T_obj dX1_init_1 ob_X1_3 ob_1 ob_2 (nb rfl) (nb rfl) ?_
  refine T_aload_n dX1_init_4 rfl ?_
  refine T_iconst (v := 0) dX1_init_5 (by decide) ?_
  refine T_put dX1_init_6 fp_X1_9_1 (ap_get (k := 0) hA rfl) (nb rfl) (fun _ => ⟨rfl, rfl⟩) ?_
  refine T_h (h2 := A ++ [.inr (1, [.int 0, .int 0, .int 0, .int 0, .null, .null])]) (ap_set (k := 0) hA) ?_
  refine T_aload_n dX1_init_9 rfl ?_
  refine T_iconst (v := 0) dX1_init_10 (by decide) ?_
  refine T_put dX1_init_11 fp_X1_15_1 (ap_get (k := 0) hA rfl) (nb rfl) (fun _ => ⟨rfl, rfl⟩) ?_
  refine T_h (h2 := A ++ [.inr (1, [.int 0, .int 0, .int 0, .int 0, .null, .null])]) (ap_set (k := 0) hA) ?_
  refine T_aload_n dX1_init_14 rfl ?_
  refine T_iconst (v := 0) dX1_init_15 (by decide) ?_
  refine T_put dX1_init_16 fp_X1_18_1 (ap_get (k := 0) hA rfl) (nb rfl) (fun _ => ⟨rfl, rfl⟩) ?_
  refine T_h (h2 := A ++ [.inr (1, [.int 0, .int 0, .int 0, .int 0, .null, .null])]) (ap_set (k := 0) hA) ?_
  refine T_aload_n dX1_init_19 rfl ?_
  refine T_iconst (v := 0) dX1_init_20 (by decide) ?_
  refine T_put dX1_init_21 fp_X1_21_1 (ap_get (k := 0) hA rfl) (nb rfl) (fun _ => ⟨rfl, rfl⟩) ?_
  refine T_h (h2 := A ++ [.inr (1, [.int 0, .int 0, .int 0, .int 0, .null, .null])]) (ap_set (k := 0) hA) ?_
  refine T_aload_n dX1_init_24 rfl ?_
  refine T_bipush (v := nI 10) dX1_init_25 (by decide) ?_
  refine T_newI (N := 10) (a := (n + 1)) (cu2 := 1) (su2 := 10) dX1_init_27 (by rw [List.length_append, hA]; rfl) (by decide) (by decide) (by decide) (nb rfl) (nb rfl) ?_
  refine T_h (h2 := A ++ [.inr (1, [.int 0, .int 0, .int 0, .int 0, .null, .null]), k10i]) (List.append_assoc _ _ _) ?_
  refine T_putF dX1_init_29 fp_X1_24_1 rfl (ap_get (k := 0) hA rfl) (nb rfl) (fun _ => ⟨rfl, rfl⟩) ?_
  refine T_h (h2 := A ++ [.inr (1, [.int 0, .int 0, .int 0, .int 0, .ref (n + 1), .null]), k10i]) (ap_set (k := 0) hA) ?_
  refine T_aload_n dX1_init_32 rfl ?_
  refine T_iconst (v := nI 3) dX1_init_33 (by decide) ?_
  refine T_newR (t := 4) (C0 := RX0) (N := 3) (a := (n + 2)) (cu2 := 2) (su2 := 13) dX1_init_34 cl_X1_28 (fun _ h => h.2.2.2.2.1) (fun _ => rfl) (by rw [List.length_append, hA]; rfl) (by decide) (by decide) (by decide) (nb rfl) (nb rfl) ?_
  refine T_h (h2 := A ++ [.inr (1, [.int 0, .int 0, .int 0, .int 0, .ref (n + 1), .null]), k10i, .inl (4, 3, .inr (.inr (fun _ => none)))]) (List.append_assoc _ _ _) ?_
  refine T_putF dX1_init_37 fp_X1_30_1 rfl (ap_get (k := 0) hA rfl) (nb rfl) (fun _ => ⟨rfl, rfl⟩) ?_
  refine T_h (h2 := A ++ [.inr (1, [.int 0, .int 0, .int 0, .int 0, .ref (n + 1), .ref (n + 2)]), k10i, .inl (4, 3, .inr (.inr (fun _ => none)))]) (ap_set (k := 0) hA) ?_
  refine T_iconst (v := nI 0) dX1_init_40 (by decide) ?_
  refine T_istore_n dX1_init_41 (by decide) rfl ?_
  refine T_iload_n dX1_init_42 rfl ?_
  refine T_iconst (v := nI 3) dX1_init_43 (by decide) ?_
  refine T_icmp_geN (tgt := 69) dX1_init_44 (by decide) (by decide) (by decide) (fun c => absurd c (by decide)) (fun _ => ?_)
  refine T_aload_n dX1_init_47 rfl ?_
  refine T_get dX1_init_48 fl_X1_30_1 (ap_get (k := 0) hA rfl) rfl ?_
  refine T_iload_n dX1_init_51 rfl ?_
  refine T_newO (a := (n + 3)) (cu2 := 3) (su2 := 16) dX1_init_52 nw_X1_28 (by rw [List.length_append, hA]; rfl) (nb rfl) (nb rfl) (nb rfl) (nb rfl) ?_
  refine T_dup dX1_init_55 rfl ?_
  refine T_iload_n dX1_init_56 rfl ?_
  refine T_iconst (v := 0) dX1_init_57 (by decide) ?_
  refine T_iconst (v := 1) dX1_init_58 (by decide) ?_
  refine T_i3e (cu2 := 3) (su2 := 16) dX1_init_59 li_X1_34 rfl (c_X0_init_0 (ap_get (n := (n + 3)) (k := 0) (by rw [List.length_append, hA]; rfl) rfl) _ _ _) (nb rfl) (nb rfl) (nb rfl) (nb rfl) (nb rfl) ?_
  refine T_h (ap_set (n := (n + 3)) (k := 0) (by rw [List.length_append, hA]; rfl)) ?_
  refine T_h (h2 := A ++ [.inr (1, [.int 0, .int 0, .int 0, .int 0, .ref (n + 1), .ref (n + 2)]), k10i, .inl (4, 3, .inr (.inr (fun _ => none))), .inr (0, [.int (nI 0), .int 0, .int 1])]) (List.append_assoc _ _ _) ?_
  refine T_aastN (j := 0) dX1_init_62 (fun _ => rfl) (ap_get (k := 2) hA rfl) (ap_get (k := 3) hA rfl) rfl (Or.inl rfl) (by decide) (by decide) ?_
  refine T_h (h2 := A ++ [.inr (1, [.int 0, .int 0, .int 0, .int 0, .ref (n + 1), .ref (n + 2)]), k10i, .inl (4, 3, .inr (.inr (fB1 n))), .inr (0, [.int (nI 0), .int 0, .int 1])]) (ap_set (k := 2) hA) ?_
  refine T_iincN dX1_init_63 rfl (by decide) rfl ?_
  refine T_goto (tgt := 42) dX1_init_66 (by decide) ?_
  refine T_iload_n dX1_init_42 rfl ?_
  refine T_iconst (v := nI 3) dX1_init_43 (by decide) ?_
  refine T_icmp_geN (tgt := 69) dX1_init_44 (by decide) (by decide) (by decide) (fun c => absurd c (by decide)) (fun _ => ?_)
  refine T_aload_n dX1_init_47 rfl ?_
  refine T_get dX1_init_48 fl_X1_30_1 (ap_get (k := 0) hA rfl) rfl ?_
  refine T_iload_n dX1_init_51 rfl ?_
  refine T_newO (a := (n + 4)) (cu2 := 4) (su2 := 19) dX1_init_52 nw_X1_28 (by rw [List.length_append, hA]; rfl) (nb rfl) (nb rfl) (nb rfl) (nb rfl) ?_
  refine T_dup dX1_init_55 rfl ?_
  refine T_iload_n dX1_init_56 rfl ?_
  refine T_iconst (v := 0) dX1_init_57 (by decide) ?_
  refine T_iconst (v := 1) dX1_init_58 (by decide) ?_
  refine T_i3e (cu2 := 4) (su2 := 19) dX1_init_59 li_X1_34 rfl (c_X0_init_0 (ap_get (n := (n + 4)) (k := 0) (by rw [List.length_append, hA]; rfl) rfl) _ _ _) (nb rfl) (nb rfl) (nb rfl) (nb rfl) (nb rfl) ?_
  refine T_h (ap_set (n := (n + 4)) (k := 0) (by rw [List.length_append, hA]; rfl)) ?_
  refine T_h (h2 := A ++ [.inr (1, [.int 0, .int 0, .int 0, .int 0, .ref (n + 1), .ref (n + 2)]), k10i, .inl (4, 3, .inr (.inr (fB1 n))), .inr (0, [.int (nI 0), .int 0, .int 1]), .inr (0, [.int (nI 1), .int 0, .int 1])]) (List.append_assoc _ _ _) ?_
  refine T_aastN (j := 1) dX1_init_62 (fun _ => rfl) (ap_get (k := 2) hA rfl) (ap_get (k := 4) hA rfl) rfl (Or.inl rfl) (by decide) (by decide) ?_
  refine T_h (h2 := A ++ [.inr (1, [.int 0, .int 0, .int 0, .int 0, .ref (n + 1), .ref (n + 2)]), k10i, .inl (4, 3, .inr (.inr (fB2 n))), .inr (0, [.int (nI 0), .int 0, .int 1]), .inr (0, [.int (nI 1), .int 0, .int 1])]) (ap_set (k := 2) hA) ?_
  refine T_iincN dX1_init_63 rfl (by decide) rfl ?_
  refine T_goto (tgt := 42) dX1_init_66 (by decide) ?_
  refine T_iload_n dX1_init_42 rfl ?_
  refine T_iconst (v := nI 3) dX1_init_43 (by decide) ?_
  refine T_icmp_geN (tgt := 69) dX1_init_44 (by decide) (by decide) (by decide) (fun c => absurd c (by decide)) (fun _ => ?_)
  refine T_aload_n dX1_init_47 rfl ?_
  refine T_get dX1_init_48 fl_X1_30_1 (ap_get (k := 0) hA rfl) rfl ?_
  refine T_iload_n dX1_init_51 rfl ?_
  refine T_newO (a := (n + 5)) (cu2 := 5) (su2 := 22) dX1_init_52 nw_X1_28 (by rw [List.length_append, hA]; rfl) (nb rfl) (nb rfl) (nb rfl) (nb rfl) ?_
  refine T_dup dX1_init_55 rfl ?_
  refine T_iload_n dX1_init_56 rfl ?_
  refine T_iconst (v := 0) dX1_init_57 (by decide) ?_
  refine T_iconst (v := 1) dX1_init_58 (by decide) ?_
  refine T_i3e (cu2 := 5) (su2 := 22) dX1_init_59 li_X1_34 rfl (c_X0_init_0 (ap_get (n := (n + 5)) (k := 0) (by rw [List.length_append, hA]; rfl) rfl) _ _ _) (nb rfl) (nb rfl) (nb rfl) (nb rfl) (nb rfl) ?_
  refine T_h (ap_set (n := (n + 5)) (k := 0) (by rw [List.length_append, hA]; rfl)) ?_
  refine T_h (h2 := A ++ [.inr (1, [.int 0, .int 0, .int 0, .int 0, .ref (n + 1), .ref (n + 2)]), k10i, .inl (4, 3, .inr (.inr (fB2 n))), .inr (0, [.int (nI 0), .int 0, .int 1]), .inr (0, [.int (nI 1), .int 0, .int 1]), .inr (0, [.int (nI 2), .int 0, .int 1])]) (List.append_assoc _ _ _) ?_
  refine T_aastN (j := 2) dX1_init_62 (fun _ => rfl) (ap_get (k := 2) hA rfl) (ap_get (k := 5) hA rfl) rfl (Or.inl rfl) (by decide) (by decide) ?_
  refine T_h (h2 := A ++ [.inr (1, [.int 0, .int 0, .int 0, .int 0, .ref (n + 1), .ref (n + 2)]), k10i, .inl (4, 3, .inr (.inr (fB3 n))), .inr (0, [.int (nI 0), .int 0, .int 1]), .inr (0, [.int (nI 1), .int 0, .int 1]), .inr (0, [.int (nI 2), .int 0, .int 1])]) (ap_set (k := 2) hA) ?_
  refine T_iincN dX1_init_63 rfl (by decide) rfl ?_
  refine T_goto (tgt := 42) dX1_init_66 (by decide) ?_
  refine T_iload_n dX1_init_42 rfl ?_
  refine T_iconst (v := nI 3) dX1_init_43 (by decide) ?_
  refine T_icmp_geN (tgt := 69) dX1_init_44 (by decide) (by decide) (by decide) (fun _ => ?_) (fun c => absurd c (by decide))
  refine T_vret dX1_init_69 rfl (nb rfl) (nb rfl) ?_
  exact ⟨rfl, rfl⟩
end K3
