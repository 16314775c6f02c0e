/-! the constructor of the reference -/
section K6
variable {A : XH}
theorem c_X12_init (hA : A.length = 67) : ConE M_X12_init [.ref 67] (A ++ [.inr (12, [.int 0, .int 0, .null, .null, .null, .int 0, .int 0, .int 0, .null, .null, .null, .null, .null, .int 0, .int 0, .int 0, .int 0, .null, .null, .null, .null, .int 0, .null, .int 0, .int 0, .int 0, .null, .null, .int 0, .null, .null, .null])]) none (A ++ [.inr (12, [.int 0, .int 0, .ref 68, .ref 69, .ref 70, .int 0, .int 0, .int 0, .ref 71, .ref 72, .ref 73, .ref 74, .ref 75, .int 0, .int 0, .int 0, .int 0, .ref 76, .ref 77, .ref 78, .ref 79, .int 0, .ref 80, .int 0, .int 0, .int 0, .ref 81, .ref 82, .int 0, .ref 83, .ref 84, .ref 85]), .inl (0, 4, .inl (upd (upd (upd (upd (fun _ => 0) 0 (-9)) 1 (-9)) 2 (-9)) 3 (-9))), k4i, k240i, k5z, k10i, k3i, k3i, k3i, k5i, k10i, k9i, k3i, k10i, k125z, k125z, k8i, k8i, k8i]) := by
  refine Con.of rfl (nb rfl) ?_
  refine T_aload_n dX12_init_0 rfl ?_
  refine T_obj dX12_init_1 ob_X12_1 ob_1 ob_2 (nb rfl) (nb rfl) ?_
  refine T_aload_n dX12_init_4 rfl ?_
  refine T_iconst (v := nI 4) dX12_init_5 (by decide) ?_
  refine T_newI (N := 4) (a := 68) (cu2 := 1) (su2 := 4) dX12_init_6 (by rw [List.length_append, hA]; rfl) (by decide) (by decide) (by decide) (nb rfl) (nb rfl) ?_
  refine T_h (h2 := A ++ [.inr (12, [.int 0, .int 0, .null, .null, .null, .int 0, .int 0, .int 0, .null, .null, .null, .null, .null, .int 0, .int 0, .int 0, .int 0, .null, .null, .null, .null, .int 0, .null, .int 0, .int 0, .int 0, .null, .null, .int 0, .null, .null, .null]), k4i]) (List.append_assoc _ _ _) ?_
  refine T_dup dX12_init_8 rfl ?_
  refine T_iconst (v := 0) dX12_init_9 (by decide) ?_
  refine T_bipush (v := (-9)) dX12_init_10 (by decide) ?_
  refine T_iastN (i := 0) dX12_init_12 (ap_get (k := 1) hA rfl) (by decide) (by decide) ?_
  refine T_h (h2 := A ++ [.inr (12, [.int 0, .int 0, .null, .null, .null, .int 0, .int 0, .int 0, .null, .null, .null, .null, .null, .int 0, .int 0, .int 0, .int 0, .null, .null, .null, .null, .int 0, .null, .int 0, .int 0, .int 0, .null, .null, .int 0, .null, .null, .null]), .inl (0, 4, .inl (upd (fun _ => 0) 0 (-9)))]) (ap_set (k := 1) hA) ?_
  refine T_dup dX12_init_13 rfl ?_
  refine T_iconst (v := 1) dX12_init_14 (by decide) ?_
  refine T_bipush (v := (-9)) dX12_init_15 (by decide) ?_
  refine T_iastN (i := 1) dX12_init_17 (ap_get (k := 1) hA rfl) (by decide) (by decide) ?_
  refine T_h (h2 := A ++ [.inr (12, [.int 0, .int 0, .null, .null, .null, .int 0, .int 0, .int 0, .null, .null, .null, .null, .null, .int 0, .int 0, .int 0, .int 0, .null, .null, .null, .null, .int 0, .null, .int 0, .int 0, .int 0, .null, .null, .int 0, .null, .null, .null]), .inl (0, 4, .inl (upd (upd (fun _ => 0) 0 (-9)) 1 (-9)))]) (ap_set (k := 1) hA) ?_
  refine T_dup dX12_init_18 rfl ?_
  refine T_iconst (v := 2) dX12_init_19 (by decide) ?_
  refine T_bipush (v := (-9)) dX12_init_20 (by decide) ?_
  refine T_iastN (i := 2) dX12_init_22 (ap_get (k := 1) hA rfl) (by decide) (by decide) ?_
  refine T_h (h2 := A ++ [.inr (12, [.int 0, .int 0, .null, .null, .null, .int 0, .int 0, .int 0, .null, .null, .null, .null, .null, .int 0, .int 0, .int 0, .int 0, .null, .null, .null, .null, .int 0, .null, .int 0, .int 0, .int 0, .null, .null, .int 0, .null, .null, .null]), .inl (0, 4, .inl (upd (upd (upd (fun _ => 0) 0 (-9)) 1 (-9)) 2 (-9)))]) (ap_set (k := 1) hA) ?_
  refine T_dup dX12_init_23 rfl ?_
  refine T_iconst (v := 3) dX12_init_24 (by decide) ?_
  refine T_bipush (v := (-9)) dX12_init_25 (by decide) ?_
  refine T_iastN (i := 3) dX12_init_27 (ap_get (k := 1) hA rfl) (by decide) (by decide) ?_
  refine T_h (h2 := A ++ [.inr (12, [.int 0, .int 0, .null, .null, .null, .int 0, .int 0, .int 0, .null, .null, .null, .null, .null, .int 0, .int 0, .int 0, .int 0, .null, .null, .null, .null, .int 0, .null, .int 0, .int 0, .int 0, .null, .null, .int 0, .null, .null, .null]), .inl (0, 4, .inl (upd (upd (upd (upd (fun _ => 0) 0 (-9)) 1 (-9)) 2 (-9)) 3 (-9)))]) (ap_set (k := 1) hA) ?_
  refine T_putF dX12_init_28 fp_X12_9_12 rfl (ap_get (k := 0) hA rfl) (nb rfl) (fun _ => ⟨rfl, rfl⟩) ?_
  refine T_h (h2 := A ++ [.inr (12, [.int 0, .int 0, .ref 68, .null, .null, .int 0, .int 0, .int 0, .null, .null, .null, .null, .null, .int 0, .int 0, .int 0, .int 0, .null, .null, .null, .null, .int 0, .null, .int 0, .int 0, .int 0, .null, .null, .int 0, .null, .null, .null]), .inl (0, 4, .inl (upd (upd (upd (upd (fun _ => 0) 0 (-9)) 1 (-9)) 2 (-9)) 3 (-9)))]) (ap_set (k := 0) hA) ?_
  refine T_aload_n dX12_init_31 rfl ?_
  refine T_iconst (v := nI 4) dX12_init_32 (by decide) ?_
  refine T_newI (N := 4) (a := 69) (cu2 := 2) (su2 := 8) dX12_init_33 (by rw [List.length_append, hA]; rfl) (by decide) (by decide) (by decide) (nb rfl) (nb rfl) ?_
  refine T_h (h2 := A ++ [.inr (12, [.int 0, .int 0, .ref 68, .null, .null, .int 0, .int 0, .int 0, .null, .null, .null, .null, .null, .int 0, .int 0, .int 0, .int 0, .null, .null, .null, .null, .int 0, .null, .int 0, .int 0, .int 0, .null, .null, .int 0, .null, .null, .null]), .inl (0, 4, .inl (upd (upd (upd (upd (fun _ => 0) 0 (-9)) 1 (-9)) 2 (-9)) 3 (-9))), k4i]) (List.append_assoc _ _ _) ?_
  refine T_putF dX12_init_35 fp_X12_13_12 rfl (ap_get (k := 0) hA rfl) (nb rfl) (fun _ => ⟨rfl, rfl⟩) ?_
  refine T_h (h2 := A ++ [.inr (12, [.int 0, .int 0, .ref 68, .ref 69, .null, .int 0, .int 0, .int 0, .null, .null, .null, .null, .null, .int 0, .int 0, .int 0, .int 0, .null, .null, .null, .null, .int 0, .null, .int 0, .int 0, .int 0, .null, .null, .int 0, .null, .null, .null]), .inl (0, 4, .inl (upd (upd (upd (upd (fun _ => 0) 0 (-9)) 1 (-9)) 2 (-9)) 3 (-9))), k4i]) (ap_set (k := 0) hA) ?_
  refine T_aload_n dX12_init_38 rfl ?_
  refine T_sipush (v := nI 240) dX12_init_39 (by decide) ?_
  refine T_newI (N := 240) (a := 70) (cu2 := 3) (su2 := 248) dX12_init_42 (by rw [List.length_append, hA]; rfl) (by decide) (by decide) (by decide) (nb rfl) (nb rfl) ?_
  refine T_h (h2 := A ++ [.inr (12, [.int 0, .int 0, .ref 68, .ref 69, .null, .int 0, .int 0, .int 0, .null, .null, .null, .null, .null, .int 0, .int 0, .int 0, .int 0, .null, .null, .null, .null, .int 0, .null, .int 0, .int 0, .int 0, .null, .null, .int 0, .null, .null, .null]), .inl (0, 4, .inl (upd (upd (upd (upd (fun _ => 0) 0 (-9)) 1 (-9)) 2 (-9)) 3 (-9))), k4i, k240i]) (List.append_assoc _ _ _) ?_
  refine T_putF dX12_init_44 fp_X12_16_12 rfl (ap_get (k := 0) hA rfl) (nb rfl) (fun _ => ⟨rfl, rfl⟩) ?_
  refine T_h (h2 := A ++ [.inr (12, [.int 0, .int 0, .ref 68, .ref 69, .ref 70, .int 0, .int 0, .int 0, .null, .null, .null, .null, .null, .int 0, .int 0, .int 0, .int 0, .null, .null, .null, .null, .int 0, .null, .int 0, .int 0, .int 0, .null, .null, .int 0, .null, .null, .null]), .inl (0, 4, .inl (upd (upd (upd (upd (fun _ => 0) 0 (-9)) 1 (-9)) 2 (-9)) 3 (-9))), k4i, k240i]) (ap_set (k := 0) hA) ?_
  refine T_aload_n dX12_init_47 rfl ?_
  refine T_iconst (v := nI 5) dX12_init_48 (by decide) ?_
  refine T_newZ (N := 5) (a := 71) (cu2 := 4) (su2 := 253) dX12_init_49 (by rw [List.length_append, hA]; rfl) (by decide) (by decide) (by decide) (nb rfl) (nb rfl) ?_
  refine T_h (h2 := A ++ [.inr (12, [.int 0, .int 0, .ref 68, .ref 69, .ref 70, .int 0, .int 0, .int 0, .null, .null, .null, .null, .null, .int 0, .int 0, .int 0, .int 0, .null, .null, .null, .null, .int 0, .null, .int 0, .int 0, .int 0, .null, .null, .int 0, .null, .null, .null]), .inl (0, 4, .inl (upd (upd (upd (upd (fun _ => 0) 0 (-9)) 1 (-9)) 2 (-9)) 3 (-9))), k4i, k240i, k5z]) (List.append_assoc _ _ _) ?_
  refine T_putF dX12_init_51 fp_X12_19_12 rfl (ap_get (k := 0) hA rfl) (nb rfl) (fun _ => ⟨rfl, rfl⟩) ?_
  refine T_h (h2 := A ++ [.inr (12, [.int 0, .int 0, .ref 68, .ref 69, .ref 70, .int 0, .int 0, .int 0, .ref 71, .null, .null, .null, .null, .int 0, .int 0, .int 0, .int 0, .null, .null, .null, .null, .int 0, .null, .int 0, .int 0, .int 0, .null, .null, .int 0, .null, .null, .null]), .inl (0, 4, .inl (upd (upd (upd (upd (fun _ => 0) 0 (-9)) 1 (-9)) 2 (-9)) 3 (-9))), k4i, k240i, k5z]) (ap_set (k := 0) hA) ?_
  refine T_aload_n dX12_init_54 rfl ?_
  refine T_bipush (v := nI 10) dX12_init_55 (by decide) ?_
  refine T_newI (N := 10) (a := 72) (cu2 := 5) (su2 := 263) dX12_init_57 (by rw [List.length_append, hA]; rfl) (by decide) (by decide) (by decide) (nb rfl) (nb rfl) ?_
  refine T_h (h2 := A ++ [.inr (12, [.int 0, .int 0, .ref 68, .ref 69, .ref 70, .int 0, .int 0, .int 0, .ref 71, .null, .null, .null, .null, .int 0, .int 0, .int 0, .int 0, .null, .null, .null, .null, .int 0, .null, .int 0, .int 0, .int 0, .null, .null, .int 0, .null, .null, .null]), .inl (0, 4, .inl (upd (upd (upd (upd (fun _ => 0) 0 (-9)) 1 (-9)) 2 (-9)) 3 (-9))), k4i, k240i, k5z, k10i]) (List.append_assoc _ _ _) ?_
  refine T_putF dX12_init_59 fp_X12_23_12 rfl (ap_get (k := 0) hA rfl) (nb rfl) (fun _ => ⟨rfl, rfl⟩) ?_
  refine T_h (h2 := A ++ [.inr (12, [.int 0, .int 0, .ref 68, .ref 69, .ref 70, .int 0, .int 0, .int 0, .ref 71, .ref 72, .null, .null, .null, .int 0, .int 0, .int 0, .int 0, .null, .null, .null, .null, .int 0, .null, .int 0, .int 0, .int 0, .null, .null, .int 0, .null, .null, .null]), .inl (0, 4, .inl (upd (upd (upd (upd (fun _ => 0) 0 (-9)) 1 (-9)) 2 (-9)) 3 (-9))), k4i, k240i, k5z, k10i]) (ap_set (k := 0) hA) ?_
  refine T_aload_n dX12_init_62 rfl ?_
  refine T_iconst (v := nI 3) dX12_init_63 (by decide) ?_
  refine T_newI (N := 3) (a := 73) (cu2 := 6) (su2 := 266) dX12_init_64 (by rw [List.length_append, hA]; rfl) (by decide) (by decide) (by decide) (nb rfl) (nb rfl) ?_
  refine T_h (h2 := A ++ [.inr (12, [.int 0, .int 0, .ref 68, .ref 69, .ref 70, .int 0, .int 0, .int 0, .ref 71, .ref 72, .null, .null, .null, .int 0, .int 0, .int 0, .int 0, .null, .null, .null, .null, .int 0, .null, .int 0, .int 0, .int 0, .null, .null, .int 0, .null, .null, .null]), .inl (0, 4, .inl (upd (upd (upd (upd (fun _ => 0) 0 (-9)) 1 (-9)) 2 (-9)) 3 (-9))), k4i, k240i, k5z, k10i, k3i]) (List.append_assoc _ _ _) ?_
  refine T_putF dX12_init_66 fp_X12_26_12 rfl (ap_get (k := 0) hA rfl) (nb rfl) (fun _ => ⟨rfl, rfl⟩) ?_
  refine T_h (h2 := A ++ [.inr (12, [.int 0, .int 0, .ref 68, .ref 69, .ref 70, .int 0, .int 0, .int 0, .ref 71, .ref 72, .ref 73, .null, .null, .int 0, .int 0, .int 0, .int 0, .null, .null, .null, .null, .int 0, .null, .int 0, .int 0, .int 0, .null, .null, .int 0, .null, .null, .null]), .inl (0, 4, .inl (upd (upd (upd (upd (fun _ => 0) 0 (-9)) 1 (-9)) 2 (-9)) 3 (-9))), k4i, k240i, k5z, k10i, k3i]) (ap_set (k := 0) hA) ?_
  refine T_aload_n dX12_init_69 rfl ?_
  refine T_iconst (v := nI 3) dX12_init_70 (by decide) ?_
  refine T_newI (N := 3) (a := 74) (cu2 := 7) (su2 := 269) dX12_init_71 (by rw [List.length_append, hA]; rfl) (by decide) (by decide) (by decide) (nb rfl) (nb rfl) ?_
  refine T_h (h2 := A ++ [.inr (12, [.int 0, .int 0, .ref 68, .ref 69, .ref 70, .int 0, .int 0, .int 0, .ref 71, .ref 72, .ref 73, .null, .null, .int 0, .int 0, .int 0, .int 0, .null, .null, .null, .null, .int 0, .null, .int 0, .int 0, .int 0, .null, .null, .int 0, .null, .null, .null]), .inl (0, 4, .inl (upd (upd (upd (upd (fun _ => 0) 0 (-9)) 1 (-9)) 2 (-9)) 3 (-9))), k4i, k240i, k5z, k10i, k3i, k3i]) (List.append_assoc _ _ _) ?_
  refine T_putF dX12_init_73 fp_X12_29_12 rfl (ap_get (k := 0) hA rfl) (nb rfl) (fun _ => ⟨rfl, rfl⟩) ?_
  refine T_h (h2 := A ++ [.inr (12, [.int 0, .int 0, .ref 68, .ref 69, .ref 70, .int 0, .int 0, .int 0, .ref 71, .ref 72, .ref 73, .ref 74, .null, .int 0, .int 0, .int 0, .int 0, .null, .null, .null, .null, .int 0, .null, .int 0, .int 0, .int 0, .null, .null, .int 0, .null, .null, .null]), .inl (0, 4, .inl (upd (upd (upd (upd (fun _ => 0) 0 (-9)) 1 (-9)) 2 (-9)) 3 (-9))), k4i, k240i, k5z, k10i, k3i, k3i]) (ap_set (k := 0) hA) ?_
  refine T_aload_n dX12_init_76 rfl ?_
  refine T_iconst (v := nI 3) dX12_init_77 (by decide) ?_
  refine T_newI (N := 3) (a := 75) (cu2 := 8) (su2 := 272) dX12_init_78 (by rw [List.length_append, hA]; rfl) (by decide) (by decide) (by decide) (nb rfl) (nb rfl) ?_
  refine T_h (h2 := A ++ [.inr (12, [.int 0, .int 0, .ref 68, .ref 69, .ref 70, .int 0, .int 0, .int 0, .ref 71, .ref 72, .ref 73, .ref 74, .null, .int 0, .int 0, .int 0, .int 0, .null, .null, .null, .null, .int 0, .null, .int 0, .int 0, .int 0, .null, .null, .int 0, .null, .null, .null]), .inl (0, 4, .inl (upd (upd (upd (upd (fun _ => 0) 0 (-9)) 1 (-9)) 2 (-9)) 3 (-9))), k4i, k240i, k5z, k10i, k3i, k3i, k3i]) (List.append_assoc _ _ _) ?_
  refine T_putF dX12_init_80 fp_X12_32_12 rfl (ap_get (k := 0) hA rfl) (nb rfl) (fun _ => ⟨rfl, rfl⟩) ?_
  refine T_h (h2 := A ++ [.inr (12, [.int 0, .int 0, .ref 68, .ref 69, .ref 70, .int 0, .int 0, .int 0, .ref 71, .ref 72, .ref 73, .ref 74, .ref 75, .int 0, .int 0, .int 0, .int 0, .null, .null, .null, .null, .int 0, .null, .int 0, .int 0, .int 0, .null, .null, .int 0, .null, .null, .null]), .inl (0, 4, .inl (upd (upd (upd (upd (fun _ => 0) 0 (-9)) 1 (-9)) 2 (-9)) 3 (-9))), k4i, k240i, k5z, k10i, k3i, k3i, k3i]) (ap_set (k := 0) hA) ?_
  refine T_aload_n dX12_init_83 rfl ?_
  refine T_iconst (v := nI 5) dX12_init_84 (by decide) ?_
  refine T_newI (N := 5) (a := 76) (cu2 := 9) (su2 := 277) dX12_init_85 (by rw [List.length_append, hA]; rfl) (by decide) (by decide) (by decide) (nb rfl) (nb rfl) ?_
  refine T_h (h2 := A ++ [.inr (12, [.int 0, .int 0, .ref 68, .ref 69, .ref 70, .int 0, .int 0, .int 0, .ref 71, .ref 72, .ref 73, .ref 74, .ref 75, .int 0, .int 0, .int 0, .int 0, .null, .null, .null, .null, .int 0, .null, .int 0, .int 0, .int 0, .null, .null, .int 0, .null, .null, .null]), .inl (0, 4, .inl (upd (upd (upd (upd (fun _ => 0) 0 (-9)) 1 (-9)) 2 (-9)) 3 (-9))), k4i, k240i, k5z, k10i, k3i, k3i, k3i, k5i]) (List.append_assoc _ _ _) ?_
  refine T_putF dX12_init_87 fp_X12_35_12 rfl (ap_get (k := 0) hA rfl) (nb rfl) (fun _ => ⟨rfl, rfl⟩) ?_
  refine T_h (h2 := A ++ [.inr (12, [.int 0, .int 0, .ref 68, .ref 69, .ref 70, .int 0, .int 0, .int 0, .ref 71, .ref 72, .ref 73, .ref 74, .ref 75, .int 0, .int 0, .int 0, .int 0, .ref 76, .null, .null, .null, .int 0, .null, .int 0, .int 0, .int 0, .null, .null, .int 0, .null, .null, .null]), .inl (0, 4, .inl (upd (upd (upd (upd (fun _ => 0) 0 (-9)) 1 (-9)) 2 (-9)) 3 (-9))), k4i, k240i, k5z, k10i, k3i, k3i, k3i, k5i]) (ap_set (k := 0) hA) ?_
  refine T_aload_n dX12_init_90 rfl ?_
  refine T_bipush (v := nI 10) dX12_init_91 (by decide) ?_
  refine T_newI (N := 10) (a := 77) (cu2 := 10) (su2 := 287) dX12_init_93 (by rw [List.length_append, hA]; rfl) (by decide) (by decide) (by decide) (nb rfl) (nb rfl) ?_
  refine T_h (h2 := A ++ [.inr (12, [.int 0, .int 0, .ref 68, .ref 69, .ref 70, .int 0, .int 0, .int 0, .ref 71, .ref 72, .ref 73, .ref 74, .ref 75, .int 0, .int 0, .int 0, .int 0, .ref 76, .null, .null, .null, .int 0, .null, .int 0, .int 0, .int 0, .null, .null, .int 0, .null, .null, .null]), .inl (0, 4, .inl (upd (upd (upd (upd (fun _ => 0) 0 (-9)) 1 (-9)) 2 (-9)) 3 (-9))), k4i, k240i, k5z, k10i, k3i, k3i, k3i, k5i, k10i]) (List.append_assoc _ _ _) ?_
  refine T_putF dX12_init_95 fp_X12_38_12 rfl (ap_get (k := 0) hA rfl) (nb rfl) (fun _ => ⟨rfl, rfl⟩) ?_
  refine T_h (h2 := A ++ [.inr (12, [.int 0, .int 0, .ref 68, .ref 69, .ref 70, .int 0, .int 0, .int 0, .ref 71, .ref 72, .ref 73, .ref 74, .ref 75, .int 0, .int 0, .int 0, .int 0, .ref 76, .ref 77, .null, .null, .int 0, .null, .int 0, .int 0, .int 0, .null, .null, .int 0, .null, .null, .null]), .inl (0, 4, .inl (upd (upd (upd (upd (fun _ => 0) 0 (-9)) 1 (-9)) 2 (-9)) 3 (-9))), k4i, k240i, k5z, k10i, k3i, k3i, k3i, k5i, k10i]) (ap_set (k := 0) hA) ?_
  refine T_aload_n dX12_init_98 rfl ?_
  refine T_bipush (v := nI 9) dX12_init_99 (by decide) ?_
  refine T_newI (N := 9) (a := 78) (cu2 := 11) (su2 := 296) dX12_init_101 (by rw [List.length_append, hA]; rfl) (by decide) (by decide) (by decide) (nb rfl) (nb rfl) ?_
  refine T_h (h2 := A ++ [.inr (12, [.int 0, .int 0, .ref 68, .ref 69, .ref 70, .int 0, .int 0, .int 0, .ref 71, .ref 72, .ref 73, .ref 74, .ref 75, .int 0, .int 0, .int 0, .int 0, .ref 76, .ref 77, .null, .null, .int 0, .null, .int 0, .int 0, .int 0, .null, .null, .int 0, .null, .null, .null]), .inl (0, 4, .inl (upd (upd (upd (upd (fun _ => 0) 0 (-9)) 1 (-9)) 2 (-9)) 3 (-9))), k4i, k240i, k5z, k10i, k3i, k3i, k3i, k5i, k10i, k9i]) (List.append_assoc _ _ _) ?_
  refine T_putF dX12_init_103 fp_X12_41_12 rfl (ap_get (k := 0) hA rfl) (nb rfl) (fun _ => ⟨rfl, rfl⟩) ?_
  refine T_h (h2 := A ++ [.inr (12, [.int 0, .int 0, .ref 68, .ref 69, .ref 70, .int 0, .int 0, .int 0, .ref 71, .ref 72, .ref 73, .ref 74, .ref 75, .int 0, .int 0, .int 0, .int 0, .ref 76, .ref 77, .ref 78, .null, .int 0, .null, .int 0, .int 0, .int 0, .null, .null, .int 0, .null, .null, .null]), .inl (0, 4, .inl (upd (upd (upd (upd (fun _ => 0) 0 (-9)) 1 (-9)) 2 (-9)) 3 (-9))), k4i, k240i, k5z, k10i, k3i, k3i, k3i, k5i, k10i, k9i]) (ap_set (k := 0) hA) ?_
  refine T_aload_n dX12_init_106 rfl ?_
  refine T_iconst (v := nI 3) dX12_init_107 (by decide) ?_
  refine T_newI (N := 3) (a := 79) (cu2 := 12) (su2 := 299) dX12_init_108 (by rw [List.length_append, hA]; rfl) (by decide) (by decide) (by decide) (nb rfl) (nb rfl) ?_
  refine T_h (h2 := A ++ [.inr (12, [.int 0, .int 0, .ref 68, .ref 69, .ref 70, .int 0, .int 0, .int 0, .ref 71, .ref 72, .ref 73, .ref 74, .ref 75, .int 0, .int 0, .int 0, .int 0, .ref 76, .ref 77, .ref 78, .null, .int 0, .null, .int 0, .int 0, .int 0, .null, .null, .int 0, .null, .null, .null]), .inl (0, 4, .inl (upd (upd (upd (upd (fun _ => 0) 0 (-9)) 1 (-9)) 2 (-9)) 3 (-9))), k4i, k240i, k5z, k10i, k3i, k3i, k3i, k5i, k10i, k9i, k3i]) (List.append_assoc _ _ _) ?_
  refine T_putF dX12_init_110 fp_X12_44_12 rfl (ap_get (k := 0) hA rfl) (nb rfl) (fun _ => ⟨rfl, rfl⟩) ?_
  refine T_h (h2 := A ++ [.inr (12, [.int 0, .int 0, .ref 68, .ref 69, .ref 70, .int 0, .int 0, .int 0, .ref 71, .ref 72, .ref 73, .ref 74, .ref 75, .int 0, .int 0, .int 0, .int 0, .ref 76, .ref 77, .ref 78, .ref 79, .int 0, .null, .int 0, .int 0, .int 0, .null, .null, .int 0, .null, .null, .null]), .inl (0, 4, .inl (upd (upd (upd (upd (fun _ => 0) 0 (-9)) 1 (-9)) 2 (-9)) 3 (-9))), k4i, k240i, k5z, k10i, k3i, k3i, k3i, k5i, k10i, k9i, k3i]) (ap_set (k := 0) hA) ?_
  refine T_aload_n dX12_init_113 rfl ?_
  refine T_bipush (v := nI 10) dX12_init_114 (by decide) ?_
  refine T_newI (N := 10) (a := 80) (cu2 := 13) (su2 := 309) dX12_init_116 (by rw [List.length_append, hA]; rfl) (by decide) (by decide) (by decide) (nb rfl) (nb rfl) ?_
  refine T_h (h2 := A ++ [.inr (12, [.int 0, .int 0, .ref 68, .ref 69, .ref 70, .int 0, .int 0, .int 0, .ref 71, .ref 72, .ref 73, .ref 74, .ref 75, .int 0, .int 0, .int 0, .int 0, .ref 76, .ref 77, .ref 78, .ref 79, .int 0, .null, .int 0, .int 0, .int 0, .null, .null, .int 0, .null, .null, .null]), .inl (0, 4, .inl (upd (upd (upd (upd (fun _ => 0) 0 (-9)) 1 (-9)) 2 (-9)) 3 (-9))), k4i, k240i, k5z, k10i, k3i, k3i, k3i, k5i, k10i, k9i, k3i, k10i]) (List.append_assoc _ _ _) ?_
  refine T_putF dX12_init_118 fp_X12_47_12 rfl (ap_get (k := 0) hA rfl) (nb rfl) (fun _ => ⟨rfl, rfl⟩) ?_
  refine T_h (h2 := A ++ [.inr (12, [.int 0, .int 0, .ref 68, .ref 69, .ref 70, .int 0, .int 0, .int 0, .ref 71, .ref 72, .ref 73, .ref 74, .ref 75, .int 0, .int 0, .int 0, .int 0, .ref 76, .ref 77, .ref 78, .ref 79, .int 0, .ref 80, .int 0, .int 0, .int 0, .null, .null, .int 0, .null, .null, .null]), .inl (0, 4, .inl (upd (upd (upd (upd (fun _ => 0) 0 (-9)) 1 (-9)) 2 (-9)) 3 (-9))), k4i, k240i, k5z, k10i, k3i, k3i, k3i, k5i, k10i, k9i, k3i, k10i]) (ap_set (k := 0) hA) ?_
  refine T_aload_n dX12_init_121 rfl ?_
  refine T_bipush (v := nI 125) dX12_init_122 (by decide) ?_
  refine T_newZ (N := 125) (a := 81) (cu2 := 14) (su2 := 434) dX12_init_124 (by rw [List.length_append, hA]; rfl) (by decide) (by decide) (by decide) (nb rfl) (nb rfl) ?_
  refine T_h (h2 := A ++ [.inr (12, [.int 0, .int 0, .ref 68, .ref 69, .ref 70, .int 0, .int 0, .int 0, .ref 71, .ref 72, .ref 73, .ref 74, .ref 75, .int 0, .int 0, .int 0, .int 0, .ref 76, .ref 77, .ref 78, .ref 79, .int 0, .ref 80, .int 0, .int 0, .int 0, .null, .null, .int 0, .null, .null, .null]), .inl (0, 4, .inl (upd (upd (upd (upd (fun _ => 0) 0 (-9)) 1 (-9)) 2 (-9)) 3 (-9))), k4i, k240i, k5z, k10i, k3i, k3i, k3i, k5i, k10i, k9i, k3i, k10i, k125z]) (List.append_assoc _ _ _) ?_
  refine T_putF dX12_init_126 fp_X12_50_12 rfl (ap_get (k := 0) hA rfl) (nb rfl) (fun _ => ⟨rfl, rfl⟩) ?_
  refine T_h (h2 := A ++ [.inr (12, [.int 0, .int 0, .ref 68, .ref 69, .ref 70, .int 0, .int 0, .int 0, .ref 71, .ref 72, .ref 73, .ref 74, .ref 75, .int 0, .int 0, .int 0, .int 0, .ref 76, .ref 77, .ref 78, .ref 79, .int 0, .ref 80, .int 0, .int 0, .int 0, .ref 81, .null, .int 0, .null, .null, .null]), .inl (0, 4, .inl (upd (upd (upd (upd (fun _ => 0) 0 (-9)) 1 (-9)) 2 (-9)) 3 (-9))), k4i, k240i, k5z, k10i, k3i, k3i, k3i, k5i, k10i, k9i, k3i, k10i, k125z]) (ap_set (k := 0) hA) ?_
  refine T_aload_n dX12_init_129 rfl ?_
  refine T_bipush (v := nI 125) dX12_init_130 (by decide) ?_
  refine T_newZ (N := 125) (a := 82) (cu2 := 15) (su2 := 559) dX12_init_132 (by rw [List.length_append, hA]; rfl) (by decide) (by decide) (by decide) (nb rfl) (nb rfl) ?_
  refine T_h (h2 := A ++ [.inr (12, [.int 0, .int 0, .ref 68, .ref 69, .ref 70, .int 0, .int 0, .int 0, .ref 71, .ref 72, .ref 73, .ref 74, .ref 75, .int 0, .int 0, .int 0, .int 0, .ref 76, .ref 77, .ref 78, .ref 79, .int 0, .ref 80, .int 0, .int 0, .int 0, .ref 81, .null, .int 0, .null, .null, .null]), .inl (0, 4, .inl (upd (upd (upd (upd (fun _ => 0) 0 (-9)) 1 (-9)) 2 (-9)) 3 (-9))), k4i, k240i, k5z, k10i, k3i, k3i, k3i, k5i, k10i, k9i, k3i, k10i, k125z, k125z]) (List.append_assoc _ _ _) ?_
  refine T_putF dX12_init_134 fp_X12_53_12 rfl (ap_get (k := 0) hA rfl) (nb rfl) (fun _ => ⟨rfl, rfl⟩) ?_
  refine T_h (h2 := A ++ [.inr (12, [.int 0, .int 0, .ref 68, .ref 69, .ref 70, .int 0, .int 0, .int 0, .ref 71, .ref 72, .ref 73, .ref 74, .ref 75, .int 0, .int 0, .int 0, .int 0, .ref 76, .ref 77, .ref 78, .ref 79, .int 0, .ref 80, .int 0, .int 0, .int 0, .ref 81, .ref 82, .int 0, .null, .null, .null]), .inl (0, 4, .inl (upd (upd (upd (upd (fun _ => 0) 0 (-9)) 1 (-9)) 2 (-9)) 3 (-9))), k4i, k240i, k5z, k10i, k3i, k3i, k3i, k5i, k10i, k9i, k3i, k10i, k125z, k125z]) (ap_set (k := 0) hA) ?_
  refine T_aload_n dX12_init_137 rfl ?_
  refine T_bipush (v := nI 8) dX12_init_138 (by decide) ?_
  refine T_newI (N := 8) (a := 83) (cu2 := 16) (su2 := 567) dX12_init_140 (by rw [List.length_append, hA]; rfl) (by decide) (by decide) (by decide) (nb rfl) (nb rfl) ?_
  refine T_h (h2 := A ++ [.inr (12, [.int 0, .int 0, .ref 68, .ref 69, .ref 70, .int 0, .int 0, .int 0, .ref 71, .ref 72, .ref 73, .ref 74, .ref 75, .int 0, .int 0, .int 0, .int 0, .ref 76, .ref 77, .ref 78, .ref 79, .int 0, .ref 80, .int 0, .int 0, .int 0, .ref 81, .ref 82, .int 0, .null, .null, .null]), .inl (0, 4, .inl (upd (upd (upd (upd (fun _ => 0) 0 (-9)) 1 (-9)) 2 (-9)) 3 (-9))), k4i, k240i, k5z, k10i, k3i, k3i, k3i, k5i, k10i, k9i, k3i, k10i, k125z, k125z, k8i]) (List.append_assoc _ _ _) ?_
  refine T_putF dX12_init_142 fp_X12_56_12 rfl (ap_get (k := 0) hA rfl) (nb rfl) (fun _ => ⟨rfl, rfl⟩) ?_
  refine T_h (h2 := A ++ [.inr (12, [.int 0, .int 0, .ref 68, .ref 69, .ref 70, .int 0, .int 0, .int 0, .ref 71, .ref 72, .ref 73, .ref 74, .ref 75, .int 0, .int 0, .int 0, .int 0, .ref 76, .ref 77, .ref 78, .ref 79, .int 0, .ref 80, .int 0, .int 0, .int 0, .ref 81, .ref 82, .int 0, .ref 83, .null, .null]), .inl (0, 4, .inl (upd (upd (upd (upd (fun _ => 0) 0 (-9)) 1 (-9)) 2 (-9)) 3 (-9))), k4i, k240i, k5z, k10i, k3i, k3i, k3i, k5i, k10i, k9i, k3i, k10i, k125z, k125z, k8i]) (ap_set (k := 0) hA) ?_
  refine T_aload_n dX12_init_145 rfl ?_
  refine T_bipush (v := nI 8) dX12_init_146 (by decide) ?_
  refine T_newI (N := 8) (a := 84) (cu2 := 17) (su2 := 575) dX12_init_148 (by rw [List.length_append, hA]; rfl) (by decide) (by decide) (by decide) (nb rfl) (nb rfl) ?_
  refine T_h (h2 := A ++ [.inr (12, [.int 0, .int 0, .ref 68, .ref 69, .ref 70, .int 0, .int 0, .int 0, .ref 71, .ref 72, .ref 73, .ref 74, .ref 75, .int 0, .int 0, .int 0, .int 0, .ref 76, .ref 77, .ref 78, .ref 79, .int 0, .ref 80, .int 0, .int 0, .int 0, .ref 81, .ref 82, .int 0, .ref 83, .null, .null]), .inl (0, 4, .inl (upd (upd (upd (upd (fun _ => 0) 0 (-9)) 1 (-9)) 2 (-9)) 3 (-9))), k4i, k240i, k5z, k10i, k3i, k3i, k3i, k5i, k10i, k9i, k3i, k10i, k125z, k125z, k8i, k8i]) (List.append_assoc _ _ _) ?_
  refine T_putF dX12_init_150 fp_X12_59_12 rfl (ap_get (k := 0) hA rfl) (nb rfl) (fun _ => ⟨rfl, rfl⟩) ?_
  refine T_h (h2 := A ++ [.inr (12, [.int 0, .int 0, .ref 68, .ref 69, .ref 70, .int 0, .int 0, .int 0, .ref 71, .ref 72, .ref 73, .ref 74, .ref 75, .int 0, .int 0, .int 0, .int 0, .ref 76, .ref 77, .ref 78, .ref 79, .int 0, .ref 80, .int 0, .int 0, .int 0, .ref 81, .ref 82, .int 0, .ref 83, .ref 84, .null]), .inl (0, 4, .inl (upd (upd (upd (upd (fun _ => 0) 0 (-9)) 1 (-9)) 2 (-9)) 3 (-9))), k4i, k240i, k5z, k10i, k3i, k3i, k3i, k5i, k10i, k9i, k3i, k10i, k125z, k125z, k8i, k8i]) (ap_set (k := 0) hA) ?_
  refine T_aload_n dX12_init_153 rfl ?_
  refine T_bipush (v := nI 8) dX12_init_154 (by decide) ?_
  refine T_newI (N := 8) (a := 85) (cu2 := 18) (su2 := 583) dX12_init_156 (by rw [List.length_append, hA]; rfl) (by decide) (by decide) (by decide) (nb rfl) (nb rfl) ?_
  refine T_h (h2 := A ++ [.inr (12, [.int 0, .int 0, .ref 68, .ref 69, .ref 70, .int 0, .int 0, .int 0, .ref 71, .ref 72, .ref 73, .ref 74, .ref 75, .int 0, .int 0, .int 0, .int 0, .ref 76, .ref 77, .ref 78, .ref 79, .int 0, .ref 80, .int 0, .int 0, .int 0, .ref 81, .ref 82, .int 0, .ref 83, .ref 84, .null]), .inl (0, 4, .inl (upd (upd (upd (upd (fun _ => 0) 0 (-9)) 1 (-9)) 2 (-9)) 3 (-9))), k4i, k240i, k5z, k10i, k3i, k3i, k3i, k5i, k10i, k9i, k3i, k10i, k125z, k125z, k8i, k8i, k8i]) (List.append_assoc _ _ _) ?_
  refine T_putF dX12_init_158 fp_X12_62_12 rfl (ap_get (k := 0) hA rfl) (nb rfl) (fun _ => ⟨rfl, rfl⟩) ?_
  refine T_h (h2 := A ++ [.inr (12, [.int 0, .int 0, .ref 68, .ref 69, .ref 70, .int 0, .int 0, .int 0, .ref 71, .ref 72, .ref 73, .ref 74, .ref 75, .int 0, .int 0, .int 0, .int 0, .ref 76, .ref 77, .ref 78, .ref 79, .int 0, .ref 80, .int 0, .int 0, .int 0, .ref 81, .ref 82, .int 0, .ref 83, .ref 84, .ref 85]), .inl (0, 4, .inl (upd (upd (upd (upd (fun _ => 0) 0 (-9)) 1 (-9)) 2 (-9)) 3 (-9))), k4i, k240i, k5z, k10i, k3i, k3i, k3i, k5i, k10i, k9i, k3i, k10i, k125z, k125z, k8i, k8i, k8i]) (ap_set (k := 0) hA) ?_
  refine T_vret dX12_init_161 rfl (nb rfl) (nb rfl) ?_
  exact ⟨rfl, rfl⟩
end K6
