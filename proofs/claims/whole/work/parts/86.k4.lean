/-! the constructor of the search -/
section K4
variable {A : XH}
def fG1 (n : Nat) : Nat → Option Nat := va_up (fun _ => none) 0 (some (n + 12))
def fH1 (n : Nat) : Nat → Option Nat := va_up (fun _ => none) 0 (some (n + 13))
def fG2 (n : Nat) : Nat → Option Nat := va_up (fG1 n) 1 (some (n + 14))
def fH2 (n : Nat) : Nat → Option Nat := va_up (fH1 n) 1 (some (n + 15))
def fG3 (n : Nat) : Nat → Option Nat := va_up (fG2 n) 2 (some (n + 16))
def fH3 (n : Nat) : Nat → Option Nat := va_up (fH2 n) 2 (some (n + 17))
def fG4 (n : Nat) : Nat → Option Nat := va_up (fG3 n) 3 (some (n + 18))
def fH4 (n : Nat) : Nat → Option Nat := va_up (fH3 n) 3 (some (n + 19))
def fG5 (n : Nat) : Nat → Option Nat := va_up (fG4 n) 4 (some (n + 20))
def fH5 (n : Nat) : Nat → Option Nat := va_up (fH4 n) 4 (some (n + 21))
def fG6 (n : Nat) : Nat → Option Nat := va_up (fG5 n) 5 (some (n + 22))
def fH6 (n : Nat) : Nat → Option Nat := va_up (fH5 n) 5 (some (n + 23))
def fG7 (n : Nat) : Nat → Option Nat := va_up (fG6 n) 6 (some (n + 24))
def fH7 (n : Nat) : Nat → Option Nat := va_up (fH6 n) 6 (some (n + 25))
def fG8 (n : Nat) : Nat → Option Nat := va_up (fG7 n) 7 (some (n + 26))
def fH8 (n : Nat) : Nat → Option Nat := va_up (fH7 n) 7 (some (n + 27))
def fG9 (n : Nat) : Nat → Option Nat := va_up (fG8 n) 8 (some (n + 28))
def fH9 (n : Nat) : Nat → Option Nat := va_up (fH8 n) 8 (some (n + 29))
def fG10 (n : Nat) : Nat → Option Nat := va_up (fG9 n) 9 (some (n + 30))
def fH10 (n : Nat) : Nat → Option Nat := va_up (fH9 n) 9 (some (n + 31))
def fG11 (n : Nat) : Nat → Option Nat := va_up (fG10 n) 10 (some (n + 32))
theorem lp_X4_init_10 {n : Nat} (hA : A.length = n) {Qa : Option Value → XH → Prop} (K : Qa none (A ++ [.inr (4, [.int 1, .int 0, .int 0, .ref (n + 1), .ref (n + 2), .ref (n + 3), .ref (n + 4), .ref (n + 5), .ref (n + 6), .ref (n + 8), .ref (n + 9), .ref (n + 10), .ref (n + 11)]), k250, k250, k125i, k8i, k8i, .inr (10, [.ref (n + 7), .int 0, .int (-9), .int (-9)]), k3i, k6, k6, .inl (5, 11, .inr (.inr (fG11 n))), .inl (5, 10, .inr (.inr (fH10 n))), k6, k6, k6, k6, k6, k6, k6, k6, k6, k6, k6, k6, k6, k6, k6, k6, k6, k6, k6, k6, k6])) : T M_X4_init x_E (x_Z M_X4_init Qa) 31 713 114 [(0, .ref n), (1, .int (nI 10))] [] (A ++ [.inr (4, [.int 1, .int 0, .int 0, .ref (n + 1), .ref (n + 2), .ref (n + 3), .ref (n + 4), .ref (n + 5), .ref (n + 6), .ref (n + 8), .ref (n + 9), .ref (n + 10), .ref (n + 11)]), k250, k250, k125i, k8i, k8i, .inr (10, [.ref (n + 7), .int 0, .int (-9), .int (-9)]), k3i, k6, k6, .inl (5, 11, .inr (.inr (fG10 n))), .inl (5, 10, .inr (.inr (fH10 n))), k6, k6, k6, k6, k6, k6, k6, k6, k6, k6, k6, k6, k6, k6, k6, k6, k6, k6, k6, k6]) := by
  refine T_iload_n dX4_init_114 rfl ?_
  refine T_bipush (v := nI 10) dX4_init_115 (by decide) ?_
  refine T_icmp_geN (tgt := 152) dX4_init_117 (by decide) (by decide) (by decide) (fun _ => ?_) (fun c => absurd c (by decide))
  refine T_aload_n dX4_init_152 rfl ?_
  refine T_get dX4_init_153 fl_X4_56_4 (ap_get (k := 0) hA rfl) rfl ?_
  refine T_bipush (v := nI 10) dX4_init_156 (by decide) ?_
  refine T_newO (a := (n + 32)) (cu2 := 32) (su2 := 715) dX4_init_158 nw_X4_46 (by rw [List.length_append, hA]; rfl) (nb rfl) (nb rfl) (nb rfl) (nb rfl) ?_
  refine T_dup dX4_init_161 rfl ?_
  refine T_i0e (cu2 := 32) (su2 := 715) dX4_init_162 li_X4_48 rfl (c_X6_init (n := (n + 32)) (by rw [List.length_append, hA]; rfl)) (nb rfl) (nb rfl) (nb rfl) (nb rfl) (nb rfl) ?_
  refine T_h (h2 := A ++ [.inr (4, [.int 1, .int 0, .int 0, .ref (n + 1), .ref (n + 2), .ref (n + 3), .ref (n + 4), .ref (n + 5), .ref (n + 6), .ref (n + 8), .ref (n + 9), .ref (n + 10), .ref (n + 11)]), k250, k250, k125i, k8i, k8i, .inr (10, [.ref (n + 7), .int 0, .int (-9), .int (-9)]), k3i, k6, k6, .inl (5, 11, .inr (.inr (fG10 n))), .inl (5, 10, .inr (.inr (fH10 n))), k6, k6, k6, k6, k6, k6, k6, k6, k6, k6, k6, k6, k6, k6, k6, k6, k6, k6, k6, k6, k6]) (List.append_assoc _ _ _) ?_
  refine T_aastN (j := 10) dX4_init_165 (fun _ => rfl) (ap_get (k := 10) hA rfl) (ap_get (k := 32) hA rfl) rfl (Or.inl rfl) (by decide) (by decide) ?_
  refine T_h (h2 := A ++ [.inr (4, [.int 1, .int 0, .int 0, .ref (n + 1), .ref (n + 2), .ref (n + 3), .ref (n + 4), .ref (n + 5), .ref (n + 6), .ref (n + 8), .ref (n + 9), .ref (n + 10), .ref (n + 11)]), k250, k250, k125i, k8i, k8i, .inr (10, [.ref (n + 7), .int 0, .int (-9), .int (-9)]), k3i, k6, k6, .inl (5, 11, .inr (.inr (fG11 n))), .inl (5, 10, .inr (.inr (fH10 n))), k6, k6, k6, k6, k6, k6, k6, k6, k6, k6, k6, k6, k6, k6, k6, k6, k6, k6, k6, k6, k6]) (ap_set (k := 10) hA) ?_
  refine T_vret dX4_init_166 rfl (nb rfl) (nb rfl) ?_
  exact K
theorem lp_X4_init_9 {n : Nat} (hA : A.length = n) {Qa : Option Value → XH → Prop} (K : Qa none (A ++ [.inr (4, [.int 1, .int 0, .int 0, .ref (n + 1), .ref (n + 2), .ref (n + 3), .ref (n + 4), .ref (n + 5), .ref (n + 6), .ref (n + 8), .ref (n + 9), .ref (n + 10), .ref (n + 11)]), k250, k250, k125i, k8i, k8i, .inr (10, [.ref (n + 7), .int 0, .int (-9), .int (-9)]), k3i, k6, k6, .inl (5, 11, .inr (.inr (fG11 n))), .inl (5, 10, .inr (.inr (fH10 n))), k6, k6, k6, k6, k6, k6, k6, k6, k6, k6, k6, k6, k6, k6, k6, k6, k6, k6, k6, k6, k6])) : T M_X4_init x_E (x_Z M_X4_init Qa) 29 709 114 [(0, .ref n), (1, .int (nI 9))] [] (A ++ [.inr (4, [.int 1, .int 0, .int 0, .ref (n + 1), .ref (n + 2), .ref (n + 3), .ref (n + 4), .ref (n + 5), .ref (n + 6), .ref (n + 8), .ref (n + 9), .ref (n + 10), .ref (n + 11)]), k250, k250, k125i, k8i, k8i, .inr (10, [.ref (n + 7), .int 0, .int (-9), .int (-9)]), k3i, k6, k6, .inl (5, 11, .inr (.inr (fG9 n))), .inl (5, 10, .inr (.inr (fH9 n))), k6, k6, k6, k6, k6, k6, k6, k6, k6, k6, k6, k6, k6, k6, k6, k6, k6, k6]) := by
  refine T_iload_n dX4_init_114 rfl ?_
  refine T_bipush (v := nI 10) dX4_init_115 (by decide) ?_
  refine T_icmp_geN (tgt := 152) dX4_init_117 (by decide) (by decide) (by decide) (fun c => absurd c (by decide)) (fun _ => ?_)
  refine T_aload_n dX4_init_120 rfl ?_
  refine T_get dX4_init_121 fl_X4_56_4 (ap_get (k := 0) hA rfl) rfl ?_
  refine T_iload_n dX4_init_124 rfl ?_
  refine T_newO (a := (n + 30)) (cu2 := 30) (su2 := 711) dX4_init_125 nw_X4_46 (by rw [List.length_append, hA]; rfl) (nb rfl) (nb rfl) (nb rfl) (nb rfl) ?_
  refine T_dup dX4_init_128 rfl ?_
  refine T_i0e (cu2 := 30) (su2 := 711) dX4_init_129 li_X4_48 rfl (c_X6_init (n := (n + 30)) (by rw [List.length_append, hA]; rfl)) (nb rfl) (nb rfl) (nb rfl) (nb rfl) (nb rfl) ?_
  refine T_h (h2 := A ++ [.inr (4, [.int 1, .int 0, .int 0, .ref (n + 1), .ref (n + 2), .ref (n + 3), .ref (n + 4), .ref (n + 5), .ref (n + 6), .ref (n + 8), .ref (n + 9), .ref (n + 10), .ref (n + 11)]), k250, k250, k125i, k8i, k8i, .inr (10, [.ref (n + 7), .int 0, .int (-9), .int (-9)]), k3i, k6, k6, .inl (5, 11, .inr (.inr (fG9 n))), .inl (5, 10, .inr (.inr (fH9 n))), k6, k6, k6, k6, k6, k6, k6, k6, k6, k6, k6, k6, k6, k6, k6, k6, k6, k6, k6]) (List.append_assoc _ _ _) ?_
  refine T_aastN (j := 9) dX4_init_132 (fun _ => rfl) (ap_get (k := 10) hA rfl) (ap_get (k := 30) hA rfl) rfl (Or.inl rfl) (by decide) (by decide) ?_
  refine T_h (h2 := A ++ [.inr (4, [.int 1, .int 0, .int 0, .ref (n + 1), .ref (n + 2), .ref (n + 3), .ref (n + 4), .ref (n + 5), .ref (n + 6), .ref (n + 8), .ref (n + 9), .ref (n + 10), .ref (n + 11)]), k250, k250, k125i, k8i, k8i, .inr (10, [.ref (n + 7), .int 0, .int (-9), .int (-9)]), k3i, k6, k6, .inl (5, 11, .inr (.inr (fG10 n))), .inl (5, 10, .inr (.inr (fH9 n))), k6, k6, k6, k6, k6, k6, k6, k6, k6, k6, k6, k6, k6, k6, k6, k6, k6, k6, k6]) (ap_set (k := 10) hA) ?_
  refine T_aload_n dX4_init_133 rfl ?_
  refine T_get dX4_init_134 fl_X4_60_4 (ap_get (k := 0) hA rfl) rfl ?_
  refine T_iload_n dX4_init_137 rfl ?_
  refine T_newO (a := (n + 31)) (cu2 := 31) (su2 := 713) dX4_init_138 nw_X4_46 (by rw [List.length_append, hA]; rfl) (nb rfl) (nb rfl) (nb rfl) (nb rfl) ?_
  refine T_dup dX4_init_141 rfl ?_
  refine T_i0e (cu2 := 31) (su2 := 713) dX4_init_142 li_X4_48 rfl (c_X6_init (n := (n + 31)) (by rw [List.length_append, hA]; rfl)) (nb rfl) (nb rfl) (nb rfl) (nb rfl) (nb rfl) ?_
  refine T_h (h2 := A ++ [.inr (4, [.int 1, .int 0, .int 0, .ref (n + 1), .ref (n + 2), .ref (n + 3), .ref (n + 4), .ref (n + 5), .ref (n + 6), .ref (n + 8), .ref (n + 9), .ref (n + 10), .ref (n + 11)]), k250, k250, k125i, k8i, k8i, .inr (10, [.ref (n + 7), .int 0, .int (-9), .int (-9)]), k3i, k6, k6, .inl (5, 11, .inr (.inr (fG10 n))), .inl (5, 10, .inr (.inr (fH9 n))), k6, k6, k6, k6, k6, k6, k6, k6, k6, k6, k6, k6, k6, k6, k6, k6, k6, k6, k6, k6]) (List.append_assoc _ _ _) ?_
  refine T_aastN (j := 9) dX4_init_145 (fun _ => rfl) (ap_get (k := 11) hA rfl) (ap_get (k := 31) hA rfl) rfl (Or.inl rfl) (by decide) (by decide) ?_
  refine T_h (h2 := A ++ [.inr (4, [.int 1, .int 0, .int 0, .ref (n + 1), .ref (n + 2), .ref (n + 3), .ref (n + 4), .ref (n + 5), .ref (n + 6), .ref (n + 8), .ref (n + 9), .ref (n + 10), .ref (n + 11)]), k250, k250, k125i, k8i, k8i, .inr (10, [.ref (n + 7), .int 0, .int (-9), .int (-9)]), k3i, k6, k6, .inl (5, 11, .inr (.inr (fG10 n))), .inl (5, 10, .inr (.inr (fH10 n))), k6, k6, k6, k6, k6, k6, k6, k6, k6, k6, k6, k6, k6, k6, k6, k6, k6, k6, k6, k6]) (ap_set (k := 11) hA) ?_
  refine T_iincN dX4_init_146 rfl (by decide) rfl ?_
  refine T_goto (tgt := 114) dX4_init_149 (by decide) ?_
  exact lp_X4_init_10 hA K
theorem lp_X4_init_8 {n : Nat} (hA : A.length = n) {Qa : Option Value → XH → Prop} (K : Qa none (A ++ [.inr (4, [.int 1, .int 0, .int 0, .ref (n + 1), .ref (n + 2), .ref (n + 3), .ref (n + 4), .ref (n + 5), .ref (n + 6), .ref (n + 8), .ref (n + 9), .ref (n + 10), .ref (n + 11)]), k250, k250, k125i, k8i, k8i, .inr (10, [.ref (n + 7), .int 0, .int (-9), .int (-9)]), k3i, k6, k6, .inl (5, 11, .inr (.inr (fG11 n))), .inl (5, 10, .inr (.inr (fH10 n))), k6, k6, k6, k6, k6, k6, k6, k6, k6, k6, k6, k6, k6, k6, k6, k6, k6, k6, k6, k6, k6])) : T M_X4_init x_E (x_Z M_X4_init Qa) 27 705 114 [(0, .ref n), (1, .int (nI 8))] [] (A ++ [.inr (4, [.int 1, .int 0, .int 0, .ref (n + 1), .ref (n + 2), .ref (n + 3), .ref (n + 4), .ref (n + 5), .ref (n + 6), .ref (n + 8), .ref (n + 9), .ref (n + 10), .ref (n + 11)]), k250, k250, k125i, k8i, k8i, .inr (10, [.ref (n + 7), .int 0, .int (-9), .int (-9)]), k3i, k6, k6, .inl (5, 11, .inr (.inr (fG8 n))), .inl (5, 10, .inr (.inr (fH8 n))), k6, k6, k6, k6, k6, k6, k6, k6, k6, k6, k6, k6, k6, k6, k6, k6]) := by
  refine T_iload_n dX4_init_114 rfl ?_
  refine T_bipush (v := nI 10) dX4_init_115 (by decide) ?_
  refine T_icmp_geN (tgt := 152) dX4_init_117 (by decide) (by decide) (by decide) (fun c => absurd c (by decide)) (fun _ => ?_)
  refine T_aload_n dX4_init_120 rfl ?_
  refine T_get dX4_init_121 fl_X4_56_4 (ap_get (k := 0) hA rfl) rfl ?_
  refine T_iload_n dX4_init_124 rfl ?_
  refine T_newO (a := (n + 28)) (cu2 := 28) (su2 := 707) dX4_init_125 nw_X4_46 (by rw [List.length_append, hA]; rfl) (nb rfl) (nb rfl) (nb rfl) (nb rfl) ?_
  refine T_dup dX4_init_128 rfl ?_
  refine T_i0e (cu2 := 28) (su2 := 707) dX4_init_129 li_X4_48 rfl (c_X6_init (n := (n + 28)) (by rw [List.length_append, hA]; rfl)) (nb rfl) (nb rfl) (nb rfl) (nb rfl) (nb rfl) ?_
  refine T_h (h2 := A ++ [.inr (4, [.int 1, .int 0, .int 0, .ref (n + 1), .ref (n + 2), .ref (n + 3), .ref (n + 4), .ref (n + 5), .ref (n + 6), .ref (n + 8), .ref (n + 9), .ref (n + 10), .ref (n + 11)]), k250, k250, k125i, k8i, k8i, .inr (10, [.ref (n + 7), .int 0, .int (-9), .int (-9)]), k3i, k6, k6, .inl (5, 11, .inr (.inr (fG8 n))), .inl (5, 10, .inr (.inr (fH8 n))), k6, k6, k6, k6, k6, k6, k6, k6, k6, k6, k6, k6, k6, k6, k6, k6, k6]) (List.append_assoc _ _ _) ?_
  refine T_aastN (j := 8) dX4_init_132 (fun _ => rfl) (ap_get (k := 10) hA rfl) (ap_get (k := 28) hA rfl) rfl (Or.inl rfl) (by decide) (by decide) ?_
  refine T_h (h2 := A ++ [.inr (4, [.int 1, .int 0, .int 0, .ref (n + 1), .ref (n + 2), .ref (n + 3), .ref (n + 4), .ref (n + 5), .ref (n + 6), .ref (n + 8), .ref (n + 9), .ref (n + 10), .ref (n + 11)]), k250, k250, k125i, k8i, k8i, .inr (10, [.ref (n + 7), .int 0, .int (-9), .int (-9)]), k3i, k6, k6, .inl (5, 11, .inr (.inr (fG9 n))), .inl (5, 10, .inr (.inr (fH8 n))), k6, k6, k6, k6, k6, k6, k6, k6, k6, k6, k6, k6, k6, k6, k6, k6, k6]) (ap_set (k := 10) hA) ?_
  refine T_aload_n dX4_init_133 rfl ?_
  refine T_get dX4_init_134 fl_X4_60_4 (ap_get (k := 0) hA rfl) rfl ?_
  refine T_iload_n dX4_init_137 rfl ?_
  refine T_newO (a := (n + 29)) (cu2 := 29) (su2 := 709) dX4_init_138 nw_X4_46 (by rw [List.length_append, hA]; rfl) (nb rfl) (nb rfl) (nb rfl) (nb rfl) ?_
  refine T_dup dX4_init_141 rfl ?_
  refine T_i0e (cu2 := 29) (su2 := 709) dX4_init_142 li_X4_48 rfl (c_X6_init (n := (n + 29)) (by rw [List.length_append, hA]; rfl)) (nb rfl) (nb rfl) (nb rfl) (nb rfl) (nb rfl) ?_
  refine T_h (h2 := A ++ [.inr (4, [.int 1, .int 0, .int 0, .ref (n + 1), .ref (n + 2), .ref (n + 3), .ref (n + 4), .ref (n + 5), .ref (n + 6), .ref (n + 8), .ref (n + 9), .ref (n + 10), .ref (n + 11)]), k250, k250, k125i, k8i, k8i, .inr (10, [.ref (n + 7), .int 0, .int (-9), .int (-9)]), k3i, k6, k6, .inl (5, 11, .inr (.inr (fG9 n))), .inl (5, 10, .inr (.inr (fH8 n))), k6, k6, k6, k6, k6, k6, k6, k6, k6, k6, k6, k6, k6, k6, k6, k6, k6, k6]) (List.append_assoc _ _ _) ?_
  refine T_aastN (j := 8) dX4_init_145 (fun _ => rfl) (ap_get (k := 11) hA rfl) (ap_get (k := 29) hA rfl) rfl (Or.inl rfl) (by decide) (by decide) ?_
  refine T_h (h2 := A ++ [.inr (4, [.int 1, .int 0, .int 0, .ref (n + 1), .ref (n + 2), .ref (n + 3), .ref (n + 4), .ref (n + 5), .ref (n + 6), .ref (n + 8), .ref (n + 9), .ref (n + 10), .ref (n + 11)]), k250, k250, k125i, k8i, k8i, .inr (10, [.ref (n + 7), .int 0, .int (-9), .int (-9)]), k3i, k6, k6, .inl (5, 11, .inr (.inr (fG9 n))), .inl (5, 10, .inr (.inr (fH9 n))), k6, k6, k6, k6, k6, k6, k6, k6, k6, k6, k6, k6, k6, k6, k6, k6, k6, k6]) (ap_set (k := 11) hA) ?_
  refine T_iincN dX4_init_146 rfl (by decide) rfl ?_
  refine T_goto (tgt := 114) dX4_init_149 (by decide) ?_
  exact lp_X4_init_9 hA K
theorem lp_X4_init_7 {n : Nat} (hA : A.length = n) {Qa : Option Value → XH → Prop} (K : Qa none (A ++ [.inr (4, [.int 1, .int 0, .int 0, .ref (n + 1), .ref (n + 2), .ref (n + 3), .ref (n + 4), .ref (n + 5), .ref (n + 6), .ref (n + 8), .ref (n + 9), .ref (n + 10), .ref (n + 11)]), k250, k250, k125i, k8i, k8i, .inr (10, [.ref (n + 7), .int 0, .int (-9), .int (-9)]), k3i, k6, k6, .inl (5, 11, .inr (.inr (fG11 n))), .inl (5, 10, .inr (.inr (fH10 n))), k6, k6, k6, k6, k6, k6, k6, k6, k6, k6, k6, k6, k6, k6, k6, k6, k6, k6, k6, k6, k6])) : T M_X4_init x_E (x_Z M_X4_init Qa) 25 701 114 [(0, .ref n), (1, .int (nI 7))] [] (A ++ [.inr (4, [.int 1, .int 0, .int 0, .ref (n + 1), .ref (n + 2), .ref (n + 3), .ref (n + 4), .ref (n + 5), .ref (n + 6), .ref (n + 8), .ref (n + 9), .ref (n + 10), .ref (n + 11)]), k250, k250, k125i, k8i, k8i, .inr (10, [.ref (n + 7), .int 0, .int (-9), .int (-9)]), k3i, k6, k6, .inl (5, 11, .inr (.inr (fG7 n))), .inl (5, 10, .inr (.inr (fH7 n))), k6, k6, k6, k6, k6, k6, k6, k6, k6, k6, k6, k6, k6, k6]) := by
  refine T_iload_n dX4_init_114 rfl ?_
  refine T_bipush (v := nI 10) dX4_init_115 (by decide) ?_
  refine T_icmp_geN (tgt := 152) dX4_init_117 (by decide) (by decide) (by decide) (fun c => absurd c (by decide)) (fun _ => ?_)
  refine T_aload_n dX4_init_120 rfl ?_
  refine T_get dX4_init_121 fl_X4_56_4 (ap_get (k := 0) hA rfl) rfl ?_
  refine T_iload_n dX4_init_124 rfl ?_
  refine T_newO (a := (n + 26)) (cu2 := 26) (su2 := 703) dX4_init_125 nw_X4_46 (by rw [List.length_append, hA]; rfl) (nb rfl) (nb rfl) (nb rfl) (nb rfl) ?_
  refine T_dup dX4_init_128 rfl ?_
  refine T_i0e (cu2 := 26) (su2 := 703) dX4_init_129 li_X4_48 rfl (c_X6_init (n := (n + 26)) (by rw [List.length_append, hA]; rfl)) (nb rfl) (nb rfl) (nb rfl) (nb rfl) (nb rfl) ?_
  refine T_h (h2 := A ++ [.inr (4, [.int 1, .int 0, .int 0, .ref (n + 1), .ref (n + 2), .ref (n + 3), .ref (n + 4), .ref (n + 5), .ref (n + 6), .ref (n + 8), .ref (n + 9), .ref (n + 10), .ref (n + 11)]), k250, k250, k125i, k8i, k8i, .inr (10, [.ref (n + 7), .int 0, .int (-9), .int (-9)]), k3i, k6, k6, .inl (5, 11, .inr (.inr (fG7 n))), .inl (5, 10, .inr (.inr (fH7 n))), k6, k6, k6, k6, k6, k6, k6, k6, k6, k6, k6, k6, k6, k6, k6]) (List.append_assoc _ _ _) ?_
  refine T_aastN (j := 7) dX4_init_132 (fun _ => rfl) (ap_get (k := 10) hA rfl) (ap_get (k := 26) hA rfl) rfl (Or.inl rfl) (by decide) (by decide) ?_
  refine T_h (h2 := A ++ [.inr (4, [.int 1, .int 0, .int 0, .ref (n + 1), .ref (n + 2), .ref (n + 3), .ref (n + 4), .ref (n + 5), .ref (n + 6), .ref (n + 8), .ref (n + 9), .ref (n + 10), .ref (n + 11)]), k250, k250, k125i, k8i, k8i, .inr (10, [.ref (n + 7), .int 0, .int (-9), .int (-9)]), k3i, k6, k6, .inl (5, 11, .inr (.inr (fG8 n))), .inl (5, 10, .inr (.inr (fH7 n))), k6, k6, k6, k6, k6, k6, k6, k6, k6, k6, k6, k6, k6, k6, k6]) (ap_set (k := 10) hA) ?_
  refine T_aload_n dX4_init_133 rfl ?_
  refine T_get dX4_init_134 fl_X4_60_4 (ap_get (k := 0) hA rfl) rfl ?_
  refine T_iload_n dX4_init_137 rfl ?_
  refine T_newO (a := (n + 27)) (cu2 := 27) (su2 := 705) dX4_init_138 nw_X4_46 (by rw [List.length_append, hA]; rfl) (nb rfl) (nb rfl) (nb rfl) (nb rfl) ?_
  refine T_dup dX4_init_141 rfl ?_
  refine T_i0e (cu2 := 27) (su2 := 705) dX4_init_142 li_X4_48 rfl (c_X6_init (n := (n + 27)) (by rw [List.length_append, hA]; rfl)) (nb rfl) (nb rfl) (nb rfl) (nb rfl) (nb rfl) ?_
  refine T_h (h2 := A ++ [.inr (4, [.int 1, .int 0, .int 0, .ref (n + 1), .ref (n + 2), .ref (n + 3), .ref (n + 4), .ref (n + 5), .ref (n + 6), .ref (n + 8), .ref (n + 9), .ref (n + 10), .ref (n + 11)]), k250, k250, k125i, k8i, k8i, .inr (10, [.ref (n + 7), .int 0, .int (-9), .int (-9)]), k3i, k6, k6, .inl (5, 11, .inr (.inr (fG8 n))), .inl (5, 10, .inr (.inr (fH7 n))), k6, k6, k6, k6, k6, k6, k6, k6, k6, k6, k6, k6, k6, k6, k6, k6]) (List.append_assoc _ _ _) ?_
  refine T_aastN (j := 7) dX4_init_145 (fun _ => rfl) (ap_get (k := 11) hA rfl) (ap_get (k := 27) hA rfl) rfl (Or.inl rfl) (by decide) (by decide) ?_
  refine T_h (h2 := A ++ [.inr (4, [.int 1, .int 0, .int 0, .ref (n + 1), .ref (n + 2), .ref (n + 3), .ref (n + 4), .ref (n + 5), .ref (n + 6), .ref (n + 8), .ref (n + 9), .ref (n + 10), .ref (n + 11)]), k250, k250, k125i, k8i, k8i, .inr (10, [.ref (n + 7), .int 0, .int (-9), .int (-9)]), k3i, k6, k6, .inl (5, 11, .inr (.inr (fG8 n))), .inl (5, 10, .inr (.inr (fH8 n))), k6, k6, k6, k6, k6, k6, k6, k6, k6, k6, k6, k6, k6, k6, k6, k6]) (ap_set (k := 11) hA) ?_
  refine T_iincN dX4_init_146 rfl (by decide) rfl ?_
  refine T_goto (tgt := 114) dX4_init_149 (by decide) ?_
  exact lp_X4_init_8 hA K
theorem lp_X4_init_6 {n : Nat} (hA : A.length = n) {Qa : Option Value → XH → Prop} (K : Qa none (A ++ [.inr (4, [.int 1, .int 0, .int 0, .ref (n + 1), .ref (n + 2), .ref (n + 3), .ref (n + 4), .ref (n + 5), .ref (n + 6), .ref (n + 8), .ref (n + 9), .ref (n + 10), .ref (n + 11)]), k250, k250, k125i, k8i, k8i, .inr (10, [.ref (n + 7), .int 0, .int (-9), .int (-9)]), k3i, k6, k6, .inl (5, 11, .inr (.inr (fG11 n))), .inl (5, 10, .inr (.inr (fH10 n))), k6, k6, k6, k6, k6, k6, k6, k6, k6, k6, k6, k6, k6, k6, k6, k6, k6, k6, k6, k6, k6])) : T M_X4_init x_E (x_Z M_X4_init Qa) 23 697 114 [(0, .ref n), (1, .int (nI 6))] [] (A ++ [.inr (4, [.int 1, .int 0, .int 0, .ref (n + 1), .ref (n + 2), .ref (n + 3), .ref (n + 4), .ref (n + 5), .ref (n + 6), .ref (n + 8), .ref (n + 9), .ref (n + 10), .ref (n + 11)]), k250, k250, k125i, k8i, k8i, .inr (10, [.ref (n + 7), .int 0, .int (-9), .int (-9)]), k3i, k6, k6, .inl (5, 11, .inr (.inr (fG6 n))), .inl (5, 10, .inr (.inr (fH6 n))), k6, k6, k6, k6, k6, k6, k6, k6, k6, k6, k6, k6]) := by
  refine T_iload_n dX4_init_114 rfl ?_
  refine T_bipush (v := nI 10) dX4_init_115 (by decide) ?_
  refine T_icmp_geN (tgt := 152) dX4_init_117 (by decide) (by decide) (by decide) (fun c => absurd c (by decide)) (fun _ => ?_)
  refine T_aload_n dX4_init_120 rfl ?_
  refine T_get dX4_init_121 fl_X4_56_4 (ap_get (k := 0) hA rfl) rfl ?_
  refine T_iload_n dX4_init_124 rfl ?_
  refine T_newO (a := (n + 24)) (cu2 := 24) (su2 := 699) dX4_init_125 nw_X4_46 (by rw [List.length_append, hA]; rfl) (nb rfl) (nb rfl) (nb rfl) (nb rfl) ?_
  refine T_dup dX4_init_128 rfl ?_
  refine T_i0e (cu2 := 24) (su2 := 699) dX4_init_129 li_X4_48 rfl (c_X6_init (n := (n + 24)) (by rw [List.length_append, hA]; rfl)) (nb rfl) (nb rfl) (nb rfl) (nb rfl) (nb rfl) ?_
  refine T_h (h2 := A ++ [.inr (4, [.int 1, .int 0, .int 0, .ref (n + 1), .ref (n + 2), .ref (n + 3), .ref (n + 4), .ref (n + 5), .ref (n + 6), .ref (n + 8), .ref (n + 9), .ref (n + 10), .ref (n + 11)]), k250, k250, k125i, k8i, k8i, .inr (10, [.ref (n + 7), .int 0, .int (-9), .int (-9)]), k3i, k6, k6, .inl (5, 11, .inr (.inr (fG6 n))), .inl (5, 10, .inr (.inr (fH6 n))), k6, k6, k6, k6, k6, k6, k6, k6, k6, k6, k6, k6, k6]) (List.append_assoc _ _ _) ?_
  refine T_aastN (j := 6) dX4_init_132 (fun _ => rfl) (ap_get (k := 10) hA rfl) (ap_get (k := 24) hA rfl) rfl (Or.inl rfl) (by decide) (by decide) ?_
  refine T_h (h2 := A ++ [.inr (4, [.int 1, .int 0, .int 0, .ref (n + 1), .ref (n + 2), .ref (n + 3), .ref (n + 4), .ref (n + 5), .ref (n + 6), .ref (n + 8), .ref (n + 9), .ref (n + 10), .ref (n + 11)]), k250, k250, k125i, k8i, k8i, .inr (10, [.ref (n + 7), .int 0, .int (-9), .int (-9)]), k3i, k6, k6, .inl (5, 11, .inr (.inr (fG7 n))), .inl (5, 10, .inr (.inr (fH6 n))), k6, k6, k6, k6, k6, k6, k6, k6, k6, k6, k6, k6, k6]) (ap_set (k := 10) hA) ?_
  refine T_aload_n dX4_init_133 rfl ?_
  refine T_get dX4_init_134 fl_X4_60_4 (ap_get (k := 0) hA rfl) rfl ?_
  refine T_iload_n dX4_init_137 rfl ?_
  refine T_newO (a := (n + 25)) (cu2 := 25) (su2 := 701) dX4_init_138 nw_X4_46 (by rw [List.length_append, hA]; rfl) (nb rfl) (nb rfl) (nb rfl) (nb rfl) ?_
  refine T_dup dX4_init_141 rfl ?_
  refine T_i0e (cu2 := 25) (su2 := 701) dX4_init_142 li_X4_48 rfl (c_X6_init (n := (n + 25)) (by rw [List.length_append, hA]; rfl)) (nb rfl) (nb rfl) (nb rfl) (nb rfl) (nb rfl) ?_
  refine T_h (h2 := A ++ [.inr (4, [.int 1, .int 0, .int 0, .ref (n + 1), .ref (n + 2), .ref (n + 3), .ref (n + 4), .ref (n + 5), .ref (n + 6), .ref (n + 8), .ref (n + 9), .ref (n + 10), .ref (n + 11)]), k250, k250, k125i, k8i, k8i, .inr (10, [.ref (n + 7), .int 0, .int (-9), .int (-9)]), k3i, k6, k6, .inl (5, 11, .inr (.inr (fG7 n))), .inl (5, 10, .inr (.inr (fH6 n))), k6, k6, k6, k6, k6, k6, k6, k6, k6, k6, k6, k6, k6, k6]) (List.append_assoc _ _ _) ?_
  refine T_aastN (j := 6) dX4_init_145 (fun _ => rfl) (ap_get (k := 11) hA rfl) (ap_get (k := 25) hA rfl) rfl (Or.inl rfl) (by decide) (by decide) ?_
  refine T_h (h2 := A ++ [.inr (4, [.int 1, .int 0, .int 0, .ref (n + 1), .ref (n + 2), .ref (n + 3), .ref (n + 4), .ref (n + 5), .ref (n + 6), .ref (n + 8), .ref (n + 9), .ref (n + 10), .ref (n + 11)]), k250, k250, k125i, k8i, k8i, .inr (10, [.ref (n + 7), .int 0, .int (-9), .int (-9)]), k3i, k6, k6, .inl (5, 11, .inr (.inr (fG7 n))), .inl (5, 10, .inr (.inr (fH7 n))), k6, k6, k6, k6, k6, k6, k6, k6, k6, k6, k6, k6, k6, k6]) (ap_set (k := 11) hA) ?_
  refine T_iincN dX4_init_146 rfl (by decide) rfl ?_
  refine T_goto (tgt := 114) dX4_init_149 (by decide) ?_
  exact lp_X4_init_7 hA K
theorem lp_X4_init_5 {n : Nat} (hA : A.length = n) {Qa : Option Value → XH → Prop} (K : Qa none (A ++ [.inr (4, [.int 1, .int 0, .int 0, .ref (n + 1), .ref (n + 2), .ref (n + 3), .ref (n + 4), .ref (n + 5), .ref (n + 6), .ref (n + 8), .ref (n + 9), .ref (n + 10), .ref (n + 11)]), k250, k250, k125i, k8i, k8i, .inr (10, [.ref (n + 7), .int 0, .int (-9), .int (-9)]), k3i, k6, k6, .inl (5, 11, .inr (.inr (fG11 n))), .inl (5, 10, .inr (.inr (fH10 n))), k6, k6, k6, k6, k6, k6, k6, k6, k6, k6, k6, k6, k6, k6, k6, k6, k6, k6, k6, k6, k6])) : T M_X4_init x_E (x_Z M_X4_init Qa) 21 693 114 [(0, .ref n), (1, .int (nI 5))] [] (A ++ [.inr (4, [.int 1, .int 0, .int 0, .ref (n + 1), .ref (n + 2), .ref (n + 3), .ref (n + 4), .ref (n + 5), .ref (n + 6), .ref (n + 8), .ref (n + 9), .ref (n + 10), .ref (n + 11)]), k250, k250, k125i, k8i, k8i, .inr (10, [.ref (n + 7), .int 0, .int (-9), .int (-9)]), k3i, k6, k6, .inl (5, 11, .inr (.inr (fG5 n))), .inl (5, 10, .inr (.inr (fH5 n))), k6, k6, k6, k6, k6, k6, k6, k6, k6, k6]) := by
  refine T_iload_n dX4_init_114 rfl ?_
  refine T_bipush (v := nI 10) dX4_init_115 (by decide) ?_
  refine T_icmp_geN (tgt := 152) dX4_init_117 (by decide) (by decide) (by decide) (fun c => absurd c (by decide)) (fun _ => ?_)
  refine T_aload_n dX4_init_120 rfl ?_
  refine T_get dX4_init_121 fl_X4_56_4 (ap_get (k := 0) hA rfl) rfl ?_
  refine T_iload_n dX4_init_124 rfl ?_
  refine T_newO (a := (n + 22)) (cu2 := 22) (su2 := 695) dX4_init_125 nw_X4_46 (by rw [List.length_append, hA]; rfl) (nb rfl) (nb rfl) (nb rfl) (nb rfl) ?_
  refine T_dup dX4_init_128 rfl ?_
  refine T_i0e (cu2 := 22) (su2 := 695) dX4_init_129 li_X4_48 rfl (c_X6_init (n := (n + 22)) (by rw [List.length_append, hA]; rfl)) (nb rfl) (nb rfl) (nb rfl) (nb rfl) (nb rfl) ?_
  refine T_h (h2 := A ++ [.inr (4, [.int 1, .int 0, .int 0, .ref (n + 1), .ref (n + 2), .ref (n + 3), .ref (n + 4), .ref (n + 5), .ref (n + 6), .ref (n + 8), .ref (n + 9), .ref (n + 10), .ref (n + 11)]), k250, k250, k125i, k8i, k8i, .inr (10, [.ref (n + 7), .int 0, .int (-9), .int (-9)]), k3i, k6, k6, .inl (5, 11, .inr (.inr (fG5 n))), .inl (5, 10, .inr (.inr (fH5 n))), k6, k6, k6, k6, k6, k6, k6, k6, k6, k6, k6]) (List.append_assoc _ _ _) ?_
  refine T_aastN (j := 5) dX4_init_132 (fun _ => rfl) (ap_get (k := 10) hA rfl) (ap_get (k := 22) hA rfl) rfl (Or.inl rfl) (by decide) (by decide) ?_
  refine T_h (h2 := A ++ [.inr (4, [.int 1, .int 0, .int 0, .ref (n + 1), .ref (n + 2), .ref (n + 3), .ref (n + 4), .ref (n + 5), .ref (n + 6), .ref (n + 8), .ref (n + 9), .ref (n + 10), .ref (n + 11)]), k250, k250, k125i, k8i, k8i, .inr (10, [.ref (n + 7), .int 0, .int (-9), .int (-9)]), k3i, k6, k6, .inl (5, 11, .inr (.inr (fG6 n))), .inl (5, 10, .inr (.inr (fH5 n))), k6, k6, k6, k6, k6, k6, k6, k6, k6, k6, k6]) (ap_set (k := 10) hA) ?_
  refine T_aload_n dX4_init_133 rfl ?_
  refine T_get dX4_init_134 fl_X4_60_4 (ap_get (k := 0) hA rfl) rfl ?_
  refine T_iload_n dX4_init_137 rfl ?_
  refine T_newO (a := (n + 23)) (cu2 := 23) (su2 := 697) dX4_init_138 nw_X4_46 (by rw [List.length_append, hA]; rfl) (nb rfl) (nb rfl) (nb rfl) (nb rfl) ?_
  refine T_dup dX4_init_141 rfl ?_
  refine T_i0e (cu2 := 23) (su2 := 697) dX4_init_142 li_X4_48 rfl (c_X6_init (n := (n + 23)) (by rw [List.length_append, hA]; rfl)) (nb rfl) (nb rfl) (nb rfl) (nb rfl) (nb rfl) ?_
  refine T_h (h2 := A ++ [.inr (4, [.int 1, .int 0, .int 0, .ref (n + 1), .ref (n + 2), .ref (n + 3), .ref (n + 4), .ref (n + 5), .ref (n + 6), .ref (n + 8), .ref (n + 9), .ref (n + 10), .ref (n + 11)]), k250, k250, k125i, k8i, k8i, .inr (10, [.ref (n + 7), .int 0, .int (-9), .int (-9)]), k3i, k6, k6, .inl (5, 11, .inr (.inr (fG6 n))), .inl (5, 10, .inr (.inr (fH5 n))), k6, k6, k6, k6, k6, k6, k6, k6, k6, k6, k6, k6]) (List.append_assoc _ _ _) ?_
  refine T_aastN (j := 5) dX4_init_145 (fun _ => rfl) (ap_get (k := 11) hA rfl) (ap_get (k := 23) hA rfl) rfl (Or.inl rfl) (by decide) (by decide) ?_
  refine T_h (h2 := A ++ [.inr (4, [.int 1, .int 0, .int 0, .ref (n + 1), .ref (n + 2), .ref (n + 3), .ref (n + 4), .ref (n + 5), .ref (n + 6), .ref (n + 8), .ref (n + 9), .ref (n + 10), .ref (n + 11)]), k250, k250, k125i, k8i, k8i, .inr (10, [.ref (n + 7), .int 0, .int (-9), .int (-9)]), k3i, k6, k6, .inl (5, 11, .inr (.inr (fG6 n))), .inl (5, 10, .inr (.inr (fH6 n))), k6, k6, k6, k6, k6, k6, k6, k6, k6, k6, k6, k6]) (ap_set (k := 11) hA) ?_
  refine T_iincN dX4_init_146 rfl (by decide) rfl ?_
  refine T_goto (tgt := 114) dX4_init_149 (by decide) ?_
  exact lp_X4_init_6 hA K
theorem lp_X4_init_4 {n : Nat} (hA : A.length = n) {Qa : Option Value → XH → Prop} (K : Qa none (A ++ [.inr (4, [.int 1, .int 0, .int 0, .ref (n + 1), .ref (n + 2), .ref (n + 3), .ref (n + 4), .ref (n + 5), .ref (n + 6), .ref (n + 8), .ref (n + 9), .ref (n + 10), .ref (n + 11)]), k250, k250, k125i, k8i, k8i, .inr (10, [.ref (n + 7), .int 0, .int (-9), .int (-9)]), k3i, k6, k6, .inl (5, 11, .inr (.inr (fG11 n))), .inl (5, 10, .inr (.inr (fH10 n))), k6, k6, k6, k6, k6, k6, k6, k6, k6, k6, k6, k6, k6, k6, k6, k6, k6, k6, k6, k6, k6])) : T M_X4_init x_E (x_Z M_X4_init Qa) 19 689 114 [(0, .ref n), (1, .int (nI 4))] [] (A ++ [.inr (4, [.int 1, .int 0, .int 0, .ref (n + 1), .ref (n + 2), .ref (n + 3), .ref (n + 4), .ref (n + 5), .ref (n + 6), .ref (n + 8), .ref (n + 9), .ref (n + 10), .ref (n + 11)]), k250, k250, k125i, k8i, k8i, .inr (10, [.ref (n + 7), .int 0, .int (-9), .int (-9)]), k3i, k6, k6, .inl (5, 11, .inr (.inr (fG4 n))), .inl (5, 10, .inr (.inr (fH4 n))), k6, k6, k6, k6, k6, k6, k6, k6]) := by
  refine T_iload_n dX4_init_114 rfl ?_
  refine T_bipush (v := nI 10) dX4_init_115 (by decide) ?_
  refine T_icmp_geN (tgt := 152) dX4_init_117 (by decide) (by decide) (by decide) (fun c => absurd c (by decide)) (fun _ => ?_)
  refine T_aload_n dX4_init_120 rfl ?_
  refine T_get dX4_init_121 fl_X4_56_4 (ap_get (k := 0) hA rfl) rfl ?_
  refine T_iload_n dX4_init_124 rfl ?_
  refine T_newO (a := (n + 20)) (cu2 := 20) (su2 := 691) dX4_init_125 nw_X4_46 (by rw [List.length_append, hA]; rfl) (nb rfl) (nb rfl) (nb rfl) (nb rfl) ?_
  refine T_dup dX4_init_128 rfl ?_
  refine T_i0e (cu2 := 20) (su2 := 691) dX4_init_129 li_X4_48 rfl (c_X6_init (n := (n + 20)) (by rw [List.length_append, hA]; rfl)) (nb rfl) (nb rfl) (nb rfl) (nb rfl) (nb rfl) ?_
  refine T_h (h2 := A ++ [.inr (4, [.int 1, .int 0, .int 0, .ref (n + 1), .ref (n + 2), .ref (n + 3), .ref (n + 4), .ref (n + 5), .ref (n + 6), .ref (n + 8), .ref (n + 9), .ref (n + 10), .ref (n + 11)]), k250, k250, k125i, k8i, k8i, .inr (10, [.ref (n + 7), .int 0, .int (-9), .int (-9)]), k3i, k6, k6, .inl (5, 11, .inr (.inr (fG4 n))), .inl (5, 10, .inr (.inr (fH4 n))), k6, k6, k6, k6, k6, k6, k6, k6, k6]) (List.append_assoc _ _ _) ?_
  refine T_aastN (j := 4) dX4_init_132 (fun _ => rfl) (ap_get (k := 10) hA rfl) (ap_get (k := 20) hA rfl) rfl (Or.inl rfl) (by decide) (by decide) ?_
  refine T_h (h2 := A ++ [.inr (4, [.int 1, .int 0, .int 0, .ref (n + 1), .ref (n + 2), .ref (n + 3), .ref (n + 4), .ref (n + 5), .ref (n + 6), .ref (n + 8), .ref (n + 9), .ref (n + 10), .ref (n + 11)]), k250, k250, k125i, k8i, k8i, .inr (10, [.ref (n + 7), .int 0, .int (-9), .int (-9)]), k3i, k6, k6, .inl (5, 11, .inr (.inr (fG5 n))), .inl (5, 10, .inr (.inr (fH4 n))), k6, k6, k6, k6, k6, k6, k6, k6, k6]) (ap_set (k := 10) hA) ?_
  refine T_aload_n dX4_init_133 rfl ?_
  refine T_get dX4_init_134 fl_X4_60_4 (ap_get (k := 0) hA rfl) rfl ?_
  refine T_iload_n dX4_init_137 rfl ?_
  refine T_newO (a := (n + 21)) (cu2 := 21) (su2 := 693) dX4_init_138 nw_X4_46 (by rw [List.length_append, hA]; rfl) (nb rfl) (nb rfl) (nb rfl) (nb rfl) ?_
  refine T_dup dX4_init_141 rfl ?_
  refine T_i0e (cu2 := 21) (su2 := 693) dX4_init_142 li_X4_48 rfl (c_X6_init (n := (n + 21)) (by rw [List.length_append, hA]; rfl)) (nb rfl) (nb rfl) (nb rfl) (nb rfl) (nb rfl) ?_
  refine T_h (h2 := A ++ [.inr (4, [.int 1, .int 0, .int 0, .ref (n + 1), .ref (n + 2), .ref (n + 3), .ref (n + 4), .ref (n + 5), .ref (n + 6), .ref (n + 8), .ref (n + 9), .ref (n + 10), .ref (n + 11)]), k250, k250, k125i, k8i, k8i, .inr (10, [.ref (n + 7), .int 0, .int (-9), .int (-9)]), k3i, k6, k6, .inl (5, 11, .inr (.inr (fG5 n))), .inl (5, 10, .inr (.inr (fH4 n))), k6, k6, k6, k6, k6, k6, k6, k6, k6, k6]) (List.append_assoc _ _ _) ?_
  refine T_aastN (j := 4) dX4_init_145 (fun _ => rfl) (ap_get (k := 11) hA rfl) (ap_get (k := 21) hA rfl) rfl (Or.inl rfl) (by decide) (by decide) ?_
  refine T_h (h2 := A ++ [.inr (4, [.int 1, .int 0, .int 0, .ref (n + 1), .ref (n + 2), .ref (n + 3), .ref (n + 4), .ref (n + 5), .ref (n + 6), .ref (n + 8), .ref (n + 9), .ref (n + 10), .ref (n + 11)]), k250, k250, k125i, k8i, k8i, .inr (10, [.ref (n + 7), .int 0, .int (-9), .int (-9)]), k3i, k6, k6, .inl (5, 11, .inr (.inr (fG5 n))), .inl (5, 10, .inr (.inr (fH5 n))), k6, k6, k6, k6, k6, k6, k6, k6, k6, k6]) (ap_set (k := 11) hA) ?_
  refine T_iincN dX4_init_146 rfl (by decide) rfl ?_
  refine T_goto (tgt := 114) dX4_init_149 (by decide) ?_
  exact lp_X4_init_5 hA K
theorem lp_X4_init_3 {n : Nat} (hA : A.length = n) {Qa : Option Value → XH → Prop} (K : Qa none (A ++ [.inr (4, [.int 1, .int 0, .int 0, .ref (n + 1), .ref (n + 2), .ref (n + 3), .ref (n + 4), .ref (n + 5), .ref (n + 6), .ref (n + 8), .ref (n + 9), .ref (n + 10), .ref (n + 11)]), k250, k250, k125i, k8i, k8i, .inr (10, [.ref (n + 7), .int 0, .int (-9), .int (-9)]), k3i, k6, k6, .inl (5, 11, .inr (.inr (fG11 n))), .inl (5, 10, .inr (.inr (fH10 n))), k6, k6, k6, k6, k6, k6, k6, k6, k6, k6, k6, k6, k6, k6, k6, k6, k6, k6, k6, k6, k6])) : T M_X4_init x_E (x_Z M_X4_init Qa) 17 685 114 [(0, .ref n), (1, .int (nI 3))] [] (A ++ [.inr (4, [.int 1, .int 0, .int 0, .ref (n + 1), .ref (n + 2), .ref (n + 3), .ref (n + 4), .ref (n + 5), .ref (n + 6), .ref (n + 8), .ref (n + 9), .ref (n + 10), .ref (n + 11)]), k250, k250, k125i, k8i, k8i, .inr (10, [.ref (n + 7), .int 0, .int (-9), .int (-9)]), k3i, k6, k6, .inl (5, 11, .inr (.inr (fG3 n))), .inl (5, 10, .inr (.inr (fH3 n))), k6, k6, k6, k6, k6, k6]) := by
  refine T_iload_n dX4_init_114 rfl ?_
  refine T_bipush (v := nI 10) dX4_init_115 (by decide) ?_
  refine T_icmp_geN (tgt := 152) dX4_init_117 (by decide) (by decide) (by decide) (fun c => absurd c (by decide)) (fun _ => ?_)
  refine T_aload_n dX4_init_120 rfl ?_
  refine T_get dX4_init_121 fl_X4_56_4 (ap_get (k := 0) hA rfl) rfl ?_
  refine T_iload_n dX4_init_124 rfl ?_
  refine T_newO (a := (n + 18)) (cu2 := 18) (su2 := 687) dX4_init_125 nw_X4_46 (by rw [List.length_append, hA]; rfl) (nb rfl) (nb rfl) (nb rfl) (nb rfl) ?_
  refine T_dup dX4_init_128 rfl ?_
  refine T_i0e (cu2 := 18) (su2 := 687) dX4_init_129 li_X4_48 rfl (c_X6_init (n := (n + 18)) (by rw [List.length_append, hA]; rfl)) (nb rfl) (nb rfl) (nb rfl) (nb rfl) (nb rfl) ?_
  refine T_h (h2 := A ++ [.inr (4, [.int 1, .int 0, .int 0, .ref (n + 1), .ref (n + 2), .ref (n + 3), .ref (n + 4), .ref (n + 5), .ref (n + 6), .ref (n + 8), .ref (n + 9), .ref (n + 10), .ref (n + 11)]), k250, k250, k125i, k8i, k8i, .inr (10, [.ref (n + 7), .int 0, .int (-9), .int (-9)]), k3i, k6, k6, .inl (5, 11, .inr (.inr (fG3 n))), .inl (5, 10, .inr (.inr (fH3 n))), k6, k6, k6, k6, k6, k6, k6]) (List.append_assoc _ _ _) ?_
  refine T_aastN (j := 3) dX4_init_132 (fun _ => rfl) (ap_get (k := 10) hA rfl) (ap_get (k := 18) hA rfl) rfl (Or.inl rfl) (by decide) (by decide) ?_
  refine T_h (h2 := A ++ [.inr (4, [.int 1, .int 0, .int 0, .ref (n + 1), .ref (n + 2), .ref (n + 3), .ref (n + 4), .ref (n + 5), .ref (n + 6), .ref (n + 8), .ref (n + 9), .ref (n + 10), .ref (n + 11)]), k250, k250, k125i, k8i, k8i, .inr (10, [.ref (n + 7), .int 0, .int (-9), .int (-9)]), k3i, k6, k6, .inl (5, 11, .inr (.inr (fG4 n))), .inl (5, 10, .inr (.inr (fH3 n))), k6, k6, k6, k6, k6, k6, k6]) (ap_set (k := 10) hA) ?_
  refine T_aload_n dX4_init_133 rfl ?_
  refine T_get dX4_init_134 fl_X4_60_4 (ap_get (k := 0) hA rfl) rfl ?_
  refine T_iload_n dX4_init_137 rfl ?_
  refine T_newO (a := (n + 19)) (cu2 := 19) (su2 := 689) dX4_init_138 nw_X4_46 (by rw [List.length_append, hA]; rfl) (nb rfl) (nb rfl) (nb rfl) (nb rfl) ?_
  refine T_dup dX4_init_141 rfl ?_
  refine T_i0e (cu2 := 19) (su2 := 689) dX4_init_142 li_X4_48 rfl (c_X6_init (n := (n + 19)) (by rw [List.length_append, hA]; rfl)) (nb rfl) (nb rfl) (nb rfl) (nb rfl) (nb rfl) ?_
  refine T_h (h2 := A ++ [.inr (4, [.int 1, .int 0, .int 0, .ref (n + 1), .ref (n + 2), .ref (n + 3), .ref (n + 4), .ref (n + 5), .ref (n + 6), .ref (n + 8), .ref (n + 9), .ref (n + 10), .ref (n + 11)]), k250, k250, k125i, k8i, k8i, .inr (10, [.ref (n + 7), .int 0, .int (-9), .int (-9)]), k3i, k6, k6, .inl (5, 11, .inr (.inr (fG4 n))), .inl (5, 10, .inr (.inr (fH3 n))), k6, k6, k6, k6, k6, k6, k6, k6]) (List.append_assoc _ _ _) ?_
  refine T_aastN (j := 3) dX4_init_145 (fun _ => rfl) (ap_get (k := 11) hA rfl) (ap_get (k := 19) hA rfl) rfl (Or.inl rfl) (by decide) (by decide) ?_
  refine T_h (h2 := A ++ [.inr (4, [.int 1, .int 0, .int 0, .ref (n + 1), .ref (n + 2), .ref (n + 3), .ref (n + 4), .ref (n + 5), .ref (n + 6), .ref (n + 8), .ref (n + 9), .ref (n + 10), .ref (n + 11)]), k250, k250, k125i, k8i, k8i, .inr (10, [.ref (n + 7), .int 0, .int (-9), .int (-9)]), k3i, k6, k6, .inl (5, 11, .inr (.inr (fG4 n))), .inl (5, 10, .inr (.inr (fH4 n))), k6, k6, k6, k6, k6, k6, k6, k6]) (ap_set (k := 11) hA) ?_
  refine T_iincN dX4_init_146 rfl (by decide) rfl ?_
  refine T_goto (tgt := 114) dX4_init_149 (by decide) ?_
  exact lp_X4_init_4 hA K
theorem lp_X4_init_2 {n : Nat} (hA : A.length = n) {Qa : Option Value → XH → Prop} (K : Qa none (A ++ [.inr (4, [.int 1, .int 0, .int 0, .ref (n + 1), .ref (n + 2), .ref (n + 3), .ref (n + 4), .ref (n + 5), .ref (n + 6), .ref (n + 8), .ref (n + 9), .ref (n + 10), .ref (n + 11)]), k250, k250, k125i, k8i, k8i, .inr (10, [.ref (n + 7), .int 0, .int (-9), .int (-9)]), k3i, k6, k6, .inl (5, 11, .inr (.inr (fG11 n))), .inl (5, 10, .inr (.inr (fH10 n))), k6, k6, k6, k6, k6, k6, k6, k6, k6, k6, k6, k6, k6, k6, k6, k6, k6, k6, k6, k6, k6])) : T M_X4_init x_E (x_Z M_X4_init Qa) 15 681 114 [(0, .ref n), (1, .int (nI 2))] [] (A ++ [.inr (4, [.int 1, .int 0, .int 0, .ref (n + 1), .ref (n + 2), .ref (n + 3), .ref (n + 4), .ref (n + 5), .ref (n + 6), .ref (n + 8), .ref (n + 9), .ref (n + 10), .ref (n + 11)]), k250, k250, k125i, k8i, k8i, .inr (10, [.ref (n + 7), .int 0, .int (-9), .int (-9)]), k3i, k6, k6, .inl (5, 11, .inr (.inr (fG2 n))), .inl (5, 10, .inr (.inr (fH2 n))), k6, k6, k6, k6]) := by
  refine T_iload_n dX4_init_114 rfl ?_
  refine T_bipush (v := nI 10) dX4_init_115 (by decide) ?_
  refine T_icmp_geN (tgt := 152) dX4_init_117 (by decide) (by decide) (by decide) (fun c => absurd c (by decide)) (fun _ => ?_)
  refine T_aload_n dX4_init_120 rfl ?_
  refine T_get dX4_init_121 fl_X4_56_4 (ap_get (k := 0) hA rfl) rfl ?_
  refine T_iload_n dX4_init_124 rfl ?_
  refine T_newO (a := (n + 16)) (cu2 := 16) (su2 := 683) dX4_init_125 nw_X4_46 (by rw [List.length_append, hA]; rfl) (nb rfl) (nb rfl) (nb rfl) (nb rfl) ?_
  refine T_dup dX4_init_128 rfl ?_
  refine T_i0e (cu2 := 16) (su2 := 683) dX4_init_129 li_X4_48 rfl (c_X6_init (n := (n + 16)) (by rw [List.length_append, hA]; rfl)) (nb rfl) (nb rfl) (nb rfl) (nb rfl) (nb rfl) ?_
  refine T_h (h2 := A ++ [.inr (4, [.int 1, .int 0, .int 0, .ref (n + 1), .ref (n + 2), .ref (n + 3), .ref (n + 4), .ref (n + 5), .ref (n + 6), .ref (n + 8), .ref (n + 9), .ref (n + 10), .ref (n + 11)]), k250, k250, k125i, k8i, k8i, .inr (10, [.ref (n + 7), .int 0, .int (-9), .int (-9)]), k3i, k6, k6, .inl (5, 11, .inr (.inr (fG2 n))), .inl (5, 10, .inr (.inr (fH2 n))), k6, k6, k6, k6, k6]) (List.append_assoc _ _ _) ?_
  refine T_aastN (j := 2) dX4_init_132 (fun _ => rfl) (ap_get (k := 10) hA rfl) (ap_get (k := 16) hA rfl) rfl (Or.inl rfl) (by decide) (by decide) ?_
  refine T_h (h2 := A ++ [.inr (4, [.int 1, .int 0, .int 0, .ref (n + 1), .ref (n + 2), .ref (n + 3), .ref (n + 4), .ref (n + 5), .ref (n + 6), .ref (n + 8), .ref (n + 9), .ref (n + 10), .ref (n + 11)]), k250, k250, k125i, k8i, k8i, .inr (10, [.ref (n + 7), .int 0, .int (-9), .int (-9)]), k3i, k6, k6, .inl (5, 11, .inr (.inr (fG3 n))), .inl (5, 10, .inr (.inr (fH2 n))), k6, k6, k6, k6, k6]) (ap_set (k := 10) hA) ?_
  refine T_aload_n dX4_init_133 rfl ?_
  refine T_get dX4_init_134 fl_X4_60_4 (ap_get (k := 0) hA rfl) rfl ?_
  refine T_iload_n dX4_init_137 rfl ?_
  refine T_newO (a := (n + 17)) (cu2 := 17) (su2 := 685) dX4_init_138 nw_X4_46 (by rw [List.length_append, hA]; rfl) (nb rfl) (nb rfl) (nb rfl) (nb rfl) ?_
  refine T_dup dX4_init_141 rfl ?_
  refine T_i0e (cu2 := 17) (su2 := 685) dX4_init_142 li_X4_48 rfl (c_X6_init (n := (n + 17)) (by rw [List.length_append, hA]; rfl)) (nb rfl) (nb rfl) (nb rfl) (nb rfl) (nb rfl) ?_
  refine T_h (h2 := A ++ [.inr (4, [.int 1, .int 0, .int 0, .ref (n + 1), .ref (n + 2), .ref (n + 3), .ref (n + 4), .ref (n + 5), .ref (n + 6), .ref (n + 8), .ref (n + 9), .ref (n + 10), .ref (n + 11)]), k250, k250, k125i, k8i, k8i, .inr (10, [.ref (n + 7), .int 0, .int (-9), .int (-9)]), k3i, k6, k6, .inl (5, 11, .inr (.inr (fG3 n))), .inl (5, 10, .inr (.inr (fH2 n))), k6, k6, k6, k6, k6, k6]) (List.append_assoc _ _ _) ?_
  refine T_aastN (j := 2) dX4_init_145 (fun _ => rfl) (ap_get (k := 11) hA rfl) (ap_get (k := 17) hA rfl) rfl (Or.inl rfl) (by decide) (by decide) ?_
  refine T_h (h2 := A ++ [.inr (4, [.int 1, .int 0, .int 0, .ref (n + 1), .ref (n + 2), .ref (n + 3), .ref (n + 4), .ref (n + 5), .ref (n + 6), .ref (n + 8), .ref (n + 9), .ref (n + 10), .ref (n + 11)]), k250, k250, k125i, k8i, k8i, .inr (10, [.ref (n + 7), .int 0, .int (-9), .int (-9)]), k3i, k6, k6, .inl (5, 11, .inr (.inr (fG3 n))), .inl (5, 10, .inr (.inr (fH3 n))), k6, k6, k6, k6, k6, k6]) (ap_set (k := 11) hA) ?_
  refine T_iincN dX4_init_146 rfl (by decide) rfl ?_
  refine T_goto (tgt := 114) dX4_init_149 (by decide) ?_
  exact lp_X4_init_3 hA K
theorem lp_X4_init_1 {n : Nat} (hA : A.length = n) {Qa : Option Value → XH → Prop} (K : Qa none (A ++ [.inr (4, [.int 1, .int 0, .int 0, .ref (n + 1), .ref (n + 2), .ref (n + 3), .ref (n + 4), .ref (n + 5), .ref (n + 6), .ref (n + 8), .ref (n + 9), .ref (n + 10), .ref (n + 11)]), k250, k250, k125i, k8i, k8i, .inr (10, [.ref (n + 7), .int 0, .int (-9), .int (-9)]), k3i, k6, k6, .inl (5, 11, .inr (.inr (fG11 n))), .inl (5, 10, .inr (.inr (fH10 n))), k6, k6, k6, k6, k6, k6, k6, k6, k6, k6, k6, k6, k6, k6, k6, k6, k6, k6, k6, k6, k6])) : T M_X4_init x_E (x_Z M_X4_init Qa) 13 677 114 [(0, .ref n), (1, .int (nI 1))] [] (A ++ [.inr (4, [.int 1, .int 0, .int 0, .ref (n + 1), .ref (n + 2), .ref (n + 3), .ref (n + 4), .ref (n + 5), .ref (n + 6), .ref (n + 8), .ref (n + 9), .ref (n + 10), .ref (n + 11)]), k250, k250, k125i, k8i, k8i, .inr (10, [.ref (n + 7), .int 0, .int (-9), .int (-9)]), k3i, k6, k6, .inl (5, 11, .inr (.inr (fG1 n))), .inl (5, 10, .inr (.inr (fH1 n))), k6, k6]) := by
  refine T_iload_n dX4_init_114 rfl ?_
  refine T_bipush (v := nI 10) dX4_init_115 (by decide) ?_
  refine T_icmp_geN (tgt := 152) dX4_init_117 (by decide) (by decide) (by decide) (fun c => absurd c (by decide)) (fun _ => ?_)
  refine T_aload_n dX4_init_120 rfl ?_
  refine T_get dX4_init_121 fl_X4_56_4 (ap_get (k := 0) hA rfl) rfl ?_
  refine T_iload_n dX4_init_124 rfl ?_
  refine T_newO (a := (n + 14)) (cu2 := 14) (su2 := 679) dX4_init_125 nw_X4_46 (by rw [List.length_append, hA]; rfl) (nb rfl) (nb rfl) (nb rfl) (nb rfl) ?_
  refine T_dup dX4_init_128 rfl ?_
  refine T_i0e (cu2 := 14) (su2 := 679) dX4_init_129 li_X4_48 rfl (c_X6_init (n := (n + 14)) (by rw [List.length_append, hA]; rfl)) (nb rfl) (nb rfl) (nb rfl) (nb rfl) (nb rfl) ?_
  refine T_h (h2 := A ++ [.inr (4, [.int 1, .int 0, .int 0, .ref (n + 1), .ref (n + 2), .ref (n + 3), .ref (n + 4), .ref (n + 5), .ref (n + 6), .ref (n + 8), .ref (n + 9), .ref (n + 10), .ref (n + 11)]), k250, k250, k125i, k8i, k8i, .inr (10, [.ref (n + 7), .int 0, .int (-9), .int (-9)]), k3i, k6, k6, .inl (5, 11, .inr (.inr (fG1 n))), .inl (5, 10, .inr (.inr (fH1 n))), k6, k6, k6]) (List.append_assoc _ _ _) ?_
  refine T_aastN (j := 1) dX4_init_132 (fun _ => rfl) (ap_get (k := 10) hA rfl) (ap_get (k := 14) hA rfl) rfl (Or.inl rfl) (by decide) (by decide) ?_
  refine T_h (h2 := A ++ [.inr (4, [.int 1, .int 0, .int 0, .ref (n + 1), .ref (n + 2), .ref (n + 3), .ref (n + 4), .ref (n + 5), .ref (n + 6), .ref (n + 8), .ref (n + 9), .ref (n + 10), .ref (n + 11)]), k250, k250, k125i, k8i, k8i, .inr (10, [.ref (n + 7), .int 0, .int (-9), .int (-9)]), k3i, k6, k6, .inl (5, 11, .inr (.inr (fG2 n))), .inl (5, 10, .inr (.inr (fH1 n))), k6, k6, k6]) (ap_set (k := 10) hA) ?_
  refine T_aload_n dX4_init_133 rfl ?_
  refine T_get dX4_init_134 fl_X4_60_4 (ap_get (k := 0) hA rfl) rfl ?_
  refine T_iload_n dX4_init_137 rfl ?_
  refine T_newO (a := (n + 15)) (cu2 := 15) (su2 := 681) dX4_init_138 nw_X4_46 (by rw [List.length_append, hA]; rfl) (nb rfl) (nb rfl) (nb rfl) (nb rfl) ?_
  refine T_dup dX4_init_141 rfl ?_
  refine T_i0e (cu2 := 15) (su2 := 681) dX4_init_142 li_X4_48 rfl (c_X6_init (n := (n + 15)) (by rw [List.length_append, hA]; rfl)) (nb rfl) (nb rfl) (nb rfl) (nb rfl) (nb rfl) ?_
  refine T_h (h2 := A ++ [.inr (4, [.int 1, .int 0, .int 0, .ref (n + 1), .ref (n + 2), .ref (n + 3), .ref (n + 4), .ref (n + 5), .ref (n + 6), .ref (n + 8), .ref (n + 9), .ref (n + 10), .ref (n + 11)]), k250, k250, k125i, k8i, k8i, .inr (10, [.ref (n + 7), .int 0, .int (-9), .int (-9)]), k3i, k6, k6, .inl (5, 11, .inr (.inr (fG2 n))), .inl (5, 10, .inr (.inr (fH1 n))), k6, k6, k6, k6]) (List.append_assoc _ _ _) ?_
  refine T_aastN (j := 1) dX4_init_145 (fun _ => rfl) (ap_get (k := 11) hA rfl) (ap_get (k := 15) hA rfl) rfl (Or.inl rfl) (by decide) (by decide) ?_
  refine T_h (h2 := A ++ [.inr (4, [.int 1, .int 0, .int 0, .ref (n + 1), .ref (n + 2), .ref (n + 3), .ref (n + 4), .ref (n + 5), .ref (n + 6), .ref (n + 8), .ref (n + 9), .ref (n + 10), .ref (n + 11)]), k250, k250, k125i, k8i, k8i, .inr (10, [.ref (n + 7), .int 0, .int (-9), .int (-9)]), k3i, k6, k6, .inl (5, 11, .inr (.inr (fG2 n))), .inl (5, 10, .inr (.inr (fH2 n))), k6, k6, k6, k6]) (ap_set (k := 11) hA) ?_
  refine T_iincN dX4_init_146 rfl (by decide) rfl ?_
  refine T_goto (tgt := 114) dX4_init_149 (by decide) ?_
  exact lp_X4_init_2 hA K
theorem lp_X4_init_0 {n : Nat} (hA : A.length = n) {Qa : Option Value → XH → Prop} (K : Qa none (A ++ [.inr (4, [.int 1, .int 0, .int 0, .ref (n + 1), .ref (n + 2), .ref (n + 3), .ref (n + 4), .ref (n + 5), .ref (n + 6), .ref (n + 8), .ref (n + 9), .ref (n + 10), .ref (n + 11)]), k250, k250, k125i, k8i, k8i, .inr (10, [.ref (n + 7), .int 0, .int (-9), .int (-9)]), k3i, k6, k6, .inl (5, 11, .inr (.inr (fG11 n))), .inl (5, 10, .inr (.inr (fH10 n))), k6, k6, k6, k6, k6, k6, k6, k6, k6, k6, k6, k6, k6, k6, k6, k6, k6, k6, k6, k6, k6])) : T M_X4_init x_E (x_Z M_X4_init Qa) 11 673 114 [(0, .ref n), (1, .int (nI 0))] [] (A ++ [.inr (4, [.int 1, .int 0, .int 0, .ref (n + 1), .ref (n + 2), .ref (n + 3), .ref (n + 4), .ref (n + 5), .ref (n + 6), .ref (n + 8), .ref (n + 9), .ref (n + 10), .ref (n + 11)]), k250, k250, k125i, k8i, k8i, .inr (10, [.ref (n + 7), .int 0, .int (-9), .int (-9)]), k3i, k6, k6, .inl (5, 11, .inr (.inr (fun _ => none))), .inl (5, 10, .inr (.inr (fun _ => none)))]) := by
  refine T_iload_n dX4_init_114 rfl ?_
  refine T_bipush (v := nI 10) dX4_init_115 (by decide) ?_
  refine T_icmp_geN (tgt := 152) dX4_init_117 (by decide) (by decide) (by decide) (fun c => absurd c (by decide)) (fun _ => ?_)
  refine T_aload_n dX4_init_120 rfl ?_
  refine T_get dX4_init_121 fl_X4_56_4 (ap_get (k := 0) hA rfl) rfl ?_
  refine T_iload_n dX4_init_124 rfl ?_
  refine T_newO (a := (n + 12)) (cu2 := 12) (su2 := 675) dX4_init_125 nw_X4_46 (by rw [List.length_append, hA]; rfl) (nb rfl) (nb rfl) (nb rfl) (nb rfl) ?_
  refine T_dup dX4_init_128 rfl ?_
  refine T_i0e (cu2 := 12) (su2 := 675) dX4_init_129 li_X4_48 rfl (c_X6_init (n := (n + 12)) (by rw [List.length_append, hA]; rfl)) (nb rfl) (nb rfl) (nb rfl) (nb rfl) (nb rfl) ?_
  refine T_h (h2 := A ++ [.inr (4, [.int 1, .int 0, .int 0, .ref (n + 1), .ref (n + 2), .ref (n + 3), .ref (n + 4), .ref (n + 5), .ref (n + 6), .ref (n + 8), .ref (n + 9), .ref (n + 10), .ref (n + 11)]), k250, k250, k125i, k8i, k8i, .inr (10, [.ref (n + 7), .int 0, .int (-9), .int (-9)]), k3i, k6, k6, .inl (5, 11, .inr (.inr (fun _ => none))), .inl (5, 10, .inr (.inr (fun _ => none))), k6]) (List.append_assoc _ _ _) ?_
  refine T_aastN (j := 0) dX4_init_132 (fun _ => rfl) (ap_get (k := 10) hA rfl) (ap_get (k := 12) hA rfl) rfl (Or.inl rfl) (by decide) (by decide) ?_
  refine T_h (h2 := A ++ [.inr (4, [.int 1, .int 0, .int 0, .ref (n + 1), .ref (n + 2), .ref (n + 3), .ref (n + 4), .ref (n + 5), .ref (n + 6), .ref (n + 8), .ref (n + 9), .ref (n + 10), .ref (n + 11)]), k250, k250, k125i, k8i, k8i, .inr (10, [.ref (n + 7), .int 0, .int (-9), .int (-9)]), k3i, k6, k6, .inl (5, 11, .inr (.inr (fG1 n))), .inl (5, 10, .inr (.inr (fun _ => none))), k6]) (ap_set (k := 10) hA) ?_
  refine T_aload_n dX4_init_133 rfl ?_
  refine T_get dX4_init_134 fl_X4_60_4 (ap_get (k := 0) hA rfl) rfl ?_
  refine T_iload_n dX4_init_137 rfl ?_
  refine T_newO (a := (n + 13)) (cu2 := 13) (su2 := 677) dX4_init_138 nw_X4_46 (by rw [List.length_append, hA]; rfl) (nb rfl) (nb rfl) (nb rfl) (nb rfl) ?_
  refine T_dup dX4_init_141 rfl ?_
  refine T_i0e (cu2 := 13) (su2 := 677) dX4_init_142 li_X4_48 rfl (c_X6_init (n := (n + 13)) (by rw [List.length_append, hA]; rfl)) (nb rfl) (nb rfl) (nb rfl) (nb rfl) (nb rfl) ?_
  refine T_h (h2 := A ++ [.inr (4, [.int 1, .int 0, .int 0, .ref (n + 1), .ref (n + 2), .ref (n + 3), .ref (n + 4), .ref (n + 5), .ref (n + 6), .ref (n + 8), .ref (n + 9), .ref (n + 10), .ref (n + 11)]), k250, k250, k125i, k8i, k8i, .inr (10, [.ref (n + 7), .int 0, .int (-9), .int (-9)]), k3i, k6, k6, .inl (5, 11, .inr (.inr (fG1 n))), .inl (5, 10, .inr (.inr (fun _ => none))), k6, k6]) (List.append_assoc _ _ _) ?_
  refine T_aastN (j := 0) dX4_init_145 (fun _ => rfl) (ap_get (k := 11) hA rfl) (ap_get (k := 13) hA rfl) rfl (Or.inl rfl) (by decide) (by decide) ?_
  refine T_h (h2 := A ++ [.inr (4, [.int 1, .int 0, .int 0, .ref (n + 1), .ref (n + 2), .ref (n + 3), .ref (n + 4), .ref (n + 5), .ref (n + 6), .ref (n + 8), .ref (n + 9), .ref (n + 10), .ref (n + 11)]), k250, k250, k125i, k8i, k8i, .inr (10, [.ref (n + 7), .int 0, .int (-9), .int (-9)]), k3i, k6, k6, .inl (5, 11, .inr (.inr (fG1 n))), .inl (5, 10, .inr (.inr (fH1 n))), k6, k6]) (ap_set (k := 11) hA) ?_
  refine T_iincN dX4_init_146 rfl (by decide) rfl ?_
  refine T_goto (tgt := 114) dX4_init_149 (by decide) ?_
  exact lp_X4_init_1 hA K
theorem c_X4_init {n : Nat} (hA : A.length = n) : ConE M_X4_init [.ref n] (A ++ [.inr (4, [.int 0, .int 0, .int 0, .null, .null, .null, .null, .null, .null, .null, .null, .null, .null])]) none (A ++ [.inr (4, [.int 1, .int 0, .int 0, .ref (n + 1), .ref (n + 2), .ref (n + 3), .ref (n + 4), .ref (n + 5), .ref (n + 6), .ref (n + 8), .ref (n + 9), .ref (n + 10), .ref (n + 11)]), k250, k250, k125i, k8i, k8i, .inr (10, [.ref (n + 7), .int 0, .int (-9), .int (-9)]), k3i, k6, k6, .inl (5, 11, .inr (.inr (fG11 n))), .inl (5, 10, .inr (.inr (fH10 n))), k6, k6, k6, k6, k6, k6, k6, k6, k6, k6, k6, k6, k6, k6, k6, k6, k6, k6, k6, k6, k6]) := by
  refine Con.of rfl (nb rfl) ?_
  refine T_aload_n dX4_init_0 rfl ?_
  refine T_obj dX4_init_1 ob_X4_3 ob_1 ob_2 (nb rfl) (nb rfl) ?_
  refine T_aload_n dX4_init_4 rfl ?_
  refine T_iconst (v := 1) dX4_init_5 (by decide) ?_
  refine T_put dX4_init_6 fp_X4_9_4 (ap_get (k := 0) hA rfl) (nb rfl) (fun _ => ⟨rfl, rfl⟩) ?_
  refine T_h (h2 := A ++ [.inr (4, [.int 1, .int 0, .int 0, .null, .null, .null, .null, .null, .null, .null, .null, .null, .null])]) (ap_set (k := 0) hA) ?_
  refine T_aload_n dX4_init_9 rfl ?_
  refine T_iconst (v := 0) dX4_init_10 (by decide) ?_
  refine T_put dX4_init_11 fp_X4_15_4 (ap_get (k := 0) hA rfl) (nb rfl) (fun _ => ⟨rfl, rfl⟩) ?_
  refine T_h (h2 := A ++ [.inr (4, [.int 1, .int 0, .int 0, .null, .null, .null, .null, .null, .null, .null, .null, .null, .null])]) (ap_set (k := 0) hA) ?_
  refine T_aload_n dX4_init_14 rfl ?_
  refine T_iconst (v := 0) dX4_init_15 (by decide) ?_
  refine T_put dX4_init_16 fp_X4_19_4 (ap_get (k := 0) hA rfl) (nb rfl) (fun _ => ⟨rfl, rfl⟩) ?_
  refine T_h (h2 := A ++ [.inr (4, [.int 1, .int 0, .int 0, .null, .null, .null, .null, .null, .null, .null, .null, .null, .null])]) (ap_set (k := 0) hA) ?_
  refine T_aload_n dX4_init_19 rfl ?_
  refine T_sipush (v := nI 250) dX4_init_20 (by decide) ?_
  refine T_newL (N := 250) (a := (n + 1)) (cu2 := 1) (su2 := 250) dX4_init_23 (by rw [List.length_append, hA]; rfl) (by decide) (by decide) (by decide) (nb rfl) (nb rfl) ?_
  refine T_h (h2 := A ++ [.inr (4, [.int 1, .int 0, .int 0, .null, .null, .null, .null, .null, .null, .null, .null, .null, .null]), k250]) (List.append_assoc _ _ _) ?_
  refine T_putF dX4_init_25 fp_X4_22_4 rfl (ap_get (k := 0) hA rfl) (nb rfl) (fun _ => ⟨rfl, rfl⟩) ?_
  refine T_h (h2 := A ++ [.inr (4, [.int 1, .int 0, .int 0, .ref (n + 1), .null, .null, .null, .null, .null, .null, .null, .null, .null]), k250]) (ap_set (k := 0) hA) ?_
  refine T_aload_n dX4_init_28 rfl ?_
  refine T_sipush (v := nI 250) dX4_init_29 (by decide) ?_
  refine T_newL (N := 250) (a := (n + 2)) (cu2 := 2) (su2 := 500) dX4_init_32 (by rw [List.length_append, hA]; rfl) (by decide) (by decide) (by decide) (nb rfl) (nb rfl) ?_
  refine T_h (h2 := A ++ [.inr (4, [.int 1, .int 0, .int 0, .ref (n + 1), .null, .null, .null, .null, .null, .null, .null, .null, .null]), k250, k250]) (List.append_assoc _ _ _) ?_
  refine T_putF dX4_init_34 fp_X4_26_4 rfl (ap_get (k := 0) hA rfl) (nb rfl) (fun _ => ⟨rfl, rfl⟩) ?_
  refine T_h (h2 := A ++ [.inr (4, [.int 1, .int 0, .int 0, .ref (n + 1), .ref (n + 2), .null, .null, .null, .null, .null, .null, .null, .null]), k250, k250]) (ap_set (k := 0) hA) ?_
  refine T_aload_n dX4_init_37 rfl ?_
  refine T_bipush (v := nI 125) dX4_init_38 (by decide) ?_
  refine T_newI (N := 125) (a := (n + 3)) (cu2 := 3) (su2 := 625) dX4_init_40 (by rw [List.length_append, hA]; rfl) (by decide) (by decide) (by decide) (nb rfl) (nb rfl) ?_
  refine T_h (h2 := A ++ [.inr (4, [.int 1, .int 0, .int 0, .ref (n + 1), .ref (n + 2), .null, .null, .null, .null, .null, .null, .null, .null]), k250, k250, k125i]) (List.append_assoc _ _ _) ?_
  refine T_putF dX4_init_42 fp_X4_29_4 rfl (ap_get (k := 0) hA rfl) (nb rfl) (fun _ => ⟨rfl, rfl⟩) ?_
  refine T_h (h2 := A ++ [.inr (4, [.int 1, .int 0, .int 0, .ref (n + 1), .ref (n + 2), .ref (n + 3), .null, .null, .null, .null, .null, .null, .null]), k250, k250, k125i]) (ap_set (k := 0) hA) ?_
  refine T_aload_n dX4_init_45 rfl ?_
  refine T_bipush (v := nI 8) dX4_init_46 (by decide) ?_
  refine T_newI (N := 8) (a := (n + 4)) (cu2 := 4) (su2 := 633) dX4_init_48 (by rw [List.length_append, hA]; rfl) (by decide) (by decide) (by decide) (nb rfl) (nb rfl) ?_
  refine T_h (h2 := A ++ [.inr (4, [.int 1, .int 0, .int 0, .ref (n + 1), .ref (n + 2), .ref (n + 3), .null, .null, .null, .null, .null, .null, .null]), k250, k250, k125i, k8i]) (List.append_assoc _ _ _) ?_
  refine T_putF dX4_init_50 fp_X4_33_4 rfl (ap_get (k := 0) hA rfl) (nb rfl) (fun _ => ⟨rfl, rfl⟩) ?_
  refine T_h (h2 := A ++ [.inr (4, [.int 1, .int 0, .int 0, .ref (n + 1), .ref (n + 2), .ref (n + 3), .ref (n + 4), .null, .null, .null, .null, .null, .null]), k250, k250, k125i, k8i]) (ap_set (k := 0) hA) ?_
  refine T_aload_n dX4_init_53 rfl ?_
  refine T_bipush (v := nI 8) dX4_init_54 (by decide) ?_
  refine T_newI (N := 8) (a := (n + 5)) (cu2 := 5) (su2 := 641) dX4_init_56 (by rw [List.length_append, hA]; rfl) (by decide) (by decide) (by decide) (nb rfl) (nb rfl) ?_
  refine T_h (h2 := A ++ [.inr (4, [.int 1, .int 0, .int 0, .ref (n + 1), .ref (n + 2), .ref (n + 3), .ref (n + 4), .null, .null, .null, .null, .null, .null]), k250, k250, k125i, k8i, k8i]) (List.append_assoc _ _ _) ?_
  refine T_putF dX4_init_58 fp_X4_36_4 rfl (ap_get (k := 0) hA rfl) (nb rfl) (fun _ => ⟨rfl, rfl⟩) ?_
  refine T_h (h2 := A ++ [.inr (4, [.int 1, .int 0, .int 0, .ref (n + 1), .ref (n + 2), .ref (n + 3), .ref (n + 4), .ref (n + 5), .null, .null, .null, .null, .null]), k250, k250, k125i, k8i, k8i]) (ap_set (k := 0) hA) ?_
  refine T_aload_n dX4_init_61 rfl ?_
  refine T_newO (a := (n + 6)) (cu2 := 6) (su2 := 645) dX4_init_62 nw_X4_39 (by rw [List.length_append, hA]; rfl) (nb rfl) (nb rfl) (nb rfl) (nb rfl) ?_
  refine T_dup dX4_init_65 rfl ?_
  refine T_i0e (cu2 := 7) (su2 := 648) dX4_init_66 li_X4_41 rfl (c_X10_init (n := (n + 6)) (by rw [List.length_append, hA]; rfl)) (nb rfl) (nb rfl) (nb rfl) (nb rfl) (nb rfl) ?_
  refine T_h (h2 := A ++ [.inr (4, [.int 1, .int 0, .int 0, .ref (n + 1), .ref (n + 2), .ref (n + 3), .ref (n + 4), .ref (n + 5), .null, .null, .null, .null, .null]), k250, k250, k125i, k8i, k8i, .inr (10, [.ref (n + 7), .int 0, .int (-9), .int (-9)]), k3i]) (List.append_assoc _ _ _) ?_
  refine T_putF dX4_init_69 fp_X4_42_4 rfl (ap_get (k := 0) hA rfl) (nb rfl) (fun _ => ⟨rfl, rfl⟩) ?_
  refine T_h (h2 := A ++ [.inr (4, [.int 1, .int 0, .int 0, .ref (n + 1), .ref (n + 2), .ref (n + 3), .ref (n + 4), .ref (n + 5), .ref (n + 6), .null, .null, .null, .null]), k250, k250, k125i, k8i, k8i, .inr (10, [.ref (n + 7), .int 0, .int (-9), .int (-9)]), k3i]) (ap_set (k := 0) hA) ?_
  refine T_aload_n dX4_init_72 rfl ?_
  refine T_newO (a := (n + 8)) (cu2 := 8) (su2 := 650) dX4_init_73 nw_X4_46 (by rw [List.length_append, hA]; rfl) (nb rfl) (nb rfl) (nb rfl) (nb rfl) ?_
  refine T_dup dX4_init_76 rfl ?_
  refine T_i0e (cu2 := 8) (su2 := 650) dX4_init_77 li_X4_48 rfl (c_X6_init (n := (n + 8)) (by rw [List.length_append, hA]; rfl)) (nb rfl) (nb rfl) (nb rfl) (nb rfl) (nb rfl) ?_
  refine T_h (h2 := A ++ [.inr (4, [.int 1, .int 0, .int 0, .ref (n + 1), .ref (n + 2), .ref (n + 3), .ref (n + 4), .ref (n + 5), .ref (n + 6), .null, .null, .null, .null]), k250, k250, k125i, k8i, k8i, .inr (10, [.ref (n + 7), .int 0, .int (-9), .int (-9)]), k3i, k6]) (List.append_assoc _ _ _) ?_
  refine T_putF dX4_init_80 fp_X4_49_4 rfl (ap_get (k := 0) hA rfl) (nb rfl) (fun _ => ⟨rfl, rfl⟩) ?_
  refine T_h (h2 := A ++ [.inr (4, [.int 1, .int 0, .int 0, .ref (n + 1), .ref (n + 2), .ref (n + 3), .ref (n + 4), .ref (n + 5), .ref (n + 6), .ref (n + 8), .null, .null, .null]), k250, k250, k125i, k8i, k8i, .inr (10, [.ref (n + 7), .int 0, .int (-9), .int (-9)]), k3i, k6]) (ap_set (k := 0) hA) ?_
  refine T_aload_n dX4_init_83 rfl ?_
  refine T_newO (a := (n + 9)) (cu2 := 9) (su2 := 652) dX4_init_84 nw_X4_46 (by rw [List.length_append, hA]; rfl) (nb rfl) (nb rfl) (nb rfl) (nb rfl) ?_
  refine T_dup dX4_init_87 rfl ?_
  refine T_i0e (cu2 := 9) (su2 := 652) dX4_init_88 li_X4_48 rfl (c_X6_init (n := (n + 9)) (by rw [List.length_append, hA]; rfl)) (nb rfl) (nb rfl) (nb rfl) (nb rfl) (nb rfl) ?_
  refine T_h (h2 := A ++ [.inr (4, [.int 1, .int 0, .int 0, .ref (n + 1), .ref (n + 2), .ref (n + 3), .ref (n + 4), .ref (n + 5), .ref (n + 6), .ref (n + 8), .null, .null, .null]), k250, k250, k125i, k8i, k8i, .inr (10, [.ref (n + 7), .int 0, .int (-9), .int (-9)]), k3i, k6, k6]) (List.append_assoc _ _ _) ?_
  refine T_putF dX4_init_91 fp_X4_53_4 rfl (ap_get (k := 0) hA rfl) (nb rfl) (fun _ => ⟨rfl, rfl⟩) ?_
  refine T_h (h2 := A ++ [.inr (4, [.int 1, .int 0, .int 0, .ref (n + 1), .ref (n + 2), .ref (n + 3), .ref (n + 4), .ref (n + 5), .ref (n + 6), .ref (n + 8), .ref (n + 9), .null, .null]), k250, k250, k125i, k8i, k8i, .inr (10, [.ref (n + 7), .int 0, .int (-9), .int (-9)]), k3i, k6, k6]) (ap_set (k := 0) hA) ?_
  refine T_aload_n dX4_init_94 rfl ?_
  refine T_bipush (v := nI 11) dX4_init_95 (by decide) ?_
  refine T_newR (t := 5) (C0 := RX6) (N := 11) (a := (n + 10)) (cu2 := 10) (su2 := 663) dX4_init_97 cl_X4_46 (fun _ h => h.2.2.2.2.2) (fun _ => rfl) (by rw [List.length_append, hA]; rfl) (by decide) (by decide) (by decide) (nb rfl) (nb rfl) ?_
  refine T_h (h2 := A ++ [.inr (4, [.int 1, .int 0, .int 0, .ref (n + 1), .ref (n + 2), .ref (n + 3), .ref (n + 4), .ref (n + 5), .ref (n + 6), .ref (n + 8), .ref (n + 9), .null, .null]), k250, k250, k125i, k8i, k8i, .inr (10, [.ref (n + 7), .int 0, .int (-9), .int (-9)]), k3i, k6, k6, .inl (5, 11, .inr (.inr (fun _ => none)))]) (List.append_assoc _ _ _) ?_
  refine T_putF dX4_init_100 fp_X4_56_4 rfl (ap_get (k := 0) hA rfl) (nb rfl) (fun _ => ⟨rfl, rfl⟩) ?_
  refine T_h (h2 := A ++ [.inr (4, [.int 1, .int 0, .int 0, .ref (n + 1), .ref (n + 2), .ref (n + 3), .ref (n + 4), .ref (n + 5), .ref (n + 6), .ref (n + 8), .ref (n + 9), .ref (n + 10), .null]), k250, k250, k125i, k8i, k8i, .inr (10, [.ref (n + 7), .int 0, .int (-9), .int (-9)]), k3i, k6, k6, .inl (5, 11, .inr (.inr (fun _ => none)))]) (ap_set (k := 0) hA) ?_
  refine T_aload_n dX4_init_103 rfl ?_
  refine T_bipush (v := nI 10) dX4_init_104 (by decide) ?_
  refine T_newR (t := 5) (C0 := RX6) (N := 10) (a := (n + 11)) (cu2 := 11) (su2 := 673) dX4_init_106 cl_X4_46 (fun _ h => h.2.2.2.2.2) (fun _ => rfl) (by rw [List.length_append, hA]; rfl) (by decide) (by decide) (by decide) (nb rfl) (nb rfl) ?_
  refine T_h (h2 := A ++ [.inr (4, [.int 1, .int 0, .int 0, .ref (n + 1), .ref (n + 2), .ref (n + 3), .ref (n + 4), .ref (n + 5), .ref (n + 6), .ref (n + 8), .ref (n + 9), .ref (n + 10), .null]), k250, k250, k125i, k8i, k8i, .inr (10, [.ref (n + 7), .int 0, .int (-9), .int (-9)]), k3i, k6, k6, .inl (5, 11, .inr (.inr (fun _ => none))), .inl (5, 10, .inr (.inr (fun _ => none)))]) (List.append_assoc _ _ _) ?_
  refine T_putF dX4_init_109 fp_X4_60_4 rfl (ap_get (k := 0) hA rfl) (nb rfl) (fun _ => ⟨rfl, rfl⟩) ?_
  refine T_h (h2 := A ++ [.inr (4, [.int 1, .int 0, .int 0, .ref (n + 1), .ref (n + 2), .ref (n + 3), .ref (n + 4), .ref (n + 5), .ref (n + 6), .ref (n + 8), .ref (n + 9), .ref (n + 10), .ref (n + 11)]), k250, k250, k125i, k8i, k8i, .inr (10, [.ref (n + 7), .int 0, .int (-9), .int (-9)]), k3i, k6, k6, .inl (5, 11, .inr (.inr (fun _ => none))), .inl (5, 10, .inr (.inr (fun _ => none)))]) (ap_set (k := 0) hA) ?_
  refine T_iconst (v := nI 0) dX4_init_112 (by decide) ?_
  refine T_istore_n dX4_init_113 (by decide) rfl ?_
  exact lp_X4_init_0 hA ⟨rfl, rfl⟩
end K4
