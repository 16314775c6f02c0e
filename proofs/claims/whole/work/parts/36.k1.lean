/-! new rows of numbers, at a place that is a number -/
section K1
variable {M : XM} {E : XE} {Z : XZ} {cu su pc : Nat} {ls : List (Nat × Value)} {st : List Value} {h : XH}
theorem T_newI {N a cu2 su2 : Nat} (hd : decode M.2.1 pc = .ok (.newarray .int, 2)) (hl : h.length = a) (hb : N < 100000) (h1 : cu + 1 ≤ cu2) (h2 : su + N ≤ su2) (h3 : cu2 ≤ M.2.2.2.2.cells) (h4 : su2 ≤ M.2.2.2.2.slots) (kk : T M E Z cu2 su2 (pc + 2) ls (.ref a :: st) (h ++ [.inl (0, N, .inl (fun _ => 0))])) : T M E Z cu su pc ls (.int (nI N) :: st) h := by
  subst hl
  exact T_newa (t := 0) (ty := .int) hd ac_int rfl (fun _ => rfl) rfl (fun _ _ => rfl) (nI_lt0 _ (by omega)) (nI_clamp (by omega)) (by show N * 4 ≤ _; omega) h1 h2 h3 h4 kk
theorem T_newZ {N a cu2 su2 : Nat} (hd : decode M.2.1 pc = .ok (.newarray .boolean, 2)) (hl : h.length = a) (hb : N < 100000) (h1 : cu + 1 ≤ cu2) (h2 : su + N ≤ su2) (h3 : cu2 ≤ M.2.2.2.2.cells) (h4 : su2 ≤ M.2.2.2.2.slots) (kk : T M E Z cu2 su2 (pc + 2) ls (.ref a :: st) (h ++ [.inl (2, N, .inl (fun _ => 0))])) : T M E Z cu su pc ls (.int (nI N) :: st) h := by
  subst hl
  exact T_newa (t := 2) (ty := .boolean) hd ac_boolean rfl (fun _ => rfl) rfl (fun _ _ => rfl) (nI_lt0 _ (by omega)) (nI_clamp (by omega)) (by show N * 1 ≤ _; omega) h1 h2 h3 h4 kk
theorem T_newL {N a cu2 su2 : Nat} (hd : decode M.2.1 pc = .ok (.newarray .long, 2)) (hl : h.length = a) (hb : N < 100000) (h1 : cu + 1 ≤ cu2) (h2 : su + N ≤ su2) (h3 : cu2 ≤ M.2.2.2.2.cells) (h4 : su2 ≤ M.2.2.2.2.slots) (kk : T M E Z cu2 su2 (pc + 2) ls (.ref a :: st) (h ++ [.inl (1, N, .inr (.inl (fun _ => 0)))])) : T M E Z cu su pc ls (.int (nI N) :: st) h := by
  subst hl
  exact T_newa (t := 1) (ty := .long) hd ac_long rfl (fun _ => rfl) rfl (fun _ _ => rfl) (nI_lt0 _ (by omega)) (nI_clamp (by omega)) (by show N * 8 ≤ _; omega) h1 h2 h3 h4 kk
theorem ap_get {A l : XH} {n k : Nat} {c : XC} (hA : A.length = n) (hl : l[k]? = some c) : (A ++ l)[n + k]? = some c := by
  subst hA
  rw [List.getElem?_append_right (Nat.le_add_right _ _), Nat.add_sub_cancel_left]
  exact hl
theorem ap_set {A l : XH} {n k : Nat} {c : XC} (hA : A.length = n) : (A ++ l).set (n + k) c = A ++ l.set k c := by
  subst hA
  rw [List.set_append_right _ _ (Nat.le_add_right _ _), Nat.add_sub_cancel_left]
end K1
