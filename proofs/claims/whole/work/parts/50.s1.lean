/-! the search's cells: places 10 .. 42. Numbers by field, rows, rows of longs, sets by place, arrays of sets -/
abbrev SSt : Type := (Nat → Int32) × ((Nat → Nat → Int32) × ((Nat → Nat → Int64) × ((Nat → Nat) × (Nat → Nat → Option Nat))))
def sC (s : SSt) : List XC := [.inr (4, [.int (s.1 0), .int (s.1 1), .int (s.1 2), .ref 11, .ref 12, .ref 13, .ref 14, .ref 15, .ref 16, .ref 18, .ref 19, .ref 20, .ref 21]), .inl (1, 250, .inr (.inl (s.2.2.1 11))), .inl (1, 250, .inr (.inl (s.2.2.1 12))), .inl (0, 125, .inl (s.2.1 13)), .inl (0, 8, .inl (s.2.1 14)), .inl (0, 8, .inl (s.2.1 15)), voO 17 (s.1 3) (s.1 4) (s.1 5), r3 (s.2.1 17), stN (s.2.2.2.1 18), stN (s.2.2.2.1 19), .inl (5, 11, .inr (.inr (s.2.2.2.2 20))), .inl (5, 10, .inr (.inr (s.2.2.2.2 21))), stN (s.2.2.2.1 22), stN (s.2.2.2.1 23), stN (s.2.2.2.1 24), stN (s.2.2.2.1 25), stN (s.2.2.2.1 26), stN (s.2.2.2.1 27), stN (s.2.2.2.1 28), stN (s.2.2.2.1 29), stN (s.2.2.2.1 30), stN (s.2.2.2.1 31), stN (s.2.2.2.1 32), stN (s.2.2.2.1 33), stN (s.2.2.2.1 34), stN (s.2.2.2.1 35), stN (s.2.2.2.1 36), stN (s.2.2.2.1 37), stN (s.2.2.2.1 38), stN (s.2.2.2.1 39), stN (s.2.2.2.1 40), stN (s.2.2.2.1 41), stN (s.2.2.2.1 42)]
def sH (A : XH) (s : SSt) (R : XH) : XH := A ++ (sC s ++ R)
section S1
variable {A R : XH} {s : SSt}
theorem sH_get {k : Nat} {c : XC} (hA : A.length = 10) (hk : (sC s)[k]? = some c) : (sH A s R)[k + 10]? = some c := by
  have hl := (List.getElem?_eq_some_iff.mp hk).1
  unfold sH
  rw [List.getElem?_append_right (by omega), hA, Nat.add_sub_cancel, List.getElem?_append_left hl]
  exact hk
theorem sH_set {s2 : SSt} {k : Nat} {c : XC} (hA : A.length = 10) (hk : k < 33) (e : (sC s).set k c = sC s2) : (sH A s R).set (k + 10) c = sH A s2 R := by
  unfold sH
  rw [List.set_append_right _ _ (by omega), hA, Nat.add_sub_cancel, List.set_append_left _ _ (by simpa [sC] using hk), e]
abbrev sSt (s : SSt) (k X : Nat) : SSt := (s.1, (s.2.1, (s.2.2.1, (va_up s.2.2.2.1 k X, s.2.2.2.2))))
abbrev sFt (s : SSt) (j : Nat) (g : Nat → Int32) : SSt := (s.1, (va_up s.2.1 j g, s.2.2))
abbrev sDt (s : SSt) (j : Nat) (g : Nat → Int64) : SSt := (s.1, (s.2.1, (va_up s.2.2.1 j g, s.2.2.2)))
abbrev sIt (s : SSt) (j : Nat) (x : Int32) : SSt := (va_up s.1 j x, s.2)
theorem sF_13 {g : Nat → Int32} (hA : A.length = 10) : (sH A s R).set 13 (.inl (0, 125, .inl g)) = sH A (sFt s 13 g) R := sH_set (k := 3) hA (nb rfl) rfl
theorem sF_14 {g : Nat → Int32} (hA : A.length = 10) : (sH A s R).set 14 (.inl (0, 8, .inl g)) = sH A (sFt s 14 g) R := sH_set (k := 4) hA (nb rfl) rfl
theorem sF_15 {g : Nat → Int32} (hA : A.length = 10) : (sH A s R).set 15 (.inl (0, 8, .inl g)) = sH A (sFt s 15 g) R := sH_set (k := 5) hA (nb rfl) rfl
theorem sF_17 {g : Nat → Int32} (hA : A.length = 10) : (sH A s R).set 17 (.inl (0, 3, .inl g)) = sH A (sFt s 17 g) R := sH_set (k := 7) hA (nb rfl) rfl
theorem sD_11 {g : Nat → Int64} (hA : A.length = 10) : (sH A s R).set 11 (.inl (1, 250, .inr (.inl g))) = sH A (sDt s 11 g) R := sH_set (k := 1) hA (nb rfl) rfl
theorem sD_12 {g : Nat → Int64} (hA : A.length = 10) : (sH A s R).set 12 (.inl (1, 250, .inr (.inl g))) = sH A (sDt s 12 g) R := sH_set (k := 2) hA (nb rfl) rfl
theorem sI_0 {v : Int32} (hA : A.length = 10) : (sH A s R).set 10 (.inr (4, ([.int (s.1 0), .int (s.1 1), .int (s.1 2), .ref 11, .ref 12, .ref 13, .ref 14, .ref 15, .ref 16, .ref 18, .ref 19, .ref 20, .ref 21] : List Value).set 0 (.int v))) = sH A (sIt s 0 v) R := sH_set (k := 0) hA (nb rfl) rfl
theorem sI_1 {v : Int32} (hA : A.length = 10) : (sH A s R).set 10 (.inr (4, ([.int (s.1 0), .int (s.1 1), .int (s.1 2), .ref 11, .ref 12, .ref 13, .ref 14, .ref 15, .ref 16, .ref 18, .ref 19, .ref 20, .ref 21] : List Value).set 1 (.int v))) = sH A (sIt s 1 v) R := sH_set (k := 0) hA (nb rfl) rfl
theorem sI_2 {v : Int32} (hA : A.length = 10) : (sH A s R).set 10 (.inr (4, ([.int (s.1 0), .int (s.1 1), .int (s.1 2), .ref 11, .ref 12, .ref 13, .ref 14, .ref 15, .ref 16, .ref 18, .ref 19, .ref 20, .ref 21] : List Value).set 2 (.int v))) = sH A (sIt s 2 v) R := sH_set (k := 0) hA (nb rfl) rfl
abbrev isSt (k : Nat) : Prop := 18 ≤ k ∧ k ≤ 42 ∧ k ≠ 20 ∧ k ≠ 21
theorem isSt_or {k : Nat} (h : isSt k) : k = 18 ∨ k = 19 ∨ k = 22 ∨ k = 23 ∨ k = 24 ∨ k = 25 ∨ k = 26 ∨ k = 27 ∨ k = 28 ∨ k = 29 ∨ k = 30 ∨ k = 31 ∨ k = 32 ∨ k = 33 ∨ k = 34 ∨ k = 35 ∨ k = 36 ∨ k = 37 ∨ k = 38 ∨ k = 39 ∨ k = 40 ∨ k = 41 ∨ k = 42 := by omega
theorem sH_st {k : Nat} (hA : A.length = 10) (hk : isSt k) : (sH A s R)[k]? = some (stN (s.2.2.2.1 k)) := by
  rcases isSt_or hk with rfl | rfl | rfl | rfl | rfl | rfl | rfl | rfl | rfl | rfl | rfl | rfl | rfl | rfl | rfl | rfl | rfl | rfl | rfl | rfl | rfl | rfl | rfl
  · exact sH_get (k := 8) hA rfl
  · exact sH_get (k := 9) hA rfl
  · exact sH_get (k := 12) hA rfl
  · exact sH_get (k := 13) hA rfl
  · exact sH_get (k := 14) hA rfl
  · exact sH_get (k := 15) hA rfl
  · exact sH_get (k := 16) hA rfl
  · exact sH_get (k := 17) hA rfl
  · exact sH_get (k := 18) hA rfl
  · exact sH_get (k := 19) hA rfl
  · exact sH_get (k := 20) hA rfl
  · exact sH_get (k := 21) hA rfl
  · exact sH_get (k := 22) hA rfl
  · exact sH_get (k := 23) hA rfl
  · exact sH_get (k := 24) hA rfl
  · exact sH_get (k := 25) hA rfl
  · exact sH_get (k := 26) hA rfl
  · exact sH_get (k := 27) hA rfl
  · exact sH_get (k := 28) hA rfl
  · exact sH_get (k := 29) hA rfl
  · exact sH_get (k := 30) hA rfl
  · exact sH_get (k := 31) hA rfl
  · exact sH_get (k := 32) hA rfl
theorem sH_sst {k X : Nat} (hA : A.length = 10) (hk : isSt k) : (sH A s R).set k (stN X) = sH A (sSt s k X) R := by
  rcases isSt_or hk with rfl | rfl | rfl | rfl | rfl | rfl | rfl | rfl | rfl | rfl | rfl | rfl | rfl | rfl | rfl | rfl | rfl | rfl | rfl | rfl | rfl | rfl | rfl
  · exact sH_set (k := 8) hA (nb rfl) rfl
  · exact sH_set (k := 9) hA (nb rfl) rfl
  · exact sH_set (k := 12) hA (nb rfl) rfl
  · exact sH_set (k := 13) hA (nb rfl) rfl
  · exact sH_set (k := 14) hA (nb rfl) rfl
  · exact sH_set (k := 15) hA (nb rfl) rfl
  · exact sH_set (k := 16) hA (nb rfl) rfl
  · exact sH_set (k := 17) hA (nb rfl) rfl
  · exact sH_set (k := 18) hA (nb rfl) rfl
  · exact sH_set (k := 19) hA (nb rfl) rfl
  · exact sH_set (k := 20) hA (nb rfl) rfl
  · exact sH_set (k := 21) hA (nb rfl) rfl
  · exact sH_set (k := 22) hA (nb rfl) rfl
  · exact sH_set (k := 23) hA (nb rfl) rfl
  · exact sH_set (k := 24) hA (nb rfl) rfl
  · exact sH_set (k := 25) hA (nb rfl) rfl
  · exact sH_set (k := 26) hA (nb rfl) rfl
  · exact sH_set (k := 27) hA (nb rfl) rfl
  · exact sH_set (k := 28) hA (nb rfl) rfl
  · exact sH_set (k := 29) hA (nb rfl) rfl
  · exact sH_set (k := 30) hA (nb rfl) rfl
  · exact sH_set (k := 31) hA (nb rfl) rfl
  · exact sH_set (k := 32) hA (nb rfl) rfl
/-- the arrays of sets: good[g] at 22 + 2 g, hatted[g] at 23 + 2 g -/
def GOk (s : SSt) : Prop := (∀ g, g ≤ 10 → s.2.2.2.2 20 g = some (22 + 2 * g)) ∧ ∀ g, g < 10 → s.2.2.2.2 21 g = some (23 + 2 * g)
theorem sSt2 {k X Y : Nat} : sSt (sSt s k X) k Y = sSt s k Y := by
  show (s.1, (s.2.1, (s.2.2.1, (va_up (va_up s.2.2.2.1 k X) k Y, s.2.2.2.2)))) = _
  congr 4
  funext j
  unfold va_up
  by_cases e : j = k
  · rw [if_pos e, if_pos e]
  · rw [if_neg e, if_neg e, if_neg e]
theorem sSt_id {k : Nat} : sSt s k (s.2.2.2.1 k) = s := by
  show (s.1, (s.2.1, (s.2.2.1, (va_up s.2.2.2.1 k (s.2.2.2.1 k), s.2.2.2.2)))) = _
  rw [← va_upS]
theorem sSt_k {k X : Nat} : (sSt s k X).2.2.2.1 k = X := va_up_self _ _ _
theorem sSt_n {k j X : Nat} (h : j ≠ k) : (sSt s k X).2.2.2.1 j = s.2.2.2.1 j := va_up_ne _ _ h
end S1
