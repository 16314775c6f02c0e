/-! both, fresh -/
section K7
variable {A R : XH}
def hX0 : XH := [.inr (11, [.ref 1, .ref 2, .ref 4, .ref 8, .ref 10, .ref 43, .ref 44, .ref 45, .ref 46, .ref 47, .ref 53, .int 0]), .inl (3, 4, .inr (.inr fS4)), .inr (7, [.int 0, .ref 3, .int 0, .int 0]), k0i, .inr (3, [.int 0, .ref 5, .ref 6, .ref 7]), k8i, k8i, k8i, .inr (10, [.ref 9, .int 0, .int (-9), .int (-9)]), k3i, .inr (4, [.int 1, .int 0, .int 0, .ref 11, .ref 12, .ref 13, .ref 14, .ref 15, .ref 16, .ref 18, .ref 19, .ref 20, .ref 21]), k250, k250, k125i, k8i, k8i, .inr (10, [.ref 17, .int 0, .int (-9), .int (-9)]), k3i, k6, k6, .inl (5, 11, .inr (.inr (fG11 10))), .inl (5, 10, .inr (.inr (fH10 10))), k6, k6, k6, k6, k6, k6, k6, k6, k6, k6, k6, k6, k6, k6, k6, k6, k6, k6, k6, k6, k6, .inr (9, [.int 0]), k10i, k125i, k125i, .inr (1, [.int 0, .int 0, .int 0, .int 0, .ref 48, .ref 49]), k10i, .inl (4, 3, .inr (.inr (fB3 47))), .inr (0, [.int (nI 0), .int 0, .int 1]), .inr (0, [.int (nI 1), .int 0, .int 1]), .inr (0, [.int (nI 2), .int 0, .int 1]), .inr (1, [.int 0, .int 0, .int 0, .int 0, .ref 54, .ref 55]), k10i, .inl (4, 3, .inr (.inr (fB3 53))), .inr (0, [.int (nI 0), .int 0, .int 1]), .inr (0, [.int (nI 1), .int 0, .int 1]), .inr (0, [.int (nI 2), .int 0, .int 1]), .inr (5, [.int (-1), .int 0, .ref 60]), k60i, .inr (5, [.int (-1), .int 0, .ref 62]), k60i, .inr (5, [.int (-1), .int 0, .ref 64]), k60i, .inr (5, [.int (-1), .int 0, .ref 66]), k60i]
def uZ : MSt := (fun _ => 0, va_up (fun _ _ => 0) 2 (upd (upd (upd (upd (fun _ => 0) 0 (-9)) 1 (-9)) 2 (-9)) 3 (-9)))
theorem c_X11_new : ConE M_X11_init [.ref 0] ([] ++ [.inr (11, [.null, .null, .null, .null, .null, .null, .null, .null, .null, .null, .null, .int 0])]) none hX0 := c_X11_init (A := []) rfl
theorem c_X12_new (hA : A.length = 67) : ConE M_X12_init [.ref 67] (A ++ [.inr (12, [.int 0, .int 0, .null, .null, .null, .int 0, .int 0, .int 0, .null, .null, .null, .null, .null, .int 0, .int 0, .int 0, .int 0, .null, .null, .null, .null, .int 0, .null, .int 0, .int 0, .int 0, .null, .null, .int 0, .null, .null, .null])]) none (mH A uZ []) := c_X12_init hA
def LZ : LK := ((0, (0, 0)), ((fun _ => 0), ((fun _ => 0), ((fun _ => 0), (fun _ => 0)))))
def sZ : SSt := ((fun k => match k with | 0 => 1 | 4 => -9 | 5 => -9 | _ => 0), ((fun _ _ => 0), ((fun _ _ => 0), ((fun _ => 0), (fun k => match k with | 20 => fG11 10 | 21 => fH10 10 | _ => fun _ => none)))))
theorem hX0_len : hX0.length = 67 := rfl
theorem hX0_s : hX0 ++ R = sH (hX0.take 10) sZ (hX0.drop 43 ++ R) := rfl
theorem sim_0 : SimP (hX0 ++ R) uZ 45 46 47 53 0 (fun _ => 86) LZ (fun _ => 0) 0 (fun _ => 0) (fun _ => 0) (fun _ => 0) (fun _ => -1) (fun _ => 0) (fun _ _ => 0) := by
  have z0 : ∀ {i : Nat} {P : Prop}, i < 0 → P := fun hi => (Nat.not_lt_zero _ hi).elim
  have hL : LOk LZ := ⟨by decide, by decide, by decide, fun i hi => z0 hi, fun _ _ => Nat.zero_le 1⟩
  refine ⟨⟨⟨rfl, by omega, by omega⟩, ⟨hL, ⟨rfl, ?_, ⟨_, rfl, fun i hi => z0 hi⟩⟩, ⟨_, rfl, fun j hj => z0 hj⟩, fun i hi => z0 hi⟩, ⟨⟨0, 0, 0, 0, rfl⟩, ⟨_, rfl⟩, ⟨_, rfl⟩⟩, ⟨rfl, _, _, _, rfl, rfl, rfl, fun r hr => z0 hr⟩, ⟨_, _, _, _, rfl, rfl⟩, ⟨_, sZ, _, rfl, hX0_s, ?_, fun q => absurd q (by decide)⟩, rfl, ⟨_, rfl⟩, ⟨⟨_, rfl⟩, ⟨_, rfl⟩⟩, ⟨_, _, _, _, rfl⟩, ?_⟩, ⟨rfl, rfl, rfl, fun i hi => z0 hi, fun c hc => rfl⟩, fun j hj => z0 hj, ⟨rfl, Nat.zero_le 8, fun q hq => z0 hq⟩, ?_⟩
  · exact ⟨by decide, fun d _ => ⟨fun q => absurd q (by rw [Nat.zero_testBit]; decide), fun q => absurd (show (0 : Nat) = 1 from q) (by decide)⟩⟩
  · exact ⟨by decide, by decide⟩
  · refine ⟨_, rfl, fun k hk => ?_⟩
    rcases (show k = 0 ∨ k = 1 ∨ k = 2 ∨ k = 3 by omega) with rfl | rfl | rfl | rfl
    all_goals exact ⟨rfl, rfl, rfl⟩
  · intro k hk
    rcases (show k = 0 ∨ k = 1 ∨ k = 2 ∨ k = 3 by omega) with rfl | rfl | rfl | rfl
    all_goals exact ⟨Or.inl ⟨rfl, rfl⟩, ⟨0, by omega, rfl, rfl⟩, fun i hi => rfl⟩
end K7
