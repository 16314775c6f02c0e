/-! a call of the component and one of the reference -/
section P1
variable {A B : XH} {u u2 : MSt} {h1 : XH} {N1 N2 : XM} {as : List Value} {V : Value → Prop}
theorem mC_len : (mC u).length = 19 := rfl
theorem mH_len (hA : A.length = 67) : (mH A u B).length = 86 + B.length := by
  unfold mH
  rw [List.length_append, List.length_append, hA, mC_len]
  omega
theorem mH_of (hA : A.length = 67) (hg : Ag (fun k => k < 67) (mH A u B) h1) : ∃ A1 B1, A1.length = 67 ∧ h1 = mH A1 u B1 := by
  have hl := mH_len (u := u) (B := B) hA
  have h1l := hg.1
  have hC := mC_len (u := u)
  have hA2 : (h1.take 67).length = 67 := by rw [List.length_take]; omega
  refine ⟨h1.take 67, h1.drop 86, hA2, List.ext_getElem? fun k => ?_⟩
  by_cases c1 : k < 67
  · unfold mH
    rw [List.getElem?_append_left (by omega), List.getElem?_take_of_lt c1]
  · by_cases c2 : k < 86
    · rw [hg.2 k (by omega) c1]
      unfold mH
      rw [List.getElem?_append_right (by omega), List.getElem?_append_left (by omega), List.getElem?_append_right (by omega), List.getElem?_append_left (by omega), hA, hA2]
    · unfold mH
      rw [List.getElem?_append_right (by omega), List.getElem?_append_right (by omega), List.getElem?_drop, hA2, hC]
      congr 1
      omega
theorem mH_ag (hA : A.length = 67) : Ag (fun k => 67 ≤ k ∧ k ≤ 85) (mH A u B) (mH A u2 B) := by
  have hC := mC_len (u := u)
  have hC2 := mC_len (u := u2)
  refine ⟨by rw [mH_len hA, mH_len hA]; exact Nat.le_refl _, fun k hk hn => ?_⟩
  unfold mH
  by_cases c1 : k < 67
  · rw [List.getElem?_append_left (by omega), List.getElem?_append_left (by omega)]
  · rw [List.getElem?_append_right (by omega), List.getElem?_append_right (by omega), List.getElem?_append_right (by omega), List.getElem?_append_right (by omega), hC, hC2]
def Inv (A : XH) (u : MSt) (B : XH) : Prop := A.length = 67 ∧ Sim (mH A u B) u
theorem inv_ag (hA : A.length = 67) (hs : Sim (mH A u B) u2) : Inv A u2 B := ⟨hA, hs.ag (mH_ag hA)⟩
def isI (v : Value) : Prop := ∃ x : Int32, v = .int x
def isJ (v : Value) : Prop := ∃ x : Int64, v = .long x
def Prs (N1 N2 : XM) (V : Value → Prop) (as : List Value) (A : XH) (u : MSt) (B : XH) : Prop := ∃ Rf : Option Value → MSt → Prop, Con N1 (.ref 0 :: as) (mH A u B) (SQ (mH A u B) Rf) ∧ (∀ A1 B1, A1.length = 67 → Con N2 (.ref 67 :: as) (mH A1 u B1) (fun q h' => ∃ u2, h' = mH A1 u2 B1 ∧ Rf q u2)) ∧ ∀ q u2, Rf q u2 → ∃ v, q = some v ∧ V v
theorem Pr_E {v : Value} {w : MSt} (c1 : Con N1 (.ref 0 :: as) (mH A u B) (SQ (mH A u B) (RfE v w))) (c2 : ∀ A1 B1 : XH, A1.length = 67 → ConE N2 (.ref 67 :: as) (mH A1 u B1) (some v) (mH A1 w B1)) (hv : V v) : Prs N1 N2 V as A u B :=
  ⟨_, c1, fun A1 B1 h => Con.mono (c2 A1 B1 h) (fun r h' q => ⟨w, q.2, q.1, rfl⟩), fun q u2 e => ⟨v, e.1, hv⟩⟩
theorem Pr_R {R : Int32 → MSt → Prop} (c1 : Con N1 (.ref 0 :: as) (mH A u B) (SQ (mH A u B) (fun q2 u2 => ∃ v, q2 = some (.int v) ∧ R v u2))) (c2 : ∀ A1 B1 : XH, A1.length = 67 → Con N2 (.ref 67 :: as) (mH A1 u B1) (fun q h' => ∃ v u', q = some (.int v) ∧ h' = mH A1 u' B1 ∧ R v u')) : Prs N1 N2 isI as A u B :=
  ⟨_, c1, fun A1 B1 h => Con.mono (c2 A1 B1 h) (fun r h' q => by obtain ⟨v, u', e1, e2, e3⟩ := q; exact ⟨u', e2, v, e1, e3⟩), fun q u2 e => by obtain ⟨v, e1, -⟩ := e; exact ⟨_, e1, v, rfl⟩⟩
theorem Pr_J {R : Int64 → MSt → Prop} (c1 : Con N1 (.ref 0 :: as) (mH A u B) (SQ (mH A u B) (fun q2 u2 => ∃ v, q2 = some (.long v) ∧ R v u2))) (c2 : ∀ A1 B1 : XH, A1.length = 67 → Con N2 (.ref 67 :: as) (mH A1 u B1) (fun q h' => ∃ v u', q = some (.long v) ∧ h' = mH A1 u' B1 ∧ R v u')) : Prs N1 N2 isJ as A u B :=
  ⟨_, c1, fun A1 B1 h => Con.mono (c2 A1 B1 h) (fun r h' q => by obtain ⟨v, u', e1, e2, e3⟩ := q; exact ⟨u', e2, v, e1, e3⟩), fun q u2 e => by obtain ⟨v, e1, -⟩ := e; exact ⟨_, e1, v, rfl⟩⟩
theorem Pr_M {R : Int32 → Prop} (c1 : Con N1 (.ref 0 :: as) (mH A u B) (SQ (mH A u B) (fun q2 u2 => (∃ v, q2 = some (.int v) ∧ R v) ∧ mmR u u2))) (c2 : ∀ A1 B1 : XH, A1.length = 67 → Con N2 (.ref 67 :: as) (mH A1 u B1) (fun q h' => (∃ v, q = some (.int v) ∧ R v) ∧ mmE u A1 B1 h')) : Prs N1 N2 isI as A u B :=
  ⟨_, c1, fun A1 B1 h => Con.mono (c2 A1 B1 h) (fun r h' q => by obtain ⟨e1, P, cb, th, e2⟩ := q; exact ⟨_, e2, e1, P, cb, th, rfl⟩), fun q u2 e => by obtain ⟨⟨v, e1, -⟩, -⟩ := e; exact ⟨_, e1, v, rfl⟩⟩
/-- what the reference's contracts ask for -/
theorem Inv.all (I : Inv A u B) : ∃ (wy nw wt sp isl : Nat) (bp : Nat → Nat) (L : LK) (wn : Nat → Nat) (nr : Nat) (rb rh rc : Nat → Nat) (ln sz : Nat → Int32) (g : Nat → Nat → Int32), SimP (mH A u B) u wy nw wt sp isl bp L wn nr rb rh rc ln sz g ∧ MR u L ∧ LOk L ∧ MW u L wn ∧ RdR u L nr rb rh rc ∧ ∀ j, j < 4 → ∃ ll : Nat, ll ≤ 60 ∧ u.2 3 j = nI ll := by
  obtain ⟨wy, nw, wt, sp, isl, bp, L, wn, nr, rb, rh, rc, ln, sz, g, p⟩ := I.2
  exact ⟨wy, nw, wt, sp, isl, bp, L, wn, nr, rb, rh, rc, ln, sz, g, p, p.2.1, p.1.2.1.1, p.2.2.1, p.2.2.2.1, fun j hj => by obtain ⟨-, ⟨ll, a, b, -⟩, -⟩ := p.2.2.2.2 j hj; exact ⟨ll, a, b⟩⟩
theorem p_lake (I : Inv A u B) (a b c d : Int32) : Prs M_X11_lake M_X12_lake isI [.int a, .int b, .int c, .int d] A u B := by
  obtain ⟨wy, nw, wt, sp, isl, bp, L, wn, nr, rb, rh, rc, ln, sz, g, p, hM, hL, hW, hR, hl⟩ := I.all
  exact Pr_R (s_lake p (by rw [mH_len I.1]; omega) a b c d) (fun A1 B1 hA => c_X12_lake hA a b c d hl)
theorem p_ofBoat (I : Inv A u B) (a b : Int32) : Prs M_X11_ofBoat M_X12_ofBoat isI [.int a, .int b] A u B := by
  obtain ⟨wy, nw, wt, sp, isl, bp, L, wn, nr, rb, rh, rc, ln, sz, g, p, hM, hL, hW, hR, hl⟩ := I.all
  exact Pr_E (s_ofBoat I.2 a b) (fun A1 B1 hA => c_X12_ofBoat hA a b (hM.2.2.1) (hL.2.2.1)) ⟨_, rfl⟩
theorem p_wind (I : Inv A u B) (a b : Int32) : Prs M_X11_wind M_X12_wind isI [.int a, .int b] A u B := by
  obtain ⟨wy, nw, wt, sp, isl, bp, L, wn, nr, rb, rh, rc, ln, sz, g, p, hM, hL, hW, hR, hl⟩ := I.all
  exact Pr_E (s_wind I.2 a b) (fun A1 B1 hA => c_X12_wind hA a b hM.2.1 hL.2.1) ⟨_, rfl⟩
theorem p_plan (I : Inv A u B) (a b c d e : Int32) : Prs M_X11_plan M_X12_plan isI [.int a, .int b, .int c, .int d, .int e] A u B := by
  obtain ⟨wy, nw, wt, sp, isl, bp, L, wn, nr, rb, rh, rc, ln, sz, g, p, hM, hL, hW, hR, hl⟩ := I.all
  exact Pr_R (s_plan p a b c d e) (fun A1 B1 hA => c_X12_plan hA hM hL hW a b c d e hl)
theorem p_soonest (I : Inv A u B) (a : Int32) : Prs M_X11_soonest M_X12_soonest isI [.int a] A u B := by
  obtain ⟨wy, nw, wt, sp, isl, bp, L, wn, nr, rb, rh, rc, ln, sz, g, p, hM, hL, hW, hR, hl⟩ := I.all
  exact Pr_M (s_soonest p a) (fun A1 B1 hA => c_X12_soonest hA hM hL hW a)
theorem p_hats (I : Inv A u B) (a b : Int32) : Prs M_X11_hats M_X12_hats isI [.int a, .int b] A u B := by
  obtain ⟨wy, nw, wt, sp, isl, bp, L, wn, nr, rb, rh, rc, ln, sz, g, p, hM, hL, hW, hR, hl⟩ := I.all
  exact Pr_M (s_hats p a b) (fun A1 B1 hA => c_X12_hats hA hM hL hW a b)
theorem p_rid (I : Inv A u B) (a : Int32) : Prs M_X11_rid M_X12_rid isI [.int a] A u B := by
  obtain ⟨wy, nw, wt, sp, isl, bp, L, wn, nr, rb, rh, rc, ln, sz, g, p, hM, hL, hW, hR, hl⟩ := I.all
  exact Pr_M (s_rid p a) (fun A1 B1 hA => c_X12_rid hA hM hL hW a)
theorem p_reading (I : Inv A u B) (a b c : Int32) : Prs M_X11_reading M_X12_reading isI [.int a, .int b, .int c] A u B := by
  obtain ⟨wy, nw, wt, sp, isl, bp, L, wn, nr, rb, rh, rc, ln, sz, g, p, hM, hL, hW, hR, hl⟩ := I.all
  exact Pr_E (s_reading I.2 a b c) (fun A1 B1 hA => c_X12_reading hA a b c hR.1 hR.2.1) ⟨_, rfl⟩
theorem p_back (I : Inv A u B) (a : Int32) : Prs M_X11_back M_X12_back isI [.int a] A u B := by
  obtain ⟨wy, nw, wt, sp, isl, bp, L, wn, nr, rb, rh, rc, ln, sz, g, p, hM, hL, hW, hR, hl⟩ := I.all
  exact Pr_E (s_back I.2 a) (fun A1 B1 hA => c_X12_back hA a) ⟨_, rfl⟩
theorem p_winds (I : Inv A u B) (a b c d e : Int32) : Prs M_X11_winds M_X12_winds isI [.int a, .int b, .int c, .int d, .int e] A u B := by
  obtain ⟨wy, nw, wt, sp, isl, bp, L, wn, nr, rb, rh, rc, ln, sz, g, p, hM, hL, hW, hR, hl⟩ := I.all
  exact Pr_R (s_winds p a b c d e) (fun A1 B1 hA => c_X12_winds hA hM hL hW hR a b c d e hl)
theorem p_kinds (I : Inv A u B) (a b c d e : Int32) : Prs M_X11_kinds M_X12_kinds isI [.int a, .int b, .int c, .int d, .int e] A u B := by
  obtain ⟨wy, nw, wt, sp, isl, bp, L, wn, nr, rb, rh, rc, ln, sz, g, p, hM, hL, hW, hR, hl⟩ := I.all
  exact Pr_R (s_kinds p a b c d e) (fun A1 B1 hA => c_X12_kinds hA hM hL hW hR a b c d e hl)
theorem p_speeds (I : Inv A u B) (a b c d e : Int32) : Prs M_X11_speeds M_X12_speeds isI [.int a, .int b, .int c, .int d, .int e] A u B := by
  obtain ⟨wy, nw, wt, sp, isl, bp, L, wn, nr, rb, rh, rc, ln, sz, g, p, hM, hL, hW, hR, hl⟩ := I.all
  exact Pr_R (s_speeds p a b c d e) (fun A1 B1 hA => c_X12_speeds hA hM hL hW hR a b c d e hl)
theorem p_odds (I : Inv A u B) (a b c d e : Int32) : Prs M_X11_odds M_X12_odds isJ [.int a, .int b, .int c, .int d, .int e] A u B := by
  obtain ⟨wy, nw, wt, sp, isl, bp, L, wn, nr, rb, rh, rc, ln, sz, g, p, hM, hL, hW, hR, hl⟩ := I.all
  exact Pr_J (s_odds p a b c d e) (fun A1 B1 hA => c_X12_odds hA hM hL a b c d e hl)
theorem p_sheet (I : Inv A u B) (a b c : Int32) : Prs M_X11_sheet M_X12_sheet isI [.int a, .int b, .int c] A u B := by
  obtain ⟨wy, nw, wt, sp, isl, bp, L, wn, nr, rb, rh, rc, ln, sz, g, p, hM, hL, hW, hR, hl⟩ := I.all
  exact Pr_E (s_sheet I.2 a b c) (fun A1 B1 hA => c_X12_sheet hA a b c) ⟨_, rfl⟩
theorem p_lose (I : Inv A u B) (a : Int32) : Prs M_X11_lose M_X12_lose isI [.int a] A u B := by
  obtain ⟨wy, nw, wt, sp, isl, bp, L, wn, nr, rb, rh, rc, ln, sz, g, p, hM, hL, hW, hR, hl⟩ := I.all
  exact Pr_E (s_lose I.2 a) (fun A1 B1 hA => c_X12_lose hA a) ⟨_, rfl⟩
theorem p_put (I : Inv A u B) (a b c : Int32) : Prs M_X11_put M_X12_put isI [.int a, .int b, .int c] A u B := by
  obtain ⟨wy, nw, wt, sp, isl, bp, L, wn, nr, rb, rh, rc, ln, sz, g, p, hM, hL, hW, hR, hl⟩ := I.all
  exact Pr_E (s_put I.2 a b c) (fun A1 B1 hA => c_X12_put hA a b c hl) ⟨_, rfl⟩
theorem p_cell (I : Inv A u B) (a b c : Int32) : Prs M_X11_cell M_X12_cell isJ [.int a, .int b, .int c] A u B := by
  obtain ⟨wy, nw, wt, sp, isl, bp, L, wn, nr, rb, rh, rc, ln, sz, g, p, hM, hL, hW, hR, hl⟩ := I.all
  exact Pr_E (s_cell I.2 a b c) (fun A1 B1 hA => c_X12_cell hA a b c hl) ⟨_, rfl⟩
theorem p_copy (I : Inv A u B) (a b c d e : Int32) : Prs M_X11_copy M_X12_copy isI [.int a, .int b, .int c, .int d, .int e] A u B := by
  obtain ⟨wy, nw, wt, sp, isl, bp, L, wn, nr, rb, rh, rc, ln, sz, g, p, hM, hL, hW, hR, hl⟩ := I.all
  exact Pr_E (s_copy I.2 a b c d e) (fun A1 B1 hA => c_X12_copy hA a b c d e hl) ⟨_, rfl⟩
theorem p_tell (I : Inv A u B) (a : Int32) : Prs M_X11_tell M_X12_tell isI [.int a] A u B := by
  obtain ⟨wy, nw, wt, sp, isl, bp, L, wn, nr, rb, rh, rc, ln, sz, g, p, hM, hL, hW, hR, hl⟩ := I.all
  exact Pr_E (s_tell I.2 a) (fun A1 B1 hA => c_X12_tell hA a (hM.2.2.1) (hL.2.2.1)) ⟨_, rfl⟩
theorem p_hail (I : Inv A u B) (a : Int32) : Prs M_X11_hail M_X12_hail isI [.int a] A u B := by
  obtain ⟨wy, nw, wt, sp, isl, bp, L, wn, nr, rb, rh, rc, ln, sz, g, p, hM, hL, hW, hR, hl⟩ := I.all
  exact Pr_E (s_hail I.2 a) (fun A1 B1 hA => c_X12_hail hA a (hM.2.2.1) (hL.2.2.1)) ⟨_, rfl⟩
theorem p_as (I : Inv A u B) (a b : Int32) : Prs M_X11_as M_X12_as isI [.int a, .int b] A u B := by
  obtain ⟨wy, nw, wt, sp, isl, bp, L, wn, nr, rb, rh, rc, ln, sz, g, p, hM, hL, hW, hR, hl⟩ := I.all
  exact Pr_E (s_as I.2 a b) (fun A1 B1 hA => c_X12_as hA a b (hM.2.2.1) (hL.2.2.1)) ⟨_, rfl⟩
theorem p_trace (I : Inv A u B) : Prs M_X11_trace M_X12_trace isI [] A u B := by
  obtain ⟨wy, nw, wt, sp, isl, bp, L, wn, nr, rb, rh, rc, ln, sz, g, p, hM, hL, hW, hR, hl⟩ := I.all
  exact Pr_E (s_trace I.2) (fun A1 B1 hA => c_X12_trace hA) ⟨_, rfl⟩
theorem p_fault (I : Inv A u B) : Prs M_X11_fault M_X12_fault isI [] A u B := by
  obtain ⟨wy, nw, wt, sp, isl, bp, L, wn, nr, rb, rh, rc, ln, sz, g, p, hM, hL, hW, hR, hl⟩ := I.all
  exact Pr_E (s_fault I.2) (fun A1 B1 hA => c_X12_fault hA) ⟨_, rfl⟩
theorem p_many (I : Inv A u B) (a : Int32) : Prs M_X11_many M_X12_many isI [.int a] A u B := by
  obtain ⟨wy, nw, wt, sp, isl, bp, L, wn, nr, rb, rh, rc, ln, sz, g, p, hM, hL, hW, hR, hl⟩ := I.all
  exact Pr_E (s_many I.2 a) (fun A1 B1 hA => c_X12_many hA a) ⟨_, rfl⟩
theorem p_isle (I : Inv A u B) (a : Int32) {b : Nat} (hb : b ≤ 1) : Prs M_X11_isle M_X12_isle isI [.int a, .int (nI b)] A u B := by
  obtain ⟨wy, nw, wt, sp, isl, bp, L, wn, nr, rb, rh, rc, ln, sz, g, p, hM, hL, hW, hR, hl⟩ := I.all
  have hz : narrow .boolean (.int (nI b)) = .int (nI b) := by
    rcases (show b = 0 ∨ b = 1 by omega) with rfl | rfl <;> rfl
  exact Pr_E (s_isle I.2 a hb) (fun A1 B1 hA => c_X12_isle hA a _ hz hM.1 hL.1) ⟨_, rfl⟩
end P1
