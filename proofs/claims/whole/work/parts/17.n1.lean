/-! the lake in natural numbers: what both sides are held against -/
abbrev LK : Type := (Nat × (Nat × Nat)) × ((Nat → Nat) × ((Nat → Nat) × ((Nat → Nat) × (Nat → Nat))))
abbrev L_w (L : LK) : Nat := L.1.1
abbrev L_h (L : LK) : Nat := L.1.2.1
abbrev L_n (L : LK) : Nat := L.1.2.2
abbrev L_fr (L : LK) : Nat → Nat := L.2.1
abbrev L_kd (L : LK) : Nat → Nat := L.2.2.1
abbrev L_fs (L : LK) : Nat → Nat := L.2.2.2.1
abbrev L_is (L : LK) : Nat → Nat := L.2.2.2.2
/-- a lake as texts tell it, or none -/
def LOk (L : LK) : Prop := L_w L ≤ 4 ∧ L_h L ≤ 10 ∧ L_n L ≤ 3 ∧ (∀ i, i < L_n L → L_fr L i ≤ 1 ∧ L_kd L i ≤ 2 ∧ 1 ≤ L_fs L i ∧ L_fs L i ≤ 3) ∧ ∀ c, c < 5 → L_is L c ≤ 1
def goal (L : LK) (i : Nat) : Nat := if L_fr L i = 0 then L_w L else 0
def start (L : LK) (i : Nat) : Nat := if L_fr L i = 0 then 0 else L_w L
def far (L : LK) (w i : Nat) : Nat := if L_kd L i = 1 ∧ ¬ w = L_fr L i + 1 then L_fs L i + 1 else L_fs L i
/-- where boat i is behind an hour, from c, by the wind w -/
def aft (L : LK) (w : Nat) (go : Bool) (i c : Nat) : Nat :=
  if w = 0 ∨ c = goal L i then c
  else if go then (if L_fr L i = 0 then min (L_w L) (c + far L w i) else c - far L w i)
  else if 0 < c ∧ c < L_w L ∧ L_is L c = 0 then (if w = 1 then c + 1 else c - 1) else c
theorem aft_le {L : LK} {w i c : Nat} {go : Bool} (hc : c ≤ L_w L) : aft L w go i c ≤ L_w L := by
  unfold aft
  repeat' split
  all_goals omega
/-- counts for a fine -/
def cnt (L : LK) (s w : Nat) (p : Nat → Nat) (i : Nat) : Bool := s.testBit i && !(p i == goal L i) && (w == L_fr L i + 1) && !(L_kd L i == 2)
def cntN (L : LK) (s w : Nat) (p : Nat → Nat) : Nat → Nat
  | 0 => 0
  | i + 1 => cntN L s w p i + (if cnt L s w p i = true then 1 else 0)
def finN (L : LK) (s w : Nat) (p : Nat → Nat) : Nat := if 2 ≤ cntN L s w p (L_n L) then cntN L s w p (L_n L) else 0
def ovrN (L : LK) (p : Nat → Nat) : Nat → Nat
  | 0 => 0
  | i + 1 => ovrN L p i + (if p i = goal L i then 2 ^ i else 0)
def allN (L : LK) : Nat := 2 ^ L_n L - 1
/-- the reference's picture of a lake -/
def MR (u : MSt) (L : LK) : Prop := u.1 5 = nI (L_w L) ∧ u.1 6 = nI (L_h L) ∧ u.1 7 = nI (L_n L) ∧ (∀ i, i < L_n L → u.2 11 i = nI (L_fr L i) ∧ u.2 10 i = nI (L_kd L i) ∧ u.2 12 i = nI (L_fs L i)) ∧ ∀ c, c < 5 → u.2 8 c = nI (L_is L c)
/-- the winds of its hours -/
def MW (u : MSt) (L : LK) (wn : Nat → Nat) : Prop := ∀ h, h < L_h L → u.2 9 h = nI (wn h) ∧ wn h ≤ 2
theorem bit_N : ∀ s, s < 8 → ∀ i, i < 3 → (mBit (nI s) i ↔ s.testBit i = true) := by decide
theorem bnd_up : ∀ wd, wd < 5 → ∀ c, c < 5 → ∀ f, f < 5 → mBounded (nI wd) (nI c + 1 * nI f) = nI (min wd (c + f)) := by decide
theorem bnd_dn : ∀ wd, wd < 5 → ∀ c, c < 5 → ∀ f, f < 5 → c ≤ wd → mBounded (nI wd) (nI c + (-1) * nI f) = nI (c - f) := by decide
theorem nI_e {a b : Nat} (ha : a < 100) (hb : b < 100) : nI a = nI b ↔ a = b := nI_eq (by omega) (by omega)
theorem nI_e0 {a : Nat} (ha : a < 100) : nI a = 0 ↔ a = 0 := nI_e (b := 0) ha (by omega)
theorem nI_e1 {a : Nat} (ha : a < 100) : nI a = 1 ↔ a = 1 := nI_e (b := 1) ha (by omega)
theorem nI_e2 {a : Nat} (ha : a < 100) : nI a = 2 ↔ a = 2 := nI_e (b := 2) ha (by omega)
theorem upd_s {f : Nat → Int32} {k : Nat} {x : Int32} : upd f k x k = x := pk_us
theorem upd_n {f : Nat → Int32} {k j : Nat} {x : Int32} (h : j ≠ k) : upd f k x j = f j := pk_un h
theorem over_N {L : LK} {P fr : Nat → Int32} {wide : Int32} {i c : Nat} (hw : wide = nI (L_w L)) (hL : LOk L) (hf : fr i = nI (L_fr L i)) (h1 : L_fr L i ≤ 1) (hp : P i = nI c) (hc : c ≤ L_w L) : mOver P fr wide i ↔ c = goal L i := by
  have h4 := hL.1
  unfold mOver goal
  rw [hp, hf, hw]
  by_cases e : L_fr L i = 0
  · rw [e, if_pos rfl, if_pos (by decide)]
    exact nI_e (by omega) (by omega)
  · rw [if_neg e, if_neg (fun q => e ((nI_e0 (by omega)).mp q))]
    exact nI_e0 (by omega)
theorem step_N {L : LK} {u : MSt} {P : Nat → Int32} {s w i c : Nat} (hM : MR u L) (hL : LOk L) (hs : s < 8) (hw : w ≤ 2) (hw0 : ¬ w = 0) (hi : i < L_n L) (hp : P i = nI c) (hc : c ≤ L_w L) :
    mStep (u.2 11) (u.2 10) (u.2 12) (u.2 8) (u.1 5) (nI s) (nI w) i P i = nI (aft L w (s.testBit i) i c) ∧ ∀ j, j ≠ i → mStep (u.2 11) (u.2 10) (u.2 12) (u.2 8) (u.1 5) (nI s) (nI w) i P j = P j := by
  obtain ⟨m5, -, -, mb, mi⟩ := hM
  have hL0 := hL
  obtain ⟨l4, -, l3, lb, li⟩ := hL
  obtain ⟨b1, b2, b3⟩ := mb i hi
  obtain ⟨q1, q2, q3, q4⟩ := lb i hi
  have hov := over_N (P := P) (fr := u.2 11) m5 hL0 b1 q1 hp hc
  have hbit := bit_N s hs i (by omega)
  have e5 : nI w = u.2 11 i + 1 ↔ w = L_fr L i + 1 := by rw [b1, nI_1]; exact nI_e (by omega) (by omega)
  have ekd : u.2 10 i = 1 ↔ L_kd L i = 1 := by rw [b2]; exact nI_e1 (by omega)
  have efr : u.2 11 i = 0 ↔ L_fr L i = 0 := by rw [b1]; exact nI_e0 (by omega)
  have ew1 : nI w = 1 ↔ w = 1 := nI_e1 (by omega)
  unfold mStep aft
  by_cases c1 : c = goal L i
  · rw [if_pos (hov.mpr c1), if_pos (Or.inr c1)]
    exact ⟨hp, fun _ _ => rfl⟩
  have ne1 : ¬ (w = 0 ∨ c = goal L i) := fun q => q.elim hw0 c1
  have ne2 : ¬ mOver P (u.2 11) (u.1 5) i := fun q => c1 (hov.mp q)
  rw [if_neg ne1, if_neg ne2]
  have efar : (if u.2 10 i = 1 ∧ ¬ nI w = u.2 11 i + 1 then u.2 12 i + 1 else u.2 12 i) = nI (far L w i) := by
    unfold far
    by_cases e : L_kd L i = 1 ∧ ¬ w = L_fr L i + 1
    · rw [if_pos e, if_pos ⟨ekd.mpr e.1, fun q => e.2 (e5.mp q)⟩, b3, nI_1]
    · rw [if_neg e, if_neg (fun q => e ⟨ekd.mp q.1, fun r => q.2 (e5.mpr r)⟩), b3]
  have hfar : far L w i < 5 := by unfold far; split <;> omega
  by_cases c2 : s.testBit i = true
  · rw [if_pos (hbit.mpr c2), if_pos c2, efar, hp, m5]
    refine ⟨?_, fun j hj => upd_n hj⟩
    rw [upd_s]
    by_cases c3 : L_fr L i = 0
    · rw [if_pos (efr.mpr c3), if_pos c3]
      exact bnd_up _ (by omega) _ (by omega) _ hfar
    · rw [if_neg (fun q => c3 (efr.mp q)), if_neg c3]
      exact bnd_dn _ (by omega) _ (by omega) _ hfar hc
  · rw [if_neg (fun q => c2 (hbit.mp q)), if_neg c2, hp, m5]
    have e1 : ¬ nI c ≤ 0 ↔ 0 < c := by rw [show (0 : Int32) = nI 0 from rfl, nI_leI (by omega) (by omega)]; omega
    have e2 : ¬ nI (L_w L) ≤ nI c ↔ c < L_w L := by rw [nI_leI (by omega) (by omega)]; omega
    have e3 : u.2 8 (nI c).toNatClampNeg = 0 ↔ L_is L c = 0 := by
      rw [nI_clamp (by omega), mi c (by omega)]
      have := li c (by omega)
      exact nI_e0 (by omega)
    by_cases c3 : 0 < c ∧ c < L_w L ∧ L_is L c = 0
    · rw [if_pos c3, if_pos ⟨e1.mpr c3.1, e2.mpr c3.2.1, e3.mpr c3.2.2⟩]
      refine ⟨?_, fun j hj => upd_n hj⟩
      rw [upd_s]
      by_cases c4 : w = 1
      · rw [if_pos (ew1.mpr c4), if_pos c4, nI_1]
      · rw [if_neg (fun q => c4 (ew1.mp q)), if_neg c4]
        obtain ⟨d, rfl⟩ : ∃ d, c = d + 1 := ⟨c - 1, by omega⟩
        exact pk_m1 d
    · rw [if_neg c3, if_neg (fun q => c3 ⟨e1.mp q.1, e2.mp q.2.1, e3.mp q.2.2⟩)]
      exact ⟨hp, fun _ _ => rfl⟩
/-- the rows of places that stand for p -/
def PR (L : LK) (P : Nat → Int32) (p : Nat → Nat) : Prop := ∀ i, i < L_n L → P i = nI (p i) ∧ p i ≤ L_w L
theorem hr_N {L : LK} {u : MSt} {P : Nat → Int32} {s w : Nat} {p : Nat → Nat} (hM : MR u L) (hL : LOk L) (hs : s < 8) (hw : w ≤ 2) (hw0 : ¬ w = 0) (hp : PR L P p) : ∀ m, m ≤ L_n L →
    (∀ i, i < m → mHr (u.2 11) (u.2 10) (u.2 12) (u.2 8) (u.1 5) (nI s) (nI w) P m i = nI (aft L w (s.testBit i) i (p i))) ∧ ∀ i, m ≤ i → mHr (u.2 11) (u.2 10) (u.2 12) (u.2 8) (u.1 5) (nI s) (nI w) P m i = P i := by
  intro m
  induction m with
  | zero => exact fun _ => ⟨fun i h => absurd h (by omega), fun i _ => rfl⟩
  | succ m ih =>
    intro hm
    obtain ⟨h1, h2⟩ := ih (by omega)
    obtain ⟨s1, s2⟩ := step_N (P := mHr (u.2 11) (u.2 10) (u.2 12) (u.2 8) (u.1 5) (nI s) (nI w) P m) (i := m) (c := p m) hM hL hs hw hw0 (by omega) (by rw [h2 m (Nat.le_refl m)]; exact (hp m (by omega)).1) (hp m (by omega)).2
    refine ⟨fun i hi => ?_, fun i hi => ?_⟩
    · by_cases e : i = m
      · subst e; exact s1
      · exact (s2 i e).trans (h1 i (by omega))
    · exact (s2 i (by omega)).trans (h2 i (by omega))
theorem hour_N {L : LK} {u : MSt} {P : Nat → Int32} {s w : Nat} {p : Nat → Nat} (hM : MR u L) (hL : LOk L) (hs : s < 8) (hw : w ≤ 2) (hp : PR L P p) : PR L (mHour (u.2 11) (u.2 10) (u.2 12) (u.2 8) (u.1 5) (nI s) (nI w) (L_n L) P) (fun i => aft L w (s.testBit i) i (p i)) := by
  intro i hi
  refine ⟨?_, aft_le (hp i hi).2⟩
  unfold mHour
  by_cases e : w = 0
  · rw [if_pos (by rw [e]; rfl), (hp i hi).1]
    show nI (p i) = nI (aft L w (s.testBit i) i (p i))
    unfold aft
    rw [if_pos (Or.inl e)]
  · rw [if_neg (fun q => e ((nI_e0 (by omega)).mp q))]
    exact (hr_N hM hL hs hw e hp (L_n L) (Nat.le_refl _)).1 i hi
theorem beg_N {L : LK} {u : MSt} (hM : MR u L) (hL : LOk L) (P : Nat → Int32) : PR L (mBeg P (u.2 11) (u.1 5) (L_n L)) (start L) := by
  have key : ∀ m, m ≤ L_n L → ∀ i, i < m → mBeg P (u.2 11) (u.1 5) m i = nI (start L i) := by
    intro m
    induction m with
    | zero => exact fun _ i h => absurd h (by omega)
    | succ m ih =>
      intro hm i hi
      have b := (hM.2.2.2.1 m (by omega)).1
      have q := (hL.2.2.2.1 m (by omega)).1
      rw [mBeg]
      by_cases e : i = m
      · subst e
        rw [upd_s]
        unfold start
        by_cases c : L_fr L i = 0
        · rw [if_pos c, if_pos (by rw [b, c]; rfl)]; rfl
        · rw [if_neg c, if_neg (fun r => c ((nI_e0 (by omega)).mp (b.symm.trans r)))]; exact hM.1
      · rw [upd_n e]
        exact ih (by omega) i (by omega)
  intro i hi
  refine ⟨key _ (Nat.le_refl _) i hi, ?_⟩
  unfold start
  split <;> omega
theorem or_N : ∀ i, i < 3 → ∀ a, a < 8 → a < 2 ^ i → nI a ||| ((1 : Int32) <<< (nI i &&& 31)) = nI (a + 2 ^ i) := by decide
theorem ovrN_lt (L : LK) (p : Nat → Nat) : ∀ m, ovrN L p m < 2 ^ m
  | 0 => by simp [ovrN]
  | m + 1 => by
    have := ovrN_lt L p m
    rw [ovrN, Nat.pow_succ]
    split <;> omega
theorem ovr_N {L : LK} {u : MSt} {P : Nat → Int32} {p : Nat → Nat} (hM : MR u L) (hL : LOk L) (hp : PR L P p) : ∀ m, m ≤ L_n L → mOvr P (u.2 11) (u.1 5) m = nI (ovrN L p m) := by
  intro m
  induction m with
  | zero => exact fun _ => rfl
  | succ m ih =>
    intro hm
    have h3 := hL.2.2.1
    have hov := over_N (P := P) (fr := u.2 11) hM.1 hL (hM.2.2.2.1 m (by omega)).1 (hL.2.2.2.1 m (by omega)).1 (hp m (by omega)).1 (hp m (by omega)).2
    rw [mOvr, ovrN, ih (by omega)]
    have hlt := ovrN_lt L p m
    have h8 : ovrN L p m < 8 := Nat.lt_of_lt_of_le hlt (Nat.pow_le_pow_right (n := 2) (by decide) (show m ≤ 3 by omega))
    by_cases e : p m = goal L m
    · rw [if_pos e, if_pos (hov.mpr e)]
      exact or_N m (by omega) _ h8 hlt
    · rw [if_neg e, if_neg (fun q => e (hov.mp q))]
      simp
theorem cntN_le (L : LK) (s w : Nat) (p : Nat → Nat) : ∀ m, cntN L s w p m ≤ m
  | 0 => Nat.le_refl 0
  | m + 1 => by
    have := cntN_le L s w p m
    rw [cntN]
    split <;> omega
theorem cnt_N {L : LK} {u : MSt} {P : Nat → Int32} {p : Nat → Nat} {s w i : Nat} (hM : MR u L) (hL : LOk L) (hp : PR L P p) (hs : s < 8) (hw : w ≤ 2) (hi : i < L_n L) : mCnt P (u.2 11) (u.2 10) (u.1 5) (nI s) (nI w) i ↔ cnt L s w p i = true := by
  have h3 := hL.2.2.1
  obtain ⟨b1, b2, -⟩ := hM.2.2.2.1 i hi
  obtain ⟨q1, q2, -⟩ := hL.2.2.2.1 i hi
  have hov := over_N (P := P) (fr := u.2 11) hM.1 hL b1 q1 (hp i hi).1 (hp i hi).2
  have hbit := bit_N s hs i (by omega)
  have e5 : nI w = u.2 11 i + 1 ↔ w = L_fr L i + 1 := by rw [b1, nI_1]; exact nI_e (by omega) (by omega)
  have e6 : u.2 10 i = 2 ↔ L_kd L i = 2 := by rw [b2]; exact nI_e2 (by omega)
  unfold mCnt cnt
  rw [hbit, hov, e5, e6]
  simp [and_assoc]
theorem fin_N {L : LK} {u : MSt} {P : Nat → Int32} {p : Nat → Nat} {s w : Nat} (hM : MR u L) (hL : LOk L) (hp : PR L P p) (hs : s < 8) (hw : w ≤ 2) : mFd P (u.2 11) (u.2 10) (u.1 5) (nI s) (nI w) (L_n L) = nI (finN L s w p) := by
  have key : ∀ m, m ≤ L_n L → mFin P (u.2 11) (u.2 10) (u.1 5) (nI s) (nI w) m = nI (cntN L s w p m) := by
    intro m
    induction m with
    | zero => exact fun _ => rfl
    | succ m ih =>
      intro hm
      have hc := cnt_N (p := p) hM hL hp hs hw (show m < L_n L by omega)
      rw [mFin, cntN, ih (by omega)]
      by_cases e : cnt L s w p m = true
      · rw [if_pos e, if_pos (hc.mpr e), nI_1]
      · rw [if_neg e, if_neg (fun q => e (hc.mp q))]; simp
  have h3 := hL.2.2.1
  have hle := cntN_le L s w p (L_n L)
  unfold mFd finN
  rw [key _ (Nat.le_refl _)]
  have e : (2 : Int32) ≤ nI (cntN L s w p (L_n L)) ↔ 2 ≤ cntN L s w p (L_n L) := nI_leI (a := 2) (by omega) (by omega)
  by_cases c : 2 ≤ cntN L s w p (L_n L)
  · rw [if_pos c, if_pos (e.mpr c)]
  · rw [if_neg c, if_neg (fun q => c (e.mp q))]; rfl
/-- the number of places, five to a boat -/
def cN (p : Nat → Nat) (n : Nat) : Nat → Nat
  | 0 => 0
  | k + 1 => 5 * cN p n k + p (n - 1 - k)
theorem num_N {L : LK} {P : Nat → Int32} {p : Nat → Nat} (hp : PR L P p) : ∀ k, k ≤ L_n L → mNum P (L_n L) k = nI (cN p (L_n L) k) := by
  intro k
  induction k with
  | zero => exact fun _ => rfl
  | succ k ih =>
    intro hk
    rw [mNum, cN, ih (by omega), (hp _ (by omega)).1, show (5 : Int32) = nI 5 from rfl, pk_mul, nI_add]
theorem pl_N (P : Nat → Int32) (k n : Nat) : ∀ m, m ≤ n → ∀ i, i < m → mPl P k m i = nI (k / 5 ^ i % 5) := by
  intro m
  induction m with
  | zero => exact fun _ i h => absurd h (by omega)
  | succ m ih =>
    intro hm i hi
    rw [mPl]
    by_cases e : i = m
    · subst e; exact upd_s
    · rw [upd_n e]; exact ih (by omega) i (by omega)
