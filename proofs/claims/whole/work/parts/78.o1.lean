/-! odds: weighing the ways -/
section O1
variable {L : LK} {st : Nat → Nat}
def sm (f : Nat → Nat) : Nat → Nat
  | 0 => 0
  | n + 1 => sm f n + f n
theorem sm_c {f g : Nat → Nat} : ∀ n, (∀ i, i < n → f i = g i) → sm f n = sm g n
  | 0, _ => rfl
  | n + 1, h => by rw [sm, sm, sm_c n (fun i hi => h i (by omega)), h n (by omega)]
theorem sm_0 : ∀ n, sm (fun _ => 0) n = 0
  | 0 => rfl
  | n + 1 => by rw [sm, sm_0 n]
theorem sm_add (f : Nat → Nat) (a : Nat) : ∀ b, sm f (a + b) = sm f a + sm (fun k => f (a + k)) b
  | 0 => by simp [sm]
  | b + 1 => by rw [← Nat.add_assoc, sm, sm, sm_add f a b]; omega
theorem sm_pl (f g : Nat → Nat) : ∀ n, sm (fun k => f k + g k) n = sm f n + sm g n
  | 0 => rfl
  | n + 1 => by rw [sm, sm, sm, sm_pl f g n]; omega
theorem sm_le {f : Nat → Nat} : ∀ n i, i < n → f i ≤ sm f n
  | 0, i, h => absurd h (by omega)
  | n + 1, i, h => by
    rw [sm]
    by_cases e : i = n
    · subst e; omega
    · have := sm_le (f := f) n i (by omega)
      omega
theorem sm_mono {f g : Nat → Nat} : ∀ n, (∀ i, i < n → f i ≤ g i) → sm f n ≤ sm g n
  | 0, _ => Nat.le_refl _
  | n + 1, h => by
    rw [sm, sm]
    have := sm_mono n (fun i hi => h i (Nat.lt_succ_of_lt hi))
    have := h n (by omega)
    omega
theorem sm_1 : ∀ n, sm (fun _ => 1) n = n
  | 0 => rfl
  | n + 1 => by rw [sm, sm_1 n]
/-- more at one place -/
theorem sm_upd {f : Nat → Nat} {φ : Nat → Nat} {t w : Nat} : ∀ n, t < n → sm (fun k => uw f t (f t + w) k * φ k) n = sm (fun k => f k * φ k) n + w * φ t
  | 0, h => absurd h (by omega)
  | n + 1, h => by
    rw [sm, sm]
    by_cases e : t = n
    · subst e
      rw [sm_c (f := fun k => uw f t (f t + w) k * φ k) (g := fun k => f k * φ k) t (fun i hi => by show uw f t (f t + w) i * φ i = _; rw [show uw f t (f t + w) i = f i from if_neg (by omega)])]
      rw [show uw f t (f t + w) t = f t + w from if_pos rfl, Nat.add_mul]
      omega
    · rw [sm_upd n (by omega), show uw f t (f t + w) n = f n from if_neg (fun q => e q.symm)]
      omega
/-- by the wind v from the state s: what it weighs -/
def phV (L : LK) (x v : Nat) (φ : Nat → Nat) (s : Nat) : Nat := if finN L x v (dB L s) = 0 then φ (cdB L (fun i => aft L v (x.testBit i) i (dB L s i))) else 0
def ph2 (L : LK) (x : Nat) (φ : Nat → Nat) (s : Nat) : Nat := phV L x 1 φ s + phV L x 2 φ s
/-- what ways weigh -/
abbrev wgh (L : LK) (f φ : Nat → Nat) : Nat := sm (fun s => f s * φ s) (nSt L)
/-- whether nobody is fined, hour by hour -/
def frB (L : LK) (st : Nat → Nat) (z : Nat) : Nat → Bool
  | 0 => true
  | h + 1 => frB L st z h && (finN L (st h) (wz z h) (posN L (wz z) st h) == 0)
theorem frB_iff {z : Nat} : ∀ h, frB L st z h = true ↔ FreeN L z st h
  | 0 => ⟨fun _ k hk => absurd hk (by omega), fun _ => rfl⟩
  | h + 1 => by
    rw [frB, Bool.and_eq_true, beq_iff_eq, frB_iff h]
    constructor
    · rintro ⟨a, b⟩ k hk
      by_cases e : k = h
      · subst e; exact b
      · exact a k (by omega)
    · exact fun q => ⟨fun k hk => q k (by omega), q h (by omega)⟩
theorem posN_le (hL : LOk L) {w2 : Nat → Nat} : ∀ h i, posN L w2 st h i ≤ L_w L
  | 0, i => start_le L i
  | h + 1, i => aft_le (posN_le hL h i)
theorem posN_w {w1 w2 : Nat → Nat} : ∀ h, (∀ g, g < h → w1 g = w2 g) → ∀ i, posN L w1 st h i = posN L w2 st h i
  | 0, _, _ => rfl
  | h + 1, e, i => by
    rw [posN, posN]
    show aft L (w1 h) _ i (posN L w1 st h i) = aft L (w2 h) _ i (posN L w2 st h i)
    rw [e h (by omega), posN_w h (fun g hg => e g (by omega)) i]
theorem frB_w {z z2 : Nat} : ∀ h, (∀ g, g < h → wz z g = wz z2 g) → frB L st z h = frB L st z2 h
  | 0, _ => rfl
  | h + 1, e => by
    rw [frB, frB, frB_w h (fun g hg => e g (by omega)), e h (by omega), finN_c (fun i _ => posN_w h (fun g hg => e g (by omega)) i)]
theorem wz_lo {z h : Nat} (hz : z < 2 ^ h) : wz z h = 1 ∧ wz (2 ^ h + z) h = 2 ∧ ∀ g, g < h → wz (2 ^ h + z) g = wz z g := by
  have hp : 0 < 2 ^ h := Nat.two_pow_pos h
  unfold wz
  refine ⟨?_, ?_, fun g hg => ?_⟩
  · rw [Nat.div_eq_of_lt hz]
  · rw [Nat.add_div_left _ hp, Nat.div_eq_of_lt hz]
  · have e : 2 ^ h = 2 ^ g * (2 * 2 ^ (h - g - 1)) := by rw [← Nat.mul_assoc, ← Nat.pow_succ, ← Nat.pow_add]; congr 1; omega
    rw [e, Nat.mul_add_div (Nat.two_pow_pos g), Nat.mul_add_mod]
/-- the weight of all winds of h hours -/
def tsF (L : LK) (st : Nat → Nat) (h : Nat) (φ : Nat → Nat) (z : Nat) : Nat := if frB L st z h = true then φ (cdB L (posN L (wz z) st h)) else 0
theorem ts_step (hL : LOk L) (h : Nat) (φ : Nat → Nat) : sm (tsF L st (h + 1) φ) (2 ^ (h + 1)) = sm (tsF L st h (ph2 L (st h) φ)) (2 ^ h) := by
  rw [show 2 ^ (h + 1) = 2 ^ h + 2 ^ h by rw [Nat.pow_succ]; omega, sm_add, ← sm_pl]
  refine sm_c _ (fun z hz => ?_)
  obtain ⟨w1, w2, w3⟩ := wz_lo hz
  have key : ∀ z2 v, wz z2 h = v → (∀ g, g < h → wz z2 g = wz z g) → tsF L st (h + 1) φ z2 = if frB L st z h = true then phV L (st h) v φ (cdB L (posN L (wz z) st h)) else 0 := by
    intro z2 v e1 e2
    have ed : ∀ i, i < L_n L → dB L (cdB L (posN L (wz z) st h)) i = posN L (wz z) st h i := dB_cd hL (fun i _ => posN_le hL h i)
    unfold tsF phV
    rw [frB, frB_w h e2, e1, finN_c (fun i _ => posN_w h e2 i), finN_c (p := dB L (cdB L (posN L (wz z) st h))) (q := posN L (wz z) st h) ed]
    have ec : cdB L (posN L (wz z2) st (h + 1)) = cdB L (fun i => aft L v ((st h).testBit i) i (dB L (cdB L (posN L (wz z) st h)) i)) := by
      refine cB_c (fun i hi => ?_) _ (Nat.le_refl _)
      show aft L (wz z2 h) _ i (posN L (wz z2) st h i) = _
      rw [e1, posN_w h e2 i, ed i hi]
    by_cases c : frB L st z h = true
    · rw [if_pos c, c, Bool.true_and]
      by_cases d : finN L (st h) v (posN L (wz z) st h) = 0
      · rw [if_pos d, if_pos (by rw [d]; rfl), ec]
      · rw [if_neg d, if_neg (by simpa using d)]
    · rw [if_neg c, if_neg (by simp [c])]
  show tsF L st (h + 1) φ z + tsF L st (h + 1) φ (2 ^ h + z) = tsF L st h (ph2 L (st h) φ) z
  rw [key z 1 w1 (fun _ _ => rfl), key (2 ^ h + z) 2 w2 w3]
  unfold tsF ph2
  split
  · rfl
  · rfl
theorem ts_0 (φ : Nat → Nat) : sm (tsF L st 0 φ) (2 ^ 0) = φ (cdB L (start L)) := by
  show sm (tsF L st 0 φ) 1 = _
  rw [sm, sm]
  unfold tsF
  rw [frB, if_pos rfl, Nat.zero_add]
  rfl
theorem ts_Cnt (nn : Nat) : ∀ n, Cnt (fun z => FreeN L z st nn) n (sm (tsF L st nn (fun _ => 1)) n)
  | 0 => rfl
  | n + 1 => by
    refine ⟨_, ts_Cnt nn n, ?_⟩
    rw [sm]
    unfold tsF
    by_cases c : frB L st n nn = true
    · rw [if_pos c]; exact Or.inl ⟨(frB_iff nn).mp c, rfl⟩
    · rw [if_neg c]; exact Or.inr ⟨fun q => c ((frB_iff nn).mpr q), rfl⟩
theorem ts_le (h : Nat) (n : Nat) : sm (tsF L st h (fun _ => 1)) n ≤ n := by
  have := sm_mono (f := tsF L st h (fun _ => 1)) (g := fun _ => 1) n (fun z _ => by unfold tsF; split
                                                                                    · exact Nat.le_refl 1
                                                                                    · exact Nat.zero_le 1)
  rwa [sm_1] at this
/-- the ways ahead of hour h -/
def WyI (L : LK) (st : Nat → Nat) (h : Nat) (f : Nat → Nat) : Prop := ∀ φ, wgh L f φ = sm (tsF L st h φ) (2 ^ h)
theorem WyI.le {h : Nat} {f : Nat → Nat} (q : WyI L st h f) {s : Nat} (hs : s < nSt L) : f s ≤ 2 ^ h := by
  have e := q (fun _ => 1)
  have h1 : f s * 1 ≤ wgh L f (fun _ => 1) := sm_le (f := fun s => f s * 1) (nSt L) s hs
  rw [e, Nat.mul_one] at h1
  exact Nat.le_trans h1 (ts_le (L := L) (st := st) h (2 ^ h))
theorem WyI.next (hL : LOk L) {h : Nat} {f f2 : Nat → Nat} (q : WyI L st h f) (e : ∀ φ, wgh L f2 φ = wgh L f (ph2 L (st h) φ)) : WyI L st (h + 1) f2 := fun φ => by rw [e, q, ts_step hL]
theorem WyI.zero {f : Nat → Nat} (hL : LOk L) (e : ∀ s, s < nSt L → f s = if s = cdB L (start L) then 1 else 0) : WyI L st 0 f := fun φ => by
  rw [ts_0]
  have h1 := cdB_lt hL (fun i _ => start_le L i)
  have := sm_upd (f := fun _ => 0) (φ := φ) (t := cdB L (start L)) (w := 1) (nSt L) h1
  unfold wgh
  rw [sm_c (g := fun k => uw (fun _ => 0) (cdB L (start L)) ((fun _ => 0) (cdB L (start L)) + 1) k * φ k) (nSt L) (fun i hi => by rw [e i hi]; rfl), this, sm_c (g := fun _ => 0) (nSt L) (fun i _ => Nat.zero_mul _), sm_0]
  omega
theorem WyI.cnt {nn : Nat} {f : Nat → Nat} (q : WyI L st nn f) : Cnt (fun z => FreeN L z st nn) (2 ^ nn) (sm f (nSt L)) := by
  have e := q (fun _ => 1)
  unfold wgh at e
  rw [sm_c (g := f) (nSt L) (fun i _ => Nat.mul_one _)] at e
  rw [e]
  exact ts_Cnt nn (2 ^ nn)
/-- halved as often as it goes -/
theorem half_g {m n a b d : Nat} (h1 : a * d = m) (h2 : b * d = 2 ^ n) (h3 : Nat.gcd a b = 1) : m / Nat.gcd m (2 ^ n) = a ∧ 2 ^ n / Nat.gcd m (2 ^ n) = b := by
  have hp : 0 < 2 ^ n := Nat.two_pow_pos n
  have hd : 0 < d := Nat.pos_of_ne_zero (fun e => by rw [e, Nat.mul_zero] at h2; omega)
  have e : Nat.gcd m (2 ^ n) = d := by rw [← h1, ← h2, Nat.gcd_mul_right, h3, Nat.one_mul]
  rw [e]
  exact ⟨by rw [← h1]; exact Nat.mul_div_cancel _ hd, by rw [← h2]; exact Nat.mul_div_cancel _ hd⟩
theorem gcd_odd {a : Nat} (h : a % 2 = 1) : ∀ k, Nat.gcd a (2 ^ k) = 1 := by
  intro k
  have h2 : Nat.gcd a 2 = 1 := by rw [Nat.gcd_comm, Nat.gcd_rec, h]; rfl
  exact Nat.Coprime.pow_right k h2
end O1
