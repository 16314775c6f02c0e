/-! rows for counters: nI of a natural number -/
section TN
variable {M : XM} {E : XE} {Z : XZ} {cu su pc : Nat} {ls : List (Nat × Value)} {st : List Value} {h : XH}
theorem T_ialdN {a n i : Nat} {f : Nat → Int32} (hd : decode M.2.1 pc = .ok (.iaload, 1)) (ha : h[a]? = some (.inl (0, n, .inl f))) (hi : i < n) (hn : n < 2 ^ 31) (k : T M E Z cu su (pc + 1) ls (.int (f i) :: st) h) : T M E Z cu su pc ls (.int (nI i) :: .ref a :: st) h :=
  T_iald hd ha (vp_in_nI hi hn) (by rw [nI_clamp (by omega)]; exact k)
theorem T_zaldN {a n i : Nat} {f : Nat → Int32} (hd : decode M.2.1 pc = .ok (.baload, 1)) (ha : h[a]? = some (.inl (2, n, .inl f))) (hi : i < n) (hn : n < 2 ^ 31) (k : T M E Z cu su (pc + 1) ls (.int (f i) :: st) h) : T M E Z cu su pc ls (.int (nI i) :: .ref a :: st) h :=
  T_zald hd ha (vp_in_nI hi hn) (by rw [nI_clamp (by omega)]; exact k)
theorem T_laldN {a n i : Nat} {f : Nat → Int64} (hd : decode M.2.1 pc = .ok (.laload, 1)) (ha : h[a]? = some (.inl (1, n, .inr (.inl f)))) (hi : i < n) (hn : n < 2 ^ 31) (k : T M E Z cu su (pc + 1) ls (.long (f i) :: st) h) : T M E Z cu su pc ls (.int (nI i) :: .ref a :: st) h :=
  T_lald hd ha (vp_in_nI hi hn) (by rw [nI_clamp (by omega)]; exact k)
theorem T_iastN {a n i : Nat} {f : Nat → Int32} {x : Int32} (hd : decode M.2.1 pc = .ok (.iastore, 1)) (ha : h[a]? = some (.inl (0, n, .inl f))) (hi : i < n) (hn : n < 2 ^ 31) (k : T M E Z cu su (pc + 1) ls st (h.set a (.inl (0, n, .inl (upd f i x))))) : T M E Z cu su pc ls (.int x :: .int (nI i) :: .ref a :: st) h :=
  T_iast hd ha (vp_in_nI hi hn) (by rw [nI_clamp (by omega)]; exact k)
theorem T_zastN {a n i : Nat} {f : Nat → Int32} {x : Int32} (hd : decode M.2.1 pc = .ok (.bastore, 1)) (ha : h[a]? = some (.inl (2, n, .inl f))) (hi : i < n) (hn : n < 2 ^ 31) (hx : narrow .boolean (.int x) = .int x) (k : T M E Z cu su (pc + 1) ls st (h.set a (.inl (2, n, .inl (upd f i x))))) : T M E Z cu su pc ls (.int x :: .int (nI i) :: .ref a :: st) h :=
  T_zast hd ha (vp_in_nI hi hn) hx (by rw [nI_clamp (by omega)]; exact k)
theorem T_lastN {a n i : Nat} {f : Nat → Int64} {x : Int64} (hd : decode M.2.1 pc = .ok (.lastore, 1)) (ha : h[a]? = some (.inl (1, n, .inr (.inl f)))) (hi : i < n) (hn : n < 2 ^ 31) (k : T M E Z cu su (pc + 1) ls st (h.set a (.inl (1, n, .inr (.inl (vp_updL f i x)))))) : T M E Z cu su pc ls (.long x :: .int (nI i) :: .ref a :: st) h :=
  T_last hd ha (vp_in_nI hi hn) (by rw [nI_clamp (by omega)]; exact k)
theorem T_iincN {n i : Nat} (hd : decode M.2.1 pc = .ok (.iinc n 1, 3)) (hv : lk ls n = some (.int (nI i))) (hn : n < M.2.2.1) (ho : noL ls n = true) (k : T M E Z cu su (pc + 3) (up ls n (.int (nI (i + 1)))) st h) : T M E Z cu su pc ls st h :=
  T_iinc hd hv hn ho (by rw [show nI i + Int32.ofInt 1 = nI (i + 1) from nI_1 i]; exact k)
theorem T_iincD {n i : Nat} (hd : decode M.2.1 pc = .ok (.iinc n (-1), 3)) (hv : lk ls n = some (.int (nI (i + 1)))) (hn : n < M.2.2.1) (ho : noL ls n = true) (k : T M E Z cu su (pc + 3) (up ls n (.int (nI i))) st h) : T M E Z cu su pc ls st h :=
  T_iinc hd hv hn ho (by rw [show nI (i + 1) + Int32.ofInt (-1) = nI i from pk_m1 i]; exact k)
theorem T_iaddN {a b : Nat} (hd : decode M.2.1 pc = .ok (.iadd, 1)) (k : T M E Z cu su (pc + 1) ls (.int (nI (a + b)) :: st) h) : T M E Z cu su pc ls (.int (nI b) :: .int (nI a) :: st) h :=
  T_iadd hd (by rw [nI_add]; exact k)
theorem T_isubN {a b : Nat} (hd : decode M.2.1 pc = .ok (.isub, 1)) (hb : b ≤ a) (k : T M E Z cu su (pc + 1) ls (.int (nI (a - b)) :: st) h) : T M E Z cu su pc ls (.int (nI b) :: .int (nI a) :: st) h :=
  T_isub hd (by rw [pk_sub hb]; exact k)
theorem T_imulN {a b : Nat} (hd : decode M.2.1 pc = .ok (.imul, 1)) (k : T M E Z cu su (pc + 1) ls (.int (nI (a * b)) :: st) h) : T M E Z cu su pc ls (.int (nI b) :: .int (nI a) :: st) h :=
  T_imul hd (by rw [pk_mul]; exact k)
theorem T_idivN {a b : Nat} (hd : decode M.2.1 pc = .ok (.idiv, 1)) (ha : a < 2 ^ 31) (h0 : 0 < b) (hb : b < 2 ^ 31) (k : T M E Z cu su (pc + 1) ls (.int (nI (a / b)) :: st) h) : T M E Z cu su pc ls (.int (nI b) :: .int (nI a) :: st) h :=
  T_idiv hd (nI_ne0 h0 hb) (by rw [pk_div ha h0 hb]; exact k)
theorem T_iremN {a b : Nat} (hd : decode M.2.1 pc = .ok (.irem, 1)) (ha : a < 2 ^ 31) (h0 : 0 < b) (hb : b < 2 ^ 31) (k : T M E Z cu su (pc + 1) ls (.int (nI (a % b)) :: st) h) : T M E Z cu su pc ls (.int (nI b) :: .int (nI a) :: st) h :=
  T_irem hd (nI_ne0 h0 hb) (by rw [pk_rem ha h0 hb]; exact k)
theorem T_icmp_geN {a b : Nat} {off : Int} {tgt : Nat} (hd : decode M.2.1 pc = .ok (.if_icmp .ge off, 3)) (ht : (pc : Int) + off = (tgt : Int)) (ha : a < 2 ^ 31) (hb : b < 2 ^ 31) (kt : b ≤ a → T M E Z cu su tgt ls st h) (kf : a < b → T M E Z cu su (pc + 3) ls st h) : T M E Z cu su pc ls (.int (nI b) :: .int (nI a) :: st) h :=
  T_icmp_ge hd ht (fun c => kt ((nI_leI hb ha).mp c)) (fun c => kf (Nat.not_le.mp fun q => c ((nI_leI hb ha).mpr q)))
theorem T_icmp_gtN {a b : Nat} {off : Int} {tgt : Nat} (hd : decode M.2.1 pc = .ok (.if_icmp .gt off, 3)) (ht : (pc : Int) + off = (tgt : Int)) (ha : a < 2 ^ 31) (hb : b < 2 ^ 31) (kt : b < a → T M E Z cu su tgt ls st h) (kf : a ≤ b → T M E Z cu su (pc + 3) ls st h) : T M E Z cu su pc ls (.int (nI b) :: .int (nI a) :: st) h :=
  T_icmp_gt hd ht (fun c => kt ((nI_ltI hb ha).mp c)) (fun c => kf (Nat.not_lt.mp fun q => c ((nI_ltI hb ha).mpr q)))
theorem T_icmp_ltN {a b : Nat} {off : Int} {tgt : Nat} (hd : decode M.2.1 pc = .ok (.if_icmp .lt off, 3)) (ht : (pc : Int) + off = (tgt : Int)) (ha : a < 2 ^ 31) (hb : b < 2 ^ 31) (kt : a < b → T M E Z cu su tgt ls st h) (kf : b ≤ a → T M E Z cu su (pc + 3) ls st h) : T M E Z cu su pc ls (.int (nI b) :: .int (nI a) :: st) h :=
  T_icmp_lt hd ht (fun c => kt ((nI_ltI ha hb).mp c)) (fun c => kf (Nat.not_lt.mp fun q => c ((nI_ltI ha hb).mpr q)))
theorem T_icmp_leN {a b : Nat} {off : Int} {tgt : Nat} (hd : decode M.2.1 pc = .ok (.if_icmp .le off, 3)) (ht : (pc : Int) + off = (tgt : Int)) (ha : a < 2 ^ 31) (hb : b < 2 ^ 31) (kt : a ≤ b → T M E Z cu su tgt ls st h) (kf : b < a → T M E Z cu su (pc + 3) ls st h) : T M E Z cu su pc ls (.int (nI b) :: .int (nI a) :: st) h :=
  T_icmp_le hd ht (fun c => kt ((nI_leI ha hb).mp c)) (fun c => kf (Nat.not_le.mp fun q => c ((nI_leI ha hb).mpr q)))
theorem T_icmp_eqN {a b : Nat} {off : Int} {tgt : Nat} (hd : decode M.2.1 pc = .ok (.if_icmp .eq off, 3)) (ht : (pc : Int) + off = (tgt : Int)) (ha : a < 2 ^ 31) (hb : b < 2 ^ 31) (kt : a = b → T M E Z cu su tgt ls st h) (kf : ¬ a = b → T M E Z cu su (pc + 3) ls st h) : T M E Z cu su pc ls (.int (nI b) :: .int (nI a) :: st) h :=
  T_icmp_eq hd ht (fun c => kt ((nI_eq ha hb).mp c)) (fun c => kf (fun q => c ((nI_eq ha hb).mpr q)))
theorem T_icmp_neN {a b : Nat} {off : Int} {tgt : Nat} (hd : decode M.2.1 pc = .ok (.if_icmp .ne off, 3)) (ht : (pc : Int) + off = (tgt : Int)) (ha : a < 2 ^ 31) (hb : b < 2 ^ 31) (kt : ¬ a = b → T M E Z cu su tgt ls st h) (kf : a = b → T M E Z cu su (pc + 3) ls st h) : T M E Z cu su pc ls (.int (nI b) :: .int (nI a) :: st) h :=
  T_icmp_ne hd ht (fun c => kt (fun q => c ((nI_eq ha hb).mpr q))) (fun c => kf ((nI_eq ha hb).mp c))
theorem T_if_eqN {a : Nat} {off : Int} {tgt : Nat} (hd : decode M.2.1 pc = .ok (.ifCond .eq off, 3)) (ht : (pc : Int) + off = (tgt : Int)) (ha : a < 2 ^ 31) (kt : a = 0 → T M E Z cu su tgt ls st h) (kf : ¬ a = 0 → T M E Z cu su (pc + 3) ls st h) : T M E Z cu su pc ls (.int (nI a) :: st) h :=
  T_if_eq hd ht (fun c => kt ((nI_eq ha (b := 0) (by decide)).mp c)) (fun c => kf (fun q => c ((nI_eq ha (b := 0) (by decide)).mpr q)))
theorem T_if_neN {a : Nat} {off : Int} {tgt : Nat} (hd : decode M.2.1 pc = .ok (.ifCond .ne off, 3)) (ht : (pc : Int) + off = (tgt : Int)) (ha : a < 2 ^ 31) (kt : ¬ a = 0 → T M E Z cu su tgt ls st h) (kf : a = 0 → T M E Z cu su (pc + 3) ls st h) : T M E Z cu su pc ls (.int (nI a) :: st) h :=
  T_if_ne hd ht (fun c => kt (fun q => c ((nI_eq ha (b := 0) (by decide)).mpr q))) (fun c => kf ((nI_eq ha (b := 0) (by decide)).mp c))
/-- a truth value is tested -/
theorem T_if_eqB {P : Prop} [Decidable P] {off : Int} {tgt : Nat} (hd : decode M.2.1 pc = .ok (.ifCond .eq off, 3)) (ht : (pc : Int) + off = (tgt : Int)) (kt : ¬ P → T M E Z cu su tgt ls st h) (kf : P → T M E Z cu su (pc + 3) ls st h) : T M E Z cu su pc ls (.int (bI P) :: st) h :=
  T_if_eq hd ht (fun c => kt (bI_0.mp c)) (fun c => kf (bI_1.mp c))
theorem T_if_neB {P : Prop} [Decidable P] {off : Int} {tgt : Nat} (hd : decode M.2.1 pc = .ok (.ifCond .ne off, 3)) (ht : (pc : Int) + off = (tgt : Int)) (kt : P → T M E Z cu su tgt ls st h) (kf : ¬ P → T M E Z cu su (pc + 3) ls st h) : T M E Z cu su pc ls (.int (bI P) :: st) h :=
  T_if_ne hd ht (fun c => kt (bI_1.mp c)) (fun c => kf (bI_0.mp c))
/-- a loop that counts down -/
theorem T_dn {L : Nat → List (Nat × Value)} {Hf : Nat → XH} (n : Nat) (h0 : T M E Z cu su pc (L 0) st (Hf 0)) (hs : ∀ i, i < n → T M E Z cu su pc (L i) st (Hf i) → T M E Z cu su pc (L (i + 1)) st (Hf (i + 1))) : T M E Z cu su pc (L n) st (Hf n) := by
  have key : ∀ m, m ≤ n → T M E Z cu su pc (L m) st (Hf m) := by
    intro m
    induction m with
    | zero => intro _; exact h0
    | succ m ih => intro hm; exact hs m (by omega) (ih (by omega))
  exact key n (Nat.le_refl n)
theorem nI_lt0 (n : Nat) (hn : n < 2 ^ 31) : ¬ nI n < 0 := nI_pos hn
theorem nI_m1 : nI 0 - 1 < 0 := by decide
/-- switches -/
theorem i32_ne {x k : Int32} (h : ¬ x = k) : ¬ x.toInt = k.toInt := fun e => h (Int32.toInt_inj.mp e)
theorem T_tb4 {x : Int32} {d o0 o1 o2 o3 : Int} {len td t0 t1 t2 t3 : Nat} (hd : decode M.2.1 pc = .ok (.tableswitch d 0 3 #[o0, o1, o2, o3], len)) (e0 : (pc : Int) + o0 = (t0 : Int)) (e1 : (pc : Int) + o1 = (t1 : Int)) (e2 : (pc : Int) + o2 = (t2 : Int)) (e3 : (pc : Int) + o3 = (t3 : Int)) (ed : (pc : Int) + d = (td : Int))
    (k0 : x = 0 → T M E Z cu su t0 ls st h) (k1 : x = 1 → T M E Z cu su t1 ls st h) (k2 : x = 2 → T M E Z cu su t2 ls st h) (k3 : x = 3 → T M E Z cu su t3 ls st h) (kd : ¬ x = 0 → ¬ x = 1 → ¬ x = 2 → ¬ x = 3 → T M E Z cu su td ls st h) : T M E Z cu su pc ls (.int x :: st) h := by
  by_cases c0 : x = 0
  · have k := k0 c0
    subst c0
    exact T_tableIn hd (by decide) (by decide) (off := o0) rfl e0 k
  by_cases c1 : x = 1
  · have k := k1 c1
    subst c1
    exact T_tableIn hd (by decide) (by decide) (off := o1) rfl e1 k
  by_cases c2 : x = 2
  · have k := k2 c2
    subst c2
    exact T_tableIn hd (by decide) (by decide) (off := o2) rfl e2 k
  by_cases c3 : x = 3
  · have k := k3 c3
    subst c3
    exact T_tableIn hd (by decide) (by decide) (off := o3) rfl e3 k
  refine T_tableOut hd ?_ ed (kd c0 c1 c2 c3)
  have a0 : ¬ x.toInt = 0 := i32_ne c0
  have a1 : ¬ x.toInt = 1 := i32_ne c1
  have a2 : ¬ x.toInt = 2 := i32_ne c2
  have a3 : ¬ x.toInt = 3 := i32_ne c3
  omega
theorem T_lk12 {x : Int32} {d o1 o2 : Int} {len td t1 t2 : Nat} (hd : decode M.2.1 pc = .ok (.lookupswitch d #[(1, o1), (2, o2)], len)) (e1 : (pc : Int) + o1 = (t1 : Int)) (e2 : (pc : Int) + o2 = (t2 : Int)) (ed : (pc : Int) + d = (td : Int))
    (k1 : x = 1 → T M E Z cu su t1 ls st h) (k2 : x = 2 → T M E Z cu su t2 ls st h) (kd : ¬ x = 1 → ¬ x = 2 → T M E Z cu su td ls st h) : T M E Z cu su pc ls (.int x :: st) h := by
  by_cases c1 : x = 1
  · have k := k1 c1
    subst c1
    exact T_lookup hd (by simp) (off := o1) (by rfl) e1 k
  by_cases c2 : x = 2
  · have k := k2 c2
    subst c2
    exact T_lookup hd (by simp) (off := o2) (by rfl) e2 k
  refine T_lookup hd (by simp) (off := d) ?_ ed (kd c1 c2)
  exact (lv_osw (a := 1) c1 rfl).trans ((lv_osw (a := 2) c2 rfl).trans rfl)
theorem T_lk01 {x : Int32} {d o1 o2 : Int} {len td t1 t2 : Nat} (hd : decode M.2.1 pc = .ok (.lookupswitch d #[(0, o1), (1, o2)], len)) (e1 : (pc : Int) + o1 = (t1 : Int)) (e2 : (pc : Int) + o2 = (t2 : Int)) (ed : (pc : Int) + d = (td : Int))
    (k1 : x = 0 → T M E Z cu su t1 ls st h) (k2 : x = 1 → T M E Z cu su t2 ls st h) (kd : ¬ x = 0 → ¬ x = 1 → T M E Z cu su td ls st h) : T M E Z cu su pc ls (.int x :: st) h := by
  by_cases c1 : x = 0
  · have k := k1 c1
    subst c1
    exact T_lookup hd (by simp) (off := o1) (by rfl) e1 k
  by_cases c2 : x = 1
  · have k := k2 c2
    subst c2
    exact T_lookup hd (by simp) (off := o2) (by rfl) e2 k
  refine T_lookup hd (by simp) (off := d) ?_ ed (kd c1 c2)
  exact (lv_osw (a := 0) c1 rfl).trans ((lv_osw (a := 1) c2 rfl).trans rfl)
/-- a run with a stronger end -/
theorem T_Q {Qa Qb : Option Value → XH → Prop} (hq : ∀ r h', Qa r h' → Qb r h') (k : T M E (x_Z M Qa) cu su pc ls st h) : T M E (x_Z M Qb) cu su pc ls st h := by
  intro p l e G s m args below meth c H locs rls C hE hat hS hl
  intro T0 hT X
  obtain ⟨t, a1, o, b1, b2, ⟨⟨r, h', d1, d2, d3⟩, d4⟩, b4⟩ := k p l e G s m args below meth c H locs rls C hE hat hS hl T0 hT X
  exact ⟨t, a1, o, b1, b2, ⟨⟨r, h', d1, hq r h' d2, d3⟩, d4⟩, b4⟩
end TN
