/-! THE T LAYER: fields, stores, new cells -/
section TH
variable {M : XM} {E : XE} {Z : XZ} {cu su pc : Nat} {ls : List (Nat × Value)} {st : List Value} {h : XH}
/-- a field link's words: own's entry idx is the field j of the class ci -/
def x_FL (own : String) (idx ci j : Nat) : Prop := ∃ (ref C : String) (F : u_T) (N : Nat), vwCl[ci]? = some (C, F, N) ∧ j < N ∧ (∀ w ∈ u_ws C F N, w ∈ x_gw) ∧ Cond.fieldLink own idx ref (F j).2.1 (F j).2.2.1 ∈ x_gw ∧ (ref = (F j).1 ∨ Cond.sameField ref (F j).1 (F j).2.1 (F j).2.2.1 ∈ x_gw)
/-- and its type, whether it is final -/
def x_FP (own : String) (idx ci j : Nat) (ty : FieldType) (fin : Bool) : Prop := ∃ (ref C : String) (F : u_T) (N : Nat) (ty0 : Nat → FieldType), vwCl[ci]? = some (C, F, N) ∧ j < N ∧ (∀ w ∈ u_ws C F N, w ∈ x_gw) ∧ Cond.fieldLink own idx ref (F j).2.1 (F j).2.2.1 ∈ x_gw ∧ (ref = (F j).1 ∨ Cond.sameField ref (F j).1 (F j).2.1 (F j).2.2.1 ∈ x_gw) ∧
  (∀ k, k < N → parseFieldDescriptor (F k).2.2.1 = some (ty0 k)) ∧ (∀ a, a < N → ∀ b, b < N → a ≠ b → (F a).2.1 ≠ (F b).2.1) ∧ (F j).2.2.2 = fin ∧ parseFieldDescriptor (F j).2.2.1 = some ty ∧ (fin = true → (F j).1 = own)
theorem x_same {G : XG} {p : Program} {s : State} {m : MethodId} {args : Array Value} {meth : Method} {c : Code} (C : x_Cx M G p s m args meth c) {ref O n d : String} (h : ref = O ∨ Cond.sameField ref O n d ∈ x_gw) : ∀ x, s.fieldFound? O n d = some x → s.fieldFound? ref n d = some x := by
  rcases h with rfl | h
  · exact fun _ q => q
  · exact fun x q => u_same (C.2.2.2.2.2.1 _ h) x q
theorem T_get {idx ci j k : Nat} {fs : List Value} {v : Value} (hd : decode M.2.1 pc = .ok (.getfield idx, 3)) (hF : x_FL M.1.cls idx ci j) (hk : h[k]? = some (.inr (ci, fs))) (hv : fs[j]? = some v) (kk : T M E Z cu su (pc + 3) ls (v :: st) h) : T M E Z cu su pc ls (.ref k :: st) h := by
  intro p l e G s m args below meth c H locs rls C hE hat hS hl
  obtain ⟨ref, C0, F, N, hc, hj, hin, hlink, hsame⟩ := hF
  exact va_get (ws := x_W G h) (v := x_mv G v) C.1 C.2.1 C.2.2.2.2.2.1 hin C.2.2.2.2.1 C.2.2.2.2.2.2.2.2.1.1 hat.2 k (x_W_at hk) hc j hj (C.2.2.2.2.2.1 _ hlink) (x_same C hsame) (by rw [List.getElem?_map, hv]; rfl) hd (kk p l e G s m args below meth c H locs rls C hE hat hS hl)
theorem x_at_set {G : XG} {H H1 : Heap} {k : Nat} {c0 c1 : XC} (hat : x_at G h H) (hk : h[k]? = some c0) (z : H1.size = H.size) (oq : ∀ q : Nat, q ≠ G.1 + k → H1[q]? = H[q]?) (he : va_at G.2.2.2 vwCl (G.1 + k, x_mC G c1) H1) : x_at G (h.set k c1) H1 := by
  refine ⟨by rw [List.length_set, z]; exact hat.1, ?_⟩
  rw [← x_W_set]
  exact hat.2.set (x_D G h) (x_W_at hk) he oq
theorem T_put {idx ci j k : Nat} {fs : List Value} {v : Value} {ty : FieldType} (hd : decode M.2.1 pc = .ok (.putfield idx, 3)) (hF : x_FP M.1.cls idx ci j ty false) (hk : h[k]? = some (.inr (ci, fs))) (hj : j < fs.length) (hn : ∀ G : XG, narrow ty (x_mv G v) = x_mv G v ∧ fits ty (x_mv G v) = true) (kk : T M E Z cu su (pc + 3) ls st (h.set k (.inr (ci, fs.set j v)))) : T M E Z cu su pc ls (v :: .ref k :: st) h := by
  intro p l e G s m args below meth c H locs rls C hE hat hS hl
  obtain ⟨ref, C0, F, N, ty0, hc, hjN, hin, hlink, hsame, hty, hnm, hfin, hpd, -⟩ := hF
  have hts := C.2.2.2.2.2.1
  have hK := C.2.2.2.2.2.2.2.2.1.1
  have hap := va_apart (own := M.1.cls) hts hin ty0 hty hnm hK hc
  obtain ⟨r, h1, cell, q1, q2, q3, q4⟩ := hat.2 k _ (x_W_at hk)
  have hr : r = (C0, F, N) := Option.some.inj (h1.symm.trans hc)
  subst hr
  obtain ⟨hSl, hfc, kC, hkC, hkind⟩ := hK.1 ci _ hc
  obtain ⟨cf, kf, fi, f, hi, hsl⟩ := hSl j hjN
  have hlay := hts _ (hin _ (u_in_lay hjN))
  unfold u_lay at hlay
  rw [if_neg (by rw [hfin]; decide)] at hlay
  have hst := (u_facts hfc hkC (u_lays hts hin hjN) hi).1
  have h6 := u_store hfc hkC hkind hlay hi hpd (hn G).1 (hn G).2
  refine W.putK C.1 C.2.1 (f := f) ⟨C.2.2.2.2.1, hts _ hlink, ⟨_, _, _, x_same C hsame _ hi⟩, hst⟩ (by rw [q2]; exact h6) q1 q3 (by rw [hsl]; exact k2_hasslot (q4 j hjN)) rfl rfl hd fun H' e1 e2 e3 => ?_
  rw [hsl] at e1 ⊢
  refine kk p l e G s m args below meth c H' _ rls C hE (x_at_set hat hk e2 e3 ⟨_, hc, ?_⟩) (hS.put e2 e3 (show G.1 ≤ G.1 + k by omega)) hl
  show t_OB _ _ _ _ _ (vp_V ((fs.set j v).map (x_mv G)))
  rw [List.map_set]
  exact t_OB.to (V := updV (vp_V (fs.map (x_mv G))) j (x_mv G v)) ⟨_, e1, q2, q3, t_set q4 hap hjN (x_mv G v)⟩ (fun i _ => vp_updV_set (by rw [List.length_map]; exact hj) (x_mv G v) i)
theorem T_putF {idx ci j k : Nat} {fs : List Value} {v : Value} {ty : FieldType} (hd : decode M.2.1 pc = .ok (.putfield idx, 3)) (hF : x_FP M.1.cls idx ci j ty true) (hin2 : M.1.name = "<init>") (hk : h[k]? = some (.inr (ci, fs))) (hj : j < fs.length) (hn : ∀ G : XG, narrow ty (x_mv G v) = x_mv G v ∧ fits ty (x_mv G v) = true) (kk : T M E Z cu su (pc + 3) ls st (h.set k (.inr (ci, fs.set j v)))) : T M E Z cu su pc ls (v :: .ref k :: st) h := by
  intro p l e G s m args below meth c H locs rls C hE hat hS hl
  obtain ⟨ref, C0, F, N, ty0, hc, hjN, hin, hlink, hsame, hty, hnm, hfin, hpd, hdecl⟩ := hF
  have hdecl := hdecl rfl
  have hts := C.2.2.2.2.2.1
  have hK := C.2.2.2.2.2.2.2.2.1.1
  have hap := va_apart (own := M.1.cls) hts hin ty0 hty hnm hK hc
  obtain ⟨r, h1, cell, q1, q2, q3, q4⟩ := hat.2 k _ (x_W_at hk)
  have hr : r = (C0, F, N) := Option.some.inj (h1.symm.trans hc)
  subst hr
  obtain ⟨hSl, hfc, kC, hkC, hkind⟩ := hK.1 ci _ hc
  obtain ⟨cf, kf, fi, f, hi, hsl⟩ := hSl j hjN
  have hlay := hts _ (hin _ (u_in_lay hjN))
  unfold u_lay at hlay
  rw [if_pos hfin] at hlay
  have hst := (u_facts hfc hkC (u_lays hts hin hjN) hi).1
  have hcf : m.cls = cf := by
    obtain ⟨_, _, c', _, _, _, -, -, hf', -, -, -, hown2, -⟩ := Cond.laysFinal_spec hlay
    have e1 : c' = cf := by have := hi.symm.trans hf'; simp at this; exact this.1.symm
    rw [hdecl] at hown2
    rw [← e1]; exact Option.some.inj (C.2.2.2.2.1.symm.trans hown2)
  have h6 := u_fits hfc hkC hkind (Or.inr hlay) hi hpd (hn G).1 (hn G).2
  refine W.putFinK C.1 C.2.1 C.2.2.2.2.1 (hts _ hlink) (x_same C hsame _ hi) hst hcf (C.2.2.2.2.2.2.2.1.trans hin2) (by rw [q2]; exact h6) q1 q3 (by rw [hsl]; exact k2_hasslot (q4 j hjN)) rfl rfl hd fun H' e1 e2 e3 => ?_
  rw [hsl] at e1 ⊢
  refine kk p l e G s m args below meth c H' _ rls C hE (x_at_set hat hk e2 e3 ⟨_, hc, ?_⟩) (hS.put e2 e3 (show G.1 ≤ G.1 + k by omega)) hl
  show t_OB _ _ _ _ _ (vp_V ((fs.set j v).map (x_mv G)))
  rw [List.map_set]
  exact t_OB.to (V := updV (vp_V (fs.map (x_mv G))) j (x_mv G v)) ⟨_, e1, q2, q3, t_set q4 hap hjN (x_mv G v)⟩ (fun i _ => vp_updV_set (by rw [List.length_map]; exact hj) (x_mv G v) i)
theorem T_iast {a n : Nat} {f : Nat → Int32} {i x : Int32} (hd : decode M.2.1 pc = .ok (.iastore, 1)) (ha : h[a]? = some (.inl (0, n, .inl f))) (hi : vp_in i n) (kk : T M E Z cu su (pc + 1) ls st (h.set a (.inl (0, n, .inl (upd f i.toNatClampNeg x))))) : T M E Z cu su pc ls (.int x :: .int i :: .ref a :: st) h := by
  intro p l e G s m args below meth c H locs rls C hE hat hS hl
  have hK := C.2.2.2.2.2.2.2.2.1.1
  refine W.iast C.1 C.2.1 (hat.2 a _ (x_W_at ha)) ((hK.2 0 _ rfl).1 n (fun j => .int (f j))) (fun q => by cases q) (by show ¬ (i < 0 ∨ (arrV _ _ _).slots.size ≤ _); rw [arrV_size]; exact hi) rfl rfl hd fun H1 e1 z oq => ?_
  refine kk p l e G s m args below meth c H1 _ rls C hE (x_at_set hat ha z oq ?_) (hS.put z oq (show G.1 ≤ G.1 + a by omega)) hl
  show H1[G.1 + a]? = some (vp_cell _ _)
  rw [e1]
  show some _ = some (vp_cell _ (n, Sum.inl _))
  rw [show x_mA G (Sum.inl f) = Sum.inl f from rfl, vp_cell_i, vp_cell_i, arrV_store]
  congr 2
  funext q
  by_cases hq : q = i.toNatClampNeg
  · subst hq
    simp [updV, upd]
  · simp [updV, upd, hq]
theorem T_zast {a n : Nat} {f : Nat → Int32} {i x : Int32} (hd : decode M.2.1 pc = .ok (.bastore, 1)) (ha : h[a]? = some (.inl (2, n, .inl f))) (hi : vp_in i n) (hx : narrow .boolean (.int x) = .int x) (kk : T M E Z cu su (pc + 1) ls st (h.set a (.inl (2, n, .inl (upd f i.toNatClampNeg x))))) : T M E Z cu su pc ls (.int x :: .int i :: .ref a :: st) h := by
  intro p l e G s m args below meth c H locs rls C hE hat hS hl
  have hK := C.2.2.2.2.2.2.2.2.1.1
  refine W.zast C.1 C.2.1 (hat.2 a _ (x_W_at ha)) ((hK.2 2 _ rfl).1 n (fun j => .int (f j))) (fun q => by cases q) (by show ¬ (i < 0 ∨ (arrV _ _ _).slots.size ≤ _); rw [arrV_size]; exact hi) rfl rfl hd fun H1 e1 z oq => ?_
  refine kk p l e G s m args below meth c H1 _ rls C hE (x_at_set hat ha z oq ?_) (hS.put z oq (show G.1 ≤ G.1 + a by omega)) hl
  show H1[G.1 + a]? = some (vp_cell _ _)
  rw [e1]
  show some _ = some (vp_cell _ (n, Sum.inl _))
  rw [show x_mA G (Sum.inl f) = Sum.inl f from rfl, vp_cell_i, vp_cell_i, arrV_store]
  congr 2
  funext q
  by_cases hq : q = i.toNatClampNeg
  · subst hq
    simp [updV, upd, hx]
  · simp [updV, upd, hq]
theorem T_last {a n : Nat} {f : Nat → Int64} {i : Int32} {x : Int64} (hd : decode M.2.1 pc = .ok (.lastore, 1)) (ha : h[a]? = some (.inl (1, n, .inr (.inl f)))) (hi : vp_in i n) (kk : T M E Z cu su (pc + 1) ls st (h.set a (.inl (1, n, .inr (.inl (vp_updL f i.toNatClampNeg x)))))) : T M E Z cu su pc ls (.long x :: .int i :: .ref a :: st) h := by
  intro p l e G s m args below meth c H locs rls C hE hat hS hl
  have hK := C.2.2.2.2.2.2.2.2.1.1
  refine W.last C.1 C.2.1 (hat.2 a _ (x_W_at ha)) ((hK.2 1 _ rfl).1 n (fun j => .long (f j))) (fun q => by cases q) (by show ¬ (i < 0 ∨ (arrV _ _ _).slots.size ≤ _); rw [arrV_size]; exact hi) rfl rfl hd fun H1 e1 z oq => ?_
  refine kk p l e G s m args below meth c H1 _ rls C hE (x_at_set hat ha z oq ?_) (hS.put z oq (show G.1 ≤ G.1 + a by omega)) hl
  show H1[G.1 + a]? = some (vp_cell _ _)
  rw [e1]
  show some _ = some (vp_cell _ (n, Sum.inr (Sum.inl _)))
  rw [show x_mA G (Sum.inr (Sum.inl f)) = Sum.inr (Sum.inl f) from rfl, vp_cell_l, vp_cell_l, arrV_store]
  congr 2
  funext q
  by_cases hq : q = i.toNatClampNeg
  · subst hq
    simp [updV, vp_updL]
  · simp [updV, vp_updL, hq]
/-- a reference into an array: of its own class, or of one that can be cast to it -/
theorem T_aast {t a n v ci : Nat} {f : Nat → Option Nat} {i : Int32} {C0 E0 : String} {F : u_T} {N : Nat} {vs : List Value} (hd : decode M.2.1 pc = .ok (.aastore, 1)) (ht : ∀ G : XG, (x_tys G)[t]? = some (G.2.2.1 t, .object E0)) (ha : h[a]? = some (.inl (t, n, .inr (.inr f)))) (hv : h[v]? = some (.inr (ci, vs))) (hc : vwCl[ci]? = some (C0, F, N)) (hca : C0 = E0 ∨ (C0, E0) ∈ x_cst) (hi : vp_in i n)
    (kk : T M E Z cu su (pc + 1) ls st (h.set a (.inl (t, n, .inr (.inr (va_up f i.toNatClampNeg (some v))))))) : T M E Z cu su pc ls (.ref v :: .int i :: .ref a :: st) h := by
  intro p l e G s m args below meth c H locs rls C hE hat hS hl
  have hK := C.2.2.2.2.2.2.2.2.1.1
  have hlt : i.toNatClampNeg < n := Nat.not_le.mp fun q => hi (Or.inr q)
  have h0 : ¬ i < 0 := fun q => hi (Or.inl q)
  obtain ⟨r', hr', cellV, g1, g2, g3, -⟩ := hat.2 v _ (x_W_at hv)
  have hcls := (hK.1 ci _ hc).2
  obtain ⟨kA, comp, k1, k2, k3, -⟩ := (hK.2 t _ (ht G)).2
  obtain ⟨kE, hkE, -⟩ := Vm.findClass_spec k3
  have hasg : s.vm.assignable (G.2.2.2.1 ci) comp = true := by
    rcases hca with rfl | hca
    · have : comp = G.2.2.2.1 ci := Option.some.inj (k3.symm.trans hcls.1)
      rw [this]
      exact va_assign hcls
    · obtain ⟨c0, t1, f1, f2, f3⟩ := Cond.castable_spec (va_Nw.use (A := args) rfl (C.2.2.2.2.2.2.2.2.1.2.2.2.2.2.1 _ hca))
      cases hcls.1.symm.trans f1
      cases k3.symm.trans f2
      exact f3
  obtain ⟨kC, hkC, -⟩ := hcls.2
  refine W.aast C.1 C.2.1 (hat.2 a _ (x_W_at ha)) (fun q h => by cases h) (fun h => by cases h) k1 k2 rfl hkE ⟨h0, by show _ < (arrV _ _ _).slots.size; rw [arrV_size]; exact hlt⟩ g1 (fun q h => by rw [g3] at h; cases h) (by rw [g2]; exact hkC) (by rw [g2]; exact hasg) rfl rfl hd fun H1 e1 z oq => ?_
  refine kk p l e G s m args below meth c H1 _ rls C hE (x_at_set hat ha z oq ?_) (hS.put z oq (show G.1 ≤ G.1 + a by omega)) hl
  show H1[G.1 + a]? = some (vp_cell _ _)
  rw [e1]
  show some _ = some (vp_cell _ (n, Sum.inr (Sum.inr (Sum.inr (Sum.inr _)))))
  rw [show x_mA G (Sum.inr (Sum.inr f)) = Sum.inr (Sum.inr (Sum.inr (Sum.inr (fun i => (f i).map (fun k => G.1 + k))))) from rfl, vp_cell_q, vp_cell_q, arrV_store]
  congr 2
  funext q
  by_cases hq : q = i.toNatClampNeg
  · subst hq
    simp [updV, va_up, va_rf]
  · simp [updV, va_up, hq]
theorem x_at_push {G : XG} {H H1 : Heap} {c1 : XC} (hat : x_at G h H) (z : H1.size = H.size + 1) (oq : ∀ q : Nat, q < H.size → H1[q]? = H[q]?) (he : va_at G.2.2.2 vwCl (G.1 + h.length, x_mC G c1) H1) : x_at G (h ++ [c1]) H1 := by
  refine ⟨by rw [List.length_append, z, hat.1]; simp; omega, ?_⟩
  rw [← x_W_push]
  refine va_P.app (hat.2.kept fun k x hx => oq x.1 ((hat.2 k x hx).lt)) (fun k x hx => ?_)
  have hz : k < 1 := (List.getElem?_eq_some_iff.mp hx).1
  rw [show k = 0 by omega] at hx
  cases hx
  exact he
theorem x_S_push {G : XG} {H0 H H1 : Heap} {locs : List Loc} (hS : va_S (x_A G) H0 H locs) (z : H1.size = H.size + 1) (oq : ∀ q : Nat, q < H.size → H1[q]? = H[q]?) : va_S (x_A G) H0 H1 locs :=
  ⟨Nat.le_trans hS.1 (by omega), fun x h1 h2 => (oq x (Nat.lt_of_lt_of_le h1 hS.1)).trans (hS.2.1 x h1 h2), hS.2.2⟩
/-- a new object's words -/
def x_NW (own : String) (idx ci N : Nat) (fs : List Value) : Prop := ∃ (C : String) (F : u_T) (ty : Nat → FieldType), vwCl[ci]? = some (C, F, N) ∧ (∀ w ∈ u_ws C F N, w ∈ x_gw) ∧ (∀ k, k < N → parseFieldDescriptor (F k).2.2.1 = some (ty k)) ∧ Cond.classLink own idx C ∈ x_gw ∧ Cond.instantiable C N ∈ x_gw ∧ Cond.initialized C ∈ x_gw ∧ (∀ j, j < N → defaultValue (ty j) = vp_V fs j) ∧ ∀ G : XG, fs.map (x_mv G) = fs
theorem T_new {idx ci N cu2 su2 : Nat} {fs : List Value} (hd : decode M.2.1 pc = .ok (.new idx, 3)) (hN : x_NW M.1.cls idx ci N fs) (h1 : cu + 1 ≤ cu2) (h2 : su + N ≤ su2) (h3 : cu2 ≤ M.2.2.2.2.cells) (h4 : su2 ≤ M.2.2.2.2.slots) (kk : T M E Z cu2 su2 (pc + 3) ls (.ref h.length :: st) (h ++ [.inr (ci, fs)])) : T M E Z cu su pc ls st h := by
  intro p l e G s m args below meth c H locs rls C hE hat hS hl
  obtain ⟨C0, F, ty, hc, hin, hty, hcl, hinst, hini, hfs, hmap⟩ := hN
  have hts := C.2.2.2.2.2.1
  have hK := C.2.2.2.2.2.2.2.2.1.1
  have hKn := hK.1 ci _ hc
  refine W.newcK C.1 C.2.1 C.2.2.2.2.1 (hts _ hcl) (hts _ hinst) (hts _ hini) rfl hd (by omega) (by omega) hKn.2.1 hat.1 fun H1 kC hkC e1 z1 o1 => ?_
  refine W.widen h1 h2 ?_
  rw [← hat.1] at z1 o1
  refine kk p l e G s m args below meth c H1 locs rls C hE (x_at_push hat z1 o1 ⟨_, hc, ?_⟩) (x_S_push hS z1 o1) hl
  show t_OB _ _ _ _ _ (vp_V (fs.map (x_mv G)))
  rw [hmap]
  exact (u_born ty hts hin hKn hkC e1 hty).to hfs
theorem T_newa {t N cu2 su2 : Nat} {atype : ArrayType} {ty : FieldType} {n : Int32} {f : XA} (hd : decode M.2.1 pc = .ok (.newarray atype, 2)) (harr : Cond.arrayClass (newarray.typeOf atype) ∈ x_gw) (hty : newarray.typeOf atype = ty) (ht : ∀ G : XG, (x_tys G)[t]? = some (G.2.2.1 t, ty)) (hp : refKind ty = false) (hf : ∀ (G : XG) (cA : ClassId), vp_cell cA (N, x_mA G f) = arrV cA N (fun _ => defaultValue ty)) (hn : ¬ n < 0) (hN : n.toNatClampNeg = N) (hb : N * componentBytes ty ≤ 536870912)
    (h1 : cu + 1 ≤ cu2) (h2 : su + N ≤ su2) (h3 : cu2 ≤ M.2.2.2.2.cells) (h4 : su2 ≤ M.2.2.2.2.slots) (kk : T M E Z cu2 su2 (pc + 2) ls (.ref h.length :: st) (h ++ [.inl (t, N, f)])) : T M E Z cu su pc ls (.int n :: st) h := by
  intro p l e G s m args below meth c H locs rls C hE hat hS hl
  have hts := C.2.2.2.2.2.1
  have hK := C.2.2.2.2.2.2.2.2.1.1
  subst hty
  refine va_newaK C.1 C.2.1 (hts _ harr) rfl hd rfl hn hN hb (by omega) (by omega) hat.1 fun H1 cA e1 z1 o1 hAr hNm => ?_
  refine W.widen h1 h2 ?_
  rw [← hat.1] at z1 o1
  have hRA := (hK.2 t _ (ht G)).2
  have hcA : G.2.2.1 t = cA := by
    cases atype <;> exact Option.some.inj (hRA.symm.trans hNm)
  refine kk p l e G s m args below meth c H1 locs rls C hE (x_at_push hat z1 o1 ?_) (x_S_push hS z1 o1) hl
  show H1[G.1 + h.length]? = some (vp_cell (G.2.2.1 t) (N, x_mA G f))
  rw [hcA, hf]
  exact e1
theorem T_newq {t idx N cu2 su2 : Nat} {C0 : String} {n : Int32} (hd : decode M.2.1 pc = .ok (.anewarray idx, 3)) (hcl : Cond.classLink M.1.cls idx C0 ∈ x_gw) (hov : ∀ U : State, x_X U → va_AO C0 U) (ht : ∀ G : XG, (x_tys G)[t]? = some (G.2.2.1 t, .object C0)) (hn : ¬ n < 0) (hN : n.toNatClampNeg = N) (hb : N * 4 ≤ 536870912)
    (h1 : cu + 1 ≤ cu2) (h2 : su + N ≤ su2) (h3 : cu2 ≤ M.2.2.2.2.cells) (h4 : su2 ≤ M.2.2.2.2.slots) (kk : T M E Z cu2 su2 (pc + 3) ls (.ref h.length :: st) (h ++ [.inl (t, N, .inr (.inr (fun _ => none)))])) : T M E Z cu su pc ls (.int n :: st) h := by
  intro p l e G s m args below meth c H locs rls C hE hat hS hl
  have hts := C.2.2.2.2.2.1
  have hK := C.2.2.2.2.2.2.2.2.1.1
  subst hN
  refine W.anew C.1 C.2.1 C.2.2.2.2.1 (hts _ hcl) (va_AO.use (hov s C.2.2.2.2.2.2.2.2.1.2.2.2.2)) rfl hd rfl hn hb (by omega) (by omega) fun cA kA comp f1 f2 f3 f4 => ?_
  generalize hH1 : H.push ({ cls := cA, slots := Array.replicate n.toNatClampNeg .null, vm := .none } : Cell) = H1
  have z1 : H1.size = H.size + 1 := by rw [← hH1, Array.size_push]
  have e1 : H1[H.size]? = some (arrV cA n.toNatClampNeg (fun _ => .null)) := by rw [← hH1, Array.getElem?_push_size, ← arrV_new]
  have o1 : ∀ q : Nat, q < H.size → H1[q]? = H[q]? := fun q hq => by rw [← hH1, Array.getElem?_push, if_neg (Nat.ne_of_lt hq)]
  obtain ⟨-, -, -, -, -, hRA⟩ := (hK.2 t _ (ht G)).2
  have hcA : G.2.2.1 t = cA := Option.some.inj (hRA.symm.trans f1)
  refine W.widen h1 h2 ?_
  refine W.eq (g2 := F0 m (pc + 3) rls (List.map (x_mv G) (Value.ref h.length :: st))) ?_ ?_
  · show F0 m (pc + 3) rls (Value.ref H.size :: List.map (x_mv G) st) = _
    rw [hat.1]
    rfl
  refine kk p l e G s m args below meth c H1 locs rls C hE (x_at_push hat z1 o1 ?_) (x_S_push hS z1 o1) hl
  show H1[G.1 + h.length]? = some (vp_cell (G.2.2.1 t) (n.toNatClampNeg, Sum.inr (Sum.inr (Sum.inr (Sum.inr _)))))
  rw [hcA, vp_cell_q, ← hat.1]
  exact e1
/-- Object() -/
theorem T_obj {idx k : Nat} (hd : decode M.2.1 pc = .ok (.invokespecial idx, 3)) (hl1 : Cond.methodLink M.1.cls idx Lib.objectInit ∈ x_gw) (hl2 : Cond.instanceMethod Lib.objectInit ∈ x_gw) (hl3 : Cond.code Lib.objectInit ⟨#[0xb1]⟩ 1 none ∈ x_gw) (hf : 1 ≤ M.2.2.2.2.frames) (hlo : (st.map fun v => v.category).sum + 12 ≤ M.2.2.2.2.locals) (kk : T M E Z cu su (pc + 3) ls st h) : T M E Z cu su pc ls (.ref k :: st) h := by
  intro p l e G s m args below meth c H locs rls C hE hat hS hl
  have hts := C.2.2.2.2.2.1
  refine W.objInit C.1 C.2.1 C.2.2.2.2.1 (hts _ hl1) (hts _ hl2) (hts _ hl3) rfl (by rw [C.2.2.2.1]; exact hl.1) rfl hd hf ?_ (kk p l e G s m args below meth c H locs rls C hE hat hS hl)
  rw [List.map_map]
  show 2 * 0 + (List.map (fun v => (x_mv G v).category) st).sum + 12 ≤ _
  simp only [x_mv_cat]
  omega
end TH
