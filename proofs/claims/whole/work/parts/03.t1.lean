/-! THE T LAYER: a method's run over a list heap. Places are numbers; the place k lies at the address G.1 + k. A float stands for the script's address. -/
abbrev XA : Type := (Nat → Int32) ⊕ ((Nat → Int64) ⊕ (Nat → Option Nat))
abbrev XC : Type := (Nat × (Nat × XA)) ⊕ (Nat × List Value)
abbrev XH : Type := List XC
abbrev XG : Type := Nat × (Nat × ((Nat → ClassId) × va_G))
abbrev XM : Type := MethodName × (ByteArray × (Nat × (Option FieldType × Room)))
def x_gw : List Cond := lw_tbl.filter goodWord
theorem x_gm {w : Cond} (h : w ∈ lw_tbl) (g : goodWord w = true) : w ∈ x_gw := List.mem_filter.mpr ⟨h, g⟩
theorem x_gg {w : Cond} (h : w ∈ x_gw) : goodWord w = true := (List.mem_filter.mp h).2
def x_mv (G : XG) (v : Value) : Value := match v with
  | .ref k => .ref (G.1 + k)
  | .float _ => .ref G.2.1
  | .int x => .int x
  | .long x => .long x
  | .double x => .double x
  | .null => .null
  | .retAddr x => .retAddr x
theorem x_mv_cat (G : XG) (v : Value) : (x_mv G v).category = v.category := by cases v <;> rfl
def x_mA (G : XG) (a : XA) : (Nat → Int32) ⊕ (Nat → Int64) ⊕ (Nat → UInt32) ⊕ (Nat → UInt64) ⊕ (Nat → Option Nat) := match a with
  | .inl f => .inl f
  | .inr (.inl f) => .inr (.inl f)
  | .inr (.inr g) => .inr (.inr (.inr (.inr (fun i => (g i).map (fun k => G.1 + k)))))
def x_mC (G : XG) (c : XC) : va_E := match c with
  | .inl a => .inl (G.2.2.1 a.1, (a.2.1, x_mA G a.2.2))
  | .inr o => .inr (o.1, o.2.map (x_mv G))
def x_W (G : XG) (h : XH) : va_W := h.mapIdx (fun k c => (G.1 + k, x_mC G c))
theorem x_W_at {G : XG} {h : XH} {k : Nat} {c : XC} (hk : h[k]? = some c) : (x_W G h)[k]? = some (G.1 + k, x_mC G c) := by
  simp [x_W, List.getElem?_mapIdx, hk]
theorem x_W_inv {G : XG} {h : XH} {k : Nat} {q : Nat × va_E} (hk : (x_W G h)[k]? = some q) : ∃ c, h[k]? = some c ∧ q = (G.1 + k, x_mC G c) := by
  simp only [x_W, List.getElem?_mapIdx, Option.map_eq_some_iff] at hk
  obtain ⟨c, h1, h2⟩ := hk
  exact ⟨c, h1, h2.symm⟩
theorem x_W_len (G : XG) (h : XH) : (x_W G h).length = h.length := by simp [x_W]
theorem x_W_set {G : XG} {h : XH} {k : Nat} {c : XC} : (x_W G h).set k (G.1 + k, x_mC G c) = x_W G (h.set k c) := by
  refine List.ext_getElem? fun j => ?_
  by_cases hj : j = k
  · subst hj
    by_cases hl : j < h.length
    · rw [List.getElem?_set_self (by rw [x_W_len]; exact hl), x_W_at (List.getElem?_set_self hl)]
    · rw [List.getElem?_eq_none (by rw [List.length_set, x_W_len]; omega), List.getElem?_eq_none (by rw [x_W_len, List.length_set]; omega)]
  · rw [List.getElem?_set_ne (fun e => hj e.symm)]
    simp only [x_W, List.getElem?_mapIdx]
    rw [List.getElem?_set_ne (fun e => hj e.symm)]
theorem x_W_push {G : XG} {h : XH} {c : XC} : x_W G h ++ [(G.1 + h.length, x_mC G c)] = x_W G (h ++ [c]) := by
  simp [x_W, List.mapIdx_append]
theorem x_D (G : XG) (h : XH) : va_D (fun q : Nat => G.1 ≤ q) (x_W G h) := by
  refine ⟨fun i j p q hi hj e => ?_, fun k q hk => ?_⟩
  · obtain ⟨c, -, rfl⟩ := x_W_inv hi
    obtain ⟨d, -, rfl⟩ := x_W_inv hj
    have e : G.1 + i = G.1 + j := e
    omega
  · obtain ⟨c, -, rfl⟩ := x_W_inv hk
    show G.1 ≤ G.1 + k
    omega
def x_tys (G : XG) : List (ClassId × FieldType) := [(G.2.2.1 0, .int), (G.2.2.1 1, .long), (G.2.2.1 2, .boolean), (G.2.2.1 3, .object RX5), (G.2.2.1 4, .object RX0), (G.2.2.1 5, .object RX6)]
/-- words that only a warmed state keeps: private nest mates' links, casts -/
def x_nst : List (String × (Nat × (MethodName × String))) := [(RX11, 19, yX7_init, RX11), (RX11, 26, yX3_init, RX11), (RX11, 33, yX10_init, RX11), (RX4, 41, yX10_init, RX11), (RX4, 48, yX6_init, RX11), (RX11, 47, yX9_init, RX11), (RX11, 76, yX5_init, RX11), (RX7, 65, yX11_newBoat, RX11)]
def x_cst : List (String × String) := [(RX8, RX2), (RX2, RX0), (RX8, RX0)]
def x_X (U : State) : Prop := (∀ q ∈ x_nst, va_Nw (.methodLinkNest q.1 q.2.1 q.2.2.1 q.2.2.2) U) ∧ (∀ q ∈ x_cst, va_Nw (.castable q.1 q.2) U) ∧ va_Nw (.declares yX0_tellingOfBoat) U ∧ va_AO RX5 U ∧ va_AO RX0 U ∧ va_AO RX6 U
theorem x_X.warm {s U : State} (hW : s.WarmedH U.vm) (h : x_X s) : x_X U := ⟨fun q hq => (h.1 q hq).warmM hW, fun q hq => (h.2.1 q hq).warmC hW, h.2.2.1.warmD hW, h.2.2.2.1.moved hW.alike, h.2.2.2.2.1.moved hW.alike, h.2.2.2.2.2.moved hW.alike⟩
theorem x_X.same {s U : State} (hv : s.vm = U.vm) (h : x_X s) : x_X U := ⟨fun q hq => (h.1 q hq).same rfl hv, fun q hq => (h.2.1 q hq).same rfl hv, h.2.2.1.same rfl hv, h.2.2.2.1.moved (by rw [hv]; exact Vm.Alike.refl _), h.2.2.2.2.1.moved (by rw [hv]; exact Vm.Alike.refl _), h.2.2.2.2.2.moved (by rw [hv]; exact Vm.Alike.refl _)⟩
def x_K (G : XG) (U : State) : Prop := va_K G.2.2.2 vwCl (x_tys G) U ∧ va_Nc RX0 RX2 U ∧ va_Nc RX0 RX8 U ∧ va_Nc RX2 RX8 U ∧ x_X U
theorem x_K.warm {G : XG} {s U : State} (hW : s.WarmedH U.vm) (h : x_K G s) : x_K G U := ⟨h.1.moved hW.alike, h.2.1.moved hW.alike, h.2.2.1.moved hW.alike, h.2.2.2.1.moved hW.alike, h.2.2.2.2.warm hW⟩
theorem x_K.same {G : XG} {s U : State} (hv : s.vm = U.vm) (h : x_K G s) : x_K G U := ⟨h.1.moved (by rw [hv]; exact Vm.Alike.refl _), h.2.1.moved (by rw [hv]; exact Vm.Alike.refl _), h.2.2.1.moved (by rw [hv]; exact Vm.Alike.refl _), h.2.2.2.1.moved (by rw [hv]; exact Vm.Alike.refl _), h.2.2.2.2.same hv⟩
def x_at (G : XG) (h : XH) (H : Heap) : Prop := H.size = G.1 + h.length ∧ va_P G.2.2.2 vwCl (x_W G h) H
abbrev x_A (G : XG) : Nat → Prop := fun q => G.1 ≤ q
abbrev x_ws (M : XM) : List Cond := .code M.1 M.2.1 M.2.2.1 M.2.2.2.1 :: x_gw
def x_Q (G : XG) (Qa : Option Value → XH → Prop) : Array Value → State → Outcome → State → Prop := fun _ st oc t =>
  (∃ (r : Option Value) (h' : XH), oc = .returned (r.map (x_mv G)) ∧ Qa r h' ∧ x_at G h' t.heap ∧ x_K G t) ∧ va_F (x_A G) st t
/-- a method's contract: from the heap h with these arguments it returns, and Qa holds of answer and heap -/
def Con (M : XM) (as : List Value) (h : XH) (Qa : Option Value → XH → Prop) : Prop := ∀ (l : Launch) (G : XG),
  Met l M.1 (x_ws M) M.2.2.2.2 (va_Pc (as.map (x_mv G)) (fun U => x_at G h U.heap ∧ x_K G U)) (x_Q G Qa) M.2.2.2.2.cells M.2.2.2.2.slots (x_A G)
def x_Cx (M : XM) (G : XG) (p : Program) (s : State) (m : MethodId) (args : Array Value) (meth : Method) (c : Code) : Prop :=
  p.tables.exec = Jvm.exec ∧ c.code = M.2.1 ∧ meth.sig.returnType = M.2.2.2.1 ∧ c.maxLocals = M.2.2.1 ∧ s.vm.findClass M.1.cls = some m.cls ∧ (∀ w ∈ x_gw, w.before args s = true) ∧ meth.locks = false ∧ meth.name = M.1.name ∧ x_K G s ∧ G.1 ≤ s.heap.size
abbrev XE : Type := XG → State → Prop
abbrev XZ : Type := XG → List Frame → Array Value → State → State → Prop
def T (M : XM) (E : XE) (Z : XZ) (cu su pc : Nat) (ls : List (Nat × Value)) (st : List Value) (h : XH) : Prop :=
  ∀ (p : Program) (l : Launch) (e : Env) (G : XG) (s : State) (m : MethodId) (args : Array Value) (below : List Frame) (meth : Method) (c : Code) (H : Heap) (locs : List Loc) (rls : Array Slot),
    x_Cx M G p s m args meth c → E G s → x_at G h H → va_S (x_A G) s.heap H locs → lv_has rls M.2.2.1 (ls.map fun q => (q.1, x_mv G q.2)) →
    W p l e M.2.2.2.2 s m args below meth c H locs cu su (Z G below args s) (F0 m pc rls (st.map (x_mv G)))
def x_Z (M : XM) (Qa : Option Value → XH → Prop) : XZ := fun G below args s => MQ below (x_Q G Qa) args s M.2.2.2.2.cells M.2.2.2.2.slots (x_A G)
abbrev x_E : XE := fun _ _ => True
theorem x_args (G : XG) : ∀ (as : List Value) (i : Nat), lv_args i (as.map (x_mv G)) = (lv_args i as).map (fun q => (q.1, x_mv G q.2))
  | [], _ => rfl
  | v :: as, i => by
    simp only [List.map, lv_args, x_mv_cat]
    exact congrArg _ (x_args G as _)
theorem x_lgl (G : XG) (as : List Value) : (lg_sl (as.map (x_mv G))).length = (lg_sl as).length := by
  induction as with
  | nil => rfl
  | cons v as ih =>
    cases v <;> simpa [lg_sl, x_mv, Value.category] using ih
/-- a contract out of a run from the method's entry -/
theorem Con.of {M : XM} {as : List Value} {h : XH} {Qa : Option Value → XH → Prop} (hp : plainName M.1.cls = true) (ha : (lg_sl as).length ≤ M.2.2.1) (hT : T M x_E (x_Z M Qa) 0 0 0 (lv_args 0 as) [] h) : Con M as h Qa := by
  intro l G
  refine Met.ofW (cc := M.2.1) (maxL := M.2.2.1) (ret := M.2.2.2.1) hp rfl ?_
  intro p e s m args below meth c s₁ B hml hv
  obtain ⟨rfl, hat, hK⟩ := hv
  have hts := atoms_spec (ws := x_ws M) B.pre
  have hown : s.vm.findClass M.1.cls = some m.cls := findClass_of_methodNamed B.named
  have hin : meth.name = M.1.name := (name_of_methodNamed B.named B.method).1
  have hl := lv_entry (as.map (x_mv G)) (n := M.2.2.1) (by rw [x_lgl]; exact ha)
  rw [lg_entry_eq]
  rw [x_args] at hl
  exact hT p l e G s m _ below meth c s.heap [] _ ⟨B.exec, B.bytes, B.returns, hml, hown, fun w hw => hts w (List.mem_cons_of_mem _ hw), B.notSynchronized, hin, hK, by rw [hat.1]; omega⟩ trivial hat va_S.rf hl
/-- locals: look up, put -/
def lk : List (Nat × Value) → Nat → Option Value
  | [], _ => none
  | q :: r, i => bif Nat.beq q.1 i then some q.2 else lk r i
def hasK : List (Nat × Value) → Nat → Bool
  | [], _ => false
  | q :: r, i => bif Nat.beq q.1 i then true else hasK r i
def cat1 (v : Value) : Bool := match v with
  | .long _ => false
  | .double _ => false
  | _ => true
def noL : List (Nat × Value) → Nat → Bool
  | [], _ => true
  | q :: r, i => bif Nat.beq (q.1 + 1) i then (bif cat1 q.2 then noL r i else false) else noL r i
def upM : List (Nat × Value) → Nat → Value → List (Nat × Value)
  | [], _, _ => []
  | q :: r, i, v => (bif Nat.beq q.1 i then (i, v) else q) :: upM r i v
def up (l : List (Nat × Value)) (i : Nat) (v : Value) : List (Nat × Value) := bif hasK l i then upM l i v else l ++ [(i, v)]
theorem lk_mem : ∀ {l : List (Nat × Value)} {i : Nat} {v : Value}, lk l i = some v → (i, v) ∈ l
  | [], _, _, h => by simp [lk] at h
  | q :: r, i, v, h => by
    unfold lk at h
    cases hb : Nat.beq q.1 i with
    | true =>
      rw [hb] at h
      have e1 : q.1 = i := Nat.eq_of_beq_eq_true hb
      have e2 : q.2 = v := Option.some.inj h
      rw [← e1, ← e2]
      exact List.mem_cons_self
    | false =>
      rw [hb] at h
      exact List.mem_cons_of_mem _ (lk_mem h)
theorem hasK_no : ∀ {l : List (Nat × Value)} {i : Nat}, hasK l i = false → ∀ q ∈ l, q.1 ≠ i
  | [], _, _, q, hq => by simp at hq
  | p :: r, i, h, q, hq => by
    unfold hasK at h
    cases hb : Nat.beq p.1 i with
    | true => rw [hb] at h; cases h
    | false =>
      rw [hb] at h
      rcases List.mem_cons.mp hq with rfl | hq
      · exact Nat.ne_of_beq_eq_false hb
      · exact hasK_no h q hq
theorem noL_no : ∀ {l : List (Nat × Value)} {i : Nat}, noL l i = true → ∀ q ∈ l, q.1 + 1 = i → q.2.category = 1
  | [], _, _, q, hq => by simp at hq
  | p :: r, i, h, q, hq => by
    intro e
    unfold noL at h
    cases hb : Nat.beq (p.1 + 1) i with
    | true =>
      rw [hb] at h
      cases hc : cat1 p.2 with
      | false => rw [hc] at h; cases h
      | true =>
        rw [hc] at h
        rcases List.mem_cons.mp hq with rfl | hq
        · cases hv : q.2 <;> simp [hv, cat1] at hc <;> rfl
        · exact noL_no h q hq e
    | false =>
      rw [hb] at h
      rcases List.mem_cons.mp hq with rfl | hq
      · exact absurd e (Nat.ne_of_beq_eq_false hb)
      · exact noL_no h q hq e
theorem upM_mem : ∀ {l : List (Nat × Value)} {i : Nat} {v : Value} {q : Nat × Value}, q ∈ upM l i v → q = (i, v) ∨ (q ∈ l ∧ q.1 ≠ i)
  | [], _, _, q, h => by simp [upM] at h
  | p :: r, i, v, q, h => by
    unfold upM at h
    rcases List.mem_cons.mp h with h | h
    · cases hb : Nat.beq p.1 i with
      | true => rw [hb] at h; exact Or.inl h
      | false =>
        rw [hb] at h
        have h : q = p := h
        subst h
        exact Or.inr ⟨List.mem_cons_self, Nat.ne_of_beq_eq_false hb⟩
    · rcases upM_mem h with e | ⟨h1, h2⟩
      · exact Or.inl e
      · exact Or.inr ⟨List.mem_cons_of_mem _ h1, h2⟩
theorem up_mem {l : List (Nat × Value)} {i : Nat} {v : Value} {q : Nat × Value} (h : q ∈ up l i v) : q = (i, v) ∨ (q ∈ l ∧ q.1 ≠ i) := by
  unfold up at h
  cases hb : hasK l i with
  | true => rw [hb] at h; exact upM_mem h
  | false =>
    rw [hb] at h
    rcases List.mem_append.mp h with h | h
    · exact Or.inr ⟨h, hasK_no hb q h⟩
    · exact Or.inl (by simpa using h)
theorem lv_less {ls : Array Slot} {nL : Nat} {l l' : List (Nat × Value)} (h : lv_has ls nL l) (hs : ∀ q ∈ l', q ∈ l) : lv_has ls nL l' := ⟨h.1, h.2.1, fun q hq => h.2.2 q (hs q hq)⟩
theorem up_has1 {G : XG} {ls : Array Slot} {nL i : Nat} {l : List (Nat × Value)} {v : Value} (ho : noL l i = true)
    (h : lv_has ls nL ((i, x_mv G v) :: (l.map fun q => (q.1, x_mv G q.2)).filter (fun q => !(q.1 == i) && !(q.1 + 1 == i && q.2.category == 2)))) : lv_has ls nL ((up l i v).map fun q => (q.1, x_mv G q.2)) := by
  refine lv_less h fun q hq => ?_
  obtain ⟨q0, h1, rfl⟩ := List.mem_map.mp hq
  rcases up_mem h1 with rfl | ⟨h2, h3⟩
  · exact List.mem_cons_self
  · refine List.mem_cons_of_mem _ (List.mem_filter.mpr ⟨List.mem_map.mpr ⟨q0, h2, rfl⟩, ?_⟩)
    simp only [Bool.and_eq_true, Bool.not_eq_true', beq_eq_false_iff_ne, ne_eq, Bool.and_eq_false_iff, x_mv_cat]
    refine ⟨h3, ?_⟩
    by_cases e : q0.1 + 1 = i
    · refine Or.inr ?_
      rw [noL_no ho q0 h2 e]
      decide
    · exact Or.inl e
theorem up_has2 {G : XG} {ls : Array Slot} {nL i : Nat} {l : List (Nat × Value)} {v : Value} (ho : noL l i = true) (hn : hasK l (i + 1) = false)
    (h : lv_has ls nL ((i, x_mv G v) :: (l.map fun q => (q.1, x_mv G q.2)).filter (fun q => !(q.1 == i) && (!(q.1 == i + 1) && !(q.1 + 1 == i && q.2.category == 2))))) : lv_has ls nL ((up l i v).map fun q => (q.1, x_mv G q.2)) := by
  refine lv_less h fun q hq => ?_
  obtain ⟨q0, h1, rfl⟩ := List.mem_map.mp hq
  rcases up_mem h1 with rfl | ⟨h2, h3⟩
  · exact List.mem_cons_self
  · refine List.mem_cons_of_mem _ (List.mem_filter.mpr ⟨List.mem_map.mpr ⟨q0, h2, rfl⟩, ?_⟩)
    simp only [Bool.and_eq_true, Bool.not_eq_true', beq_eq_false_iff_ne, ne_eq, Bool.and_eq_false_iff, x_mv_cat]
    refine ⟨h3, hasK_no hn q0 h2, ?_⟩
    by_cases e : q0.1 + 1 = i
    · refine Or.inr ?_
      rw [noL_no ho q0 h2 e]
      decide
    · exact Or.inl e
theorem lk_at {G : XG} {ls : Array Slot} {nL i : Nat} {l : List (Nat × Value)} {v : Value} (h : lv_has ls nL (l.map fun q => (q.1, x_mv G q.2))) (hk : lk l i = some v) : ls[i]? = some (.val (x_mv G v)) :=
  h.2.2 (i, x_mv G v) (List.mem_map.mpr ⟨(i, v), lk_mem hk, rfl⟩)
