/-! System.arraycopy; sheets beside each other: sheet, put, cell -/
section TC
variable {M : XM} {E : XE} {Z : XZ} {cu su pc : Nat} {ls : List (Nat × Value)} {st : List Value} {h : XH}
/-- cells of a row of ints go to another row, or to the same -/
theorem T_copy {idx a b n0 n1 : Nat} {f g : Nat → Int32} {sp dp n : Int32} (hd : decode M.2.1 pc = .ok (.invokestatic idx, 3)) (hlk : Cond.methodLink M.1.cls idx arraycopyName ∈ x_gw) (ha : h[a]? = some (.inl (0, n0, .inl f))) (hb : h[b]? = some (.inl (0, n1, .inl g))) (h1 : ¬ sp < 0) (h2 : ¬ dp < 0) (h3 : ¬ n < 0) (h4 : sp.toNatClampNeg + n.toNatClampNeg ≤ n0) (h5 : dp.toNatClampNeg + n.toNatClampNeg ≤ n1) (hf : 1 ≤ M.2.2.2.2.frames) (hlo : x_cats st + (nativeFrameWords "java/lang/System" "arraycopy" 5 + 11) ≤ M.2.2.2.2.locals)
    (kk : T M E Z cu su (pc + 3) ls st (h.set b (.inl (0, n1, .inl (va_cpy f g sp.toNatClampNeg dp.toNatClampNeg n.toNatClampNeg))))) : T M E Z cu su pc ls (.int n :: .int dp :: .ref b :: .int sp :: .ref a :: st) h := by
  intro p l e G s m args below meth c H locs rls C hE hat hS hl
  have hts := C.2.2.2.2.2.1
  have hK := C.2.2.2.2.2.2.2.2.1.1
  have nn : ∀ z : Int32, ¬ z < 0 → z.toInt = (z.toNatClampNeg : Int) := fun z hz => by
    obtain ⟨j, j1, rfl⟩ := nI_of hz
    rw [nI_clamp j1, nI_toInt j1]
  have ca : H[G.1 + a]? = some (vp_cell (G.2.2.1 0) (n0, .inl f)) := hat.2 a _ (x_W_at ha)
  have cb : H[G.1 + b]? = some (vp_cell (G.2.2.1 0) (n1, .inl g)) := hat.2 b _ (x_W_at hb)
  obtain ⟨-, k0, hk0, cm0, hkk0⟩ := (hK.2 0 _ rfl).1 n0 (fun j => .int (f j))
  obtain ⟨-, k1, hk1, cm1, hkk1⟩ := (hK.2 0 _ rfl).1 n1 (fun j => .int (g j))
  intro T0 hT X
  obtain ⟨vm2, X2, step⟩ := X.arraycopy C.1 C.2.2.2.2.1 (hts _ hlk) (hts _ js_2) (hts _ js_1) (hts _ js_0) (src := G.1 + a) (dst := G.1 + b) (cs := vp_cell (G.2.2.1 0) (n0, .inl f)) (cd := vp_cell (G.2.2.1 0) (n1, .inl g)) (srcPos := sp) (destPos := dp) (n := n) (by rw [hT]; exact ca) (by rw [hT]; exact cb)
    (fun _ q => by cases q) (fun _ q => by cases q) (fun q => by cases q) (fun q => by cases q) hk0 hk1 hkk0 hkk1 (by rfl) h1 h2 h3
    (by rw [nn sp h1, nn n h3]; show ¬ _ > ((arrV (G.2.2.1 0) n0 (fun j => .int (f j))).slots.size : Int); rw [arrV_size]; omega)
    (by rw [nn dp h2, nn n h3]; show ¬ _ > ((arrV (G.2.2.1 0) n1 (fun j => .int (g j))).slots.size : Int); rw [arrV_size]; omega)
    (fun vm1 _ i hi => by
      have e1 : (vp_cell (G.2.2.1 0) (n0, .inl f)).slots.getD (sp.toNatClampNeg + i) .null = .int (f (sp.toNatClampNeg + i)) := by
        show (arrV (G.2.2.1 0) n0 (fun j => .int (f j))).slots.getD _ _ = _
        rw [Array.getD_eq_getD_getElem?, arrV_read _ _ (by omega)]
        rfl
      rw [e1]
      exact ⟨rfl, trivial⟩)
    (g := F0 m pc rls (.int n :: .int dp :: .ref (G.1 + b) :: .int sp :: .ref (G.1 + a) :: st.map (x_mv G))) rfl (by rw [C.2.2.2.1]; exact hl.1) (rest := st.map (x_mv G)) rfl (by rw [C.2.1]; exact hd) hf (by show 2 * 0 + _ + _ ≤ _; have := x_catm G st; rw [this]; omega)
  have e1 : copied (vp_cell (G.2.2.1 0) (n0, .inl f)) (vp_cell (G.2.2.1 0) (n1, .inl g)) sp dp n = vp_cell (G.2.2.1 0) (n1, .inl (va_cpy f g sp.toNatClampNeg dp.toNatClampNeg n.toNatClampNeg)) := va_copied (fun z => .int z) (G.2.2.1 0) (G.2.2.1 0) f g h4
  rw [e1] at X2 step
  have hlt : G.1 + b < H.size := (Array.getElem?_eq_some_iff.mp cb).1
  have hheap : ((T0.setVm vm2).setCell (G.1 + b) (vp_cell (G.2.2.1 0) (n1, .inl (va_cpy f g sp.toNatClampNeg dp.toNatClampNeg n.toNatClampNeg)))).heap = H.setIfInBounds (G.1 + b) (vp_cell (G.2.2.1 0) (n1, .inl (va_cpy f g sp.toNatClampNeg dp.toNatClampNeg n.toNatClampNeg))) := by rw [← hT]; rfl
  have oq : ∀ q : Nat, q ≠ G.1 + b → (H.setIfInBounds (G.1 + b) (vp_cell (G.2.2.1 0) (n1, .inl (va_cpy f g sp.toNatClampNeg dp.toNatClampNeg n.toNatClampNeg))))[q]? = H[q]? := fun q hq => by simp [Array.getElem?_setIfInBounds, Ne.symm hq]
  have hat2 : x_at G (h.set b (.inl (0, n1, .inl (va_cpy f g sp.toNatClampNeg dp.toNatClampNeg n.toNatClampNeg)))) (H.setIfInBounds (G.1 + b) (vp_cell (G.2.2.1 0) (n1, .inl (va_cpy f g sp.toNatClampNeg dp.toNatClampNeg n.toNatClampNeg)))) := x_at_set hat hb (by simp) oq (show (H.setIfInBounds (G.1 + b) _)[G.1 + b]? = some _ by simp [Array.getElem?_setIfInBounds, hlt]; rfl)
  obtain ⟨t, t1, t2⟩ := kk p l e G s m args below meth c _ _ rls C hE hat2 ⟨by simp; exact hS.1, fun q q1 q2 => by
      rw [oq q (fun z => q2 (by rw [z]; show G.1 ≤ G.1 + b; omega))]
      exact hS.2.1 q q1 q2, fun q hq => by
      rcases List.mem_append.mp hq with z | z
      · exact hS.2.2 q z
      · obtain ⟨y, -, hy⟩ := List.mem_map.mp z
        rw [← hy]
        show G.1 ≤ G.1 + b
        omega⟩ hl _ hheap X2
  exact ⟨t, step t t1, t2⟩
end TC
