/-! the law -/
section W1
variable {nm : String} {b L : Nat} {xs : Nat → Int32} {cu su pc i : Nat} {ls : List (Nat × Value)} {st : List Value} {h A B : XH} {u : MSt}
def M_L_law (nm : String) : XM := (({ cls := R_law, name := nm, desc := "([I)Z" } : MethodName), (code, (maxLocals, (ret, room_1))))
def lwE (b L : Nat) (xs : Nat → Int32) : XE := fun G s => G.2.1 = b ∧ va_X b L xs s s.heap ∧ b < s.heap.size ∧ G.1 = s.heap.size
def lwZ : XZ := fun _ below args s => lw_Z below args s
theorem lwE_A {G : XG} {s : State} (hE : lwE b L xs G s) : ¬ x_A G b := by
  show ¬ G.1 ≤ b
  rw [hE.2.2.2]
  exact Nat.not_le.mpr hE.2.2.1
theorem T_slen {y : UInt32} (hd : decode (M_L_law nm).2.1 pc = .ok (.arraylength, 1)) (k : T (M_L_law nm) (lwE b L xs) lwZ cu su (pc + 1) ls (.int (nI L) :: st) h) : T (M_L_law nm) (lwE b L xs) lwZ cu su pc ls (.float y :: st) h := by
  intro p l e G s m args below meth c H locs rls C hE hat hS hl
  have kk := k p l e G s m args below meth c H locs rls C hE hat hS hl
  show W p l e (M_L_law nm).2.2.2.2 s m args below meth c H locs cu su (lwZ G below args s) (F0 m pc rls (.ref G.2.1 :: st.map (x_mv G)))
  rw [hE.1]
  exact va_slen C.1 C.2.1 hE.2.1 hE.2.2.1 (lwE_A hE) hS hd kk
theorem T_sld {y : UInt32} {j : Nat} (hd : decode (M_L_law nm).2.1 pc = .ok (.iaload, 1)) (hj : j < L) (hL : L < 2 ^ 31) (k : T (M_L_law nm) (lwE b L xs) lwZ cu su (pc + 1) ls (.int (xs j) :: st) h) : T (M_L_law nm) (lwE b L xs) lwZ cu su pc ls (.int (nI j) :: .float y :: st) h := by
  intro p l e G s m args below meth c H locs rls C hE hat hS hl
  have kk := k p l e G s m args below meth c H locs rls C hE hat hS hl
  show W p l e (M_L_law nm).2.2.2.2 s m args below meth c H locs cu su (lwZ G below args s) (F0 m pc rls (.int (nI j) :: .ref G.2.1 :: st.map (x_mv G)))
  rw [hE.1]
  exact va_sld C.1 C.2.1 hE.2.1 hE.2.2.1 (lwE_A hE) hS (vp_in_nI hj hL) hd (by rw [nI_clamp (by omega)]; exact kk)
theorem T_lend (hd : decode (M_L_law nm).2.1 pc = .ok (.ireturn, 1)) (h1 : cu ≤ 600000) (h2 : su ≤ 7302250) : T (M_L_law nm) (lwE b L xs) lwZ cu su pc ls [.int 1] h := by
  intro p l e G s m args below meth c H locs rls C hE hat hS hl
  refine va_forget (fun q hq => ?_) ?_
  · have : G.1 ≤ q.base := hS.2.2 q hq
    rw [hE.2.2.2] at this
    exact this
  · refine W.widen (k := 600000) (n := 7302250) h1 h2 ?_
    exact lw_ret2 C.1 C.2.1 C.2.2.1 C.2.2.2.2.2.2.1 hd
theorem T_widL {M : XM} {E : XE} {Z : XZ} {cu su cu2 su2 : Nat} (h1 : cu ≤ cu2) (h2 : su ≤ su2) (k : T M E Z cu2 su2 pc ls st h) : T M E Z cu su pc ls st h := by
  intro p l e G s m args below meth c H locs rls C hE hat hS hl
  exact W.widen h1 h2 (k p l e G s m args below meth c H locs rls C hE hat hS hl)
theorem xc_r (r : Option Value) : x_cats (x_res r []) ≤ 8 := by
  cases r with
  | none => exact Nat.zero_le _
  | some v => cases v <;> exact Nat.le_of_ble_eq_true rfl
theorem cmp_self (v : Int64) : lg_cmp v v = 0 := by
  unfold lg_cmp
  simp
theorem Inv.x0 (I : Inv A u B) : ∃ fs, (mH A u B)[0]? = some (.inr (11, fs)) := by
  obtain ⟨wy, nw, wt, sp, isl, bp, L, wn, nr, rb, rh, rc, ln, sz, g, p⟩ := I.2
  exact ⟨_, p.1.1.1⟩
theorem lc_lake (I : Inv A u B) (hi : i + 6 ≤ L) (hL : L ≤ 384) (hc : cu + 3 ≤ 600000) (hs : su + 9 ≤ 7302250) (K : ∀ A2 u2 B2, Inv A2 u2 B2 → T (M_L_law nm) (lwE b L xs) lwZ (cu + 3) (su + 9) 1121 [(0, .float 0), (1, .ref 0), (2, .ref 67), (3, .int (nI i))] [] (mH A2 u2 B2)) : T (M_L_law nm) (lwE b L xs) lwZ cu su 148 [(0, .float 0), (1, .ref 0), (2, .ref 67), (3, .int (nI i))] [] (mH A u B) := by
  obtain ⟨fs, hx⟩ := I.x0
  obtain ⟨Rf, c1, c2, cv⟩ := p_lake I (xs (i + 1)) (xs (i + 2)) (xs (i + 3)) (xs (i + 4))
  refine T_aload_n dL_law_148 rfl ?_
  refine T_aload_nS dL_law_149 rfl ?_
  refine T_iload_n dL_law_150 rfl ?_
  refine T_iconst (v := nI 1) dL_law_151 (by decide) ?_
  refine T_iaddN dL_law_152 ?_
  refine T_sld dL_law_153 (by omega) (by omega) ?_
  refine T_aload_nS dL_law_154 rfl ?_
  refine T_iload_n dL_law_155 rfl ?_
  refine T_iconst (v := nI 2) dL_law_156 (by decide) ?_
  refine T_iaddN dL_law_157 ?_
  refine T_sld dL_law_158 (by omega) (by omega) ?_
  refine T_aload_nS dL_law_159 rfl ?_
  refine T_iload_n dL_law_160 rfl ?_
  refine T_iconst (v := nI 3) dL_law_161 (by decide) ?_
  refine T_iaddN dL_law_162 ?_
  refine T_sld dL_law_163 (by omega) (by omega) ?_
  refine T_aload_nS dL_law_164 rfl ?_
  refine T_iload_n dL_law_165 rfl ?_
  refine T_iconst (v := nI 4) dL_law_166 (by decide) ?_
  refine T_iaddN dL_law_167 ?_
  refine T_sld dL_law_168 (by omega) (by omega) ?_
  refine T_v4q (cu2 := cu + 3) (su2 := su + 9) dL_law_169 lv_L_13 rfl hx rfl c1 (nb rfl) (Nat.add_le_add_left (nb rfl) cu) (Nat.add_le_add_left (nb rfl) su) hc hs (fun r1 h1 q1 => ?_)
  obtain ⟨g1, q1⟩ := q1
  obtain ⟨A1, B1, hA1, rfl⟩ := mH_of I.1 g1
  refine T_aload_n dL_law_172 rfl ?_
  refine T_aload_nS dL_law_173 rfl ?_
  refine T_iload_n dL_law_174 rfl ?_
  refine T_iconst (v := nI 1) dL_law_175 (by decide) ?_
  refine T_iaddN dL_law_176 ?_
  refine T_sld dL_law_177 (by omega) (by omega) ?_
  refine T_aload_nS dL_law_178 rfl ?_
  refine T_iload_n dL_law_179 rfl ?_
  refine T_iconst (v := nI 2) dL_law_180 (by decide) ?_
  refine T_iaddN dL_law_181 ?_
  refine T_sld dL_law_182 (by omega) (by omega) ?_
  refine T_aload_nS dL_law_183 rfl ?_
  refine T_iload_n dL_law_184 rfl ?_
  refine T_iconst (v := nI 3) dL_law_185 (by decide) ?_
  refine T_iaddN dL_law_186 ?_
  refine T_sld dL_law_187 (by omega) (by omega) ?_
  refine T_aload_nS dL_law_188 rfl ?_
  refine T_iload_n dL_law_189 rfl ?_
  refine T_iconst (v := nI 4) dL_law_190 (by decide) ?_
  refine T_iaddN dL_law_191 ?_
  refine T_sld dL_law_192 (by omega) (by omega) ?_
  refine T_v4q (cu2 := cu + 3) (su2 := su + 9) dL_law_193 lv_L_17 rfl (mH_get (k := 0) hA1 rfl) rfl (c2 A1 B1 hA1) (xc_r r1) (Nat.le_refl _) (Nat.le_refl _) hc hs (fun r2 h2 q2 => ?_)
  obtain ⟨u2, rfl, hR⟩ := q2
  obtain ⟨rfl, hs2⟩ := q1 r2 u2 hR
  obtain ⟨w, rfl, v, rfl⟩ := cv _ _ hR
  exact T_icmp_eq (tgt := 1121) dL_law_196 (by decide) (fun _ => K _ _ _ (inv_ag hA1 hs2)) (fun c => absurd rfl c)
theorem lc_ofBoat (I : Inv A u B) (hi : i + 6 ≤ L) (hL : L ≤ 384) (hc : cu + 3 ≤ 600000) (hs : su + 9 ≤ 7302250) (K : ∀ A2 u2 B2, Inv A2 u2 B2 → T (M_L_law nm) (lwE b L xs) lwZ (cu + 3) (su + 9) 1121 [(0, .float 0), (1, .ref 0), (2, .ref 67), (3, .int (nI i))] [] (mH A2 u2 B2)) : T (M_L_law nm) (lwE b L xs) lwZ cu su 201 [(0, .float 0), (1, .ref 0), (2, .ref 67), (3, .int (nI i))] [] (mH A u B) := by
  obtain ⟨fs, hx⟩ := I.x0
  obtain ⟨Rf, c1, c2, cv⟩ := p_ofBoat I (xs (i + 1)) (xs (i + 2))
  refine T_aload_n dL_law_201 rfl ?_
  refine T_aload_nS dL_law_202 rfl ?_
  refine T_iload_n dL_law_203 rfl ?_
  refine T_iconst (v := nI 1) dL_law_204 (by decide) ?_
  refine T_iaddN dL_law_205 ?_
  refine T_sld dL_law_206 (by omega) (by omega) ?_
  refine T_aload_nS dL_law_207 rfl ?_
  refine T_iload_n dL_law_208 rfl ?_
  refine T_iconst (v := nI 2) dL_law_209 (by decide) ?_
  refine T_iaddN dL_law_210 ?_
  refine T_sld dL_law_211 (by omega) (by omega) ?_
  refine T_v2q (cu2 := cu + 3) (su2 := su + 9) dL_law_212 lv_L_18 rfl hx rfl c1 (nb rfl) (Nat.add_le_add_left (nb rfl) cu) (Nat.add_le_add_left (nb rfl) su) hc hs (fun r1 h1 q1 => ?_)
  obtain ⟨g1, q1⟩ := q1
  obtain ⟨A1, B1, hA1, rfl⟩ := mH_of I.1 g1
  refine T_aload_n dL_law_215 rfl ?_
  refine T_aload_nS dL_law_216 rfl ?_
  refine T_iload_n dL_law_217 rfl ?_
  refine T_iconst (v := nI 1) dL_law_218 (by decide) ?_
  refine T_iaddN dL_law_219 ?_
  refine T_sld dL_law_220 (by omega) (by omega) ?_
  refine T_aload_nS dL_law_221 rfl ?_
  refine T_iload_n dL_law_222 rfl ?_
  refine T_iconst (v := nI 2) dL_law_223 (by decide) ?_
  refine T_iaddN dL_law_224 ?_
  refine T_sld dL_law_225 (by omega) (by omega) ?_
  refine T_v2q (cu2 := cu + 3) (su2 := su + 9) dL_law_226 lv_L_22 rfl (mH_get (k := 0) hA1 rfl) rfl (c2 A1 B1 hA1) (xc_r r1) (Nat.le_refl _) (Nat.le_refl _) hc hs (fun r2 h2 q2 => ?_)
  obtain ⟨u2, rfl, hR⟩ := q2
  obtain ⟨rfl, hs2⟩ := q1 r2 u2 hR
  obtain ⟨w, rfl, v, rfl⟩ := cv _ _ hR
  exact T_icmp_eq (tgt := 1121) dL_law_229 (by decide) (fun _ => K _ _ _ (inv_ag hA1 hs2)) (fun c => absurd rfl c)
theorem lc_wind (I : Inv A u B) (hi : i + 6 ≤ L) (hL : L ≤ 384) (hc : cu + 3 ≤ 600000) (hs : su + 9 ≤ 7302250) (K : ∀ A2 u2 B2, Inv A2 u2 B2 → T (M_L_law nm) (lwE b L xs) lwZ (cu + 3) (su + 9) 1121 [(0, .float 0), (1, .ref 0), (2, .ref 67), (3, .int (nI i))] [] (mH A2 u2 B2)) : T (M_L_law nm) (lwE b L xs) lwZ cu su 234 [(0, .float 0), (1, .ref 0), (2, .ref 67), (3, .int (nI i))] [] (mH A u B) := by
  obtain ⟨fs, hx⟩ := I.x0
  obtain ⟨Rf, c1, c2, cv⟩ := p_wind I (xs (i + 1)) (xs (i + 2))
  refine T_aload_n dL_law_234 rfl ?_
  refine T_aload_nS dL_law_235 rfl ?_
  refine T_iload_n dL_law_236 rfl ?_
  refine T_iconst (v := nI 1) dL_law_237 (by decide) ?_
  refine T_iaddN dL_law_238 ?_
  refine T_sld dL_law_239 (by omega) (by omega) ?_
  refine T_aload_nS dL_law_240 rfl ?_
  refine T_iload_n dL_law_241 rfl ?_
  refine T_iconst (v := nI 2) dL_law_242 (by decide) ?_
  refine T_iaddN dL_law_243 ?_
  refine T_sld dL_law_244 (by omega) (by omega) ?_
  refine T_v2q (cu2 := cu + 3) (su2 := su + 9) dL_law_245 lv_L_23 rfl hx rfl c1 (nb rfl) (Nat.add_le_add_left (nb rfl) cu) (Nat.add_le_add_left (nb rfl) su) hc hs (fun r1 h1 q1 => ?_)
  obtain ⟨g1, q1⟩ := q1
  obtain ⟨A1, B1, hA1, rfl⟩ := mH_of I.1 g1
  refine T_aload_n dL_law_248 rfl ?_
  refine T_aload_nS dL_law_249 rfl ?_
  refine T_iload_n dL_law_250 rfl ?_
  refine T_iconst (v := nI 1) dL_law_251 (by decide) ?_
  refine T_iaddN dL_law_252 ?_
  refine T_sld dL_law_253 (by omega) (by omega) ?_
  refine T_aload_nS dL_law_254 rfl ?_
  refine T_iload_n dL_law_255 rfl ?_
  refine T_iconst (v := nI 2) dL_law_256 (by decide) ?_
  refine T_iaddN dL_law_257 ?_
  refine T_sld dL_law_258 (by omega) (by omega) ?_
  refine T_v2q (cu2 := cu + 3) (su2 := su + 9) dL_law_259 lv_L_26 rfl (mH_get (k := 0) hA1 rfl) rfl (c2 A1 B1 hA1) (xc_r r1) (Nat.le_refl _) (Nat.le_refl _) hc hs (fun r2 h2 q2 => ?_)
  obtain ⟨u2, rfl, hR⟩ := q2
  obtain ⟨rfl, hs2⟩ := q1 r2 u2 hR
  obtain ⟨w, rfl, v, rfl⟩ := cv _ _ hR
  exact T_icmp_eq (tgt := 1121) dL_law_262 (by decide) (fun _ => K _ _ _ (inv_ag hA1 hs2)) (fun c => absurd rfl c)
theorem lc_isle (I : Inv A u B) (hi : i + 6 ≤ L) (hL : L ≤ 384) (hc : cu + 3 ≤ 600000) (hs : su + 9 ≤ 7302250) (K : ∀ A2 u2 B2, Inv A2 u2 B2 → T (M_L_law nm) (lwE b L xs) lwZ (cu + 3) (su + 9) 1121 [(0, .float 0), (1, .ref 0), (2, .ref 67), (3, .int (nI i))] [] (mH A2 u2 B2)) : T (M_L_law nm) (lwE b L xs) lwZ cu su 267 [(0, .float 0), (1, .ref 0), (2, .ref 67), (3, .int (nI i))] [] (mH A u B) := by
  obtain ⟨fs, hx⟩ := I.x0
  by_cases z : xs (i + 2) = 0
  · skip
    obtain ⟨Rf, c1, c2, cv⟩ := p_isle I (xs (i + 1)) (b := 0) (by omega)
    refine T_aload_n dL_law_267 rfl ?_
    refine T_aload_nS dL_law_268 rfl ?_
    refine T_iload_n dL_law_269 rfl ?_
    refine T_iconst (v := nI 1) dL_law_270 (by decide) ?_
    refine T_iaddN dL_law_271 ?_
    refine T_sld dL_law_272 (by omega) (by omega) ?_
    refine T_aload_nS dL_law_273 rfl ?_
    refine T_iload_n dL_law_274 rfl ?_
    refine T_iconst (v := nI 2) dL_law_275 (by decide) ?_
    refine T_iaddN dL_law_276 ?_
    refine T_sld dL_law_277 (by omega) (by omega) ?_
    refine T_if_eq (tgt := 285) dL_law_278 (by decide) (fun _ => ?_) (fun c => absurd z c)
    refine T_iconst (v := nI 0) dL_law_285 (by decide) ?_
    refine T_v2q (cu2 := cu + 3) (su2 := su + 9) dL_law_286 lv_L_27 rfl hx rfl c1 (nb rfl) (Nat.add_le_add_left (nb rfl) cu) (Nat.add_le_add_left (nb rfl) su) hc hs (fun r1 h1 q1 => ?_)
    obtain ⟨g1, q1⟩ := q1
    obtain ⟨A1, B1, hA1, rfl⟩ := mH_of I.1 g1
    refine T_aload_n dL_law_289 rfl ?_
    refine T_aload_nS dL_law_290 rfl ?_
    refine T_iload_n dL_law_291 rfl ?_
    refine T_iconst (v := nI 1) dL_law_292 (by decide) ?_
    refine T_iaddN dL_law_293 ?_
    refine T_sld dL_law_294 (by omega) (by omega) ?_
    refine T_aload_nS dL_law_295 rfl ?_
    refine T_iload_n dL_law_296 rfl ?_
    refine T_iconst (v := nI 2) dL_law_297 (by decide) ?_
    refine T_iaddN dL_law_298 ?_
    refine T_sld dL_law_299 (by omega) (by omega) ?_
    refine T_if_eq (tgt := 307) dL_law_300 (by decide) (fun _ => ?_) (fun c => absurd z c)
    refine T_iconst (v := nI 0) dL_law_307 (by decide) ?_
    refine T_v2q (cu2 := cu + 3) (su2 := su + 9) dL_law_308 lv_L_31 rfl (mH_get (k := 0) hA1 rfl) rfl (c2 A1 B1 hA1) (xc_r r1) (Nat.le_refl _) (Nat.le_refl _) hc hs (fun r2 h2 q2 => ?_)
    obtain ⟨u2, rfl, hR⟩ := q2
    obtain ⟨rfl, hs2⟩ := q1 r2 u2 hR
    obtain ⟨w, rfl, v, rfl⟩ := cv _ _ hR
    exact T_icmp_eq (tgt := 1121) dL_law_311 (by decide) (fun _ => K _ _ _ (inv_ag hA1 hs2)) (fun c => absurd rfl c)
  · skip
    obtain ⟨Rf, c1, c2, cv⟩ := p_isle I (xs (i + 1)) (b := 1) (by omega)
    refine T_aload_n dL_law_267 rfl ?_
    refine T_aload_nS dL_law_268 rfl ?_
    refine T_iload_n dL_law_269 rfl ?_
    refine T_iconst (v := nI 1) dL_law_270 (by decide) ?_
    refine T_iaddN dL_law_271 ?_
    refine T_sld dL_law_272 (by omega) (by omega) ?_
    refine T_aload_nS dL_law_273 rfl ?_
    refine T_iload_n dL_law_274 rfl ?_
    refine T_iconst (v := nI 2) dL_law_275 (by decide) ?_
    refine T_iaddN dL_law_276 ?_
    refine T_sld dL_law_277 (by omega) (by omega) ?_
    refine T_if_eq (tgt := 285) dL_law_278 (by decide) (fun c => absurd c z) (fun _ => ?_)
    refine T_iconst (v := nI 1) dL_law_281 (by decide) ?_
    refine T_goto (tgt := 286) dL_law_282 (by decide) ?_
    refine T_v2q (cu2 := cu + 3) (su2 := su + 9) dL_law_286 lv_L_27 rfl hx rfl c1 (nb rfl) (Nat.add_le_add_left (nb rfl) cu) (Nat.add_le_add_left (nb rfl) su) hc hs (fun r1 h1 q1 => ?_)
    obtain ⟨g1, q1⟩ := q1
    obtain ⟨A1, B1, hA1, rfl⟩ := mH_of I.1 g1
    refine T_aload_n dL_law_289 rfl ?_
    refine T_aload_nS dL_law_290 rfl ?_
    refine T_iload_n dL_law_291 rfl ?_
    refine T_iconst (v := nI 1) dL_law_292 (by decide) ?_
    refine T_iaddN dL_law_293 ?_
    refine T_sld dL_law_294 (by omega) (by omega) ?_
    refine T_aload_nS dL_law_295 rfl ?_
    refine T_iload_n dL_law_296 rfl ?_
    refine T_iconst (v := nI 2) dL_law_297 (by decide) ?_
    refine T_iaddN dL_law_298 ?_
    refine T_sld dL_law_299 (by omega) (by omega) ?_
    refine T_if_eq (tgt := 307) dL_law_300 (by decide) (fun c => absurd c z) (fun _ => ?_)
    refine T_iconst (v := nI 1) dL_law_303 (by decide) ?_
    refine T_goto (tgt := 308) dL_law_304 (by decide) ?_
    refine T_v2q (cu2 := cu + 3) (su2 := su + 9) dL_law_308 lv_L_31 rfl (mH_get (k := 0) hA1 rfl) rfl (c2 A1 B1 hA1) (xc_r r1) (Nat.le_refl _) (Nat.le_refl _) hc hs (fun r2 h2 q2 => ?_)
    obtain ⟨u2, rfl, hR⟩ := q2
    obtain ⟨rfl, hs2⟩ := q1 r2 u2 hR
    obtain ⟨w, rfl, v, rfl⟩ := cv _ _ hR
    exact T_icmp_eq (tgt := 1121) dL_law_311 (by decide) (fun _ => K _ _ _ (inv_ag hA1 hs2)) (fun c => absurd rfl c)
theorem lc_plan (I : Inv A u B) (hi : i + 6 ≤ L) (hL : L ≤ 384) (hc : cu + 3 ≤ 600000) (hs : su + 9 ≤ 7302250) (K : ∀ A2 u2 B2, Inv A2 u2 B2 → T (M_L_law nm) (lwE b L xs) lwZ (cu + 3) (su + 9) 1121 [(0, .float 0), (1, .ref 0), (2, .ref 67), (3, .int (nI i))] [] (mH A2 u2 B2)) : T (M_L_law nm) (lwE b L xs) lwZ cu su 316 [(0, .float 0), (1, .ref 0), (2, .ref 67), (3, .int (nI i))] [] (mH A u B) := by
  obtain ⟨fs, hx⟩ := I.x0
  obtain ⟨Rf, c1, c2, cv⟩ := p_plan I (xs (i + 1)) (xs (i + 2)) (xs (i + 3)) (xs (i + 4)) (xs (i + 5))
  refine T_aload_n dL_law_316 rfl ?_
  refine T_aload_nS dL_law_317 rfl ?_
  refine T_iload_n dL_law_318 rfl ?_
  refine T_iconst (v := nI 1) dL_law_319 (by decide) ?_
  refine T_iaddN dL_law_320 ?_
  refine T_sld dL_law_321 (by omega) (by omega) ?_
  refine T_aload_nS dL_law_322 rfl ?_
  refine T_iload_n dL_law_323 rfl ?_
  refine T_iconst (v := nI 2) dL_law_324 (by decide) ?_
  refine T_iaddN dL_law_325 ?_
  refine T_sld dL_law_326 (by omega) (by omega) ?_
  refine T_aload_nS dL_law_327 rfl ?_
  refine T_iload_n dL_law_328 rfl ?_
  refine T_iconst (v := nI 3) dL_law_329 (by decide) ?_
  refine T_iaddN dL_law_330 ?_
  refine T_sld dL_law_331 (by omega) (by omega) ?_
  refine T_aload_nS dL_law_332 rfl ?_
  refine T_iload_n dL_law_333 rfl ?_
  refine T_iconst (v := nI 4) dL_law_334 (by decide) ?_
  refine T_iaddN dL_law_335 ?_
  refine T_sld dL_law_336 (by omega) (by omega) ?_
  refine T_aload_nS dL_law_337 rfl ?_
  refine T_iload_n dL_law_338 rfl ?_
  refine T_iconst (v := nI 5) dL_law_339 (by decide) ?_
  refine T_iaddN dL_law_340 ?_
  refine T_sld dL_law_341 (by omega) (by omega) ?_
  refine T_v5q (cu2 := cu + 3) (su2 := su + 9) dL_law_342 lv_L_32 rfl hx rfl c1 (nb rfl) (Nat.add_le_add_left (nb rfl) cu) (Nat.add_le_add_left (nb rfl) su) hc hs (fun r1 h1 q1 => ?_)
  obtain ⟨g1, q1⟩ := q1
  obtain ⟨A1, B1, hA1, rfl⟩ := mH_of I.1 g1
  refine T_aload_n dL_law_345 rfl ?_
  refine T_aload_nS dL_law_346 rfl ?_
  refine T_iload_n dL_law_347 rfl ?_
  refine T_iconst (v := nI 1) dL_law_348 (by decide) ?_
  refine T_iaddN dL_law_349 ?_
  refine T_sld dL_law_350 (by omega) (by omega) ?_
  refine T_aload_nS dL_law_351 rfl ?_
  refine T_iload_n dL_law_352 rfl ?_
  refine T_iconst (v := nI 2) dL_law_353 (by decide) ?_
  refine T_iaddN dL_law_354 ?_
  refine T_sld dL_law_355 (by omega) (by omega) ?_
  refine T_aload_nS dL_law_356 rfl ?_
  refine T_iload_n dL_law_357 rfl ?_
  refine T_iconst (v := nI 3) dL_law_358 (by decide) ?_
  refine T_iaddN dL_law_359 ?_
  refine T_sld dL_law_360 (by omega) (by omega) ?_
  refine T_aload_nS dL_law_361 rfl ?_
  refine T_iload_n dL_law_362 rfl ?_
  refine T_iconst (v := nI 4) dL_law_363 (by decide) ?_
  refine T_iaddN dL_law_364 ?_
  refine T_sld dL_law_365 (by omega) (by omega) ?_
  refine T_aload_nS dL_law_366 rfl ?_
  refine T_iload_n dL_law_367 rfl ?_
  refine T_iconst (v := nI 5) dL_law_368 (by decide) ?_
  refine T_iaddN dL_law_369 ?_
  refine T_sld dL_law_370 (by omega) (by omega) ?_
  refine T_v5q (cu2 := cu + 3) (su2 := su + 9) dL_law_371 lv_L_36 rfl (mH_get (k := 0) hA1 rfl) rfl (c2 A1 B1 hA1) (xc_r r1) (Nat.le_refl _) (Nat.le_refl _) hc hs (fun r2 h2 q2 => ?_)
  obtain ⟨u2, rfl, hR⟩ := q2
  obtain ⟨rfl, hs2⟩ := q1 r2 u2 hR
  obtain ⟨w, rfl, v, rfl⟩ := cv _ _ hR
  exact T_icmp_eq (tgt := 1121) dL_law_374 (by decide) (fun _ => K _ _ _ (inv_ag hA1 hs2)) (fun c => absurd rfl c)
theorem lc_soonest (I : Inv A u B) (hi : i + 6 ≤ L) (hL : L ≤ 384) (hc : cu + 3 ≤ 600000) (hs : su + 9 ≤ 7302250) (K : ∀ A2 u2 B2, Inv A2 u2 B2 → T (M_L_law nm) (lwE b L xs) lwZ (cu + 3) (su + 9) 1121 [(0, .float 0), (1, .ref 0), (2, .ref 67), (3, .int (nI i))] [] (mH A2 u2 B2)) : T (M_L_law nm) (lwE b L xs) lwZ cu su 379 [(0, .float 0), (1, .ref 0), (2, .ref 67), (3, .int (nI i))] [] (mH A u B) := by
  obtain ⟨fs, hx⟩ := I.x0
  obtain ⟨Rf, c1, c2, cv⟩ := p_soonest I (xs (i + 1))
  refine T_aload_n dL_law_379 rfl ?_
  refine T_aload_nS dL_law_380 rfl ?_
  refine T_iload_n dL_law_381 rfl ?_
  refine T_iconst (v := nI 1) dL_law_382 (by decide) ?_
  refine T_iaddN dL_law_383 ?_
  refine T_sld dL_law_384 (by omega) (by omega) ?_
  refine T_v1q (cu2 := cu + 3) (su2 := su + 9) dL_law_385 lv_L_37 rfl hx rfl c1 (nb rfl) (Nat.add_le_add_left (nb rfl) cu) (Nat.add_le_add_left (nb rfl) su) hc hs (fun r1 h1 q1 => ?_)
  obtain ⟨g1, q1⟩ := q1
  obtain ⟨A1, B1, hA1, rfl⟩ := mH_of I.1 g1
  refine T_aload_n dL_law_388 rfl ?_
  refine T_aload_nS dL_law_389 rfl ?_
  refine T_iload_n dL_law_390 rfl ?_
  refine T_iconst (v := nI 1) dL_law_391 (by decide) ?_
  refine T_iaddN dL_law_392 ?_
  refine T_sld dL_law_393 (by omega) (by omega) ?_
  refine T_v1q (cu2 := cu + 3) (su2 := su + 9) dL_law_394 lv_L_41 rfl (mH_get (k := 0) hA1 rfl) rfl (c2 A1 B1 hA1) (xc_r r1) (Nat.le_refl _) (Nat.le_refl _) hc hs (fun r2 h2 q2 => ?_)
  obtain ⟨u2, rfl, hR⟩ := q2
  obtain ⟨rfl, hs2⟩ := q1 r2 u2 hR
  obtain ⟨w, rfl, v, rfl⟩ := cv _ _ hR
  exact T_icmp_eq (tgt := 1121) dL_law_397 (by decide) (fun _ => K _ _ _ (inv_ag hA1 hs2)) (fun c => absurd rfl c)
theorem lc_hats (I : Inv A u B) (hi : i + 6 ≤ L) (hL : L ≤ 384) (hc : cu + 3 ≤ 600000) (hs : su + 9 ≤ 7302250) (K : ∀ A2 u2 B2, Inv A2 u2 B2 → T (M_L_law nm) (lwE b L xs) lwZ (cu + 3) (su + 9) 1121 [(0, .float 0), (1, .ref 0), (2, .ref 67), (3, .int (nI i))] [] (mH A2 u2 B2)) : T (M_L_law nm) (lwE b L xs) lwZ cu su 402 [(0, .float 0), (1, .ref 0), (2, .ref 67), (3, .int (nI i))] [] (mH A u B) := by
  obtain ⟨fs, hx⟩ := I.x0
  obtain ⟨Rf, c1, c2, cv⟩ := p_hats I (xs (i + 1)) (xs (i + 2))
  refine T_aload_n dL_law_402 rfl ?_
  refine T_aload_nS dL_law_403 rfl ?_
  refine T_iload_n dL_law_404 rfl ?_
  refine T_iconst (v := nI 1) dL_law_405 (by decide) ?_
  refine T_iaddN dL_law_406 ?_
  refine T_sld dL_law_407 (by omega) (by omega) ?_
  refine T_aload_nS dL_law_408 rfl ?_
  refine T_iload_n dL_law_409 rfl ?_
  refine T_iconst (v := nI 2) dL_law_410 (by decide) ?_
  refine T_iaddN dL_law_411 ?_
  refine T_sld dL_law_412 (by omega) (by omega) ?_
  refine T_v2q (cu2 := cu + 3) (su2 := su + 9) dL_law_413 lv_L_42 rfl hx rfl c1 (nb rfl) (Nat.add_le_add_left (nb rfl) cu) (Nat.add_le_add_left (nb rfl) su) hc hs (fun r1 h1 q1 => ?_)
  obtain ⟨g1, q1⟩ := q1
  obtain ⟨A1, B1, hA1, rfl⟩ := mH_of I.1 g1
  refine T_aload_n dL_law_416 rfl ?_
  refine T_aload_nS dL_law_417 rfl ?_
  refine T_iload_n dL_law_418 rfl ?_
  refine T_iconst (v := nI 1) dL_law_419 (by decide) ?_
  refine T_iaddN dL_law_420 ?_
  refine T_sld dL_law_421 (by omega) (by omega) ?_
  refine T_aload_nS dL_law_422 rfl ?_
  refine T_iload_n dL_law_423 rfl ?_
  refine T_iconst (v := nI 2) dL_law_424 (by decide) ?_
  refine T_iaddN dL_law_425 ?_
  refine T_sld dL_law_426 (by omega) (by omega) ?_
  refine T_v2q (cu2 := cu + 3) (su2 := su + 9) dL_law_427 lv_L_45 rfl (mH_get (k := 0) hA1 rfl) rfl (c2 A1 B1 hA1) (xc_r r1) (Nat.le_refl _) (Nat.le_refl _) hc hs (fun r2 h2 q2 => ?_)
  obtain ⟨u2, rfl, hR⟩ := q2
  obtain ⟨rfl, hs2⟩ := q1 r2 u2 hR
  obtain ⟨w, rfl, v, rfl⟩ := cv _ _ hR
  exact T_icmp_eq (tgt := 1121) dL_law_430 (by decide) (fun _ => K _ _ _ (inv_ag hA1 hs2)) (fun c => absurd rfl c)
theorem lc_rid (I : Inv A u B) (hi : i + 6 ≤ L) (hL : L ≤ 384) (hc : cu + 3 ≤ 600000) (hs : su + 9 ≤ 7302250) (K : ∀ A2 u2 B2, Inv A2 u2 B2 → T (M_L_law nm) (lwE b L xs) lwZ (cu + 3) (su + 9) 1121 [(0, .float 0), (1, .ref 0), (2, .ref 67), (3, .int (nI i))] [] (mH A2 u2 B2)) : T (M_L_law nm) (lwE b L xs) lwZ cu su 435 [(0, .float 0), (1, .ref 0), (2, .ref 67), (3, .int (nI i))] [] (mH A u B) := by
  obtain ⟨fs, hx⟩ := I.x0
  obtain ⟨Rf, c1, c2, cv⟩ := p_rid I (xs (i + 1))
  refine T_aload_n dL_law_435 rfl ?_
  refine T_aload_nS dL_law_436 rfl ?_
  refine T_iload_n dL_law_437 rfl ?_
  refine T_iconst (v := nI 1) dL_law_438 (by decide) ?_
  refine T_iaddN dL_law_439 ?_
  refine T_sld dL_law_440 (by omega) (by omega) ?_
  refine T_v1q (cu2 := cu + 3) (su2 := su + 9) dL_law_441 lv_L_46 rfl hx rfl c1 (nb rfl) (Nat.add_le_add_left (nb rfl) cu) (Nat.add_le_add_left (nb rfl) su) hc hs (fun r1 h1 q1 => ?_)
  obtain ⟨g1, q1⟩ := q1
  obtain ⟨A1, B1, hA1, rfl⟩ := mH_of I.1 g1
  refine T_aload_n dL_law_444 rfl ?_
  refine T_aload_nS dL_law_445 rfl ?_
  refine T_iload_n dL_law_446 rfl ?_
  refine T_iconst (v := nI 1) dL_law_447 (by decide) ?_
  refine T_iaddN dL_law_448 ?_
  refine T_sld dL_law_449 (by omega) (by omega) ?_
  refine T_v1q (cu2 := cu + 3) (su2 := su + 9) dL_law_450 lv_L_49 rfl (mH_get (k := 0) hA1 rfl) rfl (c2 A1 B1 hA1) (xc_r r1) (Nat.le_refl _) (Nat.le_refl _) hc hs (fun r2 h2 q2 => ?_)
  obtain ⟨u2, rfl, hR⟩ := q2
  obtain ⟨rfl, hs2⟩ := q1 r2 u2 hR
  obtain ⟨w, rfl, v, rfl⟩ := cv _ _ hR
  exact T_icmp_eq (tgt := 1121) dL_law_453 (by decide) (fun _ => K _ _ _ (inv_ag hA1 hs2)) (fun c => absurd rfl c)
theorem lc_reading (I : Inv A u B) (hi : i + 6 ≤ L) (hL : L ≤ 384) (hc : cu + 3 ≤ 600000) (hs : su + 9 ≤ 7302250) (K : ∀ A2 u2 B2, Inv A2 u2 B2 → T (M_L_law nm) (lwE b L xs) lwZ (cu + 3) (su + 9) 1121 [(0, .float 0), (1, .ref 0), (2, .ref 67), (3, .int (nI i))] [] (mH A2 u2 B2)) : T (M_L_law nm) (lwE b L xs) lwZ cu su 458 [(0, .float 0), (1, .ref 0), (2, .ref 67), (3, .int (nI i))] [] (mH A u B) := by
  obtain ⟨fs, hx⟩ := I.x0
  obtain ⟨Rf, c1, c2, cv⟩ := p_reading I (xs (i + 1)) (xs (i + 2)) (xs (i + 3))
  refine T_aload_n dL_law_458 rfl ?_
  refine T_aload_nS dL_law_459 rfl ?_
  refine T_iload_n dL_law_460 rfl ?_
  refine T_iconst (v := nI 1) dL_law_461 (by decide) ?_
  refine T_iaddN dL_law_462 ?_
  refine T_sld dL_law_463 (by omega) (by omega) ?_
  refine T_aload_nS dL_law_464 rfl ?_
  refine T_iload_n dL_law_465 rfl ?_
  refine T_iconst (v := nI 2) dL_law_466 (by decide) ?_
  refine T_iaddN dL_law_467 ?_
  refine T_sld dL_law_468 (by omega) (by omega) ?_
  refine T_aload_nS dL_law_469 rfl ?_
  refine T_iload_n dL_law_470 rfl ?_
  refine T_iconst (v := nI 3) dL_law_471 (by decide) ?_
  refine T_iaddN dL_law_472 ?_
  refine T_sld dL_law_473 (by omega) (by omega) ?_
  refine T_v3q (cu2 := cu + 3) (su2 := su + 9) dL_law_474 lv_L_50 rfl hx rfl c1 (nb rfl) (Nat.add_le_add_left (nb rfl) cu) (Nat.add_le_add_left (nb rfl) su) hc hs (fun r1 h1 q1 => ?_)
  obtain ⟨g1, q1⟩ := q1
  obtain ⟨A1, B1, hA1, rfl⟩ := mH_of I.1 g1
  refine T_aload_n dL_law_477 rfl ?_
  refine T_aload_nS dL_law_478 rfl ?_
  refine T_iload_n dL_law_479 rfl ?_
  refine T_iconst (v := nI 1) dL_law_480 (by decide) ?_
  refine T_iaddN dL_law_481 ?_
  refine T_sld dL_law_482 (by omega) (by omega) ?_
  refine T_aload_nS dL_law_483 rfl ?_
  refine T_iload_n dL_law_484 rfl ?_
  refine T_iconst (v := nI 2) dL_law_485 (by decide) ?_
  refine T_iaddN dL_law_486 ?_
  refine T_sld dL_law_487 (by omega) (by omega) ?_
  refine T_aload_nS dL_law_488 rfl ?_
  refine T_iload_n dL_law_489 rfl ?_
  refine T_iconst (v := nI 3) dL_law_490 (by decide) ?_
  refine T_iaddN dL_law_491 ?_
  refine T_sld dL_law_492 (by omega) (by omega) ?_
  refine T_v3q (cu2 := cu + 3) (su2 := su + 9) dL_law_493 lv_L_54 rfl (mH_get (k := 0) hA1 rfl) rfl (c2 A1 B1 hA1) (xc_r r1) (Nat.le_refl _) (Nat.le_refl _) hc hs (fun r2 h2 q2 => ?_)
  obtain ⟨u2, rfl, hR⟩ := q2
  obtain ⟨rfl, hs2⟩ := q1 r2 u2 hR
  obtain ⟨w, rfl, v, rfl⟩ := cv _ _ hR
  exact T_icmp_eq (tgt := 1121) dL_law_496 (by decide) (fun _ => K _ _ _ (inv_ag hA1 hs2)) (fun c => absurd rfl c)
theorem lc_back (I : Inv A u B) (hi : i + 6 ≤ L) (hL : L ≤ 384) (hc : cu + 3 ≤ 600000) (hs : su + 9 ≤ 7302250) (K : ∀ A2 u2 B2, Inv A2 u2 B2 → T (M_L_law nm) (lwE b L xs) lwZ (cu + 3) (su + 9) 1121 [(0, .float 0), (1, .ref 0), (2, .ref 67), (3, .int (nI i))] [] (mH A2 u2 B2)) : T (M_L_law nm) (lwE b L xs) lwZ cu su 501 [(0, .float 0), (1, .ref 0), (2, .ref 67), (3, .int (nI i))] [] (mH A u B) := by
  obtain ⟨fs, hx⟩ := I.x0
  obtain ⟨Rf, c1, c2, cv⟩ := p_back I (xs (i + 1))
  refine T_aload_n dL_law_501 rfl ?_
  refine T_aload_nS dL_law_502 rfl ?_
  refine T_iload_n dL_law_503 rfl ?_
  refine T_iconst (v := nI 1) dL_law_504 (by decide) ?_
  refine T_iaddN dL_law_505 ?_
  refine T_sld dL_law_506 (by omega) (by omega) ?_
  refine T_v1q (cu2 := cu + 3) (su2 := su + 9) dL_law_507 lv_L_55 rfl hx rfl c1 (nb rfl) (Nat.add_le_add_left (nb rfl) cu) (Nat.add_le_add_left (nb rfl) su) hc hs (fun r1 h1 q1 => ?_)
  obtain ⟨g1, q1⟩ := q1
  obtain ⟨A1, B1, hA1, rfl⟩ := mH_of I.1 g1
  refine T_aload_n dL_law_510 rfl ?_
  refine T_aload_nS dL_law_511 rfl ?_
  refine T_iload_n dL_law_512 rfl ?_
  refine T_iconst (v := nI 1) dL_law_513 (by decide) ?_
  refine T_iaddN dL_law_514 ?_
  refine T_sld dL_law_515 (by omega) (by omega) ?_
  refine T_v1q (cu2 := cu + 3) (su2 := su + 9) dL_law_516 lv_L_58 rfl (mH_get (k := 0) hA1 rfl) rfl (c2 A1 B1 hA1) (xc_r r1) (Nat.le_refl _) (Nat.le_refl _) hc hs (fun r2 h2 q2 => ?_)
  obtain ⟨u2, rfl, hR⟩ := q2
  obtain ⟨rfl, hs2⟩ := q1 r2 u2 hR
  obtain ⟨w, rfl, v, rfl⟩ := cv _ _ hR
  exact T_icmp_eq (tgt := 1121) dL_law_519 (by decide) (fun _ => K _ _ _ (inv_ag hA1 hs2)) (fun c => absurd rfl c)
theorem lc_winds (I : Inv A u B) (hi : i + 6 ≤ L) (hL : L ≤ 384) (hc : cu + 3 ≤ 600000) (hs : su + 9 ≤ 7302250) (K : ∀ A2 u2 B2, Inv A2 u2 B2 → T (M_L_law nm) (lwE b L xs) lwZ (cu + 3) (su + 9) 1121 [(0, .float 0), (1, .ref 0), (2, .ref 67), (3, .int (nI i))] [] (mH A2 u2 B2)) : T (M_L_law nm) (lwE b L xs) lwZ cu su 524 [(0, .float 0), (1, .ref 0), (2, .ref 67), (3, .int (nI i))] [] (mH A u B) := by
  obtain ⟨fs, hx⟩ := I.x0
  obtain ⟨Rf, c1, c2, cv⟩ := p_winds I (xs (i + 1)) (xs (i + 2)) (xs (i + 3)) (xs (i + 4)) (xs (i + 5))
  refine T_aload_n dL_law_524 rfl ?_
  refine T_aload_nS dL_law_525 rfl ?_
  refine T_iload_n dL_law_526 rfl ?_
  refine T_iconst (v := nI 1) dL_law_527 (by decide) ?_
  refine T_iaddN dL_law_528 ?_
  refine T_sld dL_law_529 (by omega) (by omega) ?_
  refine T_aload_nS dL_law_530 rfl ?_
  refine T_iload_n dL_law_531 rfl ?_
  refine T_iconst (v := nI 2) dL_law_532 (by decide) ?_
  refine T_iaddN dL_law_533 ?_
  refine T_sld dL_law_534 (by omega) (by omega) ?_
  refine T_aload_nS dL_law_535 rfl ?_
  refine T_iload_n dL_law_536 rfl ?_
  refine T_iconst (v := nI 3) dL_law_537 (by decide) ?_
  refine T_iaddN dL_law_538 ?_
  refine T_sld dL_law_539 (by omega) (by omega) ?_
  refine T_aload_nS dL_law_540 rfl ?_
  refine T_iload_n dL_law_541 rfl ?_
  refine T_iconst (v := nI 4) dL_law_542 (by decide) ?_
  refine T_iaddN dL_law_543 ?_
  refine T_sld dL_law_544 (by omega) (by omega) ?_
  refine T_aload_nS dL_law_545 rfl ?_
  refine T_iload_n dL_law_546 rfl ?_
  refine T_iconst (v := nI 5) dL_law_547 (by decide) ?_
  refine T_iaddN dL_law_548 ?_
  refine T_sld dL_law_549 (by omega) (by omega) ?_
  refine T_v5q (cu2 := cu + 3) (su2 := su + 9) dL_law_550 lv_L_59 rfl hx rfl c1 (nb rfl) (Nat.add_le_add_left (nb rfl) cu) (Nat.add_le_add_left (nb rfl) su) hc hs (fun r1 h1 q1 => ?_)
  obtain ⟨g1, q1⟩ := q1
  obtain ⟨A1, B1, hA1, rfl⟩ := mH_of I.1 g1
  refine T_aload_n dL_law_553 rfl ?_
  refine T_aload_nS dL_law_554 rfl ?_
  refine T_iload_n dL_law_555 rfl ?_
  refine T_iconst (v := nI 1) dL_law_556 (by decide) ?_
  refine T_iaddN dL_law_557 ?_
  refine T_sld dL_law_558 (by omega) (by omega) ?_
  refine T_aload_nS dL_law_559 rfl ?_
  refine T_iload_n dL_law_560 rfl ?_
  refine T_iconst (v := nI 2) dL_law_561 (by decide) ?_
  refine T_iaddN dL_law_562 ?_
  refine T_sld dL_law_563 (by omega) (by omega) ?_
  refine T_aload_nS dL_law_564 rfl ?_
  refine T_iload_n dL_law_565 rfl ?_
  refine T_iconst (v := nI 3) dL_law_566 (by decide) ?_
  refine T_iaddN dL_law_567 ?_
  refine T_sld dL_law_568 (by omega) (by omega) ?_
  refine T_aload_nS dL_law_569 rfl ?_
  refine T_iload_n dL_law_570 rfl ?_
  refine T_iconst (v := nI 4) dL_law_571 (by decide) ?_
  refine T_iaddN dL_law_572 ?_
  refine T_sld dL_law_573 (by omega) (by omega) ?_
  refine T_aload_nS dL_law_574 rfl ?_
  refine T_iload_n dL_law_575 rfl ?_
  refine T_iconst (v := nI 5) dL_law_576 (by decide) ?_
  refine T_iaddN dL_law_577 ?_
  refine T_sld dL_law_578 (by omega) (by omega) ?_
  refine T_v5q (cu2 := cu + 3) (su2 := su + 9) dL_law_579 lv_L_62 rfl (mH_get (k := 0) hA1 rfl) rfl (c2 A1 B1 hA1) (xc_r r1) (Nat.le_refl _) (Nat.le_refl _) hc hs (fun r2 h2 q2 => ?_)
  obtain ⟨u2, rfl, hR⟩ := q2
  obtain ⟨rfl, hs2⟩ := q1 r2 u2 hR
  obtain ⟨w, rfl, v, rfl⟩ := cv _ _ hR
  exact T_icmp_eq (tgt := 1121) dL_law_582 (by decide) (fun _ => K _ _ _ (inv_ag hA1 hs2)) (fun c => absurd rfl c)
theorem lc_kinds (I : Inv A u B) (hi : i + 6 ≤ L) (hL : L ≤ 384) (hc : cu + 3 ≤ 600000) (hs : su + 9 ≤ 7302250) (K : ∀ A2 u2 B2, Inv A2 u2 B2 → T (M_L_law nm) (lwE b L xs) lwZ (cu + 3) (su + 9) 1121 [(0, .float 0), (1, .ref 0), (2, .ref 67), (3, .int (nI i))] [] (mH A2 u2 B2)) : T (M_L_law nm) (lwE b L xs) lwZ cu su 587 [(0, .float 0), (1, .ref 0), (2, .ref 67), (3, .int (nI i))] [] (mH A u B) := by
  obtain ⟨fs, hx⟩ := I.x0
  obtain ⟨Rf, c1, c2, cv⟩ := p_kinds I (xs (i + 1)) (xs (i + 2)) (xs (i + 3)) (xs (i + 4)) (xs (i + 5))
  refine T_aload_n dL_law_587 rfl ?_
  refine T_aload_nS dL_law_588 rfl ?_
  refine T_iload_n dL_law_589 rfl ?_
  refine T_iconst (v := nI 1) dL_law_590 (by decide) ?_
  refine T_iaddN dL_law_591 ?_
  refine T_sld dL_law_592 (by omega) (by omega) ?_
  refine T_aload_nS dL_law_593 rfl ?_
  refine T_iload_n dL_law_594 rfl ?_
  refine T_iconst (v := nI 2) dL_law_595 (by decide) ?_
  refine T_iaddN dL_law_596 ?_
  refine T_sld dL_law_597 (by omega) (by omega) ?_
  refine T_aload_nS dL_law_598 rfl ?_
  refine T_iload_n dL_law_599 rfl ?_
  refine T_iconst (v := nI 3) dL_law_600 (by decide) ?_
  refine T_iaddN dL_law_601 ?_
  refine T_sld dL_law_602 (by omega) (by omega) ?_
  refine T_aload_nS dL_law_603 rfl ?_
  refine T_iload_n dL_law_604 rfl ?_
  refine T_iconst (v := nI 4) dL_law_605 (by decide) ?_
  refine T_iaddN dL_law_606 ?_
  refine T_sld dL_law_607 (by omega) (by omega) ?_
  refine T_aload_nS dL_law_608 rfl ?_
  refine T_iload_n dL_law_609 rfl ?_
  refine T_iconst (v := nI 5) dL_law_610 (by decide) ?_
  refine T_iaddN dL_law_611 ?_
  refine T_sld dL_law_612 (by omega) (by omega) ?_
  refine T_v5q (cu2 := cu + 3) (su2 := su + 9) dL_law_613 lv_L_63 rfl hx rfl c1 (nb rfl) (Nat.add_le_add_left (nb rfl) cu) (Nat.add_le_add_left (nb rfl) su) hc hs (fun r1 h1 q1 => ?_)
  obtain ⟨g1, q1⟩ := q1
  obtain ⟨A1, B1, hA1, rfl⟩ := mH_of I.1 g1
  refine T_aload_n dL_law_616 rfl ?_
  refine T_aload_nS dL_law_617 rfl ?_
  refine T_iload_n dL_law_618 rfl ?_
  refine T_iconst (v := nI 1) dL_law_619 (by decide) ?_
  refine T_iaddN dL_law_620 ?_
  refine T_sld dL_law_621 (by omega) (by omega) ?_
  refine T_aload_nS dL_law_622 rfl ?_
  refine T_iload_n dL_law_623 rfl ?_
  refine T_iconst (v := nI 2) dL_law_624 (by decide) ?_
  refine T_iaddN dL_law_625 ?_
  refine T_sld dL_law_626 (by omega) (by omega) ?_
  refine T_aload_nS dL_law_627 rfl ?_
  refine T_iload_n dL_law_628 rfl ?_
  refine T_iconst (v := nI 3) dL_law_629 (by decide) ?_
  refine T_iaddN dL_law_630 ?_
  refine T_sld dL_law_631 (by omega) (by omega) ?_
  refine T_aload_nS dL_law_632 rfl ?_
  refine T_iload_n dL_law_633 rfl ?_
  refine T_iconst (v := nI 4) dL_law_634 (by decide) ?_
  refine T_iaddN dL_law_635 ?_
  refine T_sld dL_law_636 (by omega) (by omega) ?_
  refine T_aload_nS dL_law_637 rfl ?_
  refine T_iload_n dL_law_638 rfl ?_
  refine T_iconst (v := nI 5) dL_law_639 (by decide) ?_
  refine T_iaddN dL_law_640 ?_
  refine T_sld dL_law_641 (by omega) (by omega) ?_
  refine T_v5q (cu2 := cu + 3) (su2 := su + 9) dL_law_642 lv_L_66 rfl (mH_get (k := 0) hA1 rfl) rfl (c2 A1 B1 hA1) (xc_r r1) (Nat.le_refl _) (Nat.le_refl _) hc hs (fun r2 h2 q2 => ?_)
  obtain ⟨u2, rfl, hR⟩ := q2
  obtain ⟨rfl, hs2⟩ := q1 r2 u2 hR
  obtain ⟨w, rfl, v, rfl⟩ := cv _ _ hR
  exact T_icmp_eq (tgt := 1121) dL_law_645 (by decide) (fun _ => K _ _ _ (inv_ag hA1 hs2)) (fun c => absurd rfl c)
theorem lc_speeds (I : Inv A u B) (hi : i + 6 ≤ L) (hL : L ≤ 384) (hc : cu + 3 ≤ 600000) (hs : su + 9 ≤ 7302250) (K : ∀ A2 u2 B2, Inv A2 u2 B2 → T (M_L_law nm) (lwE b L xs) lwZ (cu + 3) (su + 9) 1121 [(0, .float 0), (1, .ref 0), (2, .ref 67), (3, .int (nI i))] [] (mH A2 u2 B2)) : T (M_L_law nm) (lwE b L xs) lwZ cu su 650 [(0, .float 0), (1, .ref 0), (2, .ref 67), (3, .int (nI i))] [] (mH A u B) := by
  obtain ⟨fs, hx⟩ := I.x0
  obtain ⟨Rf, c1, c2, cv⟩ := p_speeds I (xs (i + 1)) (xs (i + 2)) (xs (i + 3)) (xs (i + 4)) (xs (i + 5))
  refine T_aload_n dL_law_650 rfl ?_
  refine T_aload_nS dL_law_651 rfl ?_
  refine T_iload_n dL_law_652 rfl ?_
  refine T_iconst (v := nI 1) dL_law_653 (by decide) ?_
  refine T_iaddN dL_law_654 ?_
  refine T_sld dL_law_655 (by omega) (by omega) ?_
  refine T_aload_nS dL_law_656 rfl ?_
  refine T_iload_n dL_law_657 rfl ?_
  refine T_iconst (v := nI 2) dL_law_658 (by decide) ?_
  refine T_iaddN dL_law_659 ?_
  refine T_sld dL_law_660 (by omega) (by omega) ?_
  refine T_aload_nS dL_law_661 rfl ?_
  refine T_iload_n dL_law_662 rfl ?_
  refine T_iconst (v := nI 3) dL_law_663 (by decide) ?_
  refine T_iaddN dL_law_664 ?_
  refine T_sld dL_law_665 (by omega) (by omega) ?_
  refine T_aload_nS dL_law_666 rfl ?_
  refine T_iload_n dL_law_667 rfl ?_
  refine T_iconst (v := nI 4) dL_law_668 (by decide) ?_
  refine T_iaddN dL_law_669 ?_
  refine T_sld dL_law_670 (by omega) (by omega) ?_
  refine T_aload_nS dL_law_671 rfl ?_
  refine T_iload_n dL_law_672 rfl ?_
  refine T_iconst (v := nI 5) dL_law_673 (by decide) ?_
  refine T_iaddN dL_law_674 ?_
  refine T_sld dL_law_675 (by omega) (by omega) ?_
  refine T_v5q (cu2 := cu + 3) (su2 := su + 9) dL_law_676 lv_L_67 rfl hx rfl c1 (nb rfl) (Nat.add_le_add_left (nb rfl) cu) (Nat.add_le_add_left (nb rfl) su) hc hs (fun r1 h1 q1 => ?_)
  obtain ⟨g1, q1⟩ := q1
  obtain ⟨A1, B1, hA1, rfl⟩ := mH_of I.1 g1
  refine T_aload_n dL_law_679 rfl ?_
  refine T_aload_nS dL_law_680 rfl ?_
  refine T_iload_n dL_law_681 rfl ?_
  refine T_iconst (v := nI 1) dL_law_682 (by decide) ?_
  refine T_iaddN dL_law_683 ?_
  refine T_sld dL_law_684 (by omega) (by omega) ?_
  refine T_aload_nS dL_law_685 rfl ?_
  refine T_iload_n dL_law_686 rfl ?_
  refine T_iconst (v := nI 2) dL_law_687 (by decide) ?_
  refine T_iaddN dL_law_688 ?_
  refine T_sld dL_law_689 (by omega) (by omega) ?_
  refine T_aload_nS dL_law_690 rfl ?_
  refine T_iload_n dL_law_691 rfl ?_
  refine T_iconst (v := nI 3) dL_law_692 (by decide) ?_
  refine T_iaddN dL_law_693 ?_
  refine T_sld dL_law_694 (by omega) (by omega) ?_
  refine T_aload_nS dL_law_695 rfl ?_
  refine T_iload_n dL_law_696 rfl ?_
  refine T_iconst (v := nI 4) dL_law_697 (by decide) ?_
  refine T_iaddN dL_law_698 ?_
  refine T_sld dL_law_699 (by omega) (by omega) ?_
  refine T_aload_nS dL_law_700 rfl ?_
  refine T_iload_n dL_law_701 rfl ?_
  refine T_iconst (v := nI 5) dL_law_702 (by decide) ?_
  refine T_iaddN dL_law_703 ?_
  refine T_sld dL_law_704 (by omega) (by omega) ?_
  refine T_v5q (cu2 := cu + 3) (su2 := su + 9) dL_law_705 lv_L_70 rfl (mH_get (k := 0) hA1 rfl) rfl (c2 A1 B1 hA1) (xc_r r1) (Nat.le_refl _) (Nat.le_refl _) hc hs (fun r2 h2 q2 => ?_)
  obtain ⟨u2, rfl, hR⟩ := q2
  obtain ⟨rfl, hs2⟩ := q1 r2 u2 hR
  obtain ⟨w, rfl, v, rfl⟩ := cv _ _ hR
  exact T_icmp_eq (tgt := 1121) dL_law_708 (by decide) (fun _ => K _ _ _ (inv_ag hA1 hs2)) (fun c => absurd rfl c)
theorem lc_odds (I : Inv A u B) (hi : i + 6 ≤ L) (hL : L ≤ 384) (hc : cu + 3 ≤ 600000) (hs : su + 9 ≤ 7302250) (K : ∀ A2 u2 B2, Inv A2 u2 B2 → T (M_L_law nm) (lwE b L xs) lwZ (cu + 3) (su + 9) 1121 [(0, .float 0), (1, .ref 0), (2, .ref 67), (3, .int (nI i))] [] (mH A2 u2 B2)) : T (M_L_law nm) (lwE b L xs) lwZ cu su 713 [(0, .float 0), (1, .ref 0), (2, .ref 67), (3, .int (nI i))] [] (mH A u B) := by
  obtain ⟨fs, hx⟩ := I.x0
  obtain ⟨Rf, c1, c2, cv⟩ := p_odds I (xs (i + 1)) (xs (i + 2)) (xs (i + 3)) (xs (i + 4)) (xs (i + 5))
  refine T_aload_n dL_law_713 rfl ?_
  refine T_aload_nS dL_law_714 rfl ?_
  refine T_iload_n dL_law_715 rfl ?_
  refine T_iconst (v := nI 1) dL_law_716 (by decide) ?_
  refine T_iaddN dL_law_717 ?_
  refine T_sld dL_law_718 (by omega) (by omega) ?_
  refine T_aload_nS dL_law_719 rfl ?_
  refine T_iload_n dL_law_720 rfl ?_
  refine T_iconst (v := nI 2) dL_law_721 (by decide) ?_
  refine T_iaddN dL_law_722 ?_
  refine T_sld dL_law_723 (by omega) (by omega) ?_
  refine T_aload_nS dL_law_724 rfl ?_
  refine T_iload_n dL_law_725 rfl ?_
  refine T_iconst (v := nI 3) dL_law_726 (by decide) ?_
  refine T_iaddN dL_law_727 ?_
  refine T_sld dL_law_728 (by omega) (by omega) ?_
  refine T_aload_nS dL_law_729 rfl ?_
  refine T_iload_n dL_law_730 rfl ?_
  refine T_iconst (v := nI 4) dL_law_731 (by decide) ?_
  refine T_iaddN dL_law_732 ?_
  refine T_sld dL_law_733 (by omega) (by omega) ?_
  refine T_aload_nS dL_law_734 rfl ?_
  refine T_iload_n dL_law_735 rfl ?_
  refine T_iconst (v := nI 5) dL_law_736 (by decide) ?_
  refine T_iaddN dL_law_737 ?_
  refine T_sld dL_law_738 (by omega) (by omega) ?_
  refine T_v5q (cu2 := cu + 3) (su2 := su + 9) dL_law_739 lv_L_71 rfl hx rfl c1 (nb rfl) (Nat.add_le_add_left (nb rfl) cu) (Nat.add_le_add_left (nb rfl) su) hc hs (fun r1 h1 q1 => ?_)
  obtain ⟨g1, q1⟩ := q1
  obtain ⟨A1, B1, hA1, rfl⟩ := mH_of I.1 g1
  refine T_aload_n dL_law_742 rfl ?_
  refine T_aload_nS dL_law_743 rfl ?_
  refine T_iload_n dL_law_744 rfl ?_
  refine T_iconst (v := nI 1) dL_law_745 (by decide) ?_
  refine T_iaddN dL_law_746 ?_
  refine T_sld dL_law_747 (by omega) (by omega) ?_
  refine T_aload_nS dL_law_748 rfl ?_
  refine T_iload_n dL_law_749 rfl ?_
  refine T_iconst (v := nI 2) dL_law_750 (by decide) ?_
  refine T_iaddN dL_law_751 ?_
  refine T_sld dL_law_752 (by omega) (by omega) ?_
  refine T_aload_nS dL_law_753 rfl ?_
  refine T_iload_n dL_law_754 rfl ?_
  refine T_iconst (v := nI 3) dL_law_755 (by decide) ?_
  refine T_iaddN dL_law_756 ?_
  refine T_sld dL_law_757 (by omega) (by omega) ?_
  refine T_aload_nS dL_law_758 rfl ?_
  refine T_iload_n dL_law_759 rfl ?_
  refine T_iconst (v := nI 4) dL_law_760 (by decide) ?_
  refine T_iaddN dL_law_761 ?_
  refine T_sld dL_law_762 (by omega) (by omega) ?_
  refine T_aload_nS dL_law_763 rfl ?_
  refine T_iload_n dL_law_764 rfl ?_
  refine T_iconst (v := nI 5) dL_law_765 (by decide) ?_
  refine T_iaddN dL_law_766 ?_
  refine T_sld dL_law_767 (by omega) (by omega) ?_
  refine T_v5q (cu2 := cu + 3) (su2 := su + 9) dL_law_768 lv_L_75 rfl (mH_get (k := 0) hA1 rfl) rfl (c2 A1 B1 hA1) (xc_r r1) (Nat.le_refl _) (Nat.le_refl _) hc hs (fun r2 h2 q2 => ?_)
  obtain ⟨u2, rfl, hR⟩ := q2
  obtain ⟨rfl, hs2⟩ := q1 r2 u2 hR
  obtain ⟨w, rfl, v, rfl⟩ := cv _ _ hR
  refine T_lcmp dL_law_771 ?_
  exact T_if_eq (tgt := 1121) dL_law_772 (by decide) (fun _ => K _ _ _ (inv_ag hA1 hs2)) (fun c => absurd (cmp_self v) c)
theorem lc_sheet (I : Inv A u B) (hi : i + 6 ≤ L) (hL : L ≤ 384) (hc : cu + 3 ≤ 600000) (hs : su + 9 ≤ 7302250) (K : ∀ A2 u2 B2, Inv A2 u2 B2 → T (M_L_law nm) (lwE b L xs) lwZ (cu + 3) (su + 9) 1121 [(0, .float 0), (1, .ref 0), (2, .ref 67), (3, .int (nI i))] [] (mH A2 u2 B2)) : T (M_L_law nm) (lwE b L xs) lwZ cu su 777 [(0, .float 0), (1, .ref 0), (2, .ref 67), (3, .int (nI i))] [] (mH A u B) := by
  obtain ⟨fs, hx⟩ := I.x0
  obtain ⟨Rf, c1, c2, cv⟩ := p_sheet I (xs (i + 1)) (xs (i + 2)) (xs (i + 3))
  refine T_aload_n dL_law_777 rfl ?_
  refine T_aload_nS dL_law_778 rfl ?_
  refine T_iload_n dL_law_779 rfl ?_
  refine T_iconst (v := nI 1) dL_law_780 (by decide) ?_
  refine T_iaddN dL_law_781 ?_
  refine T_sld dL_law_782 (by omega) (by omega) ?_
  refine T_aload_nS dL_law_783 rfl ?_
  refine T_iload_n dL_law_784 rfl ?_
  refine T_iconst (v := nI 2) dL_law_785 (by decide) ?_
  refine T_iaddN dL_law_786 ?_
  refine T_sld dL_law_787 (by omega) (by omega) ?_
  refine T_aload_nS dL_law_788 rfl ?_
  refine T_iload_n dL_law_789 rfl ?_
  refine T_iconst (v := nI 3) dL_law_790 (by decide) ?_
  refine T_iaddN dL_law_791 ?_
  refine T_sld dL_law_792 (by omega) (by omega) ?_
  refine T_v3q (cu2 := cu + 3) (su2 := su + 9) dL_law_793 lv_L_76 rfl hx rfl c1 (nb rfl) (Nat.add_le_add_left (nb rfl) cu) (Nat.add_le_add_left (nb rfl) su) hc hs (fun r1 h1 q1 => ?_)
  obtain ⟨g1, q1⟩ := q1
  obtain ⟨A1, B1, hA1, rfl⟩ := mH_of I.1 g1
  refine T_aload_n dL_law_796 rfl ?_
  refine T_aload_nS dL_law_797 rfl ?_
  refine T_iload_n dL_law_798 rfl ?_
  refine T_iconst (v := nI 1) dL_law_799 (by decide) ?_
  refine T_iaddN dL_law_800 ?_
  refine T_sld dL_law_801 (by omega) (by omega) ?_
  refine T_aload_nS dL_law_802 rfl ?_
  refine T_iload_n dL_law_803 rfl ?_
  refine T_iconst (v := nI 2) dL_law_804 (by decide) ?_
  refine T_iaddN dL_law_805 ?_
  refine T_sld dL_law_806 (by omega) (by omega) ?_
  refine T_aload_nS dL_law_807 rfl ?_
  refine T_iload_n dL_law_808 rfl ?_
  refine T_iconst (v := nI 3) dL_law_809 (by decide) ?_
  refine T_iaddN dL_law_810 ?_
  refine T_sld dL_law_811 (by omega) (by omega) ?_
  refine T_v3q (cu2 := cu + 3) (su2 := su + 9) dL_law_812 lv_L_79 rfl (mH_get (k := 0) hA1 rfl) rfl (c2 A1 B1 hA1) (xc_r r1) (Nat.le_refl _) (Nat.le_refl _) hc hs (fun r2 h2 q2 => ?_)
  obtain ⟨u2, rfl, hR⟩ := q2
  obtain ⟨rfl, hs2⟩ := q1 r2 u2 hR
  obtain ⟨w, rfl, v, rfl⟩ := cv _ _ hR
  exact T_icmp_eq (tgt := 1121) dL_law_815 (by decide) (fun _ => K _ _ _ (inv_ag hA1 hs2)) (fun c => absurd rfl c)
theorem lc_lose (I : Inv A u B) (hi : i + 6 ≤ L) (hL : L ≤ 384) (hc : cu + 3 ≤ 600000) (hs : su + 9 ≤ 7302250) (K : ∀ A2 u2 B2, Inv A2 u2 B2 → T (M_L_law nm) (lwE b L xs) lwZ (cu + 3) (su + 9) 1121 [(0, .float 0), (1, .ref 0), (2, .ref 67), (3, .int (nI i))] [] (mH A2 u2 B2)) : T (M_L_law nm) (lwE b L xs) lwZ cu su 820 [(0, .float 0), (1, .ref 0), (2, .ref 67), (3, .int (nI i))] [] (mH A u B) := by
  obtain ⟨fs, hx⟩ := I.x0
  obtain ⟨Rf, c1, c2, cv⟩ := p_lose I (xs (i + 1))
  refine T_aload_n dL_law_820 rfl ?_
  refine T_aload_nS dL_law_821 rfl ?_
  refine T_iload_n dL_law_822 rfl ?_
  refine T_iconst (v := nI 1) dL_law_823 (by decide) ?_
  refine T_iaddN dL_law_824 ?_
  refine T_sld dL_law_825 (by omega) (by omega) ?_
  refine T_v1q (cu2 := cu + 3) (su2 := su + 9) dL_law_826 lv_L_80 rfl hx rfl c1 (nb rfl) (Nat.add_le_add_left (nb rfl) cu) (Nat.add_le_add_left (nb rfl) su) hc hs (fun r1 h1 q1 => ?_)
  obtain ⟨g1, q1⟩ := q1
  obtain ⟨A1, B1, hA1, rfl⟩ := mH_of I.1 g1
  refine T_aload_n dL_law_829 rfl ?_
  refine T_aload_nS dL_law_830 rfl ?_
  refine T_iload_n dL_law_831 rfl ?_
  refine T_iconst (v := nI 1) dL_law_832 (by decide) ?_
  refine T_iaddN dL_law_833 ?_
  refine T_sld dL_law_834 (by omega) (by omega) ?_
  refine T_v1q (cu2 := cu + 3) (su2 := su + 9) dL_law_835 lv_L_83 rfl (mH_get (k := 0) hA1 rfl) rfl (c2 A1 B1 hA1) (xc_r r1) (Nat.le_refl _) (Nat.le_refl _) hc hs (fun r2 h2 q2 => ?_)
  obtain ⟨u2, rfl, hR⟩ := q2
  obtain ⟨rfl, hs2⟩ := q1 r2 u2 hR
  obtain ⟨w, rfl, v, rfl⟩ := cv _ _ hR
  exact T_icmp_eq (tgt := 1121) dL_law_838 (by decide) (fun _ => K _ _ _ (inv_ag hA1 hs2)) (fun c => absurd rfl c)
theorem lc_put (I : Inv A u B) (hi : i + 6 ≤ L) (hL : L ≤ 384) (hc : cu + 3 ≤ 600000) (hs : su + 9 ≤ 7302250) (K : ∀ A2 u2 B2, Inv A2 u2 B2 → T (M_L_law nm) (lwE b L xs) lwZ (cu + 3) (su + 9) 1121 [(0, .float 0), (1, .ref 0), (2, .ref 67), (3, .int (nI i))] [] (mH A2 u2 B2)) : T (M_L_law nm) (lwE b L xs) lwZ cu su 843 [(0, .float 0), (1, .ref 0), (2, .ref 67), (3, .int (nI i))] [] (mH A u B) := by
  obtain ⟨fs, hx⟩ := I.x0
  obtain ⟨Rf, c1, c2, cv⟩ := p_put I (xs (i + 1)) (xs (i + 2)) (xs (i + 3))
  refine T_aload_n dL_law_843 rfl ?_
  refine T_aload_nS dL_law_844 rfl ?_
  refine T_iload_n dL_law_845 rfl ?_
  refine T_iconst (v := nI 1) dL_law_846 (by decide) ?_
  refine T_iaddN dL_law_847 ?_
  refine T_sld dL_law_848 (by omega) (by omega) ?_
  refine T_aload_nS dL_law_849 rfl ?_
  refine T_iload_n dL_law_850 rfl ?_
  refine T_iconst (v := nI 2) dL_law_851 (by decide) ?_
  refine T_iaddN dL_law_852 ?_
  refine T_sld dL_law_853 (by omega) (by omega) ?_
  refine T_aload_nS dL_law_854 rfl ?_
  refine T_iload_n dL_law_855 rfl ?_
  refine T_iconst (v := nI 3) dL_law_856 (by decide) ?_
  refine T_iaddN dL_law_857 ?_
  refine T_sld dL_law_858 (by omega) (by omega) ?_
  refine T_v3q (cu2 := cu + 3) (su2 := su + 9) dL_law_859 lv_L_84 rfl hx rfl c1 (nb rfl) (Nat.add_le_add_left (nb rfl) cu) (Nat.add_le_add_left (nb rfl) su) hc hs (fun r1 h1 q1 => ?_)
  obtain ⟨g1, q1⟩ := q1
  obtain ⟨A1, B1, hA1, rfl⟩ := mH_of I.1 g1
  refine T_aload_n dL_law_862 rfl ?_
  refine T_aload_nS dL_law_863 rfl ?_
  refine T_iload_n dL_law_864 rfl ?_
  refine T_iconst (v := nI 1) dL_law_865 (by decide) ?_
  refine T_iaddN dL_law_866 ?_
  refine T_sld dL_law_867 (by omega) (by omega) ?_
  refine T_aload_nS dL_law_868 rfl ?_
  refine T_iload_n dL_law_869 rfl ?_
  refine T_iconst (v := nI 2) dL_law_870 (by decide) ?_
  refine T_iaddN dL_law_871 ?_
  refine T_sld dL_law_872 (by omega) (by omega) ?_
  refine T_aload_nS dL_law_873 rfl ?_
  refine T_iload_n dL_law_874 rfl ?_
  refine T_iconst (v := nI 3) dL_law_875 (by decide) ?_
  refine T_iaddN dL_law_876 ?_
  refine T_sld dL_law_877 (by omega) (by omega) ?_
  refine T_v3q (cu2 := cu + 3) (su2 := su + 9) dL_law_878 lv_L_87 rfl (mH_get (k := 0) hA1 rfl) rfl (c2 A1 B1 hA1) (xc_r r1) (Nat.le_refl _) (Nat.le_refl _) hc hs (fun r2 h2 q2 => ?_)
  obtain ⟨u2, rfl, hR⟩ := q2
  obtain ⟨rfl, hs2⟩ := q1 r2 u2 hR
  obtain ⟨w, rfl, v, rfl⟩ := cv _ _ hR
  exact T_icmp_eq (tgt := 1121) dL_law_881 (by decide) (fun _ => K _ _ _ (inv_ag hA1 hs2)) (fun c => absurd rfl c)
theorem lc_cell (I : Inv A u B) (hi : i + 6 ≤ L) (hL : L ≤ 384) (hc : cu + 3 ≤ 600000) (hs : su + 9 ≤ 7302250) (K : ∀ A2 u2 B2, Inv A2 u2 B2 → T (M_L_law nm) (lwE b L xs) lwZ (cu + 3) (su + 9) 1121 [(0, .float 0), (1, .ref 0), (2, .ref 67), (3, .int (nI i))] [] (mH A2 u2 B2)) : T (M_L_law nm) (lwE b L xs) lwZ cu su 886 [(0, .float 0), (1, .ref 0), (2, .ref 67), (3, .int (nI i))] [] (mH A u B) := by
  obtain ⟨fs, hx⟩ := I.x0
  obtain ⟨Rf, c1, c2, cv⟩ := p_cell I (xs (i + 1)) (xs (i + 2)) (xs (i + 3))
  refine T_aload_n dL_law_886 rfl ?_
  refine T_aload_nS dL_law_887 rfl ?_
  refine T_iload_n dL_law_888 rfl ?_
  refine T_iconst (v := nI 1) dL_law_889 (by decide) ?_
  refine T_iaddN dL_law_890 ?_
  refine T_sld dL_law_891 (by omega) (by omega) ?_
  refine T_aload_nS dL_law_892 rfl ?_
  refine T_iload_n dL_law_893 rfl ?_
  refine T_iconst (v := nI 2) dL_law_894 (by decide) ?_
  refine T_iaddN dL_law_895 ?_
  refine T_sld dL_law_896 (by omega) (by omega) ?_
  refine T_aload_nS dL_law_897 rfl ?_
  refine T_iload_n dL_law_898 rfl ?_
  refine T_iconst (v := nI 3) dL_law_899 (by decide) ?_
  refine T_iaddN dL_law_900 ?_
  refine T_sld dL_law_901 (by omega) (by omega) ?_
  refine T_v3q (cu2 := cu + 3) (su2 := su + 9) dL_law_902 lv_L_88 rfl hx rfl c1 (nb rfl) (Nat.add_le_add_left (nb rfl) cu) (Nat.add_le_add_left (nb rfl) su) hc hs (fun r1 h1 q1 => ?_)
  obtain ⟨g1, q1⟩ := q1
  obtain ⟨A1, B1, hA1, rfl⟩ := mH_of I.1 g1
  refine T_aload_n dL_law_905 rfl ?_
  refine T_aload_nS dL_law_906 rfl ?_
  refine T_iload_n dL_law_907 rfl ?_
  refine T_iconst (v := nI 1) dL_law_908 (by decide) ?_
  refine T_iaddN dL_law_909 ?_
  refine T_sld dL_law_910 (by omega) (by omega) ?_
  refine T_aload_nS dL_law_911 rfl ?_
  refine T_iload_n dL_law_912 rfl ?_
  refine T_iconst (v := nI 2) dL_law_913 (by decide) ?_
  refine T_iaddN dL_law_914 ?_
  refine T_sld dL_law_915 (by omega) (by omega) ?_
  refine T_aload_nS dL_law_916 rfl ?_
  refine T_iload_n dL_law_917 rfl ?_
  refine T_iconst (v := nI 3) dL_law_918 (by decide) ?_
  refine T_iaddN dL_law_919 ?_
  refine T_sld dL_law_920 (by omega) (by omega) ?_
  refine T_v3q (cu2 := cu + 3) (su2 := su + 9) dL_law_921 lv_L_92 rfl (mH_get (k := 0) hA1 rfl) rfl (c2 A1 B1 hA1) (xc_r r1) (Nat.le_refl _) (Nat.le_refl _) hc hs (fun r2 h2 q2 => ?_)
  obtain ⟨u2, rfl, hR⟩ := q2
  obtain ⟨rfl, hs2⟩ := q1 r2 u2 hR
  obtain ⟨w, rfl, v, rfl⟩ := cv _ _ hR
  refine T_lcmp dL_law_924 ?_
  exact T_if_eq (tgt := 1121) dL_law_925 (by decide) (fun _ => K _ _ _ (inv_ag hA1 hs2)) (fun c => absurd (cmp_self v) c)
theorem lc_copy (I : Inv A u B) (hi : i + 6 ≤ L) (hL : L ≤ 384) (hc : cu + 3 ≤ 600000) (hs : su + 9 ≤ 7302250) (K : ∀ A2 u2 B2, Inv A2 u2 B2 → T (M_L_law nm) (lwE b L xs) lwZ (cu + 3) (su + 9) 1121 [(0, .float 0), (1, .ref 0), (2, .ref 67), (3, .int (nI i))] [] (mH A2 u2 B2)) : T (M_L_law nm) (lwE b L xs) lwZ cu su 930 [(0, .float 0), (1, .ref 0), (2, .ref 67), (3, .int (nI i))] [] (mH A u B) := by
  obtain ⟨fs, hx⟩ := I.x0
  obtain ⟨Rf, c1, c2, cv⟩ := p_copy I (xs (i + 1)) (xs (i + 2)) (xs (i + 3)) (xs (i + 4)) (xs (i + 5))
  refine T_aload_n dL_law_930 rfl ?_
  refine T_aload_nS dL_law_931 rfl ?_
  refine T_iload_n dL_law_932 rfl ?_
  refine T_iconst (v := nI 1) dL_law_933 (by decide) ?_
  refine T_iaddN dL_law_934 ?_
  refine T_sld dL_law_935 (by omega) (by omega) ?_
  refine T_aload_nS dL_law_936 rfl ?_
  refine T_iload_n dL_law_937 rfl ?_
  refine T_iconst (v := nI 2) dL_law_938 (by decide) ?_
  refine T_iaddN dL_law_939 ?_
  refine T_sld dL_law_940 (by omega) (by omega) ?_
  refine T_aload_nS dL_law_941 rfl ?_
  refine T_iload_n dL_law_942 rfl ?_
  refine T_iconst (v := nI 3) dL_law_943 (by decide) ?_
  refine T_iaddN dL_law_944 ?_
  refine T_sld dL_law_945 (by omega) (by omega) ?_
  refine T_aload_nS dL_law_946 rfl ?_
  refine T_iload_n dL_law_947 rfl ?_
  refine T_iconst (v := nI 4) dL_law_948 (by decide) ?_
  refine T_iaddN dL_law_949 ?_
  refine T_sld dL_law_950 (by omega) (by omega) ?_
  refine T_aload_nS dL_law_951 rfl ?_
  refine T_iload_n dL_law_952 rfl ?_
  refine T_iconst (v := nI 5) dL_law_953 (by decide) ?_
  refine T_iaddN dL_law_954 ?_
  refine T_sld dL_law_955 (by omega) (by omega) ?_
  refine T_v5q (cu2 := cu + 3) (su2 := su + 9) dL_law_956 lv_L_93 rfl hx rfl c1 (nb rfl) (Nat.add_le_add_left (nb rfl) cu) (Nat.add_le_add_left (nb rfl) su) hc hs (fun r1 h1 q1 => ?_)
  obtain ⟨g1, q1⟩ := q1
  obtain ⟨A1, B1, hA1, rfl⟩ := mH_of I.1 g1
  refine T_aload_n dL_law_959 rfl ?_
  refine T_aload_nS dL_law_960 rfl ?_
  refine T_iload_n dL_law_961 rfl ?_
  refine T_iconst (v := nI 1) dL_law_962 (by decide) ?_
  refine T_iaddN dL_law_963 ?_
  refine T_sld dL_law_964 (by omega) (by omega) ?_
  refine T_aload_nS dL_law_965 rfl ?_
  refine T_iload_n dL_law_966 rfl ?_
  refine T_iconst (v := nI 2) dL_law_967 (by decide) ?_
  refine T_iaddN dL_law_968 ?_
  refine T_sld dL_law_969 (by omega) (by omega) ?_
  refine T_aload_nS dL_law_970 rfl ?_
  refine T_iload_n dL_law_971 rfl ?_
  refine T_iconst (v := nI 3) dL_law_972 (by decide) ?_
  refine T_iaddN dL_law_973 ?_
  refine T_sld dL_law_974 (by omega) (by omega) ?_
  refine T_aload_nS dL_law_975 rfl ?_
  refine T_iload_n dL_law_976 rfl ?_
  refine T_iconst (v := nI 4) dL_law_977 (by decide) ?_
  refine T_iaddN dL_law_978 ?_
  refine T_sld dL_law_979 (by omega) (by omega) ?_
  refine T_aload_nS dL_law_980 rfl ?_
  refine T_iload_n dL_law_981 rfl ?_
  refine T_iconst (v := nI 5) dL_law_982 (by decide) ?_
  refine T_iaddN dL_law_983 ?_
  refine T_sld dL_law_984 (by omega) (by omega) ?_
  refine T_v5q (cu2 := cu + 3) (su2 := su + 9) dL_law_985 lv_L_96 rfl (mH_get (k := 0) hA1 rfl) rfl (c2 A1 B1 hA1) (xc_r r1) (Nat.le_refl _) (Nat.le_refl _) hc hs (fun r2 h2 q2 => ?_)
  obtain ⟨u2, rfl, hR⟩ := q2
  obtain ⟨rfl, hs2⟩ := q1 r2 u2 hR
  obtain ⟨w, rfl, v, rfl⟩ := cv _ _ hR
  exact T_icmp_eq (tgt := 1121) dL_law_988 (by decide) (fun _ => K _ _ _ (inv_ag hA1 hs2)) (fun c => absurd rfl c)
theorem lc_tell (I : Inv A u B) (hi : i + 6 ≤ L) (hL : L ≤ 384) (hc : cu + 3 ≤ 600000) (hs : su + 9 ≤ 7302250) (K : ∀ A2 u2 B2, Inv A2 u2 B2 → T (M_L_law nm) (lwE b L xs) lwZ (cu + 3) (su + 9) 1121 [(0, .float 0), (1, .ref 0), (2, .ref 67), (3, .int (nI i))] [] (mH A2 u2 B2)) : T (M_L_law nm) (lwE b L xs) lwZ cu su 993 [(0, .float 0), (1, .ref 0), (2, .ref 67), (3, .int (nI i))] [] (mH A u B) := by
  obtain ⟨fs, hx⟩ := I.x0
  obtain ⟨Rf, c1, c2, cv⟩ := p_tell I (xs (i + 1))
  refine T_aload_n dL_law_993 rfl ?_
  refine T_aload_nS dL_law_994 rfl ?_
  refine T_iload_n dL_law_995 rfl ?_
  refine T_iconst (v := nI 1) dL_law_996 (by decide) ?_
  refine T_iaddN dL_law_997 ?_
  refine T_sld dL_law_998 (by omega) (by omega) ?_
  refine T_v1q (cu2 := cu + 3) (su2 := su + 9) dL_law_999 lv_L_97 rfl hx rfl c1 (nb rfl) (Nat.add_le_add_left (nb rfl) cu) (Nat.add_le_add_left (nb rfl) su) hc hs (fun r1 h1 q1 => ?_)
  obtain ⟨g1, q1⟩ := q1
  obtain ⟨A1, B1, hA1, rfl⟩ := mH_of I.1 g1
  refine T_aload_n dL_law_1002 rfl ?_
  refine T_aload_nS dL_law_1003 rfl ?_
  refine T_iload_n dL_law_1004 rfl ?_
  refine T_iconst (v := nI 1) dL_law_1005 (by decide) ?_
  refine T_iaddN dL_law_1006 ?_
  refine T_sld dL_law_1007 (by omega) (by omega) ?_
  refine T_v1q (cu2 := cu + 3) (su2 := su + 9) dL_law_1008 lv_L_100 rfl (mH_get (k := 0) hA1 rfl) rfl (c2 A1 B1 hA1) (xc_r r1) (Nat.le_refl _) (Nat.le_refl _) hc hs (fun r2 h2 q2 => ?_)
  obtain ⟨u2, rfl, hR⟩ := q2
  obtain ⟨rfl, hs2⟩ := q1 r2 u2 hR
  obtain ⟨w, rfl, v, rfl⟩ := cv _ _ hR
  exact T_icmp_eq (tgt := 1121) dL_law_1011 (by decide) (fun _ => K _ _ _ (inv_ag hA1 hs2)) (fun c => absurd rfl c)
theorem lc_hail (I : Inv A u B) (hi : i + 6 ≤ L) (hL : L ≤ 384) (hc : cu + 3 ≤ 600000) (hs : su + 9 ≤ 7302250) (K : ∀ A2 u2 B2, Inv A2 u2 B2 → T (M_L_law nm) (lwE b L xs) lwZ (cu + 3) (su + 9) 1121 [(0, .float 0), (1, .ref 0), (2, .ref 67), (3, .int (nI i))] [] (mH A2 u2 B2)) : T (M_L_law nm) (lwE b L xs) lwZ cu su 1016 [(0, .float 0), (1, .ref 0), (2, .ref 67), (3, .int (nI i))] [] (mH A u B) := by
  obtain ⟨fs, hx⟩ := I.x0
  obtain ⟨Rf, c1, c2, cv⟩ := p_hail I (xs (i + 1))
  refine T_aload_n dL_law_1016 rfl ?_
  refine T_aload_nS dL_law_1017 rfl ?_
  refine T_iload_n dL_law_1018 rfl ?_
  refine T_iconst (v := nI 1) dL_law_1019 (by decide) ?_
  refine T_iaddN dL_law_1020 ?_
  refine T_sld dL_law_1021 (by omega) (by omega) ?_
  refine T_v1q (cu2 := cu + 3) (su2 := su + 9) dL_law_1022 lv_L_101 rfl hx rfl c1 (nb rfl) (Nat.add_le_add_left (nb rfl) cu) (Nat.add_le_add_left (nb rfl) su) hc hs (fun r1 h1 q1 => ?_)
  obtain ⟨g1, q1⟩ := q1
  obtain ⟨A1, B1, hA1, rfl⟩ := mH_of I.1 g1
  refine T_aload_n dL_law_1025 rfl ?_
  refine T_aload_nS dL_law_1026 rfl ?_
  refine T_iload_n dL_law_1027 rfl ?_
  refine T_iconst (v := nI 1) dL_law_1028 (by decide) ?_
  refine T_iaddN dL_law_1029 ?_
  refine T_sld dL_law_1030 (by omega) (by omega) ?_
  refine T_v1q (cu2 := cu + 3) (su2 := su + 9) dL_law_1031 lv_L_104 rfl (mH_get (k := 0) hA1 rfl) rfl (c2 A1 B1 hA1) (xc_r r1) (Nat.le_refl _) (Nat.le_refl _) hc hs (fun r2 h2 q2 => ?_)
  obtain ⟨u2, rfl, hR⟩ := q2
  obtain ⟨rfl, hs2⟩ := q1 r2 u2 hR
  obtain ⟨w, rfl, v, rfl⟩ := cv _ _ hR
  exact T_icmp_eq (tgt := 1121) dL_law_1034 (by decide) (fun _ => K _ _ _ (inv_ag hA1 hs2)) (fun c => absurd rfl c)
theorem lc_as (I : Inv A u B) (hi : i + 6 ≤ L) (hL : L ≤ 384) (hc : cu + 3 ≤ 600000) (hs : su + 9 ≤ 7302250) (K : ∀ A2 u2 B2, Inv A2 u2 B2 → T (M_L_law nm) (lwE b L xs) lwZ (cu + 3) (su + 9) 1121 [(0, .float 0), (1, .ref 0), (2, .ref 67), (3, .int (nI i))] [] (mH A2 u2 B2)) : T (M_L_law nm) (lwE b L xs) lwZ cu su 1039 [(0, .float 0), (1, .ref 0), (2, .ref 67), (3, .int (nI i))] [] (mH A u B) := by
  obtain ⟨fs, hx⟩ := I.x0
  obtain ⟨Rf, c1, c2, cv⟩ := p_as I (xs (i + 1)) (xs (i + 2))
  refine T_aload_n dL_law_1039 rfl ?_
  refine T_aload_nS dL_law_1040 rfl ?_
  refine T_iload_n dL_law_1041 rfl ?_
  refine T_iconst (v := nI 1) dL_law_1042 (by decide) ?_
  refine T_iaddN dL_law_1043 ?_
  refine T_sld dL_law_1044 (by omega) (by omega) ?_
  refine T_aload_nS dL_law_1045 rfl ?_
  refine T_iload_n dL_law_1046 rfl ?_
  refine T_iconst (v := nI 2) dL_law_1047 (by decide) ?_
  refine T_iaddN dL_law_1048 ?_
  refine T_sld dL_law_1049 (by omega) (by omega) ?_
  refine T_v2q (cu2 := cu + 3) (su2 := su + 9) dL_law_1050 lv_L_105 rfl hx rfl c1 (nb rfl) (Nat.add_le_add_left (nb rfl) cu) (Nat.add_le_add_left (nb rfl) su) hc hs (fun r1 h1 q1 => ?_)
  obtain ⟨g1, q1⟩ := q1
  obtain ⟨A1, B1, hA1, rfl⟩ := mH_of I.1 g1
  refine T_aload_n dL_law_1053 rfl ?_
  refine T_aload_nS dL_law_1054 rfl ?_
  refine T_iload_n dL_law_1055 rfl ?_
  refine T_iconst (v := nI 1) dL_law_1056 (by decide) ?_
  refine T_iaddN dL_law_1057 ?_
  refine T_sld dL_law_1058 (by omega) (by omega) ?_
  refine T_aload_nS dL_law_1059 rfl ?_
  refine T_iload_n dL_law_1060 rfl ?_
  refine T_iconst (v := nI 2) dL_law_1061 (by decide) ?_
  refine T_iaddN dL_law_1062 ?_
  refine T_sld dL_law_1063 (by omega) (by omega) ?_
  refine T_v2q (cu2 := cu + 3) (su2 := su + 9) dL_law_1064 lv_L_108 rfl (mH_get (k := 0) hA1 rfl) rfl (c2 A1 B1 hA1) (xc_r r1) (Nat.le_refl _) (Nat.le_refl _) hc hs (fun r2 h2 q2 => ?_)
  obtain ⟨u2, rfl, hR⟩ := q2
  obtain ⟨rfl, hs2⟩ := q1 r2 u2 hR
  obtain ⟨w, rfl, v, rfl⟩ := cv _ _ hR
  exact T_icmp_eq (tgt := 1121) dL_law_1067 (by decide) (fun _ => K _ _ _ (inv_ag hA1 hs2)) (fun c => absurd rfl c)
theorem lc_trace (I : Inv A u B) (hi : i + 6 ≤ L) (hL : L ≤ 384) (hc : cu + 3 ≤ 600000) (hs : su + 9 ≤ 7302250) (K : ∀ A2 u2 B2, Inv A2 u2 B2 → T (M_L_law nm) (lwE b L xs) lwZ (cu + 3) (su + 9) 1121 [(0, .float 0), (1, .ref 0), (2, .ref 67), (3, .int (nI i))] [] (mH A2 u2 B2)) : T (M_L_law nm) (lwE b L xs) lwZ cu su 1072 [(0, .float 0), (1, .ref 0), (2, .ref 67), (3, .int (nI i))] [] (mH A u B) := by
  obtain ⟨fs, hx⟩ := I.x0
  obtain ⟨Rf, c1, c2, cv⟩ := p_trace I 
  refine T_aload_n dL_law_1072 rfl ?_
  refine T_v0q (cu2 := cu + 3) (su2 := su + 9) dL_law_1073 lv_L_109 rfl hx rfl c1 (nb rfl) (Nat.add_le_add_left (nb rfl) cu) (Nat.add_le_add_left (nb rfl) su) hc hs (fun r1 h1 q1 => ?_)
  obtain ⟨g1, q1⟩ := q1
  obtain ⟨A1, B1, hA1, rfl⟩ := mH_of I.1 g1
  refine T_aload_n dL_law_1076 rfl ?_
  refine T_v0q (cu2 := cu + 3) (su2 := su + 9) dL_law_1077 lv_L_113 rfl (mH_get (k := 0) hA1 rfl) rfl (c2 A1 B1 hA1) (xc_r r1) (Nat.le_refl _) (Nat.le_refl _) hc hs (fun r2 h2 q2 => ?_)
  obtain ⟨u2, rfl, hR⟩ := q2
  obtain ⟨rfl, hs2⟩ := q1 r2 u2 hR
  obtain ⟨w, rfl, v, rfl⟩ := cv _ _ hR
  exact T_icmp_eq (tgt := 1121) dL_law_1080 (by decide) (fun _ => K _ _ _ (inv_ag hA1 hs2)) (fun c => absurd rfl c)
theorem lc_fault (I : Inv A u B) (hi : i + 6 ≤ L) (hL : L ≤ 384) (hc : cu + 3 ≤ 600000) (hs : su + 9 ≤ 7302250) (K : ∀ A2 u2 B2, Inv A2 u2 B2 → T (M_L_law nm) (lwE b L xs) lwZ (cu + 3) (su + 9) 1121 [(0, .float 0), (1, .ref 0), (2, .ref 67), (3, .int (nI i))] [] (mH A2 u2 B2)) : T (M_L_law nm) (lwE b L xs) lwZ cu su 1085 [(0, .float 0), (1, .ref 0), (2, .ref 67), (3, .int (nI i))] [] (mH A u B) := by
  obtain ⟨fs, hx⟩ := I.x0
  obtain ⟨Rf, c1, c2, cv⟩ := p_fault I 
  refine T_aload_n dL_law_1085 rfl ?_
  refine T_v0q (cu2 := cu + 3) (su2 := su + 9) dL_law_1086 lv_L_114 rfl hx rfl c1 (nb rfl) (Nat.add_le_add_left (nb rfl) cu) (Nat.add_le_add_left (nb rfl) su) hc hs (fun r1 h1 q1 => ?_)
  obtain ⟨g1, q1⟩ := q1
  obtain ⟨A1, B1, hA1, rfl⟩ := mH_of I.1 g1
  refine T_aload_n dL_law_1089 rfl ?_
  refine T_v0q (cu2 := cu + 3) (su2 := su + 9) dL_law_1090 lv_L_117 rfl (mH_get (k := 0) hA1 rfl) rfl (c2 A1 B1 hA1) (xc_r r1) (Nat.le_refl _) (Nat.le_refl _) hc hs (fun r2 h2 q2 => ?_)
  obtain ⟨u2, rfl, hR⟩ := q2
  obtain ⟨rfl, hs2⟩ := q1 r2 u2 hR
  obtain ⟨w, rfl, v, rfl⟩ := cv _ _ hR
  exact T_icmp_eq (tgt := 1121) dL_law_1093 (by decide) (fun _ => K _ _ _ (inv_ag hA1 hs2)) (fun c => absurd rfl c)
theorem lc_many (I : Inv A u B) (hi : i + 6 ≤ L) (hL : L ≤ 384) (hc : cu + 3 ≤ 600000) (hs : su + 9 ≤ 7302250) (K : ∀ A2 u2 B2, Inv A2 u2 B2 → T (M_L_law nm) (lwE b L xs) lwZ (cu + 3) (su + 9) 1121 [(0, .float 0), (1, .ref 0), (2, .ref 67), (3, .int (nI i))] [] (mH A2 u2 B2)) : T (M_L_law nm) (lwE b L xs) lwZ cu su 1098 [(0, .float 0), (1, .ref 0), (2, .ref 67), (3, .int (nI i))] [] (mH A u B) := by
  obtain ⟨fs, hx⟩ := I.x0
  obtain ⟨Rf, c1, c2, cv⟩ := p_many I (xs (i + 1))
  refine T_aload_n dL_law_1098 rfl ?_
  refine T_aload_nS dL_law_1099 rfl ?_
  refine T_iload_n dL_law_1100 rfl ?_
  refine T_iconst (v := nI 1) dL_law_1101 (by decide) ?_
  refine T_iaddN dL_law_1102 ?_
  refine T_sld dL_law_1103 (by omega) (by omega) ?_
  refine T_v1q (cu2 := cu + 3) (su2 := su + 9) dL_law_1104 lv_L_118 rfl hx rfl c1 (nb rfl) (Nat.add_le_add_left (nb rfl) cu) (Nat.add_le_add_left (nb rfl) su) hc hs (fun r1 h1 q1 => ?_)
  obtain ⟨g1, q1⟩ := q1
  obtain ⟨A1, B1, hA1, rfl⟩ := mH_of I.1 g1
  refine T_aload_n dL_law_1107 rfl ?_
  refine T_aload_nS dL_law_1108 rfl ?_
  refine T_iload_n dL_law_1109 rfl ?_
  refine T_iconst (v := nI 1) dL_law_1110 (by decide) ?_
  refine T_iaddN dL_law_1111 ?_
  refine T_sld dL_law_1112 (by omega) (by omega) ?_
  refine T_v1q (cu2 := cu + 3) (su2 := su + 9) dL_law_1113 lv_L_121 rfl (mH_get (k := 0) hA1 rfl) rfl (c2 A1 B1 hA1) (xc_r r1) (Nat.le_refl _) (Nat.le_refl _) hc hs (fun r2 h2 q2 => ?_)
  obtain ⟨u2, rfl, hR⟩ := q2
  obtain ⟨rfl, hs2⟩ := q1 r2 u2 hR
  obtain ⟨w, rfl, v, rfl⟩ := cv _ _ hR
  exact T_icmp_eq (tgt := 1121) dL_law_1116 (by decide) (fun _ => K _ _ _ (inv_ag hA1 hs2)) (fun c => absurd rfl c)
end W1
section W2
variable {nm : String} {b L : Nat} {xs : Nat → Int32} {cu su pc i : Nat} {ls : List (Nat × Value)} {st : List Value} {h A B : XH} {u : MSt}
theorem T_law_33 {y : Int32} (k0 : T (M_L_law nm) (lwE b L xs) lwZ cu su 148 ls st h) (k1 : T (M_L_law nm) (lwE b L xs) lwZ cu su 201 ls st h) (k2 : T (M_L_law nm) (lwE b L xs) lwZ cu su 234 ls st h) (k3 : T (M_L_law nm) (lwE b L xs) lwZ cu su 267 ls st h) (k4 : T (M_L_law nm) (lwE b L xs) lwZ cu su 316 ls st h) (k5 : T (M_L_law nm) (lwE b L xs) lwZ cu su 379 ls st h) (k6 : T (M_L_law nm) (lwE b L xs) lwZ cu su 402 ls st h) (k7 : T (M_L_law nm) (lwE b L xs) lwZ cu su 435 ls st h) (k8 : T (M_L_law nm) (lwE b L xs) lwZ cu su 458 ls st h) (k9 : T (M_L_law nm) (lwE b L xs) lwZ cu su 501 ls st h) (k10 : T (M_L_law nm) (lwE b L xs) lwZ cu su 524 ls st h) (k11 : T (M_L_law nm) (lwE b L xs) lwZ cu su 587 ls st h) (k12 : T (M_L_law nm) (lwE b L xs) lwZ cu su 650 ls st h) (k13 : T (M_L_law nm) (lwE b L xs) lwZ cu su 713 ls st h) (k14 : T (M_L_law nm) (lwE b L xs) lwZ cu su 777 ls st h) (k15 : T (M_L_law nm) (lwE b L xs) lwZ cu su 820 ls st h) (k16 : T (M_L_law nm) (lwE b L xs) lwZ cu su 843 ls st h) (k17 : T (M_L_law nm) (lwE b L xs) lwZ cu su 886 ls st h) (k18 : T (M_L_law nm) (lwE b L xs) lwZ cu su 930 ls st h) (k19 : T (M_L_law nm) (lwE b L xs) lwZ cu su 993 ls st h) (k20 : T (M_L_law nm) (lwE b L xs) lwZ cu su 1016 ls st h) (k21 : T (M_L_law nm) (lwE b L xs) lwZ cu su 1039 ls st h) (k22 : T (M_L_law nm) (lwE b L xs) lwZ cu su 1072 ls st h) (k23 : T (M_L_law nm) (lwE b L xs) lwZ cu su 1085 ls st h) (k24 : T (M_L_law nm) (lwE b L xs) lwZ cu su 1098 ls st h) (kd : T (M_L_law nm) (lwE b L xs) lwZ cu su 1121 ls st h) : T (M_L_law nm) (lwE b L xs) lwZ cu su 33 ls (.int y :: st) h := by
  by_cases c0 : y.toInt < 0 ∨ 24 < y.toInt
  · exact T_tableOut dL_law_33 c0 (by decide) kd
  · obtain ⟨k, hk, e⟩ : ∃ k : Nat, k < 25 ∧ y.toInt = k := ⟨y.toInt.toNat, by omega, by omega⟩
    have h1 : ¬ y.toInt < 0 := by omega
    have h2 : ¬ 24 < y.toInt := by omega
    have e2 : (y.toInt - 0).toNat = k := by omega
    rcases (show k = 0 ∨ k = 1 ∨ k = 2 ∨ k = 3 ∨ k = 4 ∨ k = 5 ∨ k = 6 ∨ k = 7 ∨ k = 8 ∨ k = 9 ∨ k = 10 ∨ k = 11 ∨ k = 12 ∨ k = 13 ∨ k = 14 ∨ k = 15 ∨ k = 16 ∨ k = 17 ∨ k = 18 ∨ k = 19 ∨ k = 20 ∨ k = 21 ∨ k = 22 ∨ k = 23 ∨ k = 24 by omega) with rfl | rfl | rfl | rfl | rfl | rfl | rfl | rfl | rfl | rfl | rfl | rfl | rfl | rfl | rfl | rfl | rfl | rfl | rfl | rfl | rfl | rfl | rfl | rfl | rfl
    · exact T_tableIn dL_law_33 h1 h2 (off := 115) (by rw [e2]; rfl) (by decide) k0
    · exact T_tableIn dL_law_33 h1 h2 (off := 168) (by rw [e2]; rfl) (by decide) k1
    · exact T_tableIn dL_law_33 h1 h2 (off := 201) (by rw [e2]; rfl) (by decide) k2
    · exact T_tableIn dL_law_33 h1 h2 (off := 234) (by rw [e2]; rfl) (by decide) k3
    · exact T_tableIn dL_law_33 h1 h2 (off := 283) (by rw [e2]; rfl) (by decide) k4
    · exact T_tableIn dL_law_33 h1 h2 (off := 346) (by rw [e2]; rfl) (by decide) k5
    · exact T_tableIn dL_law_33 h1 h2 (off := 369) (by rw [e2]; rfl) (by decide) k6
    · exact T_tableIn dL_law_33 h1 h2 (off := 402) (by rw [e2]; rfl) (by decide) k7
    · exact T_tableIn dL_law_33 h1 h2 (off := 425) (by rw [e2]; rfl) (by decide) k8
    · exact T_tableIn dL_law_33 h1 h2 (off := 468) (by rw [e2]; rfl) (by decide) k9
    · exact T_tableIn dL_law_33 h1 h2 (off := 491) (by rw [e2]; rfl) (by decide) k10
    · exact T_tableIn dL_law_33 h1 h2 (off := 554) (by rw [e2]; rfl) (by decide) k11
    · exact T_tableIn dL_law_33 h1 h2 (off := 617) (by rw [e2]; rfl) (by decide) k12
    · exact T_tableIn dL_law_33 h1 h2 (off := 680) (by rw [e2]; rfl) (by decide) k13
    · exact T_tableIn dL_law_33 h1 h2 (off := 744) (by rw [e2]; rfl) (by decide) k14
    · exact T_tableIn dL_law_33 h1 h2 (off := 787) (by rw [e2]; rfl) (by decide) k15
    · exact T_tableIn dL_law_33 h1 h2 (off := 810) (by rw [e2]; rfl) (by decide) k16
    · exact T_tableIn dL_law_33 h1 h2 (off := 853) (by rw [e2]; rfl) (by decide) k17
    · exact T_tableIn dL_law_33 h1 h2 (off := 897) (by rw [e2]; rfl) (by decide) k18
    · exact T_tableIn dL_law_33 h1 h2 (off := 960) (by rw [e2]; rfl) (by decide) k19
    · exact T_tableIn dL_law_33 h1 h2 (off := 983) (by rw [e2]; rfl) (by decide) k20
    · exact T_tableIn dL_law_33 h1 h2 (off := 1006) (by rw [e2]; rfl) (by decide) k21
    · exact T_tableIn dL_law_33 h1 h2 (off := 1039) (by rw [e2]; rfl) (by decide) k22
    · exact T_tableIn dL_law_33 h1 h2 (off := 1052) (by rw [e2]; rfl) (by decide) k23
    · exact T_tableIn dL_law_33 h1 h2 (off := 1065) (by rw [e2]; rfl) (by decide) k24
theorem lp_law (hL : L ≤ 384) : ∀ r i cu su A u B, Inv A u B → L < i + 6 * r + 6 → i < 1000 → cu + 3 * r ≤ 600000 → su + 9 * r ≤ 7302250 → T (M_L_law nm) (lwE b L xs) lwZ cu su 18 [(0, .float 0), (1, .ref 0), (2, .ref 67), (3, .int (nI i))] [] (mH A u B) := by
  have hgt : ∀ i, i < 1000 → (nI L - 6 < nI i ↔ L < i + 6) := fun i hi => by
    rw [Int32.lt_iff_toInt_lt, nI_toInt (by omega), show (nI L - 6).toInt = (L : Int) - (6 : Nat) from pk_sub_toInt (b := 6) (by omega) (by decide)]
    omega
  intro r
  induction r with
  | zero =>
    intro i cu su A u B I hr hi hc hs
    refine T_iload_n dL_law_18 rfl ?_
    refine T_aload_nS dL_law_19 rfl ?_
    refine T_slen dL_law_20 ?_
    refine T_bipush (v := 6) dL_law_21 (by decide) ?_
    refine T_isub dL_law_23 ?_
    refine T_icmp_gt (tgt := 1127) dL_law_24 (by decide) (fun _ => ?_) (fun c => absurd ((hgt i hi).mpr (by omega)) c)
    refine T_iconst (v := 1) dL_law_1127 (by decide) ?_
    exact T_lend dL_law_1128 (by omega) (by omega)
  | succ r ih =>
    intro i cu su A u B I hr hi hc hs
    have K : ∀ A2 u2 B2, Inv A2 u2 B2 → i + 6 ≤ L → T (M_L_law nm) (lwE b L xs) lwZ (cu + 3) (su + 9) 1121 [(0, .float 0), (1, .ref 0), (2, .ref 67), (3, .int (nI i))] [] (mH A2 u2 B2) := fun A2 u2 B2 I2 hi6 => by
      refine T_iinc dL_law_1121 rfl (nb rfl) rfl ?_
      refine T_goto (tgt := 18) dL_law_1124 (by decide) ?_
      refine T_ls (ls2 := [(0, .float 0), (1, .ref 0), (2, .ref 67), (3, .int (nI (i + 6)))]) ?_ (ih (i + 6) (cu + 3) (su + 9) A2 u2 B2 I2 (by omega) (by omega) (by omega) (by omega))
      show [(0, Value.float 0), (1, .ref 0), (2, .ref 67), (3, .int (nI i + Int32.ofInt 6))] = _
      rw [show Int32.ofInt 6 = nI 6 from rfl, nI_add]
    refine T_iload_n dL_law_18 rfl ?_
    refine T_aload_nS dL_law_19 rfl ?_
    refine T_slen dL_law_20 ?_
    refine T_bipush (v := 6) dL_law_21 (by decide) ?_
    refine T_isub dL_law_23 ?_
    refine T_icmp_gt (tgt := 1127) dL_law_24 (by decide) (fun _ => ?_) (fun c => ?_)
    · refine T_iconst (v := 1) dL_law_1127 (by decide) ?_
      exact T_lend dL_law_1128 (by omega) (by omega)
    · have hi6 : i + 6 ≤ L := by
        have : ¬ L < i + 6 := fun q => c ((hgt i hi).mpr q)
        omega
      have K := fun A2 u2 B2 I2 => K A2 u2 B2 I2 hi6
      have hc3 : cu + 3 ≤ 600000 := by omega
      have hs9 : su + 9 ≤ 7302250 := by omega
      refine T_aload_nS dL_law_27 rfl ?_
      refine T_iload_n dL_law_28 rfl ?_
      refine T_sld dL_law_29 (by omega) (by omega) ?_
      refine T_bipush (v := 31) dL_law_30 (by decide) ?_
      refine T_iand dL_law_32 ?_
      exact T_law_33 (lc_lake I hi6 hL hc3 hs9 K) (lc_ofBoat I hi6 hL hc3 hs9 K) (lc_wind I hi6 hL hc3 hs9 K) (lc_isle I hi6 hL hc3 hs9 K) (lc_plan I hi6 hL hc3 hs9 K) (lc_soonest I hi6 hL hc3 hs9 K) (lc_hats I hi6 hL hc3 hs9 K) (lc_rid I hi6 hL hc3 hs9 K) (lc_reading I hi6 hL hc3 hs9 K) (lc_back I hi6 hL hc3 hs9 K) (lc_winds I hi6 hL hc3 hs9 K) (lc_kinds I hi6 hL hc3 hs9 K) (lc_speeds I hi6 hL hc3 hs9 K) (lc_odds I hi6 hL hc3 hs9 K) (lc_sheet I hi6 hL hc3 hs9 K) (lc_lose I hi6 hL hc3 hs9 K) (lc_put I hi6 hL hc3 hs9 K) (lc_cell I hi6 hL hc3 hs9 K) (lc_copy I hi6 hL hc3 hs9 K) (lc_tell I hi6 hL hc3 hs9 K) (lc_hail I hi6 hL hc3 hs9 K) (lc_as I hi6 hL hc3 hs9 K) (lc_trace I hi6 hL hc3 hs9 K) (lc_fault I hi6 hL hc3 hs9 K) (lc_many I hi6 hL hc3 hs9 K) (T_widL (Nat.le_add_right _ _) (Nat.le_add_right _ _) (K A u B I))
end W2
