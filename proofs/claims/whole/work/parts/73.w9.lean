/-! copy beside the reference's -/
section C73
variable {h h1 : XH} {u : MSt} {L : LK} {wn : Nat → Nat} {wy nw wt sp isl nr : Nat} {bp rb rh rc : Nat → Nat} {ln sz : Nat → Int32} {g : Nat → Nat → Int32}
theorem mCp_eq (f : Nat → Int32) {src dst n : Nat} {ah : Bool} (h1 : ah = true → src ≤ dst ∨ dst + n ≤ src ∨ src + n ≤ dst) (h2 : ah = false → dst ≤ src ∨ dst + n ≤ src ∨ src + n ≤ dst) : ∀ q, q ≤ n → ∀ x, mCp f src dst n ah q x = if (if ah = true then dst + (n - q) ≤ x ∧ x < dst + n else dst ≤ x ∧ x < dst + q) then f (src + (x - dst)) else f x := by
  intro q
  induction q with
  | zero =>
    intro _ x
    rw [mCp]
    cases ah with
    | true => rw [if_neg (by simp only [if_true]; omega)]
    | false => rw [if_neg (by simp only [Bool.false_eq_true, if_false]; omega)]
  | succ q ih =>
    intro hq x
    have ih := ih (by omega)
    rw [mCp]
    cases ah with
    | true =>
      have h1 := h1 rfl
      simp only [if_true] at ih ⊢
      show upd _ (dst + (n - 1 - q)) (mCp f src dst n true q (src + (n - 1 - q))) x = _
      by_cases e : x = dst + (n - 1 - q)
      · subst e
        rw [upd_s, ih, if_pos (show dst + (n - (q + 1)) ≤ dst + (n - 1 - q) ∧ dst + (n - 1 - q) < dst + n by omega), if_neg (by omega)]
        congr 1
        omega
      · rw [upd_n e, ih]
        by_cases c : dst + (n - q) ≤ x ∧ x < dst + n
        · rw [if_pos c, if_pos (by omega)]
        · rw [if_neg c, if_neg (by omega)]
    | false =>
      have h2 := h2 rfl
      simp only [Bool.false_eq_true, if_false] at ih ⊢
      show upd _ (dst + q) (mCp f src dst n false q (src + q)) x = _
      by_cases e : x = dst + q
      · subst e
        rw [upd_s, ih, if_pos (show dst ≤ dst + q ∧ dst + q < dst + (q + 1) by omega), if_neg (by omega)]
        congr 1
        omega
      · rw [upd_n e, ih]
        by_cases c : dst ≤ x ∧ x < dst + q
        · rw [if_pos c, if_pos (by omega)]
        · rw [if_neg c, if_neg (by omega)]
theorem mCp_all (f : Nat → Int32) {src dst n : Nat} {ah : Bool} (h1 : ah = true → src ≤ dst ∨ dst + n ≤ src ∨ src + n ≤ dst) (h2 : ah = false → dst ≤ src ∨ dst + n ≤ src ∨ src + n ≤ dst) (x : Nat) : mCp f src dst n ah n x = if dst ≤ x ∧ x < dst + n then f (src + (x - dst)) else f x := by
  rw [mCp_eq f h1 h2 n (Nat.le_refl _) x]
  cases ah with
  | true => simp only [if_true, Nat.sub_self, Nat.add_zero]
  | false => simp only [Bool.false_eq_true, if_false]
def cpF (lk lo zk zo i j n : Int32) : Int32 := if lk = -1 ∨ lo = -1 then 1 else if lk = lo then (if shH zk i n ∧ shH zo j n then 0 else 3) else 2
theorem cpF_eq {sk so lk lo zk zo i j n : Int32} (hk : (sk = -9 ∧ lk = -1) ∨ ∃ k, k ≤ 2 ∧ sk = nI k ∧ lk = nI k) (ho : (so = -9 ∧ lo = -1) ∨ ∃ k, k ≤ 2 ∧ so = nI k ∧ lo = nI k) : mCopyF sk so zk zo i j n = cpF lk lo zk zo i j n := by
  have e1 := ln_no hk
  have e2 := ln_no ho
  unfold mCopyF cpF
  by_cases a : sk = -9
  · rw [if_pos a, if_pos (Or.inl (e1.mp a))]
  · rw [if_neg a]
    by_cases b : so = -9
    · rw [if_pos b, if_pos (Or.inr (e2.mp b))]
    · rw [if_neg b, if_neg (show ¬ (lk = -1 ∨ lo = -1) from fun q => q.elim (fun z => a (e1.mpr z)) (fun z => b (e2.mpr z)))]
      have e3 : sk = so ↔ lk = lo := by
        rcases hk with ⟨x, -⟩ | ⟨k, -, x, y⟩
        · exact absurd x a
        · rcases ho with ⟨z, -⟩ | ⟨k2, -, z, w⟩
          · exact absurd z b
          · rw [x, y, z, w]
      by_cases c : sk = so
      · rw [if_pos c, if_pos (e3.mp c)]
        by_cases d : shH zk i n ∧ shH zo j n
        · obtain ⟨⟨d1, d2, d3, d4⟩, -, d6, d7, d8⟩ := id d
          rw [if_pos d, if_neg (Int32.not_lt.mpr d2), if_neg (Int32.not_lt.mpr d6), if_neg (Int32.not_lt.mpr d1), if_neg (Int32.not_lt.mpr d3), if_neg (Int32.not_lt.mpr d7), if_neg (Int32.not_lt.mpr d4), if_pos d8]
        · rw [if_neg d]
          by_cases x1 : i < 0
          · rw [if_pos x1]
          rw [if_neg x1]
          by_cases x2 : j < 0
          · rw [if_pos x2]
          rw [if_neg x2]
          by_cases x3 : n < 0
          · rw [if_pos x3]
          rw [if_neg x3]
          by_cases x4 : zk < i
          · rw [if_pos x4]
          rw [if_neg x4]
          by_cases x5 : zo < j
          · rw [if_pos x5]
          rw [if_neg x5]
          by_cases x6 : zk - i < n
          · rw [if_pos x6]
          rw [if_neg x6, if_neg (fun x7 => d ⟨⟨Int32.not_lt.mp x3, Int32.not_lt.mp x1, Int32.not_lt.mp x4, Int32.not_lt.mp x6⟩, Int32.not_lt.mp x3, Int32.not_lt.mp x2, Int32.not_lt.mp x5, x7⟩)]
      · rw [if_neg c, if_neg (fun z => c (e3.mpr z))]
theorem s_copy (hs : Sim h u) (k i o j n : Int32) : Con M_X11_copy [.ref 0, .int k, .int i, .int o, .int j, .int n] h (SQ h (RfE (.int (m_copy0 (m0 u 0) k i o j n).1) (m_copy0 (m0 u 0) k i o j n).2)) := by
  obtain ⟨wy, nw, wt, sp, isl, bp, L, wn, nr, rb, rh, rc, ln, sz, g, p0⟩ := id hs
  have p := p0.flt 0
  have hS := p.1.2.2.2.2.2.2.2.2.2.2
  obtain ⟨sf, s1, s2⟩ := id hS
  have hU := p.2.2.2.2
  have ag0 : ∀ x, Ag (fun k => k < 67) h (h.set 0 (cwO wy nw wt sp x)) := fun x => Ag.rf.set (by decide)
  have em : ∀ x, m0 (m0 u 0) x = m0 u x := fun x => by
    show (va_up (va_up u.1 0 0) 0 x, u.2) = _
    congr 1
    funext y
    unfold va_up
    split <;> rfl
  refine Con.of rfl (nb rfl) ?_
  by_cases q1 : 0 ≤ k ∧ k ≤ 3
  · by_cases q2 : 0 ≤ o ∧ o ≤ 3
    · obtain ⟨kk, hk, rfl⟩ := shN q1
      obtain ⟨oo, ho, rfl⟩ := shN q2
      obtain ⟨s3, s4, s5⟩ := s2 kk hk
      obtain ⟨t3, t4, t5⟩ := s2 oo ho
      obtain ⟨u1, ⟨ll, l1, l2, l3⟩, u3⟩ := hU kk hk
      obtain ⟨v1, ⟨mm, m1, m2, m3⟩, v3⟩ := hU oo ho
      have ec : (nI kk).toNatClampNeg = kk := nI_clamp (by omega)
      have eo : (nI oo).toNatClampNeg = oo := nI_clamp (by omega)
      have eF := cpF_eq (zk := nI ll) (zo := nI mm) (i := i) (j := j) (n := n) u1 v1
      have er : ∀ x, cpF (ln kk) (ln oo) (nI ll) (nI mm) i j n = x → m_copy0 (m0 u 0) (nI kk) i (nI oo) j n = if x = 0 then (n, ((m0 u 0).1, va_up (m0 u 0).2 4 (mCp ((m0 u 0).2 4) (60 * kk + i.toNatClampNeg) (60 * oo + j.toNatClampNeg) n.toNatClampNeg (decide (i < j)) n.toNatClampNeg))) else (-10 - x, m0 u x) := by
        intro x hx
        unfold m_copy0
        rw [if_pos q1, if_pos q2, ec, eo, l2, m2, eF, hx, em]
      rw [l3] at s4
      rw [m3] at t4
      by_cases z1 : ln kk = -1 ∨ ln oo = -1
      · rw [er 1 (by unfold cpF; rw [if_pos z1]), if_neg (by decide)]
        refine T_aload_n dX11_copy_0 rfl ?_
        refine T_iconst (v := 0) dX11_copy_1 (by decide) ?_
        refine T_put dX11_copy_2 fp_X11_72_11 p0.1.1.1 (nb rfl) (fun _ => ⟨rfl, rfl⟩) ?_
        refine T_iload_n dX11_copy_5 rfl ?_
        refine T_s1e (cu2 := 0) (su2 := 0) dX11_copy_6 ls_X11_77 rfl (c_X11_isSheet _) (nb rfl) (nb rfl) (nb rfl) (nb rfl) (nb rfl) ?_
        refine T_if_eqB (tgt := 19) dX11_copy_9 (by decide) (fun c9 => ?_) (fun c9 => ?_)
        · exact absurd q1 c9
        · refine T_iload_n dX11_copy_12 rfl ?_
          refine T_s1e (cu2 := 0) (su2 := 0) dX11_copy_13 ls_X11_77 rfl (c_X11_isSheet _) (nb rfl) (nb rfl) (nb rfl) (nb rfl) (nb rfl) ?_
          refine T_if_neB (tgt := 21) dX11_copy_16 (by decide) (fun c16 => ?_) (fun c16 => ?_)
          · refine T_aload_n dX11_copy_21 rfl ?_
            refine T_get dX11_copy_22 fl_X11_13_11 p.1.1.1 rfl ?_
            refine T_iload_n dX11_copy_25 rfl ?_
            refine T_aald3 dX11_copy_26 s1 (nI_in (by omega) (by decide)) (by rw [ec]; exact s3) ?_
            refine T_astore dX11_copy_27 (by decide) rfl ?_
            refine T_aload_n dX11_copy_29 rfl ?_
            refine T_get dX11_copy_30 fl_X11_13_11 p.1.1.1 rfl ?_
            refine T_iload_n dX11_copy_33 rfl ?_
            refine T_aald3 dX11_copy_34 s1 (nI_in (by omega) (by decide)) (by rw [eo]; exact t3) ?_
            refine T_astore dX11_copy_35 (by decide) rfl ?_
            refine T_aload dX11_copy_37 rfl ?_
            refine T_v0e (cu2 := 0) (su2 := 0) dX11_copy_39 lv_X11_286 rfl s4 rfl (c_X5_hasRow s4) (nb rfl) (nb rfl) (nb rfl) (nb rfl) (nb rfl) ?_
            refine T_if_eqB (tgt := 53) dX11_copy_42 (by decide) (fun c42 => ?_) (fun c42 => ?_)
            · refine T_aload_n dX11_copy_53 rfl ?_
              refine T_iconst (v := 1) dX11_copy_54 (by decide) ?_
              refine T_v1e (cu2 := 0) (su2 := 0) dX11_copy_55 lv_X11_88 rfl p.1.1.1 rfl (c_X11_faulted p.1.1.1 _) (nb rfl) (nb rfl) (nb rfl) (nb rfl) (nb rfl) ?_
              refine T_h (List.set_set ..) ?_
              refine T_iret dX11_copy_58 rfl (nb rfl) (nb rfl) ?_
              exact sq_id (ag0 1) rfl (p0.flt 1).sim
            · refine T_aload dX11_copy_45 rfl ?_
              refine T_v0e (cu2 := 0) (su2 := 0) dX11_copy_47 lv_X11_286 rfl t4 rfl (c_X5_hasRow t4) (nb rfl) (nb rfl) (nb rfl) (nb rfl) (nb rfl) ?_
              refine T_if_neB (tgt := 59) dX11_copy_50 (by decide) (fun c50 => ?_) (fun c50 => ?_)
              · exact (z1.elim c42 c50).elim
              · refine T_aload_n dX11_copy_53 rfl ?_
                refine T_iconst (v := 1) dX11_copy_54 (by decide) ?_
                refine T_v1e (cu2 := 0) (su2 := 0) dX11_copy_55 lv_X11_88 rfl p.1.1.1 rfl (c_X11_faulted p.1.1.1 _) (nb rfl) (nb rfl) (nb rfl) (nb rfl) (nb rfl) ?_
                refine T_h (List.set_set ..) ?_
                refine T_iret dX11_copy_58 rfl (nb rfl) (nb rfl) ?_
                exact sq_id (ag0 1) rfl (p0.flt 1).sim
          · exact absurd q2 c16
      · have z1a : ¬ ln kk = -1 := fun z => z1 (Or.inl z)
        have z1b : ¬ ln oo = -1 := fun z => z1 (Or.inr z)
        by_cases z2 : ln kk = ln oo
        · by_cases z3 : shH (nI ll) i n ∧ shH (nI mm) j n
          · obtain ⟨nn, hnn, rfl⟩ := nI_of (Int32.not_lt.mpr z3.1.1)
            obtain ⟨ii, rfl, hii⟩ := shH_N l1 z3.1 hnn
            obtain ⟨jj, rfl, hjj⟩ := shH_N m1 z3.2 hnn
            have ei : (nI ii).toNatClampNeg = ii := nI_clamp (by omega)
            have ej : (nI jj).toNatClampNeg = jj := nI_clamp (by omega)
            have en : (nI nn).toNatClampNeg = nn := nI_clamp (by omega)
            rw [er 0 (by unfold cpF; rw [if_neg z1, if_pos z2, if_pos z3]), if_pos rfl, ei, ej, en]
            have hcp : ∀ x, mCp ((m0 u 0).2 4) (60 * kk + ii) (60 * oo + jj) nn (decide (nI ii < nI jj)) nn x = if 60 * oo + jj ≤ x ∧ x < 60 * oo + jj + nn then (m0 u 0).2 4 (60 * kk + ii + (x - (60 * oo + jj))) else (m0 u 0).2 4 x := by
              have d : nI ii < nI jj ↔ ii < jj := nI_ltI (by omega) (by omega)
              refine mCp_all _ (fun e => ?_) (fun e => ?_)
              · have := d.mp (of_decide_eq_true e)
                rcases Nat.lt_trichotomy kk oo with w | w | w <;> omega
              · have : ¬ ii < jj := fun y => of_decide_eq_false e (d.mpr y)
                rcases Nat.lt_trichotomy kk oo with w | w | w <;> omega
            have hsim : Sim ((h.set 0 (cwO wy nw wt sp 0)).set (60 + 2 * oo) (r60 (va_cpy (g kk) (g oo) ii jj nn))) ((m0 u 0).1, va_up (m0 u 0).2 4 (mCp ((m0 u 0).2 4) (60 * kk + ii) (60 * oo + jj) nn (decide (nI ii < nI jj)) nn)) := by
              refine (p.shs (u2 := ((m0 u 0).1, va_up (m0 u 0).2 4 (mCp ((m0 u 0).2 4) (60 * kk + ii) (60 * oo + jj) nn (decide (nI ii < nI jj)) nn))) (Ag.rf.set (by omega)) (hS.s2 ho (va_cpy (g kk) (g oo) ii jj nn)) (fun b hb => ?_) rfl (fun b hb => va_up_ne _ _ (by omega))).sim
              obtain ⟨w1, w2, w3⟩ := hU b hb
              refine ⟨w1, w2, fun x hx => ?_⟩
              show mCp ((m0 u 0).2 4) (60 * kk + ii) (60 * oo + jj) nn (decide (nI ii < nI jj)) nn (60 * b + x) = _
              rw [hcp]
              by_cases y : b = oo
              · subst y
                rw [va_up_self]
                unfold va_cpy
                by_cases y2 : jj ≤ x ∧ x < jj + nn
                · rw [if_pos (by omega), if_pos y2, show 60 * kk + ii + (60 * b + x - (60 * b + jj)) = 60 * kk + (ii + (x - jj)) by omega]
                  exact u3 _ (by omega)
                · rw [if_neg (by omega), if_neg y2]
                  exact w3 x hx
              · rw [va_up_ne _ _ y, if_neg (by omega)]
                exact w3 x hx
            refine T_aload_n dX11_copy_0 rfl ?_
            refine T_iconst (v := 0) dX11_copy_1 (by decide) ?_
            refine T_put dX11_copy_2 fp_X11_72_11 p0.1.1.1 (nb rfl) (fun _ => ⟨rfl, rfl⟩) ?_
            refine T_iload_n dX11_copy_5 rfl ?_
            refine T_s1e (cu2 := 0) (su2 := 0) dX11_copy_6 ls_X11_77 rfl (c_X11_isSheet _) (nb rfl) (nb rfl) (nb rfl) (nb rfl) (nb rfl) ?_
            refine T_if_eqB (tgt := 19) dX11_copy_9 (by decide) (fun c9 => ?_) (fun c9 => ?_)
            · exact absurd q1 c9
            · refine T_iload_n dX11_copy_12 rfl ?_
              refine T_s1e (cu2 := 0) (su2 := 0) dX11_copy_13 ls_X11_77 rfl (c_X11_isSheet _) (nb rfl) (nb rfl) (nb rfl) (nb rfl) (nb rfl) ?_
              refine T_if_neB (tgt := 21) dX11_copy_16 (by decide) (fun c16 => ?_) (fun c16 => ?_)
              · refine T_aload_n dX11_copy_21 rfl ?_
                refine T_get dX11_copy_22 fl_X11_13_11 p.1.1.1 rfl ?_
                refine T_iload_n dX11_copy_25 rfl ?_
                refine T_aald3 dX11_copy_26 s1 (nI_in (by omega) (by decide)) (by rw [ec]; exact s3) ?_
                refine T_astore dX11_copy_27 (by decide) rfl ?_
                refine T_aload_n dX11_copy_29 rfl ?_
                refine T_get dX11_copy_30 fl_X11_13_11 p.1.1.1 rfl ?_
                refine T_iload_n dX11_copy_33 rfl ?_
                refine T_aald3 dX11_copy_34 s1 (nI_in (by omega) (by decide)) (by rw [eo]; exact t3) ?_
                refine T_astore dX11_copy_35 (by decide) rfl ?_
                refine T_aload dX11_copy_37 rfl ?_
                refine T_v0e (cu2 := 0) (su2 := 0) dX11_copy_39 lv_X11_286 rfl s4 rfl (c_X5_hasRow s4) (nb rfl) (nb rfl) (nb rfl) (nb rfl) (nb rfl) ?_
                refine T_if_eqB (tgt := 53) dX11_copy_42 (by decide) (fun c42 => ?_) (fun c42 => ?_)
                · exact absurd z1a c42
                · refine T_aload dX11_copy_45 rfl ?_
                  refine T_v0e (cu2 := 0) (su2 := 0) dX11_copy_47 lv_X11_286 rfl t4 rfl (c_X5_hasRow t4) (nb rfl) (nb rfl) (nb rfl) (nb rfl) (nb rfl) ?_
                  refine T_if_neB (tgt := 59) dX11_copy_50 (by decide) (fun c50 => ?_) (fun c50 => ?_)
                  · refine T_aload dX11_copy_59 rfl ?_
                    refine T_get dX11_copy_61 fl_X11_289_5 s4 rfl ?_
                    refine T_aload dX11_copy_64 rfl ?_
                    refine T_get dX11_copy_66 fl_X11_289_5 t4 rfl ?_
                    refine T_icmp_eq (tgt := 78) dX11_copy_69 (by decide) (fun c69 => ?_) (fun c69 => ?_)
                    · refine T_aload dX11_copy_78 rfl ?_
                      refine T_iload_n dX11_copy_80 rfl ?_
                      refine T_iload dX11_copy_81 rfl ?_
                      refine T_v2e (cu2 := 0) (su2 := 0) dX11_copy_83 lv_X11_124 rfl s4 rfl (c_X5_holds s4 _ _) (nb rfl) (nb rfl) (nb rfl) (nb rfl) (nb rfl) ?_
                      refine T_if_eqB (tgt := 101) dX11_copy_86 (by decide) (fun c86 => ?_) (fun c86 => ?_)
                      · exact absurd z3.1 c86
                      · refine T_aload dX11_copy_89 rfl ?_
                        refine T_iload dX11_copy_91 rfl ?_
                        refine T_iload dX11_copy_93 rfl ?_
                        refine T_v2e (cu2 := 0) (su2 := 0) dX11_copy_95 lv_X11_124 rfl t4 rfl (c_X5_holds t4 _ _) (nb rfl) (nb rfl) (nb rfl) (nb rfl) (nb rfl) ?_
                        refine T_if_neB (tgt := 107) dX11_copy_98 (by decide) (fun c98 => ?_) (fun c98 => ?_)
                        · refine T_aload dX11_copy_107 rfl ?_
                          refine T_get dX11_copy_109 fl_X11_92_5 s4 rfl ?_
                          refine T_iload_n dX11_copy_112 rfl ?_
                          refine T_aload dX11_copy_113 rfl ?_
                          refine T_get dX11_copy_115 fl_X11_92_5 t4 rfl ?_
                          refine T_iload dX11_copy_118 rfl ?_
                          refine T_iload dX11_copy_120 rfl ?_
                          refine T_copy dX11_copy_122 jl_X11_295 s5 t5 (nI_pos (by omega)) (nI_pos (by omega)) (nI_pos (by omega)) (by rw [ei, en]; omega) (by rw [ej, en]; omega) (nb rfl) (nb rfl) ?_
                          rw [ei, ej, en]
                          refine T_iload dX11_copy_125 rfl ?_
                          refine T_iret dX11_copy_127 rfl (nb rfl) (nb rfl) ?_
                          exact sq_id ((ag0 0).set (by omega)) rfl hsim
                        · exact absurd z3.2 c98
                    · exact absurd z2 c69
                  · exact absurd z1b c50
              · exact absurd q2 c16
          · rw [er 3 (by unfold cpF; rw [if_neg z1, if_pos z2, if_neg z3]), if_neg (by decide)]
            refine T_aload_n dX11_copy_0 rfl ?_
            refine T_iconst (v := 0) dX11_copy_1 (by decide) ?_
            refine T_put dX11_copy_2 fp_X11_72_11 p0.1.1.1 (nb rfl) (fun _ => ⟨rfl, rfl⟩) ?_
            refine T_iload_n dX11_copy_5 rfl ?_
            refine T_s1e (cu2 := 0) (su2 := 0) dX11_copy_6 ls_X11_77 rfl (c_X11_isSheet _) (nb rfl) (nb rfl) (nb rfl) (nb rfl) (nb rfl) ?_
            refine T_if_eqB (tgt := 19) dX11_copy_9 (by decide) (fun c9 => ?_) (fun c9 => ?_)
            · exact absurd q1 c9
            · refine T_iload_n dX11_copy_12 rfl ?_
              refine T_s1e (cu2 := 0) (su2 := 0) dX11_copy_13 ls_X11_77 rfl (c_X11_isSheet _) (nb rfl) (nb rfl) (nb rfl) (nb rfl) (nb rfl) ?_
              refine T_if_neB (tgt := 21) dX11_copy_16 (by decide) (fun c16 => ?_) (fun c16 => ?_)
              · refine T_aload_n dX11_copy_21 rfl ?_
                refine T_get dX11_copy_22 fl_X11_13_11 p.1.1.1 rfl ?_
                refine T_iload_n dX11_copy_25 rfl ?_
                refine T_aald3 dX11_copy_26 s1 (nI_in (by omega) (by decide)) (by rw [ec]; exact s3) ?_
                refine T_astore dX11_copy_27 (by decide) rfl ?_
                refine T_aload_n dX11_copy_29 rfl ?_
                refine T_get dX11_copy_30 fl_X11_13_11 p.1.1.1 rfl ?_
                refine T_iload_n dX11_copy_33 rfl ?_
                refine T_aald3 dX11_copy_34 s1 (nI_in (by omega) (by decide)) (by rw [eo]; exact t3) ?_
                refine T_astore dX11_copy_35 (by decide) rfl ?_
                refine T_aload dX11_copy_37 rfl ?_
                refine T_v0e (cu2 := 0) (su2 := 0) dX11_copy_39 lv_X11_286 rfl s4 rfl (c_X5_hasRow s4) (nb rfl) (nb rfl) (nb rfl) (nb rfl) (nb rfl) ?_
                refine T_if_eqB (tgt := 53) dX11_copy_42 (by decide) (fun c42 => ?_) (fun c42 => ?_)
                · exact absurd z1a c42
                · refine T_aload dX11_copy_45 rfl ?_
                  refine T_v0e (cu2 := 0) (su2 := 0) dX11_copy_47 lv_X11_286 rfl t4 rfl (c_X5_hasRow t4) (nb rfl) (nb rfl) (nb rfl) (nb rfl) (nb rfl) ?_
                  refine T_if_neB (tgt := 59) dX11_copy_50 (by decide) (fun c50 => ?_) (fun c50 => ?_)
                  · refine T_aload dX11_copy_59 rfl ?_
                    refine T_get dX11_copy_61 fl_X11_289_5 s4 rfl ?_
                    refine T_aload dX11_copy_64 rfl ?_
                    refine T_get dX11_copy_66 fl_X11_289_5 t4 rfl ?_
                    refine T_icmp_eq (tgt := 78) dX11_copy_69 (by decide) (fun c69 => ?_) (fun c69 => ?_)
                    · refine T_aload dX11_copy_78 rfl ?_
                      refine T_iload_n dX11_copy_80 rfl ?_
                      refine T_iload dX11_copy_81 rfl ?_
                      refine T_v2e (cu2 := 0) (su2 := 0) dX11_copy_83 lv_X11_124 rfl s4 rfl (c_X5_holds s4 _ _) (nb rfl) (nb rfl) (nb rfl) (nb rfl) (nb rfl) ?_
                      refine T_if_eqB (tgt := 101) dX11_copy_86 (by decide) (fun c86 => ?_) (fun c86 => ?_)
                      · refine T_aload_n dX11_copy_101 rfl ?_
                        refine T_iconst (v := 3) dX11_copy_102 (by decide) ?_
                        refine T_v1e (cu2 := 0) (su2 := 0) dX11_copy_103 lv_X11_88 rfl p.1.1.1 rfl (c_X11_faulted p.1.1.1 _) (nb rfl) (nb rfl) (nb rfl) (nb rfl) (nb rfl) ?_
                        refine T_h (List.set_set ..) ?_
                        refine T_iret dX11_copy_106 rfl (nb rfl) (nb rfl) ?_
                        exact sq_id (ag0 3) rfl (p0.flt 3).sim
                      · refine T_aload dX11_copy_89 rfl ?_
                        refine T_iload dX11_copy_91 rfl ?_
                        refine T_iload dX11_copy_93 rfl ?_
                        refine T_v2e (cu2 := 0) (su2 := 0) dX11_copy_95 lv_X11_124 rfl t4 rfl (c_X5_holds t4 _ _) (nb rfl) (nb rfl) (nb rfl) (nb rfl) (nb rfl) ?_
                        refine T_if_neB (tgt := 107) dX11_copy_98 (by decide) (fun c98 => ?_) (fun c98 => ?_)
                        · exact absurd ⟨c86, c98⟩ z3
                        · refine T_aload_n dX11_copy_101 rfl ?_
                          refine T_iconst (v := 3) dX11_copy_102 (by decide) ?_
                          refine T_v1e (cu2 := 0) (su2 := 0) dX11_copy_103 lv_X11_88 rfl p.1.1.1 rfl (c_X11_faulted p.1.1.1 _) (nb rfl) (nb rfl) (nb rfl) (nb rfl) (nb rfl) ?_
                          refine T_h (List.set_set ..) ?_
                          refine T_iret dX11_copy_106 rfl (nb rfl) (nb rfl) ?_
                          exact sq_id (ag0 3) rfl (p0.flt 3).sim
                    · exact absurd z2 c69
                  · exact absurd z1b c50
              · exact absurd q2 c16
        · rw [er 2 (by unfold cpF; rw [if_neg z1, if_neg z2]), if_neg (by decide)]
          refine T_aload_n dX11_copy_0 rfl ?_
          refine T_iconst (v := 0) dX11_copy_1 (by decide) ?_
          refine T_put dX11_copy_2 fp_X11_72_11 p0.1.1.1 (nb rfl) (fun _ => ⟨rfl, rfl⟩) ?_
          refine T_iload_n dX11_copy_5 rfl ?_
          refine T_s1e (cu2 := 0) (su2 := 0) dX11_copy_6 ls_X11_77 rfl (c_X11_isSheet _) (nb rfl) (nb rfl) (nb rfl) (nb rfl) (nb rfl) ?_
          refine T_if_eqB (tgt := 19) dX11_copy_9 (by decide) (fun c9 => ?_) (fun c9 => ?_)
          · exact absurd q1 c9
          · refine T_iload_n dX11_copy_12 rfl ?_
            refine T_s1e (cu2 := 0) (su2 := 0) dX11_copy_13 ls_X11_77 rfl (c_X11_isSheet _) (nb rfl) (nb rfl) (nb rfl) (nb rfl) (nb rfl) ?_
            refine T_if_neB (tgt := 21) dX11_copy_16 (by decide) (fun c16 => ?_) (fun c16 => ?_)
            · refine T_aload_n dX11_copy_21 rfl ?_
              refine T_get dX11_copy_22 fl_X11_13_11 p.1.1.1 rfl ?_
              refine T_iload_n dX11_copy_25 rfl ?_
              refine T_aald3 dX11_copy_26 s1 (nI_in (by omega) (by decide)) (by rw [ec]; exact s3) ?_
              refine T_astore dX11_copy_27 (by decide) rfl ?_
              refine T_aload_n dX11_copy_29 rfl ?_
              refine T_get dX11_copy_30 fl_X11_13_11 p.1.1.1 rfl ?_
              refine T_iload_n dX11_copy_33 rfl ?_
              refine T_aald3 dX11_copy_34 s1 (nI_in (by omega) (by decide)) (by rw [eo]; exact t3) ?_
              refine T_astore dX11_copy_35 (by decide) rfl ?_
              refine T_aload dX11_copy_37 rfl ?_
              refine T_v0e (cu2 := 0) (su2 := 0) dX11_copy_39 lv_X11_286 rfl s4 rfl (c_X5_hasRow s4) (nb rfl) (nb rfl) (nb rfl) (nb rfl) (nb rfl) ?_
              refine T_if_eqB (tgt := 53) dX11_copy_42 (by decide) (fun c42 => ?_) (fun c42 => ?_)
              · exact absurd z1a c42
              · refine T_aload dX11_copy_45 rfl ?_
                refine T_v0e (cu2 := 0) (su2 := 0) dX11_copy_47 lv_X11_286 rfl t4 rfl (c_X5_hasRow t4) (nb rfl) (nb rfl) (nb rfl) (nb rfl) (nb rfl) ?_
                refine T_if_neB (tgt := 59) dX11_copy_50 (by decide) (fun c50 => ?_) (fun c50 => ?_)
                · refine T_aload dX11_copy_59 rfl ?_
                  refine T_get dX11_copy_61 fl_X11_289_5 s4 rfl ?_
                  refine T_aload dX11_copy_64 rfl ?_
                  refine T_get dX11_copy_66 fl_X11_289_5 t4 rfl ?_
                  refine T_icmp_eq (tgt := 78) dX11_copy_69 (by decide) (fun c69 => ?_) (fun c69 => ?_)
                  · exact absurd c69 z2
                  · refine T_aload_n dX11_copy_72 rfl ?_
                    refine T_iconst (v := 2) dX11_copy_73 (by decide) ?_
                    refine T_v1e (cu2 := 0) (su2 := 0) dX11_copy_74 lv_X11_88 rfl p.1.1.1 rfl (c_X11_faulted p.1.1.1 _) (nb rfl) (nb rfl) (nb rfl) (nb rfl) (nb rfl) ?_
                    refine T_h (List.set_set ..) ?_
                    refine T_iret dX11_copy_77 rfl (nb rfl) (nb rfl) ?_
                    exact sq_id (ag0 2) rfl (p0.flt 2).sim
                · exact absurd z1b c50
            · exact absurd q2 c16
    · have er : m_copy0 (m0 u 0) k i o j n = (-1, m0 u 0) := by unfold m_copy0; rw [if_pos q1, if_neg q2]
      rw [er]
      refine T_aload_n dX11_copy_0 rfl ?_
      refine T_iconst (v := 0) dX11_copy_1 (by decide) ?_
      refine T_put dX11_copy_2 fp_X11_72_11 p0.1.1.1 (nb rfl) (fun _ => ⟨rfl, rfl⟩) ?_
      refine T_iload_n dX11_copy_5 rfl ?_
      refine T_s1e (cu2 := 0) (su2 := 0) dX11_copy_6 ls_X11_77 rfl (c_X11_isSheet _) (nb rfl) (nb rfl) (nb rfl) (nb rfl) (nb rfl) ?_
      refine T_if_eqB (tgt := 19) dX11_copy_9 (by decide) (fun c9 => ?_) (fun c9 => ?_)
      · exact absurd q1 c9
      · refine T_iload_n dX11_copy_12 rfl ?_
        refine T_s1e (cu2 := 0) (su2 := 0) dX11_copy_13 ls_X11_77 rfl (c_X11_isSheet _) (nb rfl) (nb rfl) (nb rfl) (nb rfl) (nb rfl) ?_
        refine T_if_neB (tgt := 21) dX11_copy_16 (by decide) (fun c16 => ?_) (fun c16 => ?_)
        · exact absurd c16 q2
        · refine T_iconst (v := (-1)) dX11_copy_19 (by decide) ?_
          refine T_iret dX11_copy_20 rfl (nb rfl) (nb rfl) ?_
          exact sq_id (ag0 0) rfl p.sim
  · have er : m_copy0 (m0 u 0) k i o j n = (-1, m0 u 0) := by unfold m_copy0; rw [if_neg q1]
    rw [er]
    refine T_aload_n dX11_copy_0 rfl ?_
    refine T_iconst (v := 0) dX11_copy_1 (by decide) ?_
    refine T_put dX11_copy_2 fp_X11_72_11 p0.1.1.1 (nb rfl) (fun _ => ⟨rfl, rfl⟩) ?_
    refine T_iload_n dX11_copy_5 rfl ?_
    refine T_s1e (cu2 := 0) (su2 := 0) dX11_copy_6 ls_X11_77 rfl (c_X11_isSheet _) (nb rfl) (nb rfl) (nb rfl) (nb rfl) (nb rfl) ?_
    refine T_if_eqB (tgt := 19) dX11_copy_9 (by decide) (fun c9 => ?_) (fun c9 => ?_)
    · refine T_iconst (v := (-1)) dX11_copy_19 (by decide) ?_
      refine T_iret dX11_copy_20 rfl (nb rfl) (nb rfl) ?_
      exact sq_id (ag0 0) rfl p.sim
    · exact absurd c9 q1
end C73
