section TR
variable {M : XM} {E : XE} {Z : XZ} {cu su pc : Nat} {ls : List (Nat × Value)} {st : List Value} {h : XH}
theorem T_iconst {n : Int} {v : Int32} (hd : decode M.2.1 pc = .ok (.iconst n, 1)) (hv : Int32.ofInt n = v) (k : T M E Z cu su (pc + 1) ls (.int v :: st) h) : T M E Z cu su pc ls (st) h := by
  intro p l e G s m args below meth c H locs rls C hE hat hS hl
  exact lv_iconst C.1 C.2.1 hd hv (k p l e G s m args below meth c H locs rls C hE hat hS hl)
theorem T_bipush {n : Int} {v : Int32} (hd : decode M.2.1 pc = .ok (.bipush n, 2)) (hv : (Int8.ofInt n).toInt32 = v) (k : T M E Z cu su (pc + 2) ls (.int v :: st) h) : T M E Z cu su pc ls (st) h := by
  intro p l e G s m args below meth c H locs rls C hE hat hS hl
  exact lv_bipush C.1 C.2.1 hd hv (k p l e G s m args below meth c H locs rls C hE hat hS hl)
theorem T_sipush {n : Int} {v : Int32} (hd : decode M.2.1 pc = .ok (.sipush n, 3)) (hv : (Int16.ofInt n).toInt32 = v) (k : T M E Z cu su (pc + 3) ls (.int v :: st) h) : T M E Z cu su pc ls (st) h := by
  intro p l e G s m args below meth c H locs rls C hE hat hS hl
  exact lv_sipush C.1 C.2.1 hd hv (k p l e G s m args below meth c H locs rls C hE hat hS hl)
theorem T_lconst {n : Fin 2} {v : Int64} (hd : decode M.2.1 pc = .ok (.lconst n, 1)) (hv : Int64.ofNat (n : Nat) = v) (k : T M E Z cu su (pc + 1) ls (.long v :: st) h) : T M E Z cu su pc ls (st) h := by
  intro p l e G s m args below meth c H locs rls C hE hat hS hl
  exact lv_lconst C.1 C.2.1 hd hv (k p l e G s m args below meth c H locs rls C hE hat hS hl)
theorem T_iload_n {n : Fin 4} {x : Int32} (hd : decode M.2.1 pc = .ok (.iload_n n, 1)) (hv : lk ls n = some (.int x)) (k : T M E Z cu su (pc + 1) ls (.int x :: st) h) : T M E Z cu su pc ls (st) h := by
  intro p l e G s m args below meth c H locs rls C hE hat hS hl
  exact lv_iload_n C.1 C.2.1 hd rfl (lk_at hl hv) (k p l e G s m args below meth c H locs rls C hE hat hS hl)
theorem T_iload {n : Nat} {x : Int32} (hd : decode M.2.1 pc = .ok (.iload n, 2)) (hv : lk ls n = some (.int x)) (k : T M E Z cu su (pc + 2) ls (.int x :: st) h) : T M E Z cu su pc ls (st) h := by
  intro p l e G s m args below meth c H locs rls C hE hat hS hl
  exact lv_iload C.1 C.2.1 hd (lk_at hl hv) (k p l e G s m args below meth c H locs rls C hE hat hS hl)
theorem T_lload_n {n : Fin 4} {x : Int64} (hd : decode M.2.1 pc = .ok (.lload_n n, 1)) (hv : lk ls n = some (.long x)) (k : T M E Z cu su (pc + 1) ls (.long x :: st) h) : T M E Z cu su pc ls (st) h := by
  intro p l e G s m args below meth c H locs rls C hE hat hS hl
  exact lv_lload_n C.1 C.2.1 hd rfl (lk_at hl hv) (k p l e G s m args below meth c H locs rls C hE hat hS hl)
theorem T_lload {n : Nat} {x : Int64} (hd : decode M.2.1 pc = .ok (.lload n, 2)) (hv : lk ls n = some (.long x)) (k : T M E Z cu su (pc + 2) ls (.long x :: st) h) : T M E Z cu su pc ls (st) h := by
  intro p l e G s m args below meth c H locs rls C hE hat hS hl
  exact lv_lload C.1 C.2.1 hd (lk_at hl hv) (k p l e G s m args below meth c H locs rls C hE hat hS hl)
theorem T_aload_n {n : Fin 4} {x : Nat} (hd : decode M.2.1 pc = .ok (.aload_n n, 1)) (hv : lk ls n = some (.ref x)) (k : T M E Z cu su (pc + 1) ls (.ref x :: st) h) : T M E Z cu su pc ls (st) h := by
  intro p l e G s m args below meth c H locs rls C hE hat hS hl
  exact lv_aload_n C.1 C.2.1 hd rfl (lk_at hl hv) (k p l e G s m args below meth c H locs rls C hE hat hS hl)
theorem T_aload {n : Nat} {x : Nat} (hd : decode M.2.1 pc = .ok (.aload n, 2)) (hv : lk ls n = some (.ref x)) (k : T M E Z cu su (pc + 2) ls (.ref x :: st) h) : T M E Z cu su pc ls (st) h := by
  intro p l e G s m args below meth c H locs rls C hE hat hS hl
  exact lv_aload C.1 C.2.1 hd (lk_at hl hv) (k p l e G s m args below meth c H locs rls C hE hat hS hl)
theorem T_aload_nS {n : Fin 4} {x : UInt32} (hd : decode M.2.1 pc = .ok (.aload_n n, 1)) (hv : lk ls n = some (.float x)) (k : T M E Z cu su (pc + 1) ls (.float x :: st) h) : T M E Z cu su pc ls (st) h := by
  intro p l e G s m args below meth c H locs rls C hE hat hS hl
  exact lv_aload_n C.1 C.2.1 hd rfl (lk_at hl hv) (k p l e G s m args below meth c H locs rls C hE hat hS hl)
theorem T_iadd {x y : Int32} (hd : decode M.2.1 pc = .ok (.iadd, 1)) (k : T M E Z cu su (pc + 1) ls (.int (x + y) :: st) h) : T M E Z cu su pc ls (.int y :: .int x :: st) h := by
  intro p l e G s m args below meth c H locs rls C hE hat hS hl
  exact lv_iadd C.1 C.2.1 hd (k p l e G s m args below meth c H locs rls C hE hat hS hl)
theorem T_isub {x y : Int32} (hd : decode M.2.1 pc = .ok (.isub, 1)) (k : T M E Z cu su (pc + 1) ls (.int (x - y) :: st) h) : T M E Z cu su pc ls (.int y :: .int x :: st) h := by
  intro p l e G s m args below meth c H locs rls C hE hat hS hl
  exact lv_isub C.1 C.2.1 hd (k p l e G s m args below meth c H locs rls C hE hat hS hl)
theorem T_imul {x y : Int32} (hd : decode M.2.1 pc = .ok (.imul, 1)) (k : T M E Z cu su (pc + 1) ls (.int (x * y) :: st) h) : T M E Z cu su pc ls (.int y :: .int x :: st) h := by
  intro p l e G s m args below meth c H locs rls C hE hat hS hl
  exact lv_imul C.1 C.2.1 hd (k p l e G s m args below meth c H locs rls C hE hat hS hl)
theorem T_iand {x y : Int32} (hd : decode M.2.1 pc = .ok (.iand, 1)) (k : T M E Z cu su (pc + 1) ls (.int (x &&& y) :: st) h) : T M E Z cu su pc ls (.int y :: .int x :: st) h := by
  intro p l e G s m args below meth c H locs rls C hE hat hS hl
  exact lv_iand C.1 C.2.1 hd (k p l e G s m args below meth c H locs rls C hE hat hS hl)
theorem T_ior {x y : Int32} (hd : decode M.2.1 pc = .ok (.ior, 1)) (k : T M E Z cu su (pc + 1) ls (.int (x ||| y) :: st) h) : T M E Z cu su pc ls (.int y :: .int x :: st) h := by
  intro p l e G s m args below meth c H locs rls C hE hat hS hl
  exact lv_ior C.1 C.2.1 hd (k p l e G s m args below meth c H locs rls C hE hat hS hl)
theorem T_ixor {x y : Int32} (hd : decode M.2.1 pc = .ok (.ixor, 1)) (k : T M E Z cu su (pc + 1) ls (.int (x ^^^ y) :: st) h) : T M E Z cu su pc ls (.int y :: .int x :: st) h := by
  intro p l e G s m args below meth c H locs rls C hE hat hS hl
  exact lv_ixor C.1 C.2.1 hd (k p l e G s m args below meth c H locs rls C hE hat hS hl)
theorem T_ishl {x y : Int32} (hd : decode M.2.1 pc = .ok (.ishl, 1)) (k : T M E Z cu su (pc + 1) ls (.int (x <<< (y &&& 31)) :: st) h) : T M E Z cu su pc ls (.int y :: .int x :: st) h := by
  intro p l e G s m args below meth c H locs rls C hE hat hS hl
  exact lv_ishl C.1 C.2.1 hd (k p l e G s m args below meth c H locs rls C hE hat hS hl)
theorem T_ishr {x y : Int32} (hd : decode M.2.1 pc = .ok (.ishr, 1)) (k : T M E Z cu su (pc + 1) ls (.int (x >>> (y &&& 31)) :: st) h) : T M E Z cu su pc ls (.int y :: .int x :: st) h := by
  intro p l e G s m args below meth c H locs rls C hE hat hS hl
  exact lv_ishr C.1 C.2.1 hd (k p l e G s m args below meth c H locs rls C hE hat hS hl)
theorem T_idiv {x y : Int32} (hd : decode M.2.1 pc = .ok (.idiv, 1)) (hne : ¬ y = 0) (k : T M E Z cu su (pc + 1) ls (.int (x / y) :: st) h) : T M E Z cu su pc ls (.int y :: .int x :: st) h := by
  intro p l e G s m args below meth c H locs rls C hE hat hS hl
  exact lv_idiv C.1 C.2.1 hd hne (k p l e G s m args below meth c H locs rls C hE hat hS hl)
theorem T_irem {x y : Int32} (hd : decode M.2.1 pc = .ok (.irem, 1)) (hne : ¬ y = 0) (k : T M E Z cu su (pc + 1) ls (.int (x - x / y * y) :: st) h) : T M E Z cu su pc ls (.int y :: .int x :: st) h := by
  intro p l e G s m args below meth c H locs rls C hE hat hS hl
  exact lv_irem C.1 C.2.1 hd hne (k p l e G s m args below meth c H locs rls C hE hat hS hl)
theorem T_ladd {x y : Int64} (hd : decode M.2.1 pc = .ok (.ladd, 1)) (k : T M E Z cu su (pc + 1) ls (.long (x + y) :: st) h) : T M E Z cu su pc ls (.long y :: .long x :: st) h := by
  intro p l e G s m args below meth c H locs rls C hE hat hS hl
  exact lv_ladd C.1 C.2.1 hd (k p l e G s m args below meth c H locs rls C hE hat hS hl)
theorem T_land {x y : Int64} (hd : decode M.2.1 pc = .ok (.land, 1)) (k : T M E Z cu su (pc + 1) ls (.long (x &&& y) :: st) h) : T M E Z cu su pc ls (.long y :: .long x :: st) h := by
  intro p l e G s m args below meth c H locs rls C hE hat hS hl
  exact lv_land C.1 C.2.1 hd (k p l e G s m args below meth c H locs rls C hE hat hS hl)
theorem T_lor {x y : Int64} (hd : decode M.2.1 pc = .ok (.lor, 1)) (k : T M E Z cu su (pc + 1) ls (.long (x ||| y) :: st) h) : T M E Z cu su pc ls (.long y :: .long x :: st) h := by
  intro p l e G s m args below meth c H locs rls C hE hat hS hl
  exact lv_lor C.1 C.2.1 hd (k p l e G s m args below meth c H locs rls C hE hat hS hl)
theorem T_ldiv {x y : Int64} (hd : decode M.2.1 pc = .ok (.ldiv, 1)) (hne : ¬ y = 0) (k : T M E Z cu su (pc + 1) ls (.long (x / y) :: st) h) : T M E Z cu su pc ls (.long y :: .long x :: st) h := by
  intro p l e G s m args below meth c H locs rls C hE hat hS hl
  exact lv_ldiv C.1 C.2.1 hd hne (k p l e G s m args below meth c H locs rls C hE hat hS hl)
theorem T_lrem {x y : Int64} (hd : decode M.2.1 pc = .ok (.lrem, 1)) (hne : ¬ y = 0) (k : T M E Z cu su (pc + 1) ls (.long (x - x / y * y) :: st) h) : T M E Z cu su pc ls (.long y :: .long x :: st) h := by
  intro p l e G s m args below meth c H locs rls C hE hat hS hl
  exact lv_lrem C.1 C.2.1 hd hne (k p l e G s m args below meth c H locs rls C hE hat hS hl)
theorem T_i2l {x : Int32} (hd : decode M.2.1 pc = .ok (.i2l, 1)) (k : T M E Z cu su (pc + 1) ls (.long x.toInt64 :: st) h) : T M E Z cu su pc ls (.int x :: st) h := by
  intro p l e G s m args below meth c H locs rls C hE hat hS hl
  exact lv_i2l C.1 C.2.1 hd rfl (k p l e G s m args below meth c H locs rls C hE hat hS hl)
theorem T_i2b {x : Int32} (hd : decode M.2.1 pc = .ok (.i2b, 1)) (k : T M E Z cu su (pc + 1) ls (.int x.toInt8.toInt32 :: st) h) : T M E Z cu su pc ls (.int x :: st) h := by
  intro p l e G s m args below meth c H locs rls C hE hat hS hl
  exact lv_i2b C.1 C.2.1 hd rfl (k p l e G s m args below meth c H locs rls C hE hat hS hl)
theorem T_i2s {x : Int32} (hd : decode M.2.1 pc = .ok (.i2s, 1)) (k : T M E Z cu su (pc + 1) ls (.int x.toInt16.toInt32 :: st) h) : T M E Z cu su pc ls (.int x :: st) h := by
  intro p l e G s m args below meth c H locs rls C hE hat hS hl
  exact lv_i2s C.1 C.2.1 hd rfl (k p l e G s m args below meth c H locs rls C hE hat hS hl)
theorem T_lushr {x : Int64} {y : Int32} (hd : decode M.2.1 pc = .ok (.lushr, 1)) (k : T M E Z cu su (pc + 1) ls (.long (x.toUInt64 >>> (y.toInt64.toUInt64 &&& Int64.toUInt64 63)).toInt64 :: st) h) : T M E Z cu su pc ls (.int y :: .long x :: st) h := by
  intro p l e G s m args below meth c H locs rls C hE hat hS hl
  exact lv_lushr C.1 C.2.1 hd rfl (k p l e G s m args below meth c H locs rls C hE hat hS hl)
theorem T_lshl {x : Int64} {y : Int32} (hd : decode M.2.1 pc = .ok (.lshl, 1)) (k : T M E Z cu su (pc + 1) ls (.long (x <<< (y.toInt64 &&& 63)) :: st) h) : T M E Z cu su pc ls (.int y :: .long x :: st) h := by
  intro p l e G s m args below meth c H locs rls C hE hat hS hl
  exact lv_lshl C.1 C.2.1 hd rfl (k p l e G s m args below meth c H locs rls C hE hat hS hl)
theorem T_lcmp {x y : Int64} (hd : decode M.2.1 pc = .ok (.lcmp, 1)) (k : T M E Z cu su (pc + 1) ls (.int (lg_cmp x y) :: st) h) : T M E Z cu su pc ls (.long y :: .long x :: st) h := by
  intro p l e G s m args below meth c H locs rls C hE hat hS hl
  exact W.lcmp C.1 C.2.1 hd (k p l e G s m args below meth c H locs rls C hE hat hS hl)
theorem T_dup {v : Value} (hd : decode M.2.1 pc = .ok (.dup, 1)) (hv : v.category = 1) (k : T M E Z cu su (pc + 1) ls (v :: v :: st) h) : T M E Z cu su pc ls (v :: st) h := by
  intro p l e G s m args below meth c H locs rls C hE hat hS hl
  exact lv_dup C.1 C.2.1 hd (by rw [x_mv_cat]; exact hv) (k p l e G s m args below meth c H locs rls C hE hat hS hl)
theorem T_pop {v : Value} (hd : decode M.2.1 pc = .ok (.pop, 1)) (hv : v.category = 1) (k : T M E Z cu su (pc + 1) ls (st) h) : T M E Z cu su pc ls (v :: st) h := by
  intro p l e G s m args below meth c H locs rls C hE hat hS hl
  exact lv_pop C.1 C.2.1 hd (by rw [x_mv_cat]; exact hv) (k p l e G s m args below meth c H locs rls C hE hat hS hl)
theorem T_dup2 {v w : Value} (hd : decode M.2.1 pc = .ok (.dup2, 1)) (hv : v.category = 1) (hw : w.category = 1) (k : T M E Z cu su (pc + 1) ls (v :: w :: v :: w :: st) h) : T M E Z cu su pc ls (v :: w :: st) h := by
  intro p l e G s m args below meth c H locs rls C hE hat hS hl
  exact lv_dup2_11 C.1 C.2.1 hd (by rw [x_mv_cat]; exact hv) (by rw [x_mv_cat]; exact hw) (k p l e G s m args below meth c H locs rls C hE hat hS hl)
theorem T_istore_n {n : Fin 4} {x : Int32} (hd : decode M.2.1 pc = .ok (.istore_n n, 1)) (hn : (n : Nat) < M.2.2.1) (ho : noL ls n = true) (k : T M E Z cu su (pc + 1) (up ls n (.int x)) st h) : T M E Z cu su pc ls (.int x :: st) h := by
  intro p l e G s m args below meth c H locs rls C hE hat hS hl
  exact lv_istore_n C.1 C.2.1 hd rfl hl hn rfl (fun rls2 hl2 => k p l e G s m args below meth c H locs rls2 C hE hat hS (up_has1 ho hl2))
theorem T_istore {n : Nat} {x : Int32} (hd : decode M.2.1 pc = .ok (.istore n, 2)) (hn : (n : Nat) < M.2.2.1) (ho : noL ls n = true) (k : T M E Z cu su (pc + 2) (up ls n (.int x)) st h) : T M E Z cu su pc ls (.int x :: st) h := by
  intro p l e G s m args below meth c H locs rls C hE hat hS hl
  exact lv_istore C.1 C.2.1 hd hl hn rfl (fun rls2 hl2 => k p l e G s m args below meth c H locs rls2 C hE hat hS (up_has1 ho hl2))
theorem T_astore_n {n : Fin 4} {x : Nat} (hd : decode M.2.1 pc = .ok (.astore_n n, 1)) (hn : (n : Nat) < M.2.2.1) (ho : noL ls n = true) (k : T M E Z cu su (pc + 1) (up ls n (.ref x)) st h) : T M E Z cu su pc ls (.ref x :: st) h := by
  intro p l e G s m args below meth c H locs rls C hE hat hS hl
  exact lv_astore_n C.1 C.2.1 hd rfl hl hn rfl (fun rls2 hl2 => k p l e G s m args below meth c H locs rls2 C hE hat hS (up_has1 ho hl2))
theorem T_astore {n : Nat} {x : Nat} (hd : decode M.2.1 pc = .ok (.astore n, 2)) (hn : (n : Nat) < M.2.2.1) (ho : noL ls n = true) (k : T M E Z cu su (pc + 2) (up ls n (.ref x)) st h) : T M E Z cu su pc ls (.ref x :: st) h := by
  intro p l e G s m args below meth c H locs rls C hE hat hS hl
  exact lv_astore C.1 C.2.1 hd hl hn rfl (fun rls2 hl2 => k p l e G s m args below meth c H locs rls2 C hE hat hS (up_has1 ho hl2))
theorem T_lstore {n : Nat} {x : Int64} (hd : decode M.2.1 pc = .ok (.lstore n, 2)) (hn : (n : Nat) + 1 < M.2.2.1) (ho : noL ls n = true) (hn2 : hasK ls (n + 1) = false) (k : T M E Z cu su (pc + 2) (up ls n (.long x)) st h) : T M E Z cu su pc ls (.long x :: st) h := by
  intro p l e G s m args below meth c H locs rls C hE hat hS hl
  exact lv_lstore C.1 C.2.1 hd hl hn rfl (fun rls2 hl2 => k p l e G s m args below meth c H locs rls2 C hE hat hS (up_has2 ho hn2 hl2))
theorem T_iinc {n : Nat} {d : Int} {x : Int32} (hd : decode M.2.1 pc = .ok (.iinc n d, 3)) (hv : lk ls n = some (.int x)) (hn : n < M.2.2.1) (ho : noL ls n = true) (k : T M E Z cu su (pc + 3) (up ls n (.int (x + Int32.ofInt d))) st h) : T M E Z cu su pc ls st h := by
  intro p l e G s m args below meth c H locs rls C hE hat hS hl
  obtain ⟨j, hj⟩ := List.getElem?_of_mem (List.mem_map.mpr ⟨(n, Value.int x), lk_mem hv, rfl⟩ : (n, x_mv G (.int x)) ∈ ls.map fun q => (q.1, x_mv G q.2))
  exact lv_iinc C.1 C.2.1 hd hl hj rfl hn rfl (fun rls2 hl2 => k p l e G s m args below meth c H locs rls2 C hE hat hS (up_has1 (v := .int (x + Int32.ofInt d)) ho hl2))
theorem T_if_eq {x : Int32} {off : Int} {tgt : Nat} (hd : decode M.2.1 pc = .ok (.ifCond .eq off, 3)) (ht : (pc : Int) + off = (tgt : Int)) (kt : x = 0 → T M E Z cu su tgt ls st h) (kf : ¬ x = 0 → T M E Z cu su (pc + 3) ls st h) : T M E Z cu su pc ls (.int x :: st) h := by
  intro p l e G s m args below meth c H locs rls C hE hat hS hl
  exact lv_if_eq C.1 C.2.1 hd ht (fun q => kt q p l e G s m args below meth c H locs rls C hE hat hS hl) (fun q => kf q p l e G s m args below meth c H locs rls C hE hat hS hl)
theorem T_icmp_eq {x y : Int32} {off : Int} {tgt : Nat} (hd : decode M.2.1 pc = .ok (.if_icmp .eq off, 3)) (ht : (pc : Int) + off = (tgt : Int)) (kt : x = y → T M E Z cu su tgt ls st h) (kf : ¬ x = y → T M E Z cu su (pc + 3) ls st h) : T M E Z cu su pc ls (.int y :: .int x :: st) h := by
  intro p l e G s m args below meth c H locs rls C hE hat hS hl
  exact lv_icmp_eq C.1 C.2.1 hd ht (fun q => kt q p l e G s m args below meth c H locs rls C hE hat hS hl) (fun q => kf q p l e G s m args below meth c H locs rls C hE hat hS hl)
theorem T_if_ne {x : Int32} {off : Int} {tgt : Nat} (hd : decode M.2.1 pc = .ok (.ifCond .ne off, 3)) (ht : (pc : Int) + off = (tgt : Int)) (kt : ¬ x = 0 → T M E Z cu su tgt ls st h) (kf : x = 0 → T M E Z cu su (pc + 3) ls st h) : T M E Z cu su pc ls (.int x :: st) h := by
  intro p l e G s m args below meth c H locs rls C hE hat hS hl
  exact lv_if_ne C.1 C.2.1 hd ht (fun q => kt q p l e G s m args below meth c H locs rls C hE hat hS hl) (fun q => kf q p l e G s m args below meth c H locs rls C hE hat hS hl)
theorem T_icmp_ne {x y : Int32} {off : Int} {tgt : Nat} (hd : decode M.2.1 pc = .ok (.if_icmp .ne off, 3)) (ht : (pc : Int) + off = (tgt : Int)) (kt : ¬ x = y → T M E Z cu su tgt ls st h) (kf : x = y → T M E Z cu su (pc + 3) ls st h) : T M E Z cu su pc ls (.int y :: .int x :: st) h := by
  intro p l e G s m args below meth c H locs rls C hE hat hS hl
  exact lv_icmp_ne C.1 C.2.1 hd ht (fun q => kt q p l e G s m args below meth c H locs rls C hE hat hS hl) (fun q => kf q p l e G s m args below meth c H locs rls C hE hat hS hl)
theorem T_if_lt {x : Int32} {off : Int} {tgt : Nat} (hd : decode M.2.1 pc = .ok (.ifCond .lt off, 3)) (ht : (pc : Int) + off = (tgt : Int)) (kt : x < 0 → T M E Z cu su tgt ls st h) (kf : ¬ x < 0 → T M E Z cu su (pc + 3) ls st h) : T M E Z cu su pc ls (.int x :: st) h := by
  intro p l e G s m args below meth c H locs rls C hE hat hS hl
  exact lv_if_lt C.1 C.2.1 hd ht (fun q => kt q p l e G s m args below meth c H locs rls C hE hat hS hl) (fun q => kf q p l e G s m args below meth c H locs rls C hE hat hS hl)
theorem T_icmp_lt {x y : Int32} {off : Int} {tgt : Nat} (hd : decode M.2.1 pc = .ok (.if_icmp .lt off, 3)) (ht : (pc : Int) + off = (tgt : Int)) (kt : x < y → T M E Z cu su tgt ls st h) (kf : ¬ x < y → T M E Z cu su (pc + 3) ls st h) : T M E Z cu su pc ls (.int y :: .int x :: st) h := by
  intro p l e G s m args below meth c H locs rls C hE hat hS hl
  exact lv_icmp_lt C.1 C.2.1 hd ht (fun q => kt q p l e G s m args below meth c H locs rls C hE hat hS hl) (fun q => kf q p l e G s m args below meth c H locs rls C hE hat hS hl)
theorem T_if_ge {x : Int32} {off : Int} {tgt : Nat} (hd : decode M.2.1 pc = .ok (.ifCond .ge off, 3)) (ht : (pc : Int) + off = (tgt : Int)) (kt : 0 ≤ x → T M E Z cu su tgt ls st h) (kf : ¬ 0 ≤ x → T M E Z cu su (pc + 3) ls st h) : T M E Z cu su pc ls (.int x :: st) h := by
  intro p l e G s m args below meth c H locs rls C hE hat hS hl
  exact lv_if_ge C.1 C.2.1 hd ht (fun q => kt q p l e G s m args below meth c H locs rls C hE hat hS hl) (fun q => kf q p l e G s m args below meth c H locs rls C hE hat hS hl)
theorem T_icmp_ge {x y : Int32} {off : Int} {tgt : Nat} (hd : decode M.2.1 pc = .ok (.if_icmp .ge off, 3)) (ht : (pc : Int) + off = (tgt : Int)) (kt : y ≤ x → T M E Z cu su tgt ls st h) (kf : ¬ y ≤ x → T M E Z cu su (pc + 3) ls st h) : T M E Z cu su pc ls (.int y :: .int x :: st) h := by
  intro p l e G s m args below meth c H locs rls C hE hat hS hl
  exact lv_icmp_ge C.1 C.2.1 hd ht (fun q => kt q p l e G s m args below meth c H locs rls C hE hat hS hl) (fun q => kf q p l e G s m args below meth c H locs rls C hE hat hS hl)
theorem T_if_gt {x : Int32} {off : Int} {tgt : Nat} (hd : decode M.2.1 pc = .ok (.ifCond .gt off, 3)) (ht : (pc : Int) + off = (tgt : Int)) (kt : 0 < x → T M E Z cu su tgt ls st h) (kf : ¬ 0 < x → T M E Z cu su (pc + 3) ls st h) : T M E Z cu su pc ls (.int x :: st) h := by
  intro p l e G s m args below meth c H locs rls C hE hat hS hl
  exact lv_if_gt C.1 C.2.1 hd ht (fun q => kt q p l e G s m args below meth c H locs rls C hE hat hS hl) (fun q => kf q p l e G s m args below meth c H locs rls C hE hat hS hl)
theorem T_icmp_gt {x y : Int32} {off : Int} {tgt : Nat} (hd : decode M.2.1 pc = .ok (.if_icmp .gt off, 3)) (ht : (pc : Int) + off = (tgt : Int)) (kt : y < x → T M E Z cu su tgt ls st h) (kf : ¬ y < x → T M E Z cu su (pc + 3) ls st h) : T M E Z cu su pc ls (.int y :: .int x :: st) h := by
  intro p l e G s m args below meth c H locs rls C hE hat hS hl
  exact lv_icmp_gt C.1 C.2.1 hd ht (fun q => kt q p l e G s m args below meth c H locs rls C hE hat hS hl) (fun q => kf q p l e G s m args below meth c H locs rls C hE hat hS hl)
theorem T_if_le {x : Int32} {off : Int} {tgt : Nat} (hd : decode M.2.1 pc = .ok (.ifCond .le off, 3)) (ht : (pc : Int) + off = (tgt : Int)) (kt : x ≤ 0 → T M E Z cu su tgt ls st h) (kf : ¬ x ≤ 0 → T M E Z cu su (pc + 3) ls st h) : T M E Z cu su pc ls (.int x :: st) h := by
  intro p l e G s m args below meth c H locs rls C hE hat hS hl
  exact lv_if_le C.1 C.2.1 hd ht (fun q => kt q p l e G s m args below meth c H locs rls C hE hat hS hl) (fun q => kf q p l e G s m args below meth c H locs rls C hE hat hS hl)
theorem T_icmp_le {x y : Int32} {off : Int} {tgt : Nat} (hd : decode M.2.1 pc = .ok (.if_icmp .le off, 3)) (ht : (pc : Int) + off = (tgt : Int)) (kt : x ≤ y → T M E Z cu su tgt ls st h) (kf : ¬ x ≤ y → T M E Z cu su (pc + 3) ls st h) : T M E Z cu su pc ls (.int y :: .int x :: st) h := by
  intro p l e G s m args below meth c H locs rls C hE hat hS hl
  exact lv_icmp_le C.1 C.2.1 hd ht (fun q => kt q p l e G s m args below meth c H locs rls C hE hat hS hl) (fun q => kf q p l e G s m args below meth c H locs rls C hE hat hS hl)
theorem T_goto {off : Int} {tgt : Nat} (hd : decode M.2.1 pc = .ok (.goto off, 3)) (ht : (pc : Int) + off = (tgt : Int)) (k : T M E Z cu su tgt ls st h) : T M E Z cu su pc ls st h := by
  intro p l e G s m args below meth c H locs rls C hE hat hS hl
  exact lv_goto C.1 C.2.1 hd ht (k p l e G s m args below meth c H locs rls C hE hat hS hl)
theorem T_lookup {dflt : Int} {ps : Array (Int × Int)} {len : Nat} {x : Int32} {off : Int} {tgt : Nat} (hd : decode M.2.1 pc = .ok (.lookupswitch dflt ps, len)) (hp : (ps.toList.zip (ps.toList.drop 1)).all (fun (a, next) => a.1 < next.1) = true) (ho : Op.lookupswitch.offset ps.toList dflt x.toInt = off) (ht : (pc : Int) + off = (tgt : Int)) (k : T M E Z cu su tgt ls st h) : T M E Z cu su pc ls (.int x :: st) h := by
  intro p l e G s m args below meth c H locs rls C hE hat hS hl
  exact lv_lookup C.1 C.2.1 hd hp ho ht (k p l e G s m args below meth c H locs rls C hE hat hS hl)
theorem T_tableOut {dflt lo hi : Int} {offs : Array Int} {len : Nat} {x : Int32} {tgt : Nat} (hd : decode M.2.1 pc = .ok (.tableswitch dflt lo hi offs, len)) (hx : x.toInt < lo ∨ hi < x.toInt) (ht : (pc : Int) + dflt = (tgt : Int)) (k : T M E Z cu su tgt ls st h) : T M E Z cu su pc ls (.int x :: st) h := by
  intro p l e G s m args below meth c H locs rls C hE hat hS hl
  exact lv_tableOut C.1 C.2.1 hd hx ht (k p l e G s m args below meth c H locs rls C hE hat hS hl)
theorem T_tableIn {dflt lo hi : Int} {offs : Array Int} {len : Nat} {x : Int32} {off : Int} {tgt : Nat} (hd : decode M.2.1 pc = .ok (.tableswitch dflt lo hi offs, len)) (h1 : ¬ x.toInt < lo) (h2 : ¬ hi < x.toInt) (ho : offs[(x.toInt - lo).toNat]? = some off) (ht : (pc : Int) + off = (tgt : Int)) (k : T M E Z cu su tgt ls st h) : T M E Z cu su pc ls (.int x :: st) h := by
  intro p l e G s m args below meth c H locs rls C hE hat hS hl
  exact lv_tableIn C.1 C.2.1 hd h1 h2 ho ht (k p l e G s m args below meth c H locs rls C hE hat hS hl)
theorem T_ldc2 {idx : Nat} {v : Int64} (hd : decode M.2.1 pc = .ok (.ldc2_w idx, 3)) (hw : Cond.constantLong M.1.cls idx v ∈ x_gw) (k : T M E Z cu su (pc + 3) ls (.long v :: st) h) : T M E Z cu su pc ls st h := by
  intro p l e G s m args below meth c H locs rls C hE hat hS hl
  exact lv_ldc2 C.1 C.2.1 C.2.2.2.2.1 (C.2.2.2.2.2.1 _ hw) hd (k p l e G s m args below meth c H locs rls C hE hat hS hl)
theorem T_less {ls2 : List (Nat × Value)} (hs : ∀ q ∈ ls2, q ∈ ls) (k : T M E Z cu su pc ls2 st h) : T M E Z cu su pc ls st h := by
  intro p l e G s m args below meth c H locs rls C hE hat hS hl
  refine k p l e G s m args below meth c H locs rls C hE hat hS (lv_less hl fun q hq => ?_)
  obtain ⟨q0, h1, rfl⟩ := List.mem_map.mp hq
  exact List.mem_map.mpr ⟨q0, hs q0 h1, rfl⟩
theorem T_wide {cu2 su2 : Nat} (h1 : cu ≤ cu2) (h2 : su ≤ su2) (k : T M E Z cu2 su2 pc ls st h) : T M E Z cu su pc ls st h := by
  intro p l e G s m args below meth c H locs rls C hE hat hS hl
  exact W.widen h1 h2 (k p l e G s m args below meth c H locs rls C hE hat hS hl)
theorem T_iret {Qa : Option Value → XH → Prop} {v : Int32} (hd : decode M.2.1 pc = .ok (.ireturn, 1)) (hr : M.2.2.2.1 = some .int) (h1 : cu ≤ M.2.2.2.2.cells) (h2 : su ≤ M.2.2.2.2.slots) (hq : Qa (some (.int v)) h) : T M E (x_Z M Qa) cu su pc ls [.int v] h := by
  intro p l e G s m args below meth c H locs rls C hE hat hS hl
  refine W.widen h1 h2 ?_
  exact W.iret (v := v) C.1 C.2.1 (C.2.2.1.trans hr) (fun t ht hW => ⟨⟨_, h, rfl, hq, by rw [ht]; exact hat, C.2.2.2.2.2.2.2.2.1.warm hW⟩, hS.F ht⟩) hS.2.2 hd C.2.2.2.2.2.2.1
theorem T_zret {Qa : Option Value → XH → Prop} {v : Int32} (hd : decode M.2.1 pc = .ok (.ireturn, 1)) (hr : M.2.2.2.1 = some .boolean) (hz : narrow .boolean (.int v) = .int v) (h1 : cu ≤ M.2.2.2.2.cells) (h2 : su ≤ M.2.2.2.2.slots) (hq : Qa (some (.int v)) h) : T M E (x_Z M Qa) cu su pc ls [.int v] h := by
  intro p l e G s m args below meth c H locs rls C hE hat hS hl
  refine W.widen h1 h2 ?_
  exact W.zret (v := v) (ty := .boolean) C.1 C.2.1 (C.2.2.1.trans hr) hz (fun t ht hW => ⟨⟨_, h, rfl, hq, by rw [ht]; exact hat, C.2.2.2.2.2.2.2.2.1.warm hW⟩, hS.F ht⟩) hS.2.2 hd C.2.2.2.2.2.2.1
theorem T_lret {Qa : Option Value → XH → Prop} {v : Int64} (hd : decode M.2.1 pc = .ok (.lreturn, 1)) (hr : M.2.2.2.1 = some .long) (h1 : cu ≤ M.2.2.2.2.cells) (h2 : su ≤ M.2.2.2.2.slots) (hq : Qa (some (.long v)) h) : T M E (x_Z M Qa) cu su pc ls [.long v] h := by
  intro p l e G s m args below meth c H locs rls C hE hat hS hl
  refine W.widen h1 h2 ?_
  exact W.lret (v := v) C.1 C.2.1 (C.2.2.1.trans hr) (fun t ht hW => ⟨⟨_, h, rfl, hq, by rw [ht]; exact hat, C.2.2.2.2.2.2.2.2.1.warm hW⟩, hS.F ht⟩) hS.2.2 hd C.2.2.2.2.2.2.1
theorem T_vret {Qa : Option Value → XH → Prop}  (hd : decode M.2.1 pc = .ok (.return_, 1)) (hr : M.2.2.2.1 = none) (h1 : cu ≤ M.2.2.2.2.cells) (h2 : su ≤ M.2.2.2.2.slots) (hq : Qa (none) h) : T M E (x_Z M Qa) cu su pc ls [] h := by
  intro p l e G s m args below meth c H locs rls C hE hat hS hl
  refine W.widen h1 h2 ?_
  exact W.vret C.1 C.2.1 (C.2.2.1.trans hr) (fun t ht hW => ⟨⟨none, h, rfl, hq, by rw [ht]; exact hat, C.2.2.2.2.2.2.2.2.1.warm hW⟩, hS.F ht⟩) hS.2.2 hd C.2.2.2.2.2.2.1
theorem T_aret {Qa : Option Value → XH → Prop} {v : Nat} {C0 : String} (hd : decode M.2.1 pc = .ok (.areturn, 1)) (hr : M.2.2.2.1 = some (.object C0)) (h1 : cu ≤ M.2.2.2.2.cells) (h2 : su ≤ M.2.2.2.2.slots) (hq : Qa (some (.ref v)) h) : T M E (x_Z M Qa) cu su pc ls [.ref v] h := by
  intro p l e G s m args below meth c H locs rls C hE hat hS hl
  refine W.widen h1 h2 ?_
  exact W.aret (v := .ref (G.1 + v)) C.1 C.2.1 (C.2.2.1.trans hr) (Or.inl ⟨_, rfl⟩) (Or.inr ⟨_, rfl⟩) (fun t ht hW => ⟨⟨some (.ref v), h, rfl, hq, by rw [ht]; exact hat, C.2.2.2.2.2.2.2.2.1.warm hW⟩, hS.F ht⟩) hS.2.2 hd C.2.2.2.2.2.2.1
theorem T_iald {a n : Nat} {f : Nat → Int32} {i : Int32} (hd : decode M.2.1 pc = .ok (.iaload, 1)) (ha : h[a]? = some (.inl (0, n, .inl f))) (hi : vp_in i n) (k : T M E Z cu su (pc + 1) ls (.int (f i.toNatClampNeg) :: st) h) : T M E Z cu su pc ls (.int i :: .ref a :: st) h := by
  intro p l e G s m args below meth c H locs rls C hE hat hS hl
  exact va_iald C.1 C.2.1 C.2.2.2.2.2.2.2.2.1.1 hat.2 a 0 (x_W_at ha) rfl hi hd (k p l e G s m args below meth c H locs rls C hE hat hS hl)
theorem T_zald {a n : Nat} {f : Nat → Int32} {i : Int32} (hd : decode M.2.1 pc = .ok (.baload, 1)) (ha : h[a]? = some (.inl (2, n, .inl f))) (hi : vp_in i n) (k : T M E Z cu su (pc + 1) ls (.int (f i.toNatClampNeg) :: st) h) : T M E Z cu su pc ls (.int i :: .ref a :: st) h := by
  intro p l e G s m args below meth c H locs rls C hE hat hS hl
  exact va_zald C.1 C.2.1 C.2.2.2.2.2.2.2.2.1.1 hat.2 a 2 (x_W_at ha) rfl hi hd (k p l e G s m args below meth c H locs rls C hE hat hS hl)
theorem T_lald {a n : Nat} {f : Nat → Int64} {i : Int32} (hd : decode M.2.1 pc = .ok (.laload, 1)) (ha : h[a]? = some (.inl (1, n, .inr (.inl f)))) (hi : vp_in i n) (k : T M E Z cu su (pc + 1) ls (.long (f i.toNatClampNeg) :: st) h) : T M E Z cu su pc ls (.int i :: .ref a :: st) h := by
  intro p l e G s m args below meth c H locs rls C hE hat hS hl
  exact va_lald C.1 C.2.1 C.2.2.2.2.2.2.2.2.1.1 hat.2 a 1 (x_W_at ha) rfl hi hd (k p l e G s m args below meth c H locs rls C hE hat hS hl)
theorem T_aald3 {a n v : Nat} {f : Nat → Option Nat} {i : Int32} (hd : decode M.2.1 pc = .ok (.aaload, 1)) (ha : h[a]? = some (.inl (3, n, .inr (.inr f)))) (hi : vp_in i n) (hv : f i.toNatClampNeg = some v) (k : T M E Z cu su (pc + 1) ls (.ref v :: st) h) : T M E Z cu su pc ls (.int i :: .ref a :: st) h := by
  intro p l e G s m args below meth c H locs rls C hE hat hS hl
  refine va_aldq (C := RX5) C.1 C.2.1 C.2.2.2.2.2.2.2.2.1.1 hat.2 a 3 (x_W_at ha) rfl hi hd ?_
  rw [hv]
  exact k p l e G s m args below meth c H locs rls C hE hat hS hl
theorem T_aald4 {a n v : Nat} {f : Nat → Option Nat} {i : Int32} (hd : decode M.2.1 pc = .ok (.aaload, 1)) (ha : h[a]? = some (.inl (4, n, .inr (.inr f)))) (hi : vp_in i n) (hv : f i.toNatClampNeg = some v) (k : T M E Z cu su (pc + 1) ls (.ref v :: st) h) : T M E Z cu su pc ls (.int i :: .ref a :: st) h := by
  intro p l e G s m args below meth c H locs rls C hE hat hS hl
  refine va_aldq (C := RX0) C.1 C.2.1 C.2.2.2.2.2.2.2.2.1.1 hat.2 a 4 (x_W_at ha) rfl hi hd ?_
  rw [hv]
  exact k p l e G s m args below meth c H locs rls C hE hat hS hl
theorem T_aald5 {a n v : Nat} {f : Nat → Option Nat} {i : Int32} (hd : decode M.2.1 pc = .ok (.aaload, 1)) (ha : h[a]? = some (.inl (5, n, .inr (.inr f)))) (hi : vp_in i n) (hv : f i.toNatClampNeg = some v) (k : T M E Z cu su (pc + 1) ls (.ref v :: st) h) : T M E Z cu su pc ls (.int i :: .ref a :: st) h := by
  intro p l e G s m args below meth c H locs rls C hE hat hS hl
  refine va_aldq (C := RX6) C.1 C.2.1 C.2.2.2.2.2.2.2.2.1.1 hat.2 a 5 (x_W_at ha) rfl hi hd ?_
  rw [hv]
  exact k p l e G s m args below meth c H locs rls C hE hat hS hl
theorem T_alen {a t n : Nat} {f : XA} {ty : FieldType} {v : Int32} (hd : decode M.2.1 pc = .ok (.arraylength, 1)) (ha : h[a]? = some (.inl (t, n, f))) (ht : ∀ G : XG, (x_tys G)[t]? = some (G.2.2.1 t, ty)) (hv : Int32.ofNat n = v) (k : T M E Z cu su (pc + 1) ls (.int v :: st) h) : T M E Z cu su pc ls (.ref a :: st) h := by
  intro p l e G s m args below meth c H locs rls C hE hat hS hl
  exact va_alen C.1 C.2.1 C.2.2.2.2.2.2.2.2.1.1 hat.2 a t (x_W_at ha) (ht G) hv hd (k p l e G s m args below meth c H locs rls C hE hat hS hl)
end TR
