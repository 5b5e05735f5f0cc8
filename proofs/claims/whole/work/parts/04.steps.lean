/-! single steps -/
section GS
variable {y : mt_T} {d mc ms : Nat} {Q : zt} {cells slots : Nat} {pc : Nat} {lo st : List Value} {sh : sh_T} {hp : hp_T}
theorem cv_cat (E : en_T) (v : Value) : (cv E v).category = v.category := by cases v <;> rfl
theorem al_at {E : en_T} {ls : Array Slot} {n i : Nat} {v : Value} (h : lv_has ls n (al E lo)) (hv : lo[i]? = some v) (hs : isV v = true) : ls[i]? = some (.val (cv E v)) := h.2.2 (i, cv E v) (al_mem.mpr ⟨v, hv, hs, rfl⟩)
theorem hs_sub {ls : Array Slot} {n : Nat} {l l' : List (Nat × Value)} (h : lv_has ls n l) (hs : ∀ q ∈ l', q ∈ l) : lv_has ls n l' := ⟨h.1, h.2.1, fun q hq => h.2.2 q (hs q hq)⟩
def notL (lo : List Value) (i : Nat) : Bool := match i with
  | 0 => true
  | k + 1 => match lo[k]? with
    | some v => Nat.beq v.category 1
    | none => true
theorem al_set1 {E : en_T} {i : Nat} {x : Value} (hn : notL lo i = true) (hx : x.category = 1) : ∀ q ∈ al E (lo.set i x), q ∈ (i, cv E x) :: (al E lo).filter (fun q => !(q.1 == i) && !(q.1 + 1 == i && q.2.category == 2)) := by
  rintro ⟨j, w⟩ hq
  obtain ⟨v, hv, hs, rfl⟩ := al_mem.mp hq
  by_cases hj : j = i
  · subst hj
    rw [List.getElem?_set] at hv
    simp at hv
    rw [← hv.2]
    exact List.mem_cons_self
  · rw [List.getElem?_set_ne (Ne.symm hj)] at hv
    refine List.mem_cons_of_mem _ (List.mem_filter.mpr ⟨al_mem.mpr ⟨v, hv, hs, rfl⟩, ?_⟩)
    simp only [Bool.and_eq_true, Bool.not_eq_true', beq_eq_false_iff_ne, Bool.and_eq_false_imp, beq_iff_eq]
    refine ⟨by simpa using hj, ?_⟩
    intro h1
    subst h1
    simp only [notL, hv] at hn
    rw [cv_cat, Nat.eq_of_beq_eq_true hn]
    decide
theorem al_set2 {E : en_T} {i : Nat} {x u : Value} (hn : notL lo i = true) (hu : isV u = false) : ∀ q ∈ al E ((lo.set i x).set (i + 1) u), q ∈ (i, cv E x) :: (al E lo).filter (fun q => !(q.1 == i) && (!(q.1 == i + 1) && !(q.1 + 1 == i && q.2.category == 2))) := by
  rintro ⟨j, w⟩ hq
  obtain ⟨v, hv, hs, rfl⟩ := al_mem.mp hq
  by_cases hj2 : j = i + 1
  · subst hj2
    rw [List.getElem?_set] at hv
    simp at hv
    rw [← hv.2, hu] at hs
    cases hs
  · rw [List.getElem?_set_ne (Ne.symm hj2)] at hv
    by_cases hj : j = i
    · subst hj
      rw [List.getElem?_set] at hv
      simp at hv
      rw [← hv.2]
      exact List.mem_cons_self
    · rw [List.getElem?_set_ne (Ne.symm hj)] at hv
      refine List.mem_cons_of_mem _ (List.mem_filter.mpr ⟨al_mem.mpr ⟨v, hv, hs, rfl⟩, ?_⟩)
      simp only [Bool.and_eq_true, Bool.not_eq_true', beq_eq_false_iff_ne, Bool.and_eq_false_imp, beq_iff_eq]
      refine ⟨by simpa using hj, by simpa using hj2, ?_⟩
      intro h1
      subst h1
      simp only [notL, hv] at hn
      rw [cv_cat, Nat.eq_of_beq_eq_true hn]
      decide
theorem g1_iadd {x z : Int32} (hd : decode y.2.1 pc = .ok (.iadd, 1)) (k : gG y d mc ms Q cells slots (pc + 1, lo, .int (x + z) :: st, sh, hp)) : gG y d mc ms Q cells slots (pc, lo, .int z :: .int x :: st, sh, hp) := fun ok p l e s m args below meth c E H locs ls C hX hw hL hl => lv_iadd C.1 C.2.1 hd (k ok p l e s m args below meth c E H locs ls C hX hw hL hl)
theorem g1_isub {x z : Int32} (hd : decode y.2.1 pc = .ok (.isub, 1)) (k : gG y d mc ms Q cells slots (pc + 1, lo, .int (x - z) :: st, sh, hp)) : gG y d mc ms Q cells slots (pc, lo, .int z :: .int x :: st, sh, hp) := fun ok p l e s m args below meth c E H locs ls C hX hw hL hl => lv_isub C.1 C.2.1 hd (k ok p l e s m args below meth c E H locs ls C hX hw hL hl)
theorem g1_imul {x z : Int32} (hd : decode y.2.1 pc = .ok (.imul, 1)) (k : gG y d mc ms Q cells slots (pc + 1, lo, .int (x * z) :: st, sh, hp)) : gG y d mc ms Q cells slots (pc, lo, .int z :: .int x :: st, sh, hp) := fun ok p l e s m args below meth c E H locs ls C hX hw hL hl => lv_imul C.1 C.2.1 hd (k ok p l e s m args below meth c E H locs ls C hX hw hL hl)
theorem g1_iand {x z : Int32} (hd : decode y.2.1 pc = .ok (.iand, 1)) (k : gG y d mc ms Q cells slots (pc + 1, lo, .int (x &&& z) :: st, sh, hp)) : gG y d mc ms Q cells slots (pc, lo, .int z :: .int x :: st, sh, hp) := fun ok p l e s m args below meth c E H locs ls C hX hw hL hl => lv_iand C.1 C.2.1 hd (k ok p l e s m args below meth c E H locs ls C hX hw hL hl)
theorem g1_ior {x z : Int32} (hd : decode y.2.1 pc = .ok (.ior, 1)) (k : gG y d mc ms Q cells slots (pc + 1, lo, .int (x ||| z) :: st, sh, hp)) : gG y d mc ms Q cells slots (pc, lo, .int z :: .int x :: st, sh, hp) := fun ok p l e s m args below meth c E H locs ls C hX hw hL hl => lv_ior C.1 C.2.1 hd (k ok p l e s m args below meth c E H locs ls C hX hw hL hl)
theorem g1_ixor {x z : Int32} (hd : decode y.2.1 pc = .ok (.ixor, 1)) (k : gG y d mc ms Q cells slots (pc + 1, lo, .int (x ^^^ z) :: st, sh, hp)) : gG y d mc ms Q cells slots (pc, lo, .int z :: .int x :: st, sh, hp) := fun ok p l e s m args below meth c E H locs ls C hX hw hL hl => lv_ixor C.1 C.2.1 hd (k ok p l e s m args below meth c E H locs ls C hX hw hL hl)
theorem g1_ladd {x z : Int64} (hd : decode y.2.1 pc = .ok (.ladd, 1)) (k : gG y d mc ms Q cells slots (pc + 1, lo, .long (x + z) :: st, sh, hp)) : gG y d mc ms Q cells slots (pc, lo, .long z :: .long x :: st, sh, hp) := fun ok p l e s m args below meth c E H locs ls C hX hw hL hl => lv_ladd C.1 C.2.1 hd (k ok p l e s m args below meth c E H locs ls C hX hw hL hl)
theorem g1_lsub {x z : Int64} (hd : decode y.2.1 pc = .ok (.lsub, 1)) (k : gG y d mc ms Q cells slots (pc + 1, lo, .long (x - z) :: st, sh, hp)) : gG y d mc ms Q cells slots (pc, lo, .long z :: .long x :: st, sh, hp) := fun ok p l e s m args below meth c E H locs ls C hX hw hL hl => lv_lsub C.1 C.2.1 hd (k ok p l e s m args below meth c E H locs ls C hX hw hL hl)
theorem g1_lmul {x z : Int64} (hd : decode y.2.1 pc = .ok (.lmul, 1)) (k : gG y d mc ms Q cells slots (pc + 1, lo, .long (x * z) :: st, sh, hp)) : gG y d mc ms Q cells slots (pc, lo, .long z :: .long x :: st, sh, hp) := fun ok p l e s m args below meth c E H locs ls C hX hw hL hl => lv_lmul C.1 C.2.1 hd (k ok p l e s m args below meth c E H locs ls C hX hw hL hl)
theorem g1_land {x z : Int64} (hd : decode y.2.1 pc = .ok (.land, 1)) (k : gG y d mc ms Q cells slots (pc + 1, lo, .long (x &&& z) :: st, sh, hp)) : gG y d mc ms Q cells slots (pc, lo, .long z :: .long x :: st, sh, hp) := fun ok p l e s m args below meth c E H locs ls C hX hw hL hl => lv_land C.1 C.2.1 hd (k ok p l e s m args below meth c E H locs ls C hX hw hL hl)
theorem g1_lor {x z : Int64} (hd : decode y.2.1 pc = .ok (.lor, 1)) (k : gG y d mc ms Q cells slots (pc + 1, lo, .long (x ||| z) :: st, sh, hp)) : gG y d mc ms Q cells slots (pc, lo, .long z :: .long x :: st, sh, hp) := fun ok p l e s m args below meth c E H locs ls C hX hw hL hl => lv_lor C.1 C.2.1 hd (k ok p l e s m args below meth c E H locs ls C hX hw hL hl)
theorem g1_lxor {x z : Int64} (hd : decode y.2.1 pc = .ok (.lxor, 1)) (k : gG y d mc ms Q cells slots (pc + 1, lo, .long (x ^^^ z) :: st, sh, hp)) : gG y d mc ms Q cells slots (pc, lo, .long z :: .long x :: st, sh, hp) := fun ok p l e s m args below meth c E H locs ls C hX hw hL hl => lv_lxor C.1 C.2.1 hd (k ok p l e s m args below meth c E H locs ls C hX hw hL hl)
theorem g1_i2l {x : Int32} (hd : decode y.2.1 pc = .ok (.i2l, 1)) (k : gG y d mc ms Q cells slots (pc + 1, lo, .long x.toInt64 :: st, sh, hp)) : gG y d mc ms Q cells slots (pc, lo, .int x :: st, sh, hp) := fun ok p l e s m args below meth c E H locs ls C hX hw hL hl => lv_i2l C.1 C.2.1 hd rfl (k ok p l e s m args below meth c E H locs ls C hX hw hL hl)
theorem g1_l2i {x : Int64} (hd : decode y.2.1 pc = .ok (.l2i, 1)) (k : gG y d mc ms Q cells slots (pc + 1, lo, .int x.toInt32 :: st, sh, hp)) : gG y d mc ms Q cells slots (pc, lo, .long x :: st, sh, hp) := fun ok p l e s m args below meth c E H locs ls C hX hw hL hl => lv_l2i C.1 C.2.1 hd rfl (k ok p l e s m args below meth c E H locs ls C hX hw hL hl)
theorem g1_i2b {x : Int32} (hd : decode y.2.1 pc = .ok (.i2b, 1)) (k : gG y d mc ms Q cells slots (pc + 1, lo, .int x.toInt8.toInt32 :: st, sh, hp)) : gG y d mc ms Q cells slots (pc, lo, .int x :: st, sh, hp) := fun ok p l e s m args below meth c E H locs ls C hX hw hL hl => lv_i2b C.1 C.2.1 hd rfl (k ok p l e s m args below meth c E H locs ls C hX hw hL hl)
theorem g1_i2c {x : Int32} (hd : decode y.2.1 pc = .ok (.i2c, 1)) (k : gG y d mc ms Q cells slots (pc + 1, lo, .int (x.toUInt32 % 65536).toInt32 :: st, sh, hp)) : gG y d mc ms Q cells slots (pc, lo, .int x :: st, sh, hp) := fun ok p l e s m args below meth c E H locs ls C hX hw hL hl => lv_i2c C.1 C.2.1 hd rfl (k ok p l e s m args below meth c E H locs ls C hX hw hL hl)
theorem g1_iushr {x z : Int32} (hd : decode y.2.1 pc = .ok (.iushr, 1)) (k : gG y d mc ms Q cells slots (pc + 1, lo, .int (x.toUInt32 >>> (z.toUInt32 &&& Int32.toUInt32 31)).toInt32 :: st, sh, hp)) : gG y d mc ms Q cells slots (pc, lo, .int z :: .int x :: st, sh, hp) := fun ok p l e s m args below meth c E H locs ls C hX hw hL hl => lv_iushr C.1 C.2.1 hd rfl (k ok p l e s m args below meth c E H locs ls C hX hw hL hl)
theorem g1_lushr {x : Int64} {z : Int32} (hd : decode y.2.1 pc = .ok (.lushr, 1)) (k : gG y d mc ms Q cells slots (pc + 1, lo, .long (x.toUInt64 >>> (z.toInt64.toUInt64 &&& Int64.toUInt64 63)).toInt64 :: st, sh, hp)) : gG y d mc ms Q cells slots (pc, lo, .int z :: .long x :: st, sh, hp) := fun ok p l e s m args below meth c E H locs ls C hX hw hL hl => lv_lushr C.1 C.2.1 hd rfl (k ok p l e s m args below meth c E H locs ls C hX hw hL hl)
theorem g1_lshl {x : Int64} {z : Int32} (hd : decode y.2.1 pc = .ok (.lshl, 1)) (k : gG y d mc ms Q cells slots (pc + 1, lo, .long (x <<< (z.toInt64 &&& 63)) :: st, sh, hp)) : gG y d mc ms Q cells slots (pc, lo, .int z :: .long x :: st, sh, hp) := fun ok p l e s m args below meth c E H locs ls C hX hw hL hl => lv_lshl C.1 C.2.1 hd rfl (k ok p l e s m args below meth c E H locs ls C hX hw hL hl)
theorem g1_lshr {x : Int64} {z : Int32} (hd : decode y.2.1 pc = .ok (.lshr, 1)) (k : gG y d mc ms Q cells slots (pc + 1, lo, .long (x >>> (z.toInt64 &&& 63)) :: st, sh, hp)) : gG y d mc ms Q cells slots (pc, lo, .int z :: .long x :: st, sh, hp) := fun ok p l e s m args below meth c E H locs ls C hX hw hL hl => lv_lshr C.1 C.2.1 hd rfl (k ok p l e s m args below meth c E H locs ls C hX hw hL hl)
theorem g1_lcmp {x z : Int64} (hd : decode y.2.1 pc = .ok (.lcmp, 1)) (k : gG y d mc ms Q cells slots (pc + 1, lo, .int (lg_cmp x z) :: st, sh, hp)) : gG y d mc ms Q cells slots (pc, lo, .long z :: .long x :: st, sh, hp) := fun ok p l e s m args below meth c E H locs ls C hX hw hL hl => W.lcmp C.1 C.2.1 hd (k ok p l e s m args below meth c E H locs ls C hX hw hL hl)
theorem g1_idiv {x z : Int32} (hz : ¬ z = 0) (hd : decode y.2.1 pc = .ok (.idiv, 1)) (k : gG y d mc ms Q cells slots (pc + 1, lo, .int (x / z) :: st, sh, hp)) : gG y d mc ms Q cells slots (pc, lo, .int z :: .int x :: st, sh, hp) := fun ok p l e s m args below meth c E H locs ls C hX hw hL hl => lv_idiv C.1 C.2.1 hd hz (k ok p l e s m args below meth c E H locs ls C hX hw hL hl)
theorem g1_irem {x z : Int32} (hz : ¬ z = 0) (hd : decode y.2.1 pc = .ok (.irem, 1)) (k : gG y d mc ms Q cells slots (pc + 1, lo, .int (x - x / z * z) :: st, sh, hp)) : gG y d mc ms Q cells slots (pc, lo, .int z :: .int x :: st, sh, hp) := fun ok p l e s m args below meth c E H locs ls C hX hw hL hl => lv_irem C.1 C.2.1 hd hz (k ok p l e s m args below meth c E H locs ls C hX hw hL hl)
theorem g1_ldiv {x z : Int64} (hz : ¬ z = 0) (hd : decode y.2.1 pc = .ok (.ldiv, 1)) (k : gG y d mc ms Q cells slots (pc + 1, lo, .long (x / z) :: st, sh, hp)) : gG y d mc ms Q cells slots (pc, lo, .long z :: .long x :: st, sh, hp) := fun ok p l e s m args below meth c E H locs ls C hX hw hL hl => lv_ldiv C.1 C.2.1 hd hz (k ok p l e s m args below meth c E H locs ls C hX hw hL hl)
theorem g1_lrem {x z : Int64} (hz : ¬ z = 0) (hd : decode y.2.1 pc = .ok (.lrem, 1)) (k : gG y d mc ms Q cells slots (pc + 1, lo, .long (x - x / z * z) :: st, sh, hp)) : gG y d mc ms Q cells slots (pc, lo, .long z :: .long x :: st, sh, hp) := fun ok p l e s m args below meth c E H locs ls C hX hw hL hl => lv_lrem C.1 C.2.1 hd hz (k ok p l e s m args below meth c E H locs ls C hX hw hL hl)
theorem g1_ineg {x : Int32} (hd : decode y.2.1 pc = .ok (.ineg, 1)) (k : gG y d mc ms Q cells slots (pc + 1, lo, .int (-x) :: st, sh, hp)) : gG y d mc ms Q cells slots (pc, lo, .int x :: st, sh, hp) := fun ok p l e s m args below meth c E H locs ls C hX hw hL hl => lv_ineg C.1 C.2.1 hd (k ok p l e s m args below meth c E H locs ls C hX hw hL hl)
theorem g1_ishl {x z : Int32} (hd : decode y.2.1 pc = .ok (.ishl, 1)) (k : gG y d mc ms Q cells slots (pc + 1, lo, .int (x <<< (z &&& 31)) :: st, sh, hp)) : gG y d mc ms Q cells slots (pc, lo, .int z :: .int x :: st, sh, hp) := fun ok p l e s m args below meth c E H locs ls C hX hw hL hl => lv_ishl C.1 C.2.1 hd (k ok p l e s m args below meth c E H locs ls C hX hw hL hl)
theorem g1_ishr {x z : Int32} (hd : decode y.2.1 pc = .ok (.ishr, 1)) (k : gG y d mc ms Q cells slots (pc + 1, lo, .int (x >>> (z &&& 31)) :: st, sh, hp)) : gG y d mc ms Q cells slots (pc, lo, .int z :: .int x :: st, sh, hp) := fun ok p l e s m args below meth c E H locs ls C hX hw hL hl => lv_ishr C.1 C.2.1 hd (k ok p l e s m args below meth c E H locs ls C hX hw hL hl)
theorem g1_dup {v : Value} (hv : v.category = 1) (hd : decode y.2.1 pc = .ok (.dup, 1)) (k : gG y d mc ms Q cells slots (pc + 1, lo, v :: v :: st, sh, hp)) : gG y d mc ms Q cells slots (pc, lo, v :: st, sh, hp) := fun ok p l e s m args below meth c E H locs ls C hX hw hL hl => lv_dup C.1 C.2.1 hd ((cv_cat E v).trans hv) (k ok p l e s m args below meth c E H locs ls C hX hw hL hl)
theorem g1_pop {v : Value} (hv : v.category = 1) (hd : decode y.2.1 pc = .ok (.pop, 1)) (k : gG y d mc ms Q cells slots (pc + 1, lo, st, sh, hp)) : gG y d mc ms Q cells slots (pc, lo, v :: st, sh, hp) := fun ok p l e s m args below meth c E H locs ls C hX hw hL hl => lv_pop C.1 C.2.1 hd ((cv_cat E v).trans hv) (k ok p l e s m args below meth c E H locs ls C hX hw hL hl)
theorem g1_dup2 {v u : Value} (hv : v.category = 1) (hu : u.category = 1) (hd : decode y.2.1 pc = .ok (.dup2, 1)) (k : gG y d mc ms Q cells slots (pc + 1, lo, v :: u :: v :: u :: st, sh, hp)) : gG y d mc ms Q cells slots (pc, lo, v :: u :: st, sh, hp) := fun ok p l e s m args below meth c E H locs ls C hX hw hL hl => lv_dup2_11 C.1 C.2.1 hd ((cv_cat E v).trans hv) ((cv_cat E u).trans hu) (k ok p l e s m args below meth c E H locs ls C hX hw hL hl)
theorem g1_iconst {n : Int} {v : Int32} (hd : decode y.2.1 pc = .ok (.iconst n, 1)) (hv : Int32.ofInt n = v) (k : gG y d mc ms Q cells slots (pc + 1, lo, .int v :: st, sh, hp)) : gG y d mc ms Q cells slots (pc, lo, st, sh, hp) := fun ok p l e s m args below meth c E H locs ls C hX hw hL hl => lv_iconst C.1 C.2.1 hd hv (k ok p l e s m args below meth c E H locs ls C hX hw hL hl)
theorem g1_bipush {n : Int} {v : Int32} (hd : decode y.2.1 pc = .ok (.bipush n, 2)) (hv : (Int8.ofInt n).toInt32 = v) (k : gG y d mc ms Q cells slots (pc + 2, lo, .int v :: st, sh, hp)) : gG y d mc ms Q cells slots (pc, lo, st, sh, hp) := fun ok p l e s m args below meth c E H locs ls C hX hw hL hl => lv_bipush C.1 C.2.1 hd hv (k ok p l e s m args below meth c E H locs ls C hX hw hL hl)
theorem g1_sipush {n : Int} {v : Int32} (hd : decode y.2.1 pc = .ok (.sipush n, 3)) (hv : (Int16.ofInt n).toInt32 = v) (k : gG y d mc ms Q cells slots (pc + 3, lo, .int v :: st, sh, hp)) : gG y d mc ms Q cells slots (pc, lo, st, sh, hp) := fun ok p l e s m args below meth c E H locs ls C hX hw hL hl => lv_sipush C.1 C.2.1 hd hv (k ok p l e s m args below meth c E H locs ls C hX hw hL hl)
theorem g1_ldc {x : Nat} {v : Int32} (hd : decode y.2.1 pc = .ok (.ldc x, 2)) (hv : Cond.constant y.1.cls x v ∈ gT) (k : gG y d mc ms Q cells slots (pc + 2, lo, .int v :: st, sh, hp)) : gG y d mc ms Q cells slots (pc, lo, st, sh, hp) := fun ok p l e s m args below meth c E H locs ls C hX hw hL hl => lv_ldc C.1 C.2.1 C.2.2.2.2.1 (C.2.2.2.2.2.1 _ hv) hd (k ok p l e s m args below meth c E H locs ls C hX hw hL hl)
theorem g1_ldcw {x : Nat} {v : Int32} (hd : decode y.2.1 pc = .ok (.ldc_w x, 3)) (hv : Cond.constant y.1.cls x v ∈ gT) (k : gG y d mc ms Q cells slots (pc + 3, lo, .int v :: st, sh, hp)) : gG y d mc ms Q cells slots (pc, lo, st, sh, hp) := fun ok p l e s m args below meth c E H locs ls C hX hw hL hl => lv_ldcw C.1 C.2.1 C.2.2.2.2.1 (C.2.2.2.2.2.1 _ hv) hd (k ok p l e s m args below meth c E H locs ls C hX hw hL hl)
theorem g1_ldc2 {x : Nat} {v : Int64} (hd : decode y.2.1 pc = .ok (.ldc2_w x, 3)) (hv : Cond.constantLong y.1.cls x v ∈ gT) (k : gG y d mc ms Q cells slots (pc + 3, lo, .long v :: st, sh, hp)) : gG y d mc ms Q cells slots (pc, lo, st, sh, hp) := fun ok p l e s m args below meth c E H locs ls C hX hw hL hl => lv_ldc2 C.1 C.2.1 C.2.2.2.2.1 (C.2.2.2.2.2.1 _ hv) hd (k ok p l e s m args below meth c E H locs ls C hX hw hL hl)
theorem g1_lconst {n : Fin 2} {v : Int64} (hd : decode y.2.1 pc = .ok (.lconst n, 1)) (hv : Int64.ofNat (n : Nat) = v) (k : gG y d mc ms Q cells slots (pc + 1, lo, .long v :: st, sh, hp)) : gG y d mc ms Q cells slots (pc, lo, st, sh, hp) := fun ok p l e s m args below meth c E H locs ls C hX hw hL hl => lv_lconst C.1 C.2.1 hd hv (k ok p l e s m args below meth c E H locs ls C hX hw hL hl)
theorem g1_goto {off : Int} {tgt : Nat} (hd : decode y.2.1 pc = .ok (.goto off, 3)) (ht : (pc : Int) + off = (tgt : Int)) (k : gG y d mc ms Q cells slots (tgt, lo, st, sh, hp)) : gG y d mc ms Q cells slots (pc, lo, st, sh, hp) := fun ok p l e s m args below meth c E H locs ls C hX hw hL hl => lv_goto C.1 C.2.1 hd ht (k ok p l e s m args below meth c E H locs ls C hX hw hL hl)
theorem g1_iload {i b : Nat} {x : Int32} (hd : (decode y.2.1 pc = .ok (.iload i, 2) ∧ b = 2) ∨ (decode y.2.1 pc = .ok (.iload_n (Fin.ofNat 4 i), 1) ∧ b = 1 ∧ i < 4)) (hx : lo[i]? = some (.int x)) (k : gG y d mc ms Q cells slots (pc + b, lo, .int x :: st, sh, hp)) : gG y d mc ms Q cells slots (pc, lo, st, sh, hp) := by
  intro ok p l e s m args below meth c E H locs ls C hX hw hL hl
  have k := k ok p l e s m args below meth c E H locs ls C hX hw hL hl
  rcases hd with ⟨hd, rfl⟩ | ⟨hd, rfl, hi⟩
  · exact lv_iload C.1 C.2.1 hd (al_at hl hx rfl) k
  · exact lv_iload_n C.1 C.2.1 hd (Nat.mod_eq_of_lt hi) (al_at hl hx rfl) k
theorem g1_lload {i b : Nat} {x : Int64} (hd : (decode y.2.1 pc = .ok (.lload i, 2) ∧ b = 2) ∨ (decode y.2.1 pc = .ok (.lload_n (Fin.ofNat 4 i), 1) ∧ b = 1 ∧ i < 4)) (hx : lo[i]? = some (.long x)) (k : gG y d mc ms Q cells slots (pc + b, lo, .long x :: st, sh, hp)) : gG y d mc ms Q cells slots (pc, lo, st, sh, hp) := by
  intro ok p l e s m args below meth c E H locs ls C hX hw hL hl
  have k := k ok p l e s m args below meth c E H locs ls C hX hw hL hl
  rcases hd with ⟨hd, rfl⟩ | ⟨hd, rfl, hi⟩
  · exact lv_lload C.1 C.2.1 hd (al_at hl hx rfl) k
  · exact lv_lload_n C.1 C.2.1 hd (Nat.mod_eq_of_lt hi) (al_at hl hx rfl) k
def isR : Value → Bool
  | .ref _ => true
  | .float _ => true
  | _ => false
theorem isR_cv {E : en_T} {v : Value} (h : isR v = true) : isV v = true ∧ v.category = 1 ∧ ∃ q, cv E v = .ref q := by
  cases v <;> first | exact ⟨rfl, rfl, _, rfl⟩ | cases h
theorem g1_aload {i b : Nat} {x : Value} (hd : (decode y.2.1 pc = .ok (.aload i, 2) ∧ b = 2) ∨ (decode y.2.1 pc = .ok (.aload_n (Fin.ofNat 4 i), 1) ∧ b = 1 ∧ i < 4)) (hx : lo[i]? = some x) (hr : isR x = true) (k : gG y d mc ms Q cells slots (pc + b, lo, x :: st, sh, hp)) : gG y d mc ms Q cells slots (pc, lo, st, sh, hp) := by
  intro ok p l e s m args below meth c E H locs ls C hX hw hL hl
  have k := k ok p l e s m args below meth c E H locs ls C hX hw hL hl
  obtain ⟨h1, -, q, hq⟩ := isR_cv (E := E) hr
  have hx' := al_at hl hx h1
  simp only [List.map_cons] at k
  rw [hq] at hx' k
  rcases hd with ⟨hd, rfl⟩ | ⟨hd, rfl, hi⟩
  · exact lv_aload C.1 C.2.1 hd hx' k
  · exact lv_aload_n C.1 C.2.1 hd (Nat.mod_eq_of_lt hi) hx' k
theorem g1_istore {i b : Nat} {x : Int32} (hd : (decode y.2.1 pc = .ok (.istore i, 2) ∧ b = 2) ∨ (decode y.2.1 pc = .ok (.istore_n (Fin.ofNat 4 i), 1) ∧ b = 1 ∧ i < 4)) (hn : i < y.2.2.1) (hN : notL lo i = true) (k : gG y d mc ms Q cells slots (pc + b, lo.set i (.int x), st, sh, hp)) : gG y d mc ms Q cells slots (pc, lo, .int x :: st, sh, hp) := by
  intro ok p l e s m args below meth c E H locs ls C hX hw hL hl
  rcases hd with ⟨hd, rfl⟩ | ⟨hd, rfl, hi⟩
  · exact lv_istore C.1 C.2.1 hd hl hn rfl (fun ls' h' => k ok p l e s m args below meth c E H locs ls' C hX hw hL (hs_sub h' (al_set1 hN rfl)))
  · exact lv_istore_n C.1 C.2.1 hd (Nat.mod_eq_of_lt hi) hl hn rfl (fun ls' h' => k ok p l e s m args below meth c E H locs ls' C hX hw hL (hs_sub h' (al_set1 hN rfl)))
theorem g1_astore {i b : Nat} {x : Value} (hd : (decode y.2.1 pc = .ok (.astore i, 2) ∧ b = 2) ∨ (decode y.2.1 pc = .ok (.astore_n (Fin.ofNat 4 i), 1) ∧ b = 1 ∧ i < 4)) (hn : i < y.2.2.1) (hN : notL lo i = true) (hr : isR x = true) (k : gG y d mc ms Q cells slots (pc + b, lo.set i x, st, sh, hp)) : gG y d mc ms Q cells slots (pc, lo, x :: st, sh, hp) := by
  intro ok p l e s m args below meth c E H locs ls C hX hw hL hl
  obtain ⟨h1, h2, q, hq⟩ := isR_cv (E := E) hr
  simp only [List.map_cons]
  rw [hq]
  rcases hd with ⟨hd, rfl⟩ | ⟨hd, rfl, hi⟩
  · exact lv_astore C.1 C.2.1 hd hl hn rfl (fun ls' h' => k ok p l e s m args below meth c E H locs ls' C hX hw hL (hs_sub h' (by rw [← hq]; exact al_set1 hN h2)))
  · exact lv_astore_n C.1 C.2.1 hd (Nat.mod_eq_of_lt hi) hl hn rfl (fun ls' h' => k ok p l e s m args below meth c E H locs ls' C hX hw hL (hs_sub h' (by rw [← hq]; exact al_set1 hN h2)))
theorem g1_lstore {i b : Nat} {x : Int64} (hd : (decode y.2.1 pc = .ok (.lstore i, 2) ∧ b = 2) ∨ (decode y.2.1 pc = .ok (.lstore_n (Fin.ofNat 4 i), 1) ∧ b = 1 ∧ i < 4)) (hn : i + 1 < y.2.2.1) (hN : notL lo i = true) (k : gG y d mc ms Q cells slots (pc + b, (lo.set i (.long x)).set (i + 1) (.retAddr 0), st, sh, hp)) : gG y d mc ms Q cells slots (pc, lo, .long x :: st, sh, hp) := by
  intro ok p l e s m args below meth c E H locs ls C hX hw hL hl
  rcases hd with ⟨hd, rfl⟩ | ⟨hd, rfl, hi⟩
  · exact lv_lstore C.1 C.2.1 hd hl hn rfl (fun ls' h' => k ok p l e s m args below meth c E H locs ls' C hX hw hL (hs_sub h' (al_set2 hN rfl)))
  · exact lv_lstore_n C.1 C.2.1 hd (Nat.mod_eq_of_lt hi) hl hn rfl (fun ls' h' => k ok p l e s m args below meth c E H locs ls' C hX hw hL (hs_sub h' (al_set2 hN rfl)))
theorem g1_iinc {i : Nat} {n : Int} {x v : Int32} (hd : decode y.2.1 pc = .ok (.iinc i n, 3)) (hv : Int32.ofInt n = v) (hx : lo[i]? = some (.int x)) (hn : i < y.2.2.1) (hN : notL lo i = true) (k : gG y d mc ms Q cells slots (pc + 3, lo.set i (.int (x + v)), st, sh, hp)) : gG y d mc ms Q cells slots (pc, lo, st, sh, hp) := by
  intro ok p l e s m args below meth c E H locs ls C hX hw hL hl
  subst hv
  obtain ⟨kk, hk⟩ := List.getElem?_of_mem (al_mem.mpr ⟨_, hx, rfl, rfl⟩ : (i, cv E (.int x)) ∈ al E lo)
  exact lv_iinc C.1 C.2.1 hd hl hk rfl hn rfl (fun ls' h' => k ok p l e s m args below meth c E H locs ls' C hX hw hL (hs_sub h' (al_set1 hN rfl)))
theorem g_icmp_eq {x z : Int32} {ia : Instr} {off : Int} {nx tg b j : Nat} {v : Int32} {w : Int64} (h : lk pc y.2.2.2.2 = some (pc, ia, .if_icmp .eq off, nx, tg, b, v, w, j)) (kt : x = z → gG y d mc ms Q cells slots (tg, lo, st, sh, hp)) (kf : ¬ x = z → gG y d mc ms Q cells slots (nx, lo, st, sh, hp)) : gG y d mc ms Q cells slots (pc, lo, .int z :: .int x :: st, sh, hp) := by
  intro ok p l e s m args below meth c E H locs ls C hX hw hL hl
  have h1 := (lk_ok ok h).1
  simp only [okb, Bool.and_eq_true, decide_eq_true_eq] at h1
  obtain ⟨hd, ⟨⟨h2, h3⟩, h4⟩, h5⟩ := h1
  have h2 := Nat.eq_of_beq_eq_true h2
  have h4 := Nat.eq_of_beq_eq_true h4
  subst h2; subst h3; subst h4
  exact lv_icmp_eq C.1 C.2.1 (dec_of hd) h5 (fun q => kt q ok p l e s m args below meth c E H locs ls C hX hw hL hl) (fun q => kf q ok p l e s m args below meth c E H locs ls C hX hw hL hl)
theorem g_if_eq {x : Int32} {ia : Instr} {off : Int} {nx tg b j : Nat} {v : Int32} {w : Int64} (h : lk pc y.2.2.2.2 = some (pc, ia, .ifCond .eq off, nx, tg, b, v, w, j)) (kt : x = 0 → gG y d mc ms Q cells slots (tg, lo, st, sh, hp)) (kf : ¬ x = 0 → gG y d mc ms Q cells slots (nx, lo, st, sh, hp)) : gG y d mc ms Q cells slots (pc, lo, .int x :: st, sh, hp) := by
  intro ok p l e s m args below meth c E H locs ls C hX hw hL hl
  have h1 := (lk_ok ok h).1
  simp only [okb, Bool.and_eq_true, decide_eq_true_eq] at h1
  obtain ⟨hd, ⟨⟨h2, h3⟩, h4⟩, h5⟩ := h1
  have h2 := Nat.eq_of_beq_eq_true h2
  have h4 := Nat.eq_of_beq_eq_true h4
  subst h2; subst h3; subst h4
  exact lv_if_eq C.1 C.2.1 (dec_of hd) h5 (fun q => kt q ok p l e s m args below meth c E H locs ls C hX hw hL hl) (fun q => kf q ok p l e s m args below meth c E H locs ls C hX hw hL hl)
theorem g_icmp_ne {x z : Int32} {ia : Instr} {off : Int} {nx tg b j : Nat} {v : Int32} {w : Int64} (h : lk pc y.2.2.2.2 = some (pc, ia, .if_icmp .ne off, nx, tg, b, v, w, j)) (kt : ¬ x = z → gG y d mc ms Q cells slots (tg, lo, st, sh, hp)) (kf : x = z → gG y d mc ms Q cells slots (nx, lo, st, sh, hp)) : gG y d mc ms Q cells slots (pc, lo, .int z :: .int x :: st, sh, hp) := by
  intro ok p l e s m args below meth c E H locs ls C hX hw hL hl
  have h1 := (lk_ok ok h).1
  simp only [okb, Bool.and_eq_true, decide_eq_true_eq] at h1
  obtain ⟨hd, ⟨⟨h2, h3⟩, h4⟩, h5⟩ := h1
  have h2 := Nat.eq_of_beq_eq_true h2
  have h4 := Nat.eq_of_beq_eq_true h4
  subst h2; subst h3; subst h4
  exact lv_icmp_ne C.1 C.2.1 (dec_of hd) h5 (fun q => kt q ok p l e s m args below meth c E H locs ls C hX hw hL hl) (fun q => kf q ok p l e s m args below meth c E H locs ls C hX hw hL hl)
theorem g_if_ne {x : Int32} {ia : Instr} {off : Int} {nx tg b j : Nat} {v : Int32} {w : Int64} (h : lk pc y.2.2.2.2 = some (pc, ia, .ifCond .ne off, nx, tg, b, v, w, j)) (kt : ¬ x = 0 → gG y d mc ms Q cells slots (tg, lo, st, sh, hp)) (kf : x = 0 → gG y d mc ms Q cells slots (nx, lo, st, sh, hp)) : gG y d mc ms Q cells slots (pc, lo, .int x :: st, sh, hp) := by
  intro ok p l e s m args below meth c E H locs ls C hX hw hL hl
  have h1 := (lk_ok ok h).1
  simp only [okb, Bool.and_eq_true, decide_eq_true_eq] at h1
  obtain ⟨hd, ⟨⟨h2, h3⟩, h4⟩, h5⟩ := h1
  have h2 := Nat.eq_of_beq_eq_true h2
  have h4 := Nat.eq_of_beq_eq_true h4
  subst h2; subst h3; subst h4
  exact lv_if_ne C.1 C.2.1 (dec_of hd) h5 (fun q => kt q ok p l e s m args below meth c E H locs ls C hX hw hL hl) (fun q => kf q ok p l e s m args below meth c E H locs ls C hX hw hL hl)
theorem g_icmp_lt {x z : Int32} {ia : Instr} {off : Int} {nx tg b j : Nat} {v : Int32} {w : Int64} (h : lk pc y.2.2.2.2 = some (pc, ia, .if_icmp .lt off, nx, tg, b, v, w, j)) (kt : x < z → gG y d mc ms Q cells slots (tg, lo, st, sh, hp)) (kf : ¬ x < z → gG y d mc ms Q cells slots (nx, lo, st, sh, hp)) : gG y d mc ms Q cells slots (pc, lo, .int z :: .int x :: st, sh, hp) := by
  intro ok p l e s m args below meth c E H locs ls C hX hw hL hl
  have h1 := (lk_ok ok h).1
  simp only [okb, Bool.and_eq_true, decide_eq_true_eq] at h1
  obtain ⟨hd, ⟨⟨h2, h3⟩, h4⟩, h5⟩ := h1
  have h2 := Nat.eq_of_beq_eq_true h2
  have h4 := Nat.eq_of_beq_eq_true h4
  subst h2; subst h3; subst h4
  exact lv_icmp_lt C.1 C.2.1 (dec_of hd) h5 (fun q => kt q ok p l e s m args below meth c E H locs ls C hX hw hL hl) (fun q => kf q ok p l e s m args below meth c E H locs ls C hX hw hL hl)
theorem g_if_lt {x : Int32} {ia : Instr} {off : Int} {nx tg b j : Nat} {v : Int32} {w : Int64} (h : lk pc y.2.2.2.2 = some (pc, ia, .ifCond .lt off, nx, tg, b, v, w, j)) (kt : x < 0 → gG y d mc ms Q cells slots (tg, lo, st, sh, hp)) (kf : ¬ x < 0 → gG y d mc ms Q cells slots (nx, lo, st, sh, hp)) : gG y d mc ms Q cells slots (pc, lo, .int x :: st, sh, hp) := by
  intro ok p l e s m args below meth c E H locs ls C hX hw hL hl
  have h1 := (lk_ok ok h).1
  simp only [okb, Bool.and_eq_true, decide_eq_true_eq] at h1
  obtain ⟨hd, ⟨⟨h2, h3⟩, h4⟩, h5⟩ := h1
  have h2 := Nat.eq_of_beq_eq_true h2
  have h4 := Nat.eq_of_beq_eq_true h4
  subst h2; subst h3; subst h4
  exact lv_if_lt C.1 C.2.1 (dec_of hd) h5 (fun q => kt q ok p l e s m args below meth c E H locs ls C hX hw hL hl) (fun q => kf q ok p l e s m args below meth c E H locs ls C hX hw hL hl)
theorem g_icmp_ge {x z : Int32} {ia : Instr} {off : Int} {nx tg b j : Nat} {v : Int32} {w : Int64} (h : lk pc y.2.2.2.2 = some (pc, ia, .if_icmp .ge off, nx, tg, b, v, w, j)) (kt : z ≤ x → gG y d mc ms Q cells slots (tg, lo, st, sh, hp)) (kf : ¬ z ≤ x → gG y d mc ms Q cells slots (nx, lo, st, sh, hp)) : gG y d mc ms Q cells slots (pc, lo, .int z :: .int x :: st, sh, hp) := by
  intro ok p l e s m args below meth c E H locs ls C hX hw hL hl
  have h1 := (lk_ok ok h).1
  simp only [okb, Bool.and_eq_true, decide_eq_true_eq] at h1
  obtain ⟨hd, ⟨⟨h2, h3⟩, h4⟩, h5⟩ := h1
  have h2 := Nat.eq_of_beq_eq_true h2
  have h4 := Nat.eq_of_beq_eq_true h4
  subst h2; subst h3; subst h4
  exact lv_icmp_ge C.1 C.2.1 (dec_of hd) h5 (fun q => kt q ok p l e s m args below meth c E H locs ls C hX hw hL hl) (fun q => kf q ok p l e s m args below meth c E H locs ls C hX hw hL hl)
theorem g_if_ge {x : Int32} {ia : Instr} {off : Int} {nx tg b j : Nat} {v : Int32} {w : Int64} (h : lk pc y.2.2.2.2 = some (pc, ia, .ifCond .ge off, nx, tg, b, v, w, j)) (kt : 0 ≤ x → gG y d mc ms Q cells slots (tg, lo, st, sh, hp)) (kf : ¬ 0 ≤ x → gG y d mc ms Q cells slots (nx, lo, st, sh, hp)) : gG y d mc ms Q cells slots (pc, lo, .int x :: st, sh, hp) := by
  intro ok p l e s m args below meth c E H locs ls C hX hw hL hl
  have h1 := (lk_ok ok h).1
  simp only [okb, Bool.and_eq_true, decide_eq_true_eq] at h1
  obtain ⟨hd, ⟨⟨h2, h3⟩, h4⟩, h5⟩ := h1
  have h2 := Nat.eq_of_beq_eq_true h2
  have h4 := Nat.eq_of_beq_eq_true h4
  subst h2; subst h3; subst h4
  exact lv_if_ge C.1 C.2.1 (dec_of hd) h5 (fun q => kt q ok p l e s m args below meth c E H locs ls C hX hw hL hl) (fun q => kf q ok p l e s m args below meth c E H locs ls C hX hw hL hl)
theorem g_icmp_gt {x z : Int32} {ia : Instr} {off : Int} {nx tg b j : Nat} {v : Int32} {w : Int64} (h : lk pc y.2.2.2.2 = some (pc, ia, .if_icmp .gt off, nx, tg, b, v, w, j)) (kt : z < x → gG y d mc ms Q cells slots (tg, lo, st, sh, hp)) (kf : ¬ z < x → gG y d mc ms Q cells slots (nx, lo, st, sh, hp)) : gG y d mc ms Q cells slots (pc, lo, .int z :: .int x :: st, sh, hp) := by
  intro ok p l e s m args below meth c E H locs ls C hX hw hL hl
  have h1 := (lk_ok ok h).1
  simp only [okb, Bool.and_eq_true, decide_eq_true_eq] at h1
  obtain ⟨hd, ⟨⟨h2, h3⟩, h4⟩, h5⟩ := h1
  have h2 := Nat.eq_of_beq_eq_true h2
  have h4 := Nat.eq_of_beq_eq_true h4
  subst h2; subst h3; subst h4
  exact lv_icmp_gt C.1 C.2.1 (dec_of hd) h5 (fun q => kt q ok p l e s m args below meth c E H locs ls C hX hw hL hl) (fun q => kf q ok p l e s m args below meth c E H locs ls C hX hw hL hl)
theorem g_if_gt {x : Int32} {ia : Instr} {off : Int} {nx tg b j : Nat} {v : Int32} {w : Int64} (h : lk pc y.2.2.2.2 = some (pc, ia, .ifCond .gt off, nx, tg, b, v, w, j)) (kt : 0 < x → gG y d mc ms Q cells slots (tg, lo, st, sh, hp)) (kf : ¬ 0 < x → gG y d mc ms Q cells slots (nx, lo, st, sh, hp)) : gG y d mc ms Q cells slots (pc, lo, .int x :: st, sh, hp) := by
  intro ok p l e s m args below meth c E H locs ls C hX hw hL hl
  have h1 := (lk_ok ok h).1
  simp only [okb, Bool.and_eq_true, decide_eq_true_eq] at h1
  obtain ⟨hd, ⟨⟨h2, h3⟩, h4⟩, h5⟩ := h1
  have h2 := Nat.eq_of_beq_eq_true h2
  have h4 := Nat.eq_of_beq_eq_true h4
  subst h2; subst h3; subst h4
  exact lv_if_gt C.1 C.2.1 (dec_of hd) h5 (fun q => kt q ok p l e s m args below meth c E H locs ls C hX hw hL hl) (fun q => kf q ok p l e s m args below meth c E H locs ls C hX hw hL hl)
theorem g_icmp_le {x z : Int32} {ia : Instr} {off : Int} {nx tg b j : Nat} {v : Int32} {w : Int64} (h : lk pc y.2.2.2.2 = some (pc, ia, .if_icmp .le off, nx, tg, b, v, w, j)) (kt : x ≤ z → gG y d mc ms Q cells slots (tg, lo, st, sh, hp)) (kf : ¬ x ≤ z → gG y d mc ms Q cells slots (nx, lo, st, sh, hp)) : gG y d mc ms Q cells slots (pc, lo, .int z :: .int x :: st, sh, hp) := by
  intro ok p l e s m args below meth c E H locs ls C hX hw hL hl
  have h1 := (lk_ok ok h).1
  simp only [okb, Bool.and_eq_true, decide_eq_true_eq] at h1
  obtain ⟨hd, ⟨⟨h2, h3⟩, h4⟩, h5⟩ := h1
  have h2 := Nat.eq_of_beq_eq_true h2
  have h4 := Nat.eq_of_beq_eq_true h4
  subst h2; subst h3; subst h4
  exact lv_icmp_le C.1 C.2.1 (dec_of hd) h5 (fun q => kt q ok p l e s m args below meth c E H locs ls C hX hw hL hl) (fun q => kf q ok p l e s m args below meth c E H locs ls C hX hw hL hl)
theorem g_if_le {x : Int32} {ia : Instr} {off : Int} {nx tg b j : Nat} {v : Int32} {w : Int64} (h : lk pc y.2.2.2.2 = some (pc, ia, .ifCond .le off, nx, tg, b, v, w, j)) (kt : x ≤ 0 → gG y d mc ms Q cells slots (tg, lo, st, sh, hp)) (kf : ¬ x ≤ 0 → gG y d mc ms Q cells slots (nx, lo, st, sh, hp)) : gG y d mc ms Q cells slots (pc, lo, .int x :: st, sh, hp) := by
  intro ok p l e s m args below meth c E H locs ls C hX hw hL hl
  have h1 := (lk_ok ok h).1
  simp only [okb, Bool.and_eq_true, decide_eq_true_eq] at h1
  obtain ⟨hd, ⟨⟨h2, h3⟩, h4⟩, h5⟩ := h1
  have h2 := Nat.eq_of_beq_eq_true h2
  have h4 := Nat.eq_of_beq_eq_true h4
  subst h2; subst h3; subst h4
  exact lv_if_le C.1 C.2.1 (dec_of hd) h5 (fun q => kt q ok p l e s m args below meth c E H locs ls C hX hw hL hl) (fun q => kf q ok p l e s m args below meth c E H locs ls C hX hw hL hl)
end GS
