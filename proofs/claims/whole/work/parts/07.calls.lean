/-! the other steps: array places, divisions, ends, calls, entry -/
section GU
variable {y : mt_T} {d mc ms : Nat} {Q : zt} {cells slots : Nat} {pc : Nat} {lo st : List Value} {sh : sh_T} {hp : hp_T} {ia : Instr} {nx a b j0 : Nat} {v0 : Int32} {w0 : Int64}
theorem dflt_of {i : Instr} {n : Nat} (hn : il i = n) (h0 : n ≠ 0) (hm : okb y.1.cls y.2.1 (pc, ia, i, nx, a, b, v0, w0, j0) = (dec y.2.1 pc ia b && (decide (ia = i) && (if il i = 0 then true else Nat.beq b (il i) && Nat.beq nx (pc + il i))))) (ok : okm y = true) (h : lk pc y.2.2.2.2 = some (pc, ia, i, nx, a, b, v0, w0, j0)) : decode y.2.1 pc = .ok (i, n) ∧ nx = pc + n := by
  have h1 := (lk_ok ok h).1
  rw [hm, Bool.and_eq_true] at h1
  exact df_of hn h0 h1.1 h1.2
theorem g_iald {c n j : Nat} {i : Int32} (h : lk pc y.2.2.2.2 = some (pc, ia, .iaload, nx, a, b, v0, w0, j0)) (hc : nth sh c = some (.inl (.int, n))) (hi : i.toInt = (j : Int)) (hj : j < n) (kk : gG y d mc ms Q cells slots (nx, lo, .int (hp.1 c j) :: st, sh, hp)) : gG y d mc ms Q cells slots (pc, lo, .int i :: .ref c :: st, sh, hp) := by
  intro ok
  obtain ⟨hd, rfl⟩ := dflt_of rfl (by decide) rfl ok h
  exact g1_iald hd (by rw [← nth_eq]; exact hc) hi hj kk ok
theorem g_bald {c n j : Nat} {i : Int32} (h : lk pc y.2.2.2.2 = some (pc, ia, .baload, nx, a, b, v0, w0, j0)) (hc : nth sh c = some (.inl (.byte, n))) (hi : i.toInt = (j : Int)) (hj : j < n) (kk : gG y d mc ms Q cells slots (nx, lo, .int (hp.1 c j) :: st, sh, hp)) : gG y d mc ms Q cells slots (pc, lo, .int i :: .ref c :: st, sh, hp) := by
  intro ok
  obtain ⟨hd, rfl⟩ := dflt_of rfl (by decide) rfl ok h
  exact g1_bald hd (by rw [← nth_eq]; exact hc) hi hj kk ok
theorem g_lald {c n j : Nat} {i : Int32} (h : lk pc y.2.2.2.2 = some (pc, ia, .laload, nx, a, b, v0, w0, j0)) (hc : nth sh c = some (.inl (.long, n))) (hi : i.toInt = (j : Int)) (hj : j < n) (kk : gG y d mc ms Q cells slots (nx, lo, .long (hp.2 c j) :: st, sh, hp)) : gG y d mc ms Q cells slots (pc, lo, .int i :: .ref c :: st, sh, hp) := by
  intro ok
  obtain ⟨hd, rfl⟩ := dflt_of rfl (by decide) rfl ok h
  exact g1_lald hd (by rw [← nth_eq]; exact hc) hi hj kk ok
theorem g_iast {c n j : Nat} {i x : Int32} (h : lk pc y.2.2.2.2 = some (pc, ia, .iastore, nx, a, b, v0, w0, j0)) (hc : nth sh c = some (.inl (.int, n))) (hi : i.toInt = (j : Int)) (hj : j < n) (kk : gG y d mc ms Q cells slots (nx, lo, st, sh, sI hp c j x)) : gG y d mc ms Q cells slots (pc, lo, .int x :: .int i :: .ref c :: st, sh, hp) := by
  intro ok
  obtain ⟨hd, rfl⟩ := dflt_of rfl (by decide) rfl ok h
  exact g1_iast hd (by rw [← nth_eq]; exact hc) hi hj kk ok
theorem g_bast {c n j : Nat} {i x : Int32} (h : lk pc y.2.2.2.2 = some (pc, ia, .bastore, nx, a, b, v0, w0, j0)) (hc : nth sh c = some (.inl (.byte, n))) (hi : i.toInt = (j : Int)) (hj : j < n) (kk : gG y d mc ms Q cells slots (nx, lo, st, sh, sI hp c j (vp_nar .byte x))) : gG y d mc ms Q cells slots (pc, lo, .int x :: .int i :: .ref c :: st, sh, hp) := by
  intro ok
  obtain ⟨hd, rfl⟩ := dflt_of rfl (by decide) rfl ok h
  exact g1_bast hd (by rw [← nth_eq]; exact hc) hi hj kk ok
theorem g_last {c n j : Nat} {i : Int32} {x : Int64} (h : lk pc y.2.2.2.2 = some (pc, ia, .lastore, nx, a, b, v0, w0, j0)) (hc : nth sh c = some (.inl (.long, n))) (hi : i.toInt = (j : Int)) (hj : j < n) (kk : gG y d mc ms Q cells slots (nx, lo, st, sh, sL hp c j x)) : gG y d mc ms Q cells slots (pc, lo, .long x :: .int i :: .ref c :: st, sh, hp) := by
  intro ok
  obtain ⟨hd, rfl⟩ := dflt_of rfl (by decide) rfl ok h
  exact g1_last hd (by rw [← nth_eq]; exact hc) hi hj kk ok
theorem g_idiv {x z : Int32} (h : lk pc y.2.2.2.2 = some (pc, ia, .idiv, nx, a, b, v0, w0, j0)) (hz : ¬ z = 0) (kk : gG y d mc ms Q cells slots (nx, lo, .int (x / z) :: st, sh, hp)) : gG y d mc ms Q cells slots (pc, lo, .int z :: .int x :: st, sh, hp) := by
  intro ok
  obtain ⟨hd, rfl⟩ := dflt_of rfl (by decide) rfl ok h
  exact g1_idiv hz hd kk ok
theorem g_irem {x z : Int32} (h : lk pc y.2.2.2.2 = some (pc, ia, .irem, nx, a, b, v0, w0, j0)) (hz : ¬ z = 0) (kk : gG y d mc ms Q cells slots (nx, lo, .int (x - x / z * z) :: st, sh, hp)) : gG y d mc ms Q cells slots (pc, lo, .int z :: .int x :: st, sh, hp) := by
  intro ok
  obtain ⟨hd, rfl⟩ := dflt_of rfl (by decide) rfl ok h
  exact g1_irem hz hd kk ok
theorem g_ldiv {x z : Int64} (h : lk pc y.2.2.2.2 = some (pc, ia, .ldiv, nx, a, b, v0, w0, j0)) (hz : ¬ z = 0) (kk : gG y d mc ms Q cells slots (nx, lo, .long (x / z) :: st, sh, hp)) : gG y d mc ms Q cells slots (pc, lo, .long z :: .long x :: st, sh, hp) := by
  intro ok
  obtain ⟨hd, rfl⟩ := dflt_of rfl (by decide) rfl ok h
  exact g1_ldiv hz hd kk ok
theorem g_lrem {x z : Int64} (h : lk pc y.2.2.2.2 = some (pc, ia, .lrem, nx, a, b, v0, w0, j0)) (hz : ¬ z = 0) (kk : gG y d mc ms Q cells slots (nx, lo, .long (x - x / z * z) :: st, sh, hp)) : gG y d mc ms Q cells slots (pc, lo, .long z :: .long x :: st, sh, hp) := by
  intro ok
  obtain ⟨hd, rfl⟩ := dflt_of rfl (by decide) rfl ok h
  exact g1_lrem hz hd kk ok
/-- a switch: the place by computing on what is known of the value -/
theorem g_tabIn {dflt l0 h0 off : Int} {offs : Array Int} {x : Int32} {tgt i : Nat} (h : lk pc y.2.2.2.2 = some (pc, ia, .tableswitch dflt l0 h0 offs, nx, a, b, v0, w0, j0)) (hx : x.toInt = l0 + (i : Int)) (hh : l0 + (i : Int) ≤ h0) (ho : offs[i]? = some off) (ht : (pc : Int) + off = (tgt : Int)) (kk : gG y d mc ms Q cells slots (tgt, lo, st, sh, hp)) : gG y d mc ms Q cells slots (pc, lo, .int x :: st, sh, hp) := by
  intro ok p l e s m args below meth c E H locs ls C hX hw hL hl
  have h1 := (lk_ok ok h).1
  change (dec y.2.1 pc ia b && (decide (ia = .tableswitch dflt l0 h0 offs) && (if il (.tableswitch dflt l0 h0 offs) = 0 then true else _))) = true at h1
  simp only [Bool.and_eq_true, decide_eq_true_eq] at h1
  obtain ⟨h2, h3, -⟩ := h1
  subst h3
  exact lv_tableIn C.1 C.2.1 (dec_of h2) (by omega) (by omega) (by rw [hx, show l0 + (i : Int) - l0 = (i : Int) by omega, Int.toNat_natCast]; exact ho) ht (kk ok p l e s m args below meth c E H locs ls C hX hw hL hl)
theorem g_tabOut {dflt l0 h0 : Int} {offs : Array Int} {x : Int32} {tgt : Nat} (h : lk pc y.2.2.2.2 = some (pc, ia, .tableswitch dflt l0 h0 offs, nx, a, b, v0, w0, j0)) (hx : x.toInt < l0 ∨ h0 < x.toInt) (ht : (pc : Int) + dflt = (tgt : Int)) (kk : gG y d mc ms Q cells slots (tgt, lo, st, sh, hp)) : gG y d mc ms Q cells slots (pc, lo, .int x :: st, sh, hp) := by
  intro ok p l e s m args below meth c E H locs ls C hX hw hL hl
  have h1 := (lk_ok ok h).1
  change (dec y.2.1 pc ia b && (decide (ia = .tableswitch dflt l0 h0 offs) && (if il (.tableswitch dflt l0 h0 offs) = 0 then true else _))) = true at h1
  simp only [Bool.and_eq_true, decide_eq_true_eq] at h1
  obtain ⟨h2, h3, -⟩ := h1
  subst h3
  exact lv_tableOut C.1 C.2.1 (dec_of h2) hx ht (kk ok p l e s m args below meth c E H locs ls C hX hw hL hl)
theorem g_look {dflt off : Int} {ps : Array (Int × Int)} {x : Int32} {tgt : Nat} (h : lk pc y.2.2.2.2 = some (pc, ia, .lookupswitch dflt ps, nx, a, b, v0, w0, j0)) (hp1 : (ps.toList.zip (ps.toList.drop 1)).all (fun (a, next) => a.1 < next.1) = true) (ho : Op.lookupswitch.offset ps.toList dflt x.toInt = off) (ht : (pc : Int) + off = (tgt : Int)) (kk : gG y d mc ms Q cells slots (tgt, lo, st, sh, hp)) : gG y d mc ms Q cells slots (pc, lo, .int x :: st, sh, hp) := by
  intro ok p l e s m args below meth c E H locs ls C hX hw hL hl
  have h1 := (lk_ok ok h).1
  change (dec y.2.1 pc ia b && (decide (ia = .lookupswitch dflt ps) && (if il (.lookupswitch dflt ps) = 0 then true else _))) = true at h1
  simp only [Bool.and_eq_true, decide_eq_true_eq] at h1
  obtain ⟨h2, h3, -⟩ := h1
  subst h3
  exact lv_lookup C.1 C.2.1 (dec_of h2) hp1 ho ht (kk ok p l e s m args below meth c E H locs ls C hX hw hL hl)
/-! ends -/
theorem g_iret {Q : Option Value → sh_T → hp_T → Prop} {v : Int32} (h : lk pc y.2.2.2.2 = some (pc, ia, .ireturn, nx, a, b, v0, w0, j0)) (hr : y.2.2.2.1 = some .int) (hq : Q (some (.int v)) sh hp) (h1 : cells ≤ mc := by decide) (h2 : slots ≤ ms := by decide) : gG y d mc ms (zQ mc ms Q) cells slots (pc, lo, [.int v], sh, hp) := by
  intro ok p l e s m args below meth c E H locs ls C hX hw hL hl
  obtain ⟨hd, -⟩ := dflt_of rfl (by decide) rfl ok h
  have hlocks := C.2.2.2.2.2.2.1
  exact W.widen h1 h2 (W.iret (v := v) C.1 C.2.1 (C.2.2.1.trans hr) (fun t ht hW => ⟨some (.int v), sh, hp, rfl, hq, by rw [ht]; exact hw⟩) hL hd hlocks)
theorem g_zret {Q : Option Value → sh_T → hp_T → Prop} {v : Int32} (h : lk pc y.2.2.2.2 = some (pc, ia, .ireturn, nx, a, b, v0, w0, j0)) (hr : y.2.2.2.1 = some .boolean) (hv : v = 0 ∨ v = 1) (hq : Q (some (.int v)) sh hp) (h1 : cells ≤ mc := by decide) (h2 : slots ≤ ms := by decide) : gG y d mc ms (zQ mc ms Q) cells slots (pc, lo, [.int v], sh, hp) := by
  intro ok p l e s m args below meth c E H locs ls C hX hw hL hl
  obtain ⟨hd, -⟩ := dflt_of rfl (by decide) rfl ok h
  have hlocks := C.2.2.2.2.2.2.1
  exact W.widen h1 h2 (W.zret (v := v) C.1 C.2.1 (C.2.2.1.trans hr) (by rcases hv with rfl | rfl <;> decide +kernel) (fun t ht hW => ⟨some (.int v), sh, hp, rfl, hq, by rw [ht]; exact hw⟩) hL hd hlocks)
theorem g_lret {Q : Option Value → sh_T → hp_T → Prop} {v : Int64} (h : lk pc y.2.2.2.2 = some (pc, ia, .lreturn, nx, a, b, v0, w0, j0)) (hr : y.2.2.2.1 = some .long) (hq : Q (some (.long v)) sh hp) (h1 : cells ≤ mc := by decide) (h2 : slots ≤ ms := by decide) : gG y d mc ms (zQ mc ms Q) cells slots (pc, lo, [.long v], sh, hp) := by
  intro ok p l e s m args below meth c E H locs ls C hX hw hL hl
  obtain ⟨hd, -⟩ := dflt_of rfl (by decide) rfl ok h
  have hlocks := C.2.2.2.2.2.2.1
  exact W.widen h1 h2 (W.lret (v := v) C.1 C.2.1 (C.2.2.1.trans hr) (fun t ht hW => ⟨some (.long v), sh, hp, rfl, hq, by rw [ht]; exact hw⟩) hL hd hlocks)
theorem g_vret {Q : Option Value → sh_T → hp_T → Prop} (h : lk pc y.2.2.2.2 = some (pc, ia, .return_, nx, a, b, v0, w0, j0)) (hr : y.2.2.2.1 = none) (hq : Q none sh hp) (h1 : cells ≤ mc := by decide) (h2 : slots ≤ ms := by decide) : gG y d mc ms (zQ mc ms Q) cells slots (pc, lo, [], sh, hp) := by
  intro ok p l e s m args below meth c E H locs ls C hX hw hL hl
  obtain ⟨hd, -⟩ := dflt_of rfl (by decide) rfl ok h
  have hlocks := C.2.2.2.2.2.2.1
  exact W.widen h1 h2 (W.vret C.1 C.2.1 (C.2.2.1.trans hr) (fun t ht hW => ⟨none, sh, hp, rfl, hq, by rw [ht]; exact hw⟩) hL hd hlocks)
theorem g_aret {Q : Option Value → sh_T → hp_T → Prop} {k : Nat} {nm : String} (h : lk pc y.2.2.2.2 = some (pc, ia, .areturn, nx, a, b, v0, w0, j0)) (hr : y.2.2.2.1 = some (.object nm)) (hq : Q (some (.ref k)) sh hp) (h1 : cells ≤ mc := by decide) (h2 : slots ≤ ms := by decide) : gG y d mc ms (zQ mc ms Q) cells slots (pc, lo, [.ref k], sh, hp) := by
  intro ok p l e s m args below meth c E H locs ls C hX hw hL hl
  obtain ⟨hd, -⟩ := dflt_of rfl (by decide) rfl ok h
  have hlocks := C.2.2.2.2.2.2.1
  exact W.widen h1 h2 (W.aret (v := .ref (E.1 + k)) C.1 C.2.1 (C.2.2.1.trans hr) (Or.inl ⟨_, rfl⟩) (Or.inr ⟨_, rfl⟩) (fun t ht hW => ⟨some (.ref k), sh, hp, rfl, hq, by rw [ht]; exact hw⟩) hL hd hlocks)
/-! calls -/
def cut : Nat → List Value → List Value → Option (List Value × List Value)
  | 0, as, r => some (as, r)
  | n + 1, as, v :: r => cut n (v :: as) r
  | _ + 1, _, [] => none
theorem cut_ok : ∀ (n : Nat) (as r bs r' : List Value), cut n as r = some (bs, r') → ∃ cs, bs = cs ++ as ∧ cs.length = n ∧ r = cs.reverse ++ r'
  | 0, as, r, bs, r', h => by cases h; exact ⟨[], rfl, rfl, rfl⟩
  | n + 1, as, v :: r, bs, r', h => by
    obtain ⟨cs, h1, h2, h3⟩ := cut_ok n (v :: as) r bs r' h
    exact ⟨cs ++ [v], by rw [h1]; simp, by simp [h2], by rw [h3]; simp⟩
  | n + 1, as, [], bs, r', h => by cases h
def cats : List Value → Nat
  | [] => 0
  | v :: r => v.category + cats r
theorem cats_eq (E : en_T) : ∀ st : List Value, ((st.map (cv E)).map fun v => v.category).sum = cats st
  | [] => rfl
  | v :: r => by simp [cats, cv_cat, ← cats_eq E r]
theorem kx_move {E : en_T} {s U : State} (hW : s.WarmedH U.vm) (h : kx E s) : kx E U := ⟨va_K.moved hW.alike h.1, fun q hq => va_Nw.warmM hW (h.2.1 q hq), fun i hi => (h.2.2.1 i hi).warm hW, fun H h1 h2 => ⟨vk_S.moved hW.alike (h.2.2.2 H h1 h2).1, va_Z.moved hW.alike (h.2.2.2 H h1 h2).2.1, kst_moved hW.alike (h.2.2.2 H h1 h2).2.2⟩⟩
theorem pcc_blind {E : en_T} {as : List Value} : FrameBlind (pcc E as sh hp) := fun _ U g mk ⟨h1, h2, h3⟩ => ⟨h1, h2, ⟨va_K.moved (u := U) (U := U.calling g mk _) (Vm.Alike.refl U.vm) h3.1, fun q hq => va_Nw.same rfl (u := U) rfl (h3.2.1 q hq), fun i hi => vk_R.same (u := U) rfl (h3.2.2.1 i hi), fun H h1 h2 => ⟨vk_S.moved (u := U) (Vm.Alike.refl U.vm) (h3.2.2.2 H h1 h2).1, va_Z.moved (u := U) (Vm.Alike.refl U.vm) (h3.2.2.2 H h1 h2).2.1, kst_moved (u := U) (Vm.Alike.refl U.vm) (h3.2.2.2 H h1 h2).2.2⟩⟩⟩
theorem wsm_good {y' : mt_T} {Ts : List Cond} (hT : ∀ w ∈ gT, w ∈ Ts) (hc : Cond.code y'.1 y'.2.1 y'.2.2.1 y'.2.2.2.1 ∈ gT) : GoodIn Ts (wsm y') := fun w hw => (List.mem_cons.mp hw).elim (fun e => by subst e; exact ⟨hT _ hc, (gT_good _ hc).2⟩) (fun h => ⟨hT _ h, (gT_good _ h).2⟩)
theorem run_go {p : Program} {l : Launch} {e : Env} {R : Room} {s : State} {m : MethodId} {args : Array Value} {below : List Frame} {meth : Method} {c : Code} {H : Heap} {locs : List Loc} {ls : Array Slot} {st0 rest : List Value} {QQ : State → Prop} {E : en_T} {Q' : Option Value → sh_T → hp_T → Prop} {mc' ms' : Nat} {av : Array Value} (hr : va_Run p l e R s m args below meth c H locs cells slots mc' ms' (F0 m pc ls st0) rest (qcc E Q' av) (fun q => E.1 ≤ q)) (hL : ∀ q ∈ locs, E.1 ≤ q.base)
    (kk : ∀ (r : Option Value) (sh : sh_T) (hp : hp_T) (H1 : Heap) (locs1 : List Loc), Q' r sh hp → wd E sh hp H1 → (∀ q ∈ locs1, E.1 ≤ q.base) → W p l e R s m args below meth c H1 locs1 (cells + mc') (slots + ms') QQ (F0 m (pc + 3) ls ((r.map (cv E)).toList ++ rest))) : W p l e R s m args below meth c H locs cells slots QQ (F0 m pc ls st0) := by
  intro T hT X
  obtain ⟨v, st₀, t, T', L, h0, X', hL', e1, e2, ⟨r, sh, hp, hv, hq, hw⟩, st⟩ := hr T hT X
  cases hv
  obtain ⟨t2, a1, b1⟩ := kk r sh hp T'.heap (locs ++ L) hq (by rw [e1]; exact hw) (fun q hq => (List.mem_append.mp hq).elim (hL q) (hL' q)) T' rfl X'
  exact ⟨t2, st t2 a1, b1⟩
theorem g_callV {y' : mt_T} {x n mc' ms' bb ci : Nat} {bs as r ks : List Value} (h : lk pc y.2.2.2.2 = some (pc, ia, .invokevirtual x, nx, a, b, v0, w0, j0)) (hl : lV y.1.cls x y' n) (hcut : cut n [] st = some (as, .ref bb :: r)) (hb : nth sh bb = some (.inr (ci, ks))) (hcls : (kcls[ci]?).map (fun q => q.1) = some y'.1.cls) (hW : Nat.ble (cats r) 8 = true)
    (kk : gC y' d mc' ms' (.ref bb :: as) sh hp (fun ans sh' hp' => gG y (d + 1) mc ms Q (cells + mc') (slots + ms') (nx, lo, ans.toList ++ r, sh', hp'))) (h1 : cells + mc' ≤ mc := by decide) (h2 : slots + ms' ≤ ms := by decide) : gG y (d + 1) mc ms Q cells slots (pc, lo, st, sh, hp) := by
  intro ok p l e s m args below meth c E H locs ls C hX hw hL hlv
  obtain ⟨hd, rfl⟩ := dflt_of (n := 3) rfl (by decide) rfl ok h
  obtain ⟨⟨hcode, hini, hdd, hml⟩, hlink, hin, hsel⟩ := hl
  obtain ⟨cs, e1, e2, e3⟩ := cut_ok n [] st as _ hcut
  rw [List.append_nil] at e1
  subst e1
  have hts := C.2.2.2.2.2.1
  cases hq : kcls[ci]? with
  | none => rw [hq] at hcls; cases hcls
  | some q =>
    rw [hq] at hcls
    have hcls : q.1 = y'.1.cls := Option.some.inj hcls
    have hrecv := va_recv (D := E.2.2.1) (cl := kcls) (ws := [(E.1 + bb, .inr (ci, fs_of E hp bb ks))]) C.2.2.2.2.2.2.2.2.1 (fun j z hz => by
      match j, hz with
      | 0, hz => cases hz; exact wd_at hw (by rw [← nth_eq]; exact hb) rfl
      | j + 1, hz => simp at hz) hq (q0 := 0) rfl
    rw [hcls] at hrecv
    have hcw : CallW (rm (d + 1) mc ms) s args y.1.cls y'.1.cls x y'.1 y'.2.1 y'.2.2.1 y'.2.2.2.1 (wsm y') (rm d mc' ms') mc' ms' n := ⟨callB_of n hts (wsm_good (fun w hw => hw) hcode) rfl rfl rfl (hts _ hini) (hts _ hlink) hdd ⟨Nat.le_refl _, by show 8 + (y'.2.2.1 + 11) + (40 * d + 2080) ≤ 40 * (d + 1) + 2080; omega⟩, hts _ hin, hts _ hsel⟩
    refine run_go (Q' := fun ans sh' hp' => gG y (d + 1) mc ms Q (cells + mc') (slots + ms') (pc + 3, lo, ans.toList ++ r, sh', hp')) (va_runV (As := as.map (cv E)) (rest := r.map (cv E)) (b := E.1 + bb) ⟨C.1, C.2.1, C.2.2.2.1, C.2.2.2.2.1, hts⟩ (kk l E) hcw ⟨pcc_blind, hrecv, fun U hU hWU => ⟨rfl, by rw [hU]; exact hw, kx_move hWU C.2.2.2.2.2.2.2.2⟩⟩ rfl (by simp [e2]) hlv.1 ?_ (lv_room (by rw [cats_eq]; exact Nat.le_of_ble_eq_true hW)) hd ⟨h1, h2⟩) hL (fun ans sh' hp' H1 locs1 hk hw1 hL1 => ?_)
    · show List.map (cv E) st = _
      rw [e3]
      simp [List.map_reverse]
      rfl
    · have := hk ok p l e s m args below meth c E H1 locs1 ls C hX hw1 hL1 hlv
      have e9 : List.map (cv E) (ans.toList ++ r) = (ans.map (cv E)).toList ++ r.map (cv E) := by cases ans <;> simp
      simp only [e9] at this
      exact this
theorem g_callS {y' : mt_T} {x n mc' ms' : Nat} {as r : List Value} (h : lk pc y.2.2.2.2 = some (pc, ia, .invokestatic x, nx, a, b, v0, w0, j0)) (hl : lS y.1.cls x y' n ∨ lN2 y.1.cls x y' n) (hcut : cut n [] st = some (as, r)) (hW : Nat.ble (cats r) 8 = true)
    (kk : gC y' d mc' ms' as sh hp (fun ans sh' hp' => gG y (d + 1) mc ms Q (cells + mc') (slots + ms') (nx, lo, ans.toList ++ r, sh', hp'))) (h1 : cells + mc' ≤ mc := by decide) (h2 : slots + ms' ≤ ms := by decide) : gG y (d + 1) mc ms Q cells slots (pc, lo, st, sh, hp) := by
  intro ok p l e s m args below meth c E H locs ls C hX hw hL hlv
  obtain ⟨hd, rfl⟩ := dflt_of (n := 3) rfl (by decide) rfl ok h
  obtain ⟨cs, e1, e2, e3⟩ := cut_ok n [] st as _ hcut
  rw [List.append_nil] at e1
  subst e1
  have hts := C.2.2.2.2.2.1
  have hrun : va_Run p l e (rm (d + 1) mc ms) s m args below meth c H locs cells slots mc' ms' (F0 m pc ls (st.map (cv E))) (r.map (cv E)) (qcc E (fun ans sh' hp' => gG y (d + 1) mc ms Q (cells + mc') (slots + ms') (pc + 3, lo, ans.toList ++ r, sh', hp')) (as.map (cv E)).toArray) (fun q => E.1 ≤ q) := by
    have hstk : List.map (cv E) st = (as.map (cv E)).reverse ++ r.map (cv E) := by rw [e3]; simp [List.map_reverse]
    rcases hl with ⟨⟨hcode, hini, hdd, hml⟩, hlink, hstt⟩ | ⟨⟨hcode, hini, hdd, hml⟩, hnest, hyw, hstt⟩
    · exact va_runS (As := as.map (cv E)) (rest := r.map (cv E)) ⟨C.1, C.2.1, C.2.2.2.1, C.2.2.2.2.1, hts⟩ (kk l E) ⟨callB_of n hts (wsm_good (fun w hw => hw) hcode) rfl rfl rfl (hts _ hini) (hts _ hlink) hdd ⟨Nat.le_refl _, by show 8 + (y'.2.2.1 + 11) + (40 * d + 2080) ≤ 40 * (d + 1) + 2080; omega⟩, hts _ hstt⟩ ⟨pcc_blind, fun U hU hWU => ⟨rfl, by rw [hU]; exact hw, kx_move hWU C.2.2.2.2.2.2.2.2⟩⟩ rfl (by simp [e2]) hlv.1 hstk (lv_room (by rw [cats_eq]; exact Nat.le_of_ble_eq_true hW)) hd ⟨h1, h2⟩
    · exact va_runSN (host := "RoastHouse") (As := as.map (cv E)) (rest := r.map (cv E)) ⟨C.1, C.2.1, C.2.2.2.1, C.2.2.2.2.1, hts⟩ (kk l E) ⟨va_cnB n hts (wsm_good (fun w hw => hw) hcode) rfl rfl rfl (by rw [hyw]; exact C.2.2.2.2.2.2.2.2.2.1 _ hnest) (hts _ hini) hdd ⟨Nat.le_refl _, by show 8 + (y'.2.2.1 + 11) + (40 * d + 2080) ≤ 40 * (d + 1) + 2080; omega⟩, hts _ hstt, trivial⟩ ⟨pcc_blind, fun U hU hWU => ⟨rfl, by rw [hU]; exact hw, kx_move hWU C.2.2.2.2.2.2.2.2⟩⟩ rfl (by simp [e2]) hlv.1 hstk (lv_room (by rw [cats_eq]; exact Nat.le_of_ble_eq_true hW)) hd ⟨h1, h2⟩
  refine run_go hrun hL (fun ans sh' hp' H1 locs1 hk hw1 hL1 => ?_)
  have := hk ok p l e s m args below meth c E H1 locs1 ls C hX hw1 hL1 hlv
  have e9 : List.map (cv E) (ans.toList ++ r) = (ans.map (cv E)).toList ++ r.map (cv E) := by cases ans <;> simp
  simp only [e9] at this
  exact this
theorem g_callI {y' : mt_T} {x n mc' ms' bb : Nat} {as r : List Value} (h : lk pc y.2.2.2.2 = some (pc, ia, .invokespecial x, nx, a, b, v0, w0, j0)) (hl : lI y.1.cls x y' n) (hcut : cut n [] st = some (as, .ref bb :: r)) (hW : Nat.ble (cats r) 8 = true)
    (kk : gC y' d mc' ms' (.ref bb :: as) sh hp (fun ans sh' hp' => gG y (d + 1) mc ms Q (cells + mc') (slots + ms') (nx, lo, ans.toList ++ r, sh', hp'))) (h1 : cells + mc' ≤ mc := by decide) (h2 : slots + ms' ≤ ms := by decide) : gG y (d + 1) mc ms Q cells slots (pc, lo, st, sh, hp) := by
  intro ok p l e s m args below meth c E H locs ls C hX hw hL hlv
  obtain ⟨hd, rfl⟩ := dflt_of (n := 3) rfl (by decide) rfl ok h
  obtain ⟨⟨hcode, hini, hdd, hml⟩, hlink, hin, hname, hret⟩ := hl
  obtain ⟨cs, e1, e2, e3⟩ := cut_ok n [] st as _ hcut
  rw [List.append_nil] at e1
  subst e1
  have hts := C.2.2.2.2.2.1
  refine run_go (Q' := fun ans sh' hp' => gG y (d + 1) mc ms Q (cells + mc') (slots + ms') (pc + 3, lo, ans.toList ++ r, sh', hp')) (va_runI (As := as.map (cv E)) (rest := r.map (cv E)) (b := E.1 + bb) ⟨C.1, C.2.1, C.2.2.2.1, C.2.2.2.2.1, hts⟩ (kk l E) (cwI (bytes := y'.2.1) (maxL := y'.2.2.1) (ws' := gT) n hts (wsm_good (fun w hw => hw) hcode) (by simp [wsm, hret]) rfl rfl (hts _ hini) (hts _ hlink) (hts _ hin) hname hdd ⟨Nat.le_refl _, by show 8 + (y'.2.2.1 + 11) + (40 * d + 2080) ≤ 40 * (d + 1) + 2080; omega⟩) ⟨pcc_blind, fun U hU hWU => ⟨rfl, by rw [hU]; exact hw, kx_move hWU C.2.2.2.2.2.2.2.2⟩⟩ rfl (by simp [e2]) hlv.1 ?_ (lv_room (by rw [cats_eq]; exact Nat.le_of_ble_eq_true hW)) hd ⟨h1, h2⟩) hL (fun ans sh' hp' H1 locs1 hk hw1 hL1 => ?_)
  · show List.map (cv E) st = _
    rw [e3]
    simp [List.map_reverse]
    rfl
  · have := hk ok p l e s m args below meth c E H1 locs1 ls C hX hw1 hL1 hlv
    have e9 : List.map (cv E) (ans.toList ++ r) = (ans.map (cv E)).toList ++ r.map (cv E) := by cases ans <;> simp
    simp only [e9] at this
    exact this
/-! entry -/
def entK {α : Type} : List Value → Nat → (List Value → Option α) → Option α
  | [], 0, k => k []
  | [], n + 1, k => entK [] n (fun r => k (.retAddr 0 :: r))
  | .long x :: vs, n + 2, k => entK vs n (fun r => k (.long x :: .retAddr 0 :: r))
  | .int x :: vs, n + 1, k => entK vs n (fun r => k (.int x :: r))
  | .ref x :: vs, n + 1, k => entK vs n (fun r => k (.ref x :: r))
  | .float x :: vs, n + 1, k => entK vs n (fun r => k (.float x :: r))
  | _, _, _ => none
theorem lgc (v : Value) (vs : List Value) : (lg_sl (v :: vs)).length = (if v.category = 2 then 2 else 1) + (lg_sl vs).length := by
  simp only [lg_sl, List.flatMap_cons, List.length_append]
  split <;> rfl
theorem entK_ok {α : Type} (E : en_T) : ∀ (n : Nat) (vs : List Value) (k : List Value → Option α) (z : α), entK vs n k = some z → ∃ lo, k lo = some z ∧ (lg_sl (vs.map (cv E))).length ≤ n ∧ ∀ (off i : Nat) (v : Value), lo[i]? = some v → isV v = true → (off + i, cv E v) ∈ lv_args off (vs.map (cv E))
  | 0, [], k, z, h => ⟨[], by simpa [entK] using h, by simp [lg_sl], fun off i v hv => by simp at hv⟩
  | n + 1, [], k, z, h => by
    obtain ⟨lo, h1, h2, h3⟩ := entK_ok E n [] _ z (by simpa [entK] using h)
    refine ⟨_, h1, by simp [lg_sl], fun off i v hv hs => ?_⟩
    cases i with
    | zero => simp at hv; subst hv; cases hs
    | succ i => simp at hv; have := h3 (off + 1) i v hv hs; simp [lv_args] at this
  | n + 2, .long x :: vs, k, z, h => by
    obtain ⟨lo, h1, h2, h3⟩ := entK_ok E n vs _ z (by simpa [entK] using h)
    refine ⟨_, h1, by rw [List.map_cons, lgc]; simp only [cv, Value.category]; simp; omega, fun off i v hv hs => ?_⟩
    match i, hv with
    | 0, hv => simp at hv; subst hv; exact List.mem_cons_self
    | 1, hv => simp at hv; subst hv; cases hs
    | i + 2, hv =>
      simp at hv
      have := h3 (off + 2) i v hv hs
      rw [show off + 2 + i = off + (i + 2) by omega] at this
      exact List.mem_cons_of_mem _ this
  | n + 1, .int x :: vs, k, z, h => by
    obtain ⟨lo, h1, h2, h3⟩ := entK_ok E n vs _ z (by simpa [entK] using h)
    refine ⟨_, h1, by rw [List.map_cons, lgc]; simp only [cv, Value.category]; simp; omega, fun off i v hv hs => ?_⟩
    match i, hv with
    | 0, hv => simp at hv; subst hv; exact List.mem_cons_self
    | i + 1, hv =>
      simp at hv
      have := h3 (off + 1) i v hv hs
      rw [show off + 1 + i = off + (i + 1) by omega] at this
      exact List.mem_cons_of_mem _ this
  | n + 1, .ref x :: vs, k, z, h => by
    obtain ⟨lo, h1, h2, h3⟩ := entK_ok E n vs _ z (by simpa [entK] using h)
    refine ⟨_, h1, by rw [List.map_cons, lgc]; simp only [cv, Value.category]; simp; omega, fun off i v hv hs => ?_⟩
    match i, hv with
    | 0, hv => simp at hv; subst hv; exact List.mem_cons_self
    | i + 1, hv =>
      simp at hv
      have := h3 (off + 1) i v hv hs
      rw [show off + 1 + i = off + (i + 1) by omega] at this
      exact List.mem_cons_of_mem _ this
  | n + 1, .float x :: vs, k, z, h => by
    obtain ⟨lo, h1, h2, h3⟩ := entK_ok E n vs _ z (by simpa [entK] using h)
    refine ⟨_, h1, by rw [List.map_cons, lgc]; simp only [cv, Value.category]; simp; omega, fun off i v hv hs => ?_⟩
    match i, hv with
    | 0, hv => simp at hv; subst hv; exact List.mem_cons_self
    | i + 1, hv =>
      simp at hv
      have := h3 (off + 1) i v hv hs
      rw [show off + 1 + i = off + (i + 1) by omega] at this
      exact List.mem_cons_of_mem _ this
  | 0, .long x :: vs, k, z, h => by simp [entK] at h
  | 1, .long x :: vs, k, z, h => by simp [entK] at h
  | 0, .int x :: vs, k, z, h => by simp [entK] at h
  | 0, .ref x :: vs, k, z, h => by simp [entK] at h
  | 0, .float x :: vs, k, z, h => by simp [entK] at h
  | n, .null :: vs, k, z, h => by simp [entK] at h
  | n, .double x :: vs, k, z, h => by simp [entK] at h
  | n, .retAddr x :: vs, k, z, h => by simp [entK] at h
theorem met_ofF {l : Launch} {y : MethodName} {ws ws' : List Cond} {rm : Room} {Pc : Array Value → State → Prop} {Qc : Array Value → State → Outcome → State → Prop} {mc ms : Nat} {free : Addr → Prop} {cc : ByteArray} {maxL : Nat} {ret : Option FieldType}
    (hy : plainFor y = true) (hw : ws = Cond.code y cc maxL ret :: ws')
    (body : ∀ p e s m args below meth c s₁, BodyLoose p l y (headSpec ws rm) cc maxL ret e s m args below meth c s₁ → c.maxLocals = maxL → Pc args s →
      W p l e (headSpec ws rm).room s m args below meth c s.heap [] 0 0 (MQ below Qc args s mc ms free) (entryFrame m args maxL)) : Met l y ws rm Pc Qc mc ms free := by
  refine MetFree.of_bodySF (code := cc) (maxLocals := maxL) (ret := ret) hy ?_ ?_
  · intro args s m h hn
    obtain ⟨meth, c, h1, h2, h3, h4, h5, h6, -, -⟩ := Cond.code_spec hn (atoms_spec (ws := ws) h _ (by rw [hw]; exact List.mem_cons_self))
    exact ⟨meth, c, h1, h2, h3, h4, h5, h6⟩
  · intro p e s m args below meth c s₁ B hml hP _
    have hh0 : s₁.heap = s.heap := by rw [B.state]; rfl
    obtain ⟨t, a1, o, b1, b2, b3⟩ := body p e s m args below meth c s₁ B hml hP s₁ hh0 (Stand.of_body B)
    exact ⟨t, o, a1, b1, b2, ⟨b3.1, b3.2⟩⟩
theorem g_enter {Q : Option Value → sh_T → hp_T → Prop} {as : List Value} (ok : okm y = true) (hy : plainFor y.1 = true) (hlo : entK as y.2.2.1 some = some lo) (k : gG y d mc ms (zQ mc ms Q) 0 0 (0, lo, [], sh, hp)) : gC y d mc ms as sh hp Q := by
  intro l E
  refine met_ofF (cc := y.2.1) (maxL := y.2.2.1) (ret := y.2.2.2.1) hy rfl ?_
  intro p e s m args below meth c s₁ B hml hv
  obtain ⟨rfl, hw, hK⟩ := hv
  have hts := atoms_spec (ws := wsm y) B.pre
  obtain ⟨lo', h1, h2, h3⟩ := entK_ok E y.2.2.1 as some lo hlo
  cases h1
  have hl := lv_entry (as.map (cv E)) (n := y.2.2.1) h2
  rw [lg_entry_eq]
  refine k ok p l e s m _ below meth c E s.heap [] _ ⟨B.exec, B.bytes, B.returns, hml, findClass_of_methodNamed B.named, fun w hw => hts w (List.mem_cons_of_mem _ hw), B.notSynchronized, (name_of_methodNamed B.named B.method).1, hK⟩ trivial hw (fun _ h => by cases h) (hs_sub hl ?_)
  rintro ⟨i, w⟩ hq
  obtain ⟨v, hv, hs, rfl⟩ := al_mem.mp hq
  simpa using h3 0 i v hv hs
end GU
