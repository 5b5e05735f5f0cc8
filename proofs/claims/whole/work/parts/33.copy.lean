/-! System.arraycopy of ints from place 0 to place 0 -/
set_option maxRecDepth 100000 in
theorem kcopyL : Cond.methodLink RX1 90 arraycopyName ∈ gT := gT_of (List.mem_of_getElem? (i := 819) rfl) rfl
set_option maxRecDepth 100000 in
theorem kcopyN : Cond.native arraycopyName ∈ gT := gT_of (List.mem_of_getElem? (i := 821) rfl) rfl
set_option maxRecDepth 100000 in
theorem kcopyS : Cond.static arraycopyName ∈ gT := gT_of (List.mem_of_getElem? (i := 820) rfl) rfl
theorem kcopyI : Cond.initialized "java/lang/System" ∈ gT := gT_of (List.mem_of_getElem? (i := 85) rfl) rfl
theorem kcopyW : nativeFrameWords "java/lang/System" "arraycopy" 5 ≤ 2000 := by decide +kernel
section GCP
variable {y : mt_T} {d mc ms : Nat} {Q : zt} {cells slots : Nat} {pc : Nat} {lo : List Value} {sh : sh_T} {hp : hp_T} {ia : Instr} {nx a b j0 : Nat} {v0 : Int32} {w0 : Int64}
theorem g_acopy {x c0 c1 n0 n1 N : Nat} {n : Int32} (h : lk pc y.2.2.2.2 = some (pc, ia, .invokestatic x, nx, a, b, v0, w0, j0)) (hl : Cond.methodLink y.1.cls x arraycopyName ∈ gT) (hc0 : nth sh c0 = some (.inl (.int, n0))) (hc1 : nth sh c1 = some (.inl (.int, n1))) (hn : n.toInt = (N : Int)) (h0 : N ≤ n0) (h1 : N ≤ n1) (kk : gG y (d + 1) mc ms Q cells slots (nx, lo, [], sh, sR hp c1 (va_cpy (hp.1 c0) (hp.1 c1) 0 0 N))) : gG y (d + 1) mc ms Q cells slots (pc, lo, [.int n, .int 0, .ref c1, .int 0, .ref c0], sh, hp) := by
  intro ok p l e s m args below meth c E H locs ls C hX hw hL hlv
  obtain ⟨hd, rfl⟩ := dflt_of (n := 3) rfl (by decide) rfl ok h
  have hts := C.2.2.2.2.2.1
  have hk := ty_at C.2.2.2.2.2.2.2.2
  rw [nth_eq] at hc0 hc1
  have q0 := wd_i hw hc0 (Or.inl rfl)
  have q1 := wd_i hw hc1 (Or.inl rfl)
  have hnN : n.toNatClampNeg = N := cl_of hn
  have hneg : ¬ n < 0 := by
    intro q
    rw [Int32.lt_iff_toInt_lt, hn] at q
    simp at q
    omega
  intro T hT X
  obtain ⟨-, k0, hk0, cm0, hkk0⟩ := hk.1 n0 (fun j => .int (hp.1 c0 j))
  obtain ⟨-, k1, hk1, cm1, hkk1⟩ := hk.1 n1 (fun j => .int (hp.1 c1 j))
  obtain ⟨vm', X', step⟩ := X.arraycopy C.1 C.2.2.2.2.1 (hts _ hl) (hts _ kcopyN) (hts _ kcopyS) (hts _ kcopyI) (srcPos := 0) (destPos := 0) (n := n) (by rw [hT]; exact q0) (by rw [hT]; exact q1)
    (fun _ h => by cases h) (fun _ h => by cases h) (fun h => by cases h) (fun h => by cases h) hk0 hk1 hkk0 hkk1 (by simp) (by decide) (by decide) hneg
    (by rw [hn, arrV_size]; simp; omega) (by rw [hn, arrV_size]; simp; omega)
    (fun vm₁ _ i hi => by
      have e : (arrV (E.2.2.2.1 .int) n0 (fun j => .int (hp.1 c0 j))).slots.getD ((0 : Int32).toNatClampNeg + i) .null = .int (hp.1 c0 i) := by
        rw [show (0 : Int32).toNatClampNeg + i = i by show 0 + i = i; omega, Array.getD_eq_getD_getElem?, arrV_read _ _ (by omega)]
        rfl
      refine ⟨?_, ?_⟩
      · rw [e]; rfl
      · rw [e]; exact trivial)
    (g := F0 m pc ls [.int n, .int 0, .ref (E.1 + c1), .int 0, .ref (E.1 + c0)]) rfl (by rw [C.2.2.2.1]; exact hlv.1) (rest := []) rfl (by rw [C.2.1]; exact hd) (by show 1 ≤ d + 1; omega) (by have := kcopyW; show 2 * 0 + 0 + (_ + 11) ≤ 40 * (d + 1) + 2080; omega)
  have e1 : copied (arrV (E.2.2.2.1 .int) n0 (fun j => .int (hp.1 c0 j))) (arrV (E.2.2.2.1 .int) n1 (fun j => .int (hp.1 c1 j))) 0 0 n = arrV (E.2.2.2.1 .int) n1 (fun j => .int (va_cpy (hp.1 c0) (hp.1 c1) 0 0 N j)) := by
    have := va_copied (fun z : Int32 => .int z) (E.2.2.2.1 .int) (E.2.2.2.1 .int) (n0 := n0) (n1 := n1) (sp := 0) (dp := 0) (n := N) (hp.1 c0) (hp.1 c1) (by omega)
    rw [← this, ← hnN]
    rfl
  rw [e1] at X' step
  have hlt : E.1 + c1 < H.size := (Array.getElem?_eq_some_iff.mp q1).1
  have hheap : ((T.setVm vm').setCell (E.1 + c1) (arrV (E.2.2.2.1 .int) n1 (fun j => .int (va_cpy (hp.1 c0) (hp.1 c1) 0 0 N j)))).heap = H.setIfInBounds (E.1 + c1) (arrV (E.2.2.2.1 .int) n1 (fun j => .int (va_cpy (hp.1 c0) (hp.1 c1) 0 0 N j))) := by rw [← hT]; rfl
  have hw1 : wd E sh (sR hp c1 (va_cpy (hp.1 c0) (hp.1 c1) 0 0 N)) (H.setIfInBounds (E.1 + c1) (arrV (E.2.2.2.1 .int) n1 (fun j => .int (va_cpy (hp.1 c0) (hp.1 c1) 0 0 N j)))) := by
    refine wd_put (c := c1) hw rfl (by simp) (fun q hq => by simp [Array.getElem?_setIfInBounds, Ne.symm hq]) (fun e2 he _ => ?_) (fun j e hj he => he) (fun j hj => ⟨by simp [sR, va_up, hj], rfl⟩)
    rw [hc1] at he
    cases he
    show (H.setIfInBounds (E.1 + c1) _)[E.1 + c1]? = some (vp_cell _ _)
    simp only [arc, vp_cell_i, Array.getElem?_setIfInBounds, hlt, if_true]
    simp [sR, va_up]
  obtain ⟨t, a1, b1⟩ := kk ok p l e s m args below meth c E _ _ ls C hX hw1 (by
    intro q hq
    rcases List.mem_append.mp hq with h | h
    · exact hL q h
    · obtain ⟨z, -, hz⟩ := List.mem_map.mp h
      rw [← hz]
      show E.1 ≤ E.1 + c1
      omega) hlv _ hheap X'
  exact ⟨t, step t a1, b1⟩
end GCP
