/-! making objects and arrays: rows -/
set_option maxRecDepth 100000 in
theorem gT_92 : Cond.instanceMethod Lib.objectInit ∈ gT := gT_of (List.mem_of_getElem? (i := 92) rfl) rfl
set_option maxRecDepth 100000 in
theorem gT_93 : Cond.code Lib.objectInit ⟨#[0xb1]⟩ 1 none ∈ gT := gT_of (List.mem_of_getElem? (i := 93) rfl) rfl
set_option maxRecDepth 100000 in
theorem gT_119 : Cond.arrayClass .int ∈ gT := gT_of (List.mem_of_getElem? (i := 119) rfl) rfl
set_option maxRecDepth 100000 in
theorem gT_136 : Cond.arrayClass .byte ∈ gT := gT_of (List.mem_of_getElem? (i := 136) rfl) rfl
set_option maxRecDepth 100000 in
theorem gT_1156 : Cond.arrayClass .long ∈ gT := gT_of (List.mem_of_getElem? (i := 1156) rfl) rfl
theorem wd_push {E : en_T} {sh : sh_T} {hp : hp_T} {H H1 : Heap} {x : sh_E} (h : wd E sh hp H) (hz : H1.size = H.size + 1) (ho : ∀ q : Nat, q < H.size → H1[q]? = H[q]?) (hx : va_at E.2.2.1 kcls (E.1 + sh.length, ce E hp sh.length x) H1) : wd E (sh ++ [x]) hp H1 := by
  obtain ⟨a1, a2, a3⟩ := h
  refine ⟨by rw [hz, a1, List.length_append]; rfl, fun q hq => (ho q (by omega)).trans (a2 q hq), fun k e hk hg => ?_⟩
  by_cases hl : k < sh.length
  · rw [List.getElem?_append_left hl] at hk
    exact va_at.kept (a3 k e hk hg) (ho _ (by show E.1 + k < H.size; omega))
  · rw [List.getElem?_append_right (by omega)] at hk
    have hz2 : k - sh.length < 1 := (List.getElem?_eq_some_iff.mp hk).1
    have hk0 : k = sh.length := by omega
    subst hk0
    rw [Nat.sub_self] at hk
    cases hk
    exact hx
def dfv : Value → Value → Bool
  | .int x, .int _ => decide (x = 0)
  | .long x, .long _ => decide (x = 0)
  | .null, .null => true
  | _, _ => false
theorem dfv_ok {E : en_T} {hp : hp_T} {c j : Nat} {a b : Value} (h : dfv a b = true) (h1 : hp.1 c = fun _ => 0) (h2 : hp.2 c = fun _ => 0) : a = cv E (av hp c j b) := by
  unfold dfv at h
  split at h
  · rw [decide_eq_true_eq] at h
    subst h
    show _ = Value.int (hp.1 c j)
    rw [h1]
  · rw [decide_eq_true_eq] at h
    subst h
    show _ = Value.long (hp.2 c j)
    rw [h2]
  · rfl
  · cases h
theorem dfv_r (a : Value) : dfv a (.retAddr 0) = false := by cases a <;> rfl
section MK
variable {y : mt_T} {d mc ms : Nat} {Q : zt} {cells slots : Nat} {pc : Nat} {lo st : List Value} {sh : sh_T} {hp : hp_T} {ia : Instr} {nx a b j0 : Nat} {v0 : Int32} {w0 : Int64}
theorem g_obj {x k : Nat} (h : lk pc y.2.2.2.2 = some (pc, ia, .invokespecial x, nx, a, b, v0, w0, j0)) (hl : Cond.methodLink y.1.cls x Lib.objectInit ∈ gT) (hW : Nat.ble (cats st) 8 = true) (kk : gG y (d + 1) mc ms Q cells slots (nx, lo, st, sh, hp)) : gG y (d + 1) mc ms Q cells slots (pc, lo, .ref k :: st, sh, hp) := by
  intro ok p l e s m args below meth c E H locs ls C hX hw hL hlv
  obtain ⟨hd, rfl⟩ := dflt_of (n := 3) rfl (by decide) rfl ok h
  have hts := C.2.2.2.2.2.1
  refine W.objInit C.1 C.2.1 C.2.2.2.2.1 (idx := x) (hts _ hl) (hts _ gT_92) (hts _ gT_93) (g := F0 m pc ls (List.map (cv E) (.ref k :: st))) rfl (hlv.1.trans C.2.2.2.1.symm) (a := E.1 + k) (rest := st.map (cv E)) rfl hd (by show 1 ≤ d + 1; omega) ?_ (kk ok p l e s m args below meth c E H locs ls C hX hw hL hlv)
  have h9 := Nat.le_of_ble_eq_true hW
  show 2 * 0 + ((st.map (cv E)).map fun v => v.category).sum + 12 ≤ 40 * (d + 1) + 2080
  rw [cats_eq]
  omega
theorem g_arr {aty : ArrayType} {ty : FieldType} {t0 N k : Nat} {n : Int32} {sh' : sh_T} (h : lk pc y.2.2.2.2 = some (pc, ia, .newarray aty, nx, a, b, v0, w0, j0)) (hty : newarray.typeOf aty = ty) (hg : Cond.arrayClass ty ∈ gT) (ht : ∀ cA : FieldType → ClassId, (ktys cA)[t0]? = some (cA ty, ty)) (hra : ∀ (U : State) (cA : ClassId), va_RA U cA ty → U.vm.findClass ("[" ++ ty.toString) = some cA)
    (hl : sh.length = k) (harc : ∀ cA : ClassId, vp_cell cA (arc hp k ty N) = arrV cA N (fun _ => defaultValue ty)) (hn : n.toInt = (N : Int)) (hb : N * componentBytes ty ≤ 536870912) (hs : sh ++ [.inl (ty, N)] = sh') (h1 : cells + 1 ≤ mc) (h2 : slots + N ≤ ms) (kk : gG y d mc ms Q (cells + 1) (slots + N) (nx, lo, .ref k :: st, sh', hp)) : gG y d mc ms Q cells slots (pc, lo, .int n :: st, sh, hp) := by
  intro ok p l e s m args below meth c E H locs ls C hX hw hL hlv
  obtain ⟨hd, rfl⟩ := dflt_of (n := 2) rfl (by decide) rfl ok h
  subst hs
  subst hty
  subst hl
  have hts := C.2.2.2.2.2.1
  refine va_newaK (atype := aty) C.1 C.2.1 (hts _ hg) (g := F0 m pc ls (List.map (cv E) (.int n :: st))) rfl hd (n := n) (N := N) (rest := st.map (cv E)) rfl ?_ ?_ hb h1 h2 (h := E.1 + sh.length) hw.1 (fun H1 cA e1 z1 o1 hA hN => ?_)
  · rw [Int32.lt_iff_toInt_lt, hn]
    show ¬ (N : Int) < 0
    omega
  · show n.toInt.toNat = N
    omega
  · have hc : E.2.2.2.1 (newarray.typeOf aty) = cA := Option.some.inj ((hra s _ (C.2.2.2.2.2.2.2.2.1.2 t0 _ (ht E.2.2.2.1)).2).symm.trans hN)
    refine kk ok p l e s m args below meth c E H1 locs ls C hX (wd_push hw (by rw [z1, hw.1]) (fun q hq => o1 q (by rw [← hw.1]; exact hq)) ?_) hL hlv
    show H1[E.1 + sh.length]? = some (vp_cell (E.2.2.2.1 (newarray.typeOf aty)) (arc hp sh.length (newarray.typeOf aty) N))
    rw [harc, hc]
    exact e1
theorem g_arrI {N k : Nat} {n : Int32} {sh' : sh_T} (h : lk pc y.2.2.2.2 = some (pc, ia, .newarray .int, nx, a, b, v0, w0, j0)) (hl : sh.length = k) (hz : hp.1 k = fun _ => 0) (hn : n.toInt = (N : Int)) (hb : N ≤ 2000) (hs : sh ++ [.inl (.int, N)] = sh') (h1 : cells + 1 ≤ mc) (h2 : slots + N ≤ ms) (kk : gG y d mc ms Q (cells + 1) (slots + N) (nx, lo, .ref k :: st, sh', hp)) : gG y d mc ms Q cells slots (pc, lo, .int n :: st, sh, hp) :=
  g_arr (t0 := 0) h rfl gT_119 (fun _ => rfl) (fun _ _ h => h) hl (fun cA => by show arrV cA N (fun j => .int (hp.1 k j)) = _; rw [hz]; rfl) hn (by show N * 4 ≤ _; omega) hs h1 h2 kk
theorem g_arrB {N k : Nat} {n : Int32} {sh' : sh_T} (h : lk pc y.2.2.2.2 = some (pc, ia, .newarray .byte, nx, a, b, v0, w0, j0)) (hl : sh.length = k) (hz : hp.1 k = fun _ => 0) (hn : n.toInt = (N : Int)) (hb : N ≤ 2000) (hs : sh ++ [.inl (.byte, N)] = sh') (h1 : cells + 1 ≤ mc) (h2 : slots + N ≤ ms) (kk : gG y d mc ms Q (cells + 1) (slots + N) (nx, lo, .ref k :: st, sh', hp)) : gG y d mc ms Q cells slots (pc, lo, .int n :: st, sh, hp) :=
  g_arr (t0 := 1) h rfl gT_136 (fun _ => rfl) (fun _ _ h => h) hl (fun cA => by show arrV cA N (fun j => .int (hp.1 k j)) = _; rw [hz]; rfl) hn (by show N * 1 ≤ _; omega) hs h1 h2 kk
theorem g_arrL {N k : Nat} {n : Int32} {sh' : sh_T} (h : lk pc y.2.2.2.2 = some (pc, ia, .newarray .long, nx, a, b, v0, w0, j0)) (hl : sh.length = k) (hz : hp.2 k = fun _ => 0) (hn : n.toInt = (N : Int)) (hb : N ≤ 2000) (hs : sh ++ [.inl (.long, N)] = sh') (h1 : cells + 1 ≤ mc) (h2 : slots + N ≤ ms) (kk : gG y d mc ms Q (cells + 1) (slots + N) (nx, lo, .ref k :: st, sh', hp)) : gG y d mc ms Q cells slots (pc, lo, .int n :: st, sh, hp) :=
  g_arr (t0 := 2) h rfl gT_1156 (fun _ => rfl) (fun _ _ h => h) hl (fun cA => by show arrV cA N (fun j => .long (hp.2 k j)) = _; rw [hz]; rfl) hn (by show N * 8 ≤ _; omega) hs h1 h2 kk
theorem g_new {ci x k N : Nat} {q : vw_C} {fs : List Value} {sh' : sh_T} (h : lk pc y.2.2.2.2 = some (pc, ia, .new x, nx, a, b, v0, w0, j0)) (hq : kcls[ci]? = some q) (hN : q.2.2 = N) (hcl : Cond.classLink y.1.cls x q.1 ∈ gT) (hin : Cond.instantiable q.1 N ∈ gT) (hini : Cond.initialized q.1 ∈ gT) (hl : sh.length = k) (hz : hp.1 k = fun _ => 0) (hz2 : hp.2 k = fun _ => 0) (hf : (List.range N).all (fun j => dfv (defaultValue (ktyp ci j)) (fs.getD j (.retAddr 0))) = true) (hs : sh ++ [.inr (ci, fs)] = sh') (h1 : cells + 1 ≤ mc) (h2 : slots + N ≤ ms)
    (kk : gG y d mc ms Q (cells + 1) (slots + N) (nx, lo, .ref k :: st, sh', hp)) : gG y d mc ms Q cells slots (pc, lo, st, sh, hp) := by
  intro ok p l e s m args below meth c E H locs ls C hX hw hL hlv
  obtain ⟨hd, rfl⟩ := dflt_of (n := 3) rfl (by decide) rfl ok h
  subst hs
  subst hl
  have hts := C.2.2.2.2.2.1
  have hKn := C.2.2.2.2.2.2.2.2.1.1 ci _ hq
  refine W.newcK C.1 C.2.1 C.2.2.2.2.1 (hts _ hcl) (hts _ hin) (hts _ hini) (g := F0 m pc ls (List.map (cv E) st)) rfl hd h1 h2 hKn.2.1 (h := E.1 + sh.length) hw.1 (fun H1 kC hkC e1 z1 o1 => ?_)
  refine kk ok p l e s m args below meth c E H1 locs ls C hX (wd_push hw (by rw [z1, hw.1]) (fun q hq => o1 q (by rw [← hw.1]; exact hq)) ?_) hL hlv
  refine ⟨q, hq, (u_born (ktyp ci) hts (kin_ok ci q hq) hKn hkC e1 (kty_ok ci q hq)).to (fun j hj => ?_)⟩
  rw [hN] at hj
  have h9 := List.all_eq_true.mp hf j (List.mem_range.mpr hj)
  show defaultValue (ktyp ci j) = (fs.mapIdx (fun i v => cv E (av hp sh.length i v))).getD j .null
  cases hv : fs[j]? with
  | none =>
    rw [List.getD_eq_getElem?_getD, hv] at h9
    have h8 : dfv (defaultValue (ktyp ci j)) (.retAddr 0) = true := h9
    rw [dfv_r] at h8
    cases h8
  | some v =>
    rw [List.getD_eq_getElem?_getD, hv] at h9
    rw [List.getD_eq_getElem?_getD, List.getElem?_mapIdx, hv]
    exact dfv_ok h9 hz hz2
theorem g_putW {c k r : Nat} {ks : List Value} {ty : FieldType} {q : vw_C} {sh' : sh_T} (h : lk pc y.2.2.2.2 = some (pc, ia, .putfield k, nx, a, b, v0, w0, j0)) (hc : nth sh c = some (.inr (a, ks))) (hq : kcls[a]? = some q) (hfin : (q.2.1 k).2.2.2 = false ∨ ((q.2.1 k).2.2.2 = true ∧ y.1.name = "<init>" ∧ (q.2.1 k).1 = y.1.cls)) (hty : parseFieldDescriptor (q.2.1 k).2.2.1 = some ty) (hn : ∀ E, narrow ty (cv E (.ref r)) = cv E (.ref r)) (hfit : ∀ E, fits ty (cv E (.ref r)) = true) (hkl : k < ks.length) (hs : sh.set c (.inr (a, ks.set k (.ref r))) = sh') (kk : gG y d mc ms Q cells slots (nx, lo, st, sh', hp)) : gG y d mc ms Q cells slots (pc, lo, .ref r :: .ref c :: st, sh, hp) := by
  subst hs
  exact g_putR h hc hq hfin hty hn hfit hkl kk
end MK
