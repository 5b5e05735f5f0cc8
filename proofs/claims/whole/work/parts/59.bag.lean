/-! bag: the one call that throws -/
def mL_bag : mt_T := (yL_bag, cL_bag, 5, (some .int), [
  (0, .aload_n 3, .aload 3, 1, 0, 1, 0, 0, 0),
  (1, .iconst 0, .iconst 0, 2, 0, 1, 0, 0, 0),
  (2, .aload_n 0, .aload 0, 3, 0, 1, 0, 0, 0),
  (3, .iload_n 1, .iload 1, 4, 0, 1, 0, 0, 0),
  (4, .iload_n 2, .iload 2, 5, 0, 1, 0, 0, 0),
  (5, .invokevirtual 7, .invokevirtual 7, 8, 0, 3, 0, 0, 0),
  (8, .i2l, .i2l, 9, 0, 1, 0, 0, 0),
  (9, .lastore, .lastore, 10, 0, 1, 0, 0, 0),
  (10, .goto 7, .goto 7, 17, 0, 3, 0, 0, 0),
  (13, .astore 4, .astore 4, 15, 0, 2, 0, 0, 0),
  (15, .iconst 1, .iconst 1, 16, 0, 1, 1, 0, 0),
  (16, .ireturn, .ireturn, 17, 0, 1, 0, 0, 0),
  (17, .iconst 0, .iconst 0, 18, 0, 1, 0, 0, 0),
  (18, .ireturn, .ireturn, 19, 0, 1, 0, 0, 0)])
set_option maxRecDepth 100000 in
theorem okL_bag : okm mL_bag = true := by decide +kernel
set_option maxRecDepth 100000 in
theorem lcX9_bag : lC mX9_bag 2 := ⟨gT_of (List.mem_of_getElem? (i := 881) rfl) rfl, gT_of (List.mem_of_getElem? (i := 62) rfl) rfl, by decide +kernel, by decide⟩
set_option maxRecDepth 100000 in
theorem LL_7 : lV RL 7 mX9_bag 2 := ⟨lcX9_bag, gT_of (List.mem_of_getElem? (i := 878) rfl) rfl, gT_of (List.mem_of_getElem? (i := 879) rfl) rfl, gT_of (List.mem_of_getElem? (i := 880) rfl) rfl⟩
def kw (U : State) : Prop := va_Nw (.declares ⟨"java/lang/RuntimeException", "<init>", "()V"⟩) U ∧ va_Nw (.declares ⟨"java/lang/Exception", "<init>", "()V"⟩) U ∧ va_Nw (.declares ⟨"java/lang/Throwable", "<init>", "()V"⟩) U ∧ va_Nw (.castable "java/util/NoSuchElementException" "java/util/NoSuchElementException") U
theorem kw_move {s U : State} (hW : s.WarmedH U.vm) (h : kw s) : kw U := ⟨va_Nw.warmD hW h.1, va_Nw.warmD hW h.2.1, va_Nw.warmD hW h.2.2.1, va_Nw.warmC hW h.2.2.2⟩
def gb : sh_E := .inl (.double, 0)
def gbs (n : Nat) : sh_T := List.replicate n gb
def pcx (E : en_T) (as : List Value) (sh : sh_T) (hp : hp_T) : Array Value → State → Prop := fun v U => pcc E as sh hp v U ∧ kw U
theorem pcx_blind {E : en_T} {as : List Value} {sh : sh_T} {hp : hp_T} : FrameBlind (pcx E as sh hp) := fun a U g mk h => ⟨pcc_blind a U g mk h.1, va_Nw.same rfl (u := U) rfl h.2.1, va_Nw.same rfl (u := U) rfl h.2.2.1, va_Nw.same rfl (u := U) rfl h.2.2.2.1, va_Nw.same rfl (u := U) rfl h.2.2.2.2⟩
def xcc (E : en_T) (QX : sh_T → hp_T → Prop) : String → State → State → Prop := fun n _ t => n = "java/util/NoSuchElementException" ∧ ∃ sh hp, QX sh hp ∧ wd E sh hp t.heap
/-- the contract of a method that returns or throws that exception -/
def gCX (y : mt_T) (d mc ms : Nat) (as : List Value) (sh : sh_T) (hp : hp_T) (Q : Option Value → sh_T → hp_T → Prop) (QX : sh_T → hp_T → Prop) : Prop :=
  ∀ (l : Launch) (E : en_T), l.stackTraces = false → vx_Met l y.1 (wsm y) (rm d mc ms) (pcx E as sh hp) (qcc E Q) (xcc E QX) mc ms (fun q => E.1 ≤ q)
def zX (mc ms : Nat) (Q : Option Value → sh_T → hp_T → Prop) (QX : sh_T → hp_T → Prop) : zt := (fun l c s _ => l.stackTraces = false ∧ (∀ x ∈ c.exceptionTable.toList, False) ∧ kw s, fun s args below E => vx_MQ below (qcc E Q) (xcc E QX) args s mc ms (fun q => E.1 ≤ q))
theorem gx_ret {y : mt_T} {d mc ms cells slots : Nat} {S : st_T} {Q : Option Value → sh_T → hp_T → Prop} {QX : sh_T → hp_T → Prop} (k : gG y d mc ms (zQ mc ms Q) cells slots S) : gG y d mc ms (zX mc ms Q QX) cells slots S := fun ok p l e s m args below meth c E H locs ls C _ hw hL hl => vx_ret (k ok p l e s m args below meth c E H locs ls C trivial hw hL hl)
theorem wd_grow {E : en_T} {sh : sh_T} {hp : hp_T} {H H1 : Heap} (h : wd E sh hp H) (h1 : H.size ≤ H1.size) (h2 : ∀ q : Nat, q < H.size → H1[q]? = H[q]?) : wd E (sh ++ gbs (H1.size - H.size)) hp H1 := by
  obtain ⟨a1, a2, a3⟩ := h
  refine ⟨?_, fun q hq => (h2 q (by omega)).trans (a2 q hq), fun k e hk hg => ?_⟩
  · show H1.size = E.1 + (sh ++ List.replicate (H1.size - H.size) gb).length
    rw [List.length_append, List.length_replicate]
    omega
  · by_cases hl : k < sh.length
    · rw [List.getElem?_append_left hl] at hk
      exact va_at.kept (a3 k e hk hg) (h2 _ (by show E.1 + k < H.size; omega))
    · rw [List.getElem?_append_right (by omega)] at hk
      have hm := List.mem_of_getElem? hk
      rw [gbs, List.mem_replicate] at hm
      rw [hm.2] at hg
      cases hg
def bxs : List Cond := vx_at0 "RoastHouse" 150 "java/util/NoSuchElementException" ["java/lang/RuntimeException", "java/lang/Exception"]
def bxi : List Nat := [79, 80, 81, 82, 91, 92, 93, 882, 883, 884, 885, 886, 887, 888, 889, 890, 891, 892, 893, 894, 895, 896, 897, 898, 899, 900, 901, 902, 903, 904, 905, 906, 907, 908, 909, 910, 911, 912, 913, 914, 915, 916, 917, 918, 919, 920, 921, 922, 923, 924, 925, 926, 927, 928, 929, 930, 931, 932, 933, 934, 935, 936, 937, 938, 939, 940, 941, 942]
def bxo : List Cond := [.declares ⟨"java/lang/RuntimeException", "<init>", "()V"⟩, .declares ⟨"java/lang/Exception", "<init>", "()V"⟩, .declares ⟨"java/lang/Throwable", "<init>", "()V"⟩, .castable "java/util/NoSuchElementException" "java/util/NoSuchElementException"]
set_option maxRecDepth 100000 in
theorem bx_in : (bxs.filter goodWord).all (fun w => decide (w ∈ bxi.filterMap (fun i => lw_tbl[i]?))) = true := by decide +kernel
set_option maxRecDepth 100000 in
theorem bx_out : (bxs.filter (fun w => !goodWord w)).all (fun w => decide (w ∈ bxo)) = true := by decide +kernel
set_option maxRecDepth 100000 in
theorem bx_ot : (Cond.classLink "RoastHouse" 148 "java/util/NoSuchElementException" :: Cond.initialized "java/util/NoSuchElementException" :: bxs).all vx_ot = true := by decide +kernel
theorem bx_hat {args : Array Value} {s : State} (hts : ∀ w ∈ gT, w.before args s = true) (hkw : kw s) : ∀ w ∈ bxs, w.before args s = true := by
  refine vx_hat (B := bxo) (fun w hw => ?_) (fun w hw => ?_) ?_
  · have h1 := List.all_eq_true.mp bx_in w hw
    simp only [decide_eq_true_eq] at h1
    obtain ⟨i, -, hi⟩ := List.mem_filterMap.mp h1
    exact hts w (gT_of (List.mem_of_getElem? hi) (List.mem_filter.mp hw).2)
  · have h1 := List.all_eq_true.mp bx_out w hw
    simp only [decide_eq_true_eq] at h1
    exact h1
  · exact vx_c (va_Nw.use rfl hkw.1) (vx_c (va_Nw.use rfl hkw.2.1) (vx_c (va_Nw.use rfl hkw.2.2.1) (vx_c (va_Nw.use rfl hkw.2.2.2) vx_n)))
set_option maxRecDepth 100000 in
theorem gT_882 : Cond.classLink "RoastHouse" 148 "java/util/NoSuchElementException" ∈ gT := gT_of (List.mem_of_getElem? (i := 882) rfl) rfl
set_option maxRecDepth 100000 in
theorem gT_82 : Cond.initialized "java/util/NoSuchElementException" ∈ gT := gT_of (List.mem_of_getElem? (i := 82) rfl) rfl
set_option maxRecDepth 100000 in
theorem gT_877 : Cond.classLink "RoastHouseLaw" 13 "java/util/NoSuchElementException" ∈ gT := gT_of (List.mem_of_getElem? (i := 877) rfl) rfl
theorem gx_throw {d : Nat} {lo : List Value} {sh : sh_T} {hp : hp_T} {Q : Option Value → sh_T → hp_T → Prop} {QX : sh_T → hp_T → Prop} (hqx : ∀ n, QX (sh ++ gbs n) hp) : gG mX9_bag (d + 6) 1 6 (zX 1 6 Q QX) 0 0 (20, lo, [], sh, hp) := by
  intro ok p l e s m args below meth c E H locs ls C hX hw hL hl
  obtain ⟨hl0, ht, hkw⟩ := hX
  have hts := C.2.2.2.2.2.1
  have hk := (C.2.2.2.2.2.2.2.2.2.2.2 H (by rw [hw.1]; omega) hw.2.1).2.2
  exact vx_throw0 (cc := cX9_bag) (pc := 20) (own := "RoastHouse") (cls := "java/util/NoSuchElementException") (names := ["java/lang/RuntimeException", "java/lang/Exception"]) (ik := 148) (ic := 150) (mc := 1) (ms := 6) (A := fun q => E.1 ≤ q) (ls := ls) (rest := [])
    C.1 C.2.1 hl0 C.2.2.2.2.1 (by decide +kernel) (by decide +kernel) (hts _ gT_882) (hts _ gT_82) (bx_hat hts hkw) (fun w hw => List.all_eq_true.mp bx_ot w hw) hk.2.1 hk.2.2 (hl.1.trans C.2.2.2.1.symm)
    (by decide +kernel) (by decide +kernel) (by decide +kernel) (by decide +kernel) (fun x hx => (ht x hx).elim) (by show 2 + 3 < d + 6; omega) (by show 0 + 81 ≤ 40 * (d + 6) + 2080; omega) (Nat.le_refl _) (Nat.le_refl _) C.2.2.2.2.2.2.1
    (fun t _ h1 h2 => ⟨rfl, _, hp, hqx _, wd_grow hw h1 h2⟩) hL (Nat.le_refl _) (Nat.le_refl _)
theorem gx_enter {y : mt_T} {d mc ms : Nat} {lo : List Value} {sh : sh_T} {hp : hp_T} {Q : Option Value → sh_T → hp_T → Prop} {QX : sh_T → hp_T → Prop} {as : List Value} (ok : okm y = true) (hy : plainName y.1.cls = true) (hlo : entK as y.2.2.1 some = some lo) (k : gG y d mc ms (zX mc ms Q QX) 0 0 (0, lo, [], sh, hp)) : gCX y d mc ms as sh hp Q QX := by
  intro l E hl0
  refine vx_ofW (cc := y.2.1) (maxL := y.2.2.1) (ret := y.2.2.2.1) hy rfl ?_
  intro p e s m args below meth c s₁ B hml ht hv
  obtain ⟨⟨rfl, hw, hK⟩, hkw⟩ := hv
  have hts := atoms_spec (ws := wsm y) B.pre
  obtain ⟨lo', h1, h2, h3⟩ := entK_ok E y.2.2.1 as some lo hlo
  cases h1
  have hl := lv_entry (as.map (cv E)) (n := y.2.2.1) h2
  rw [lg_entry_eq]
  refine k ok p l e s m _ below meth c E s.heap [] _ ⟨B.exec, B.bytes, B.returns, hml, findClass_of_methodNamed B.named, fun w hw => hts w (List.mem_cons_of_mem _ hw), B.notSynchronized, (name_of_methodNamed B.named B.method).1, hK⟩ ⟨hl0, ht, hkw⟩ hw (fun _ h => by cases h) (hs_sub hl ?_)
  rintro ⟨i, w⟩ hq
  obtain ⟨v, hv, hs, rfl⟩ := al_mem.mp hq
  simpa using h3 0 i v hv hs
def bgX (hp : hp_T) (nI wI : Int) : Int32 := if wI = 0 then hp.1 18 nI.toNat else if wI = 1 then hp.1 19 nI.toNat else if wI = 2 then hp.1 20 nI.toNat else cntI (fun l => decide (0 < (hp.1 22 ((nI * 12) + (l : Int)).toNat).toInt)) 12
theorem cx_X9_bag {b : Bool} {xs : sh_T} {hp : hp_T} {d : Nat} {Q : Option Value → sh_T → hp_T → Prop} {QX : sh_T → hp_T → Prop} {n w : Int32} {nI wI : Int} (nE : n.toInt = nI) (wE : w.toInt = wI) (hz : 0 ≤ (hp.1 17 0).toInt ∧ (hp.1 17 0).toInt ≤ 60) (h1 : 0 ≤ nI ∧ nI < (hp.1 17 0).toInt ∧ 0 ≤ wI ∧ wI ≤ 3 → Q (some (.int (bgX hp nI wI))) (SH b xs) hp) (h0 : nI < 0 ∨ (hp.1 17 0).toInt ≤ nI ∨ wI < 0 ∨ 3 < wI → ∀ k, QX (SH b (xs ++ gbs k)) hp) : gCX mX9_bag (d + 6) 1 6 [.ref 0, .int n, .int w] (SH b xs) hp Q QX := by
  refine gx_enter okX9_bag rfl rfl ?_
  refine g_run 3 rfl ?_
  refine g_callV0 rfl LX9_147 rfl rfl rfl rfl ?_
  refine c_X0_has (nI := nI) (zI := (hp.1 17 0).toInt) nE rfl (fun k1 => ?_) (fun k2 => ?_)
  · refine gz_eq (kx := 1) rfl (show (1 : Int32).toInt = 1 from by decide) (fun q => absurd q (by decide)) (fun _ => ?_)
    refine g_run 3 rfl ?_
    refine g_callS0 rfl LX9_82 rfl rfl ?_
    refine c_X9_within (nI := wI) (lI := 0) (uI := 3) wE (by decide) (by decide) (fun k3 => ?_) (fun k3 => ?_)
    · refine gz_ne (kx := 1) rfl (show (1 : Int32).toInt = 1 from by decide) (fun _ => ?_) (fun q => absurd q (by decide))
      refine g_run 1 rfl ?_
      have hc : wI = 0 ∨ wI = 1 ∨ wI = 2 ∨ wI = 3 := by omega
      have hq := h1 (by omega)
      rcases hc with hc | hc | hc | hc
      · refine g_tabIn (i := 0) (tgt := 56) rfl ((show _ = wI from wE).trans (by omega)) (by decide) rfl (by decide) ?_
        rw [show bgX hp nI wI = hp.1 18 nI.toNat from by unfold bgX; rw [if_pos hc]] at hq
        refine g_run 4 rfl ?_
        refine g_iald (j := nI.toNat) rfl rfl ((show _ = nI from nE).trans (by omega)) (by omega) ?_
        exact gx_ret (g_iret rfl rfl hq)
      · refine g_tabIn (i := 1) (tgt := 66) rfl ((show _ = wI from wE).trans (by omega)) (by decide) rfl (by decide) ?_
        rw [show bgX hp nI wI = hp.1 19 nI.toNat from by unfold bgX; rw [if_neg (by omega), if_pos hc]] at hq
        refine g_run 4 rfl ?_
        refine g_iald (j := nI.toNat) rfl rfl ((show _ = nI from nE).trans (by omega)) (by omega) ?_
        exact gx_ret (g_iret rfl rfl hq)
      · refine g_tabIn (i := 2) (tgt := 76) rfl ((show _ = wI from wE).trans (by omega)) (by decide) rfl (by decide) ?_
        rw [show bgX hp nI wI = hp.1 20 nI.toNat from by unfold bgX; rw [if_neg (by omega), if_neg (by omega), if_pos hc]] at hq
        refine g_run 4 rfl ?_
        refine g_iald (j := nI.toNat) rfl rfl ((show _ = nI from nE).trans (by omega)) (by omega) ?_
        exact gx_ret (g_iret rfl rfl hq)
      · refine g_tabOut (tgt := 86) rfl (Or.inr (by rw [show _ = wI from wE]; omega)) (by decide) ?_
        rw [show bgX hp nI wI = cntI (fun l => decide (0 < (hp.1 22 ((nI * 12) + (l : Int)).toNat).toInt)) 12 from by unfold bgX; rw [if_neg (by omega), if_neg (by omega), if_neg (by omega)]] at hq
        refine g_run 3 rfl ?_
        refine g_callV0 rfl LX9_160 rfl rfl rfl rfl ?_
        refine c_X0_lotsIn (nI := nI) nE (by omega) ?_
        exact gx_ret (g_iret rfl rfl hq)
    · refine gz_ne (kx := 0) rfl (show (0 : Int32).toInt = 0 from by decide) (fun q => absurd q (by decide)) (fun _ => ?_)
      exact gx_throw (fun k => h0 (by omega) k)
  · refine gz_eq (kx := 0) rfl (show (0 : Int32).toInt = 0 from by decide) (fun _ => ?_) (fun q => absurd q (by decide))
    exact gx_throw (fun k => h0 (by omega) k)
/-! the law's own method that catches it -/
def tbB : List (Nat × Nat × Nat × Nat) := [(0, 10, 13, 13)]
def wsB : List Cond := .codeWith yL_bag cL_bag 5 (some .int) tbB :: gT
def zB (mc ms : Nat) (Q : Option Value → sh_T → hp_T → Prop) : zt := (fun l c s _ => l.stackTraces = false ∧ c.exceptionTable.toList = tableOf tbB ∧ kw s, (zQ mc ms Q).2)
def gB (d mc ms : Nat) (as : List Value) (sh : sh_T) (hp : hp_T) (Q : Option Value → sh_T → hp_T → Prop) : Prop := ∀ (l : Launch) (E : en_T), l.stackTraces = false → Met l yL_bag wsB (rm d mc ms) (pcx E as sh hp) (qcc E Q) mc ms (fun q => E.1 ≤ q)
theorem gb_ret {y : mt_T} {d mc ms cells slots : Nat} {S : st_T} {Q : Option Value → sh_T → hp_T → Prop} (k : gG y d mc ms (zQ mc ms Q) cells slots S) : gG y d mc ms (zB mc ms Q) cells slots S := fun ok p l e s m args below meth c E H locs ls C _ hw hL hl => k ok p l e s m args below meth c E H locs ls C trivial hw hL hl
theorem met_ofH {l : Launch} {y : MethodName} {ws ws' : List Cond} {rm : Room} {Pc : Array Value → State → Prop} {Qc : Array Value → State → Outcome → State → Prop} {mc ms : Nat} {free : Addr → Prop} {cc : ByteArray} {maxL : Nat} {ret : Option FieldType} {hh : List (Nat × Nat × Nat × Nat)}
    (hy : plainName y.cls = true) (hw : ws = Cond.codeWith y cc maxL ret hh :: ws')
    (body : ∀ p e s m args below meth c s₁, BodyLoose p l y (headSpec ws rm) cc maxL ret e s m args below meth c s₁ → c.maxLocals = maxL → Pc args s →
      W p l e (headSpec ws rm).room s m args below meth c s.heap [] 0 0 (MQ below Qc args s mc ms free) (entryFrame m args maxL)) : Met l y ws rm Pc Qc mc ms free := by
  refine MetFree.of_bodyS (code := cc) (maxLocals := maxL) (ret := ret) hy ?_ ?_
  · intro args s m h hn
    obtain ⟨m9, meth, c, hn9, h1, h2, h3, h4, -, h5, h6, -⟩ := Cond.codeWith_spec (atoms_spec (ws := ws) h _ (by rw [hw]; exact List.mem_cons_self))
    cases hn.symm.trans hn9
    exact ⟨meth, c, h1, h2, h3, h4, h5, h6⟩
  · intro p e s m args below meth c s₁ B hml hP _
    have hh0 : s₁.heap = s.heap := by rw [B.state]; rfl
    obtain ⟨t, a1, o, b1, b2, b3⟩ := body p e s m args below meth c s₁ B hml hP s₁ hh0 (Stand.of_body B)
    exact ⟨t, o, a1, b1, b2, ⟨b3.1, b3.2⟩⟩
theorem gb_enter {d mc ms : Nat} {lo : List Value} {sh : sh_T} {hp : hp_T} {Q : Option Value → sh_T → hp_T → Prop} {as : List Value} (hlo : entK as 5 some = some lo) (k : gG mL_bag d mc ms (zB mc ms Q) 0 0 (0, lo, [], sh, hp)) : gB d mc ms as sh hp Q := by
  intro l E hl0
  refine met_ofH (cc := cL_bag) (maxL := 5) (ret := some .int) (hh := tbB) (by decide +kernel) rfl ?_
  intro p e s m args below meth c s₁ B hml hv
  obtain ⟨⟨rfl, hw, hK⟩, hkw⟩ := hv
  have hts := atoms_spec (ws := wsB) B.pre
  have htab := vx_table (x := yL_bag) B (hts _ List.mem_cons_self)
  obtain ⟨lo', h1, h2, h3⟩ := entK_ok E 5 as some lo hlo
  cases h1
  have hl := lv_entry (as.map (cv E)) (n := 5) h2
  rw [lg_entry_eq]
  refine k okL_bag p l e s m _ below meth c E s.heap [] _ ⟨B.exec, B.bytes, B.returns, hml, findClass_of_methodNamed B.named, fun w hw => hts w (List.mem_cons_of_mem _ hw), B.notSynchronized, (name_of_methodNamed B.named B.method).1, hK⟩ ⟨hl0, htab, hkw⟩ hw (fun _ h => by cases h) (hs_sub hl ?_)
  rintro ⟨i, w⟩ hq
  obtain ⟨v, hv, hs, rfl⟩ := al_mem.mp hq
  simpa using h3 0 i v hv hs
theorem gb_call {d : Nat} {sh : sh_T} {hp : hp_T} {n w : Int32} {ks : List Value} {Q : Option Value → sh_T → hp_T → Prop} (hb : nth sh 0 = some (.inr (9, ks)))
    (kk : gCX mX9_bag d 1 6 [.ref 0, .int n, .int w] sh hp (fun ans sh' hp' => gG mL_bag (d + 1) 1 6 (zB 1 6 Q) 1 6 (8, [.ref 0, .int n, .int w, .ref 77, .retAddr 0], ans.toList ++ [.int 0, .ref 77], sh', hp')) (fun sh' hp' => gG mL_bag (d + 1) 1 6 (zB 1 6 Q) 1 6 (15, [.ref 0, .int n, .int w, .ref 77, .retAddr 0], [], sh', hp'))) :
    gG mL_bag (d + 1) 1 6 (zB 1 6 Q) 0 0 (5, [.ref 0, .int n, .int w, .ref 77, .retAddr 0], [.int w, .int n, .ref 0, .int 0, .ref 77], sh, hp) := by
  intro ok p l e s m args below meth c E H locs ls C hX hw hL hlv
  obtain ⟨hl0, htab, hkw⟩ := id hX
  have hts := C.2.2.2.2.2.1
  obtain ⟨⟨hcode, hini, hdd, hml⟩, hlink, hin, hsel⟩ := LL_7
  have hrecv := va_recv (D := E.2.2.1) (cl := kcls) (ws := [(E.1 + 0, .inr (9, fs_of E hp 0 ks))]) C.2.2.2.2.2.2.2.2.1 (fun j z hz => by
    match j, hz with
    | 0, hz => cases hz; exact wd_at hw (by rw [← nth_eq]; exact hb) rfl
    | j + 1, hz => simp at hz) (q := (RX9, TX9, 10)) rfl (q0 := 0) rfl
  have hcw : CallW (rm (d + 1) 1 6) s args mL_bag.1.cls mX9_bag.1.cls 7 mX9_bag.1 mX9_bag.2.1 mX9_bag.2.2.1 mX9_bag.2.2.2.1 (wsm mX9_bag) (rm d 1 6) 1 6 2 := ⟨callB_of 2 hts (wsm_good (fun w hw => hw) hcode) rfl rfl rfl (hts _ hini) (hts _ hlink) hdd ⟨Nat.le_refl _, by show 8 + (mX9_bag.2.2.1 + 11) + (40 * d + 2080) ≤ 40 * (d + 1) + 2080; omega⟩, hts _ hin, hts _ hsel⟩
  have hrun := vx_runV (e := e) (below := below) (meth := meth) (locs := locs) (cells := 0) (slots := 0) (index := 7) (As := [.int n, .int w]) (rest := [.int 0, .ref (E.1 + 77)]) (b := E.1 + 0) (g := F0 m 5 ls (List.map (cv E) [.int w, .int n, .ref 0, .int 0, .ref 77])) ⟨C.1, C.2.1, C.2.2.2.1, C.2.2.2.2.1, hts⟩ (kk l E hl0) hcw ⟨pcx_blind, hrecv, fun U hU hWU => ⟨⟨rfl, by rw [hU]; exact hw, kx_move hWU C.2.2.2.2.2.2.2.2⟩, kw_move hWU hkw⟩⟩ rfl rfl hlv.1 rfl (lv_room (by show 2 ≤ 8; decide)) (show decode cL_bag 5 = .ok (.invokevirtual 7, 3) from by decide +kernel) ⟨Nat.le_refl _, Nat.le_refl _⟩
  intro T hT X
  rcases hrun T hT X with ⟨v, st₀, t, T', L, h0, X', hL', e1, e2, ⟨r, sh', hp', hv, hq, hw'⟩, st⟩ | ⟨q, st₀, t, T', L, En, ce, h0, X', hL', e1, e2, ⟨hn, sh', hp', hq, hw'⟩, hce, hcv, hcl, st⟩
  · cases hv
    have k1 := hq ok p l e s m args below meth c E T'.heap (locs ++ L) ls C hX (by rw [e1]; exact hw') (fun q hq => (List.mem_append.mp hq).elim (hL q) (hL' q)) hlv
    have e9 : List.map (cv E) (r.toList ++ [.int 0, .ref 77]) = (r.map (cv E)).toList ++ [.int 0, .ref (E.1 + 77)] := by cases r <;> rfl
    simp only [e9] at k1
    obtain ⟨t2, a1, b1⟩ := k1 T' rfl X'
    exact ⟨t2, st t2 a1, b1⟩
  · subst hn
    have hsub : ∀ z ∈ al E [.ref 0, .int n, .int w, .ref 77, .retAddr 0], z ∈ (4, Value.ref q) :: (al E [.ref 0, .int n, .int w, .ref 77, .retAddr 0]).filter (fun q => !(q.1 == 4) && !(q.1 + 1 == 4 && q.2.category == 2)) := by
      intro z hz
      refine List.mem_cons_of_mem _ (List.mem_filter.mpr ⟨hz, ?_⟩)
      obtain ⟨i, z2⟩ := z
      obtain ⟨v, hv, h1, rfl⟩ := al_mem.mp hz
      match i, hv with
      | 0, hv => rfl
      | 1, hv => rfl
      | 2, hv => rfl
      | 3, hv => cases hv; rfl
      | 4, hv => cases hv; cases h1
      | i + 5, hv => simp at hv
    have kW : W p l e (rm (d + 1) 1 6) s m args below meth c T'.heap (locs ++ L) 1 6 ((zB 1 6 Q).2 s args below E) (F0 m 13 ls [.ref q]) :=
      lv_astore C.1 C.2.1 (i := 4) (by decide +kernel) hlv (by decide) rfl (fun ls' h' => hq ok p l e s m args below meth c E T'.heap (locs ++ L) ls' C hX (by rw [e1]; exact hw') (fun q hq => (List.mem_append.mp hq).elim (hL q) (hL' q)) (hs_sub h' hsub))
    have kV := vx_catch (own := mL_bag.1.cls) (name := "java/util/NoSuchElementException") (E := "java/util/NoSuchElementException") (ce := ce) (q := q) (pc := 5) (ls := ls) (rest := [.int 0, .ref (E.1 + 77)]) C.2.2.2.2.1 ⟨0, 10, 13, 13⟩ [] htab (by decide) (by decide) (hts _ gT_877) (va_Nw.use rfl hkw.2.2.2) (by rw [e1]; exact hce) hcv hcl kW
    obtain ⟨t2, a1, b1⟩ := kV T' rfl X'
    exact ⟨t2, st.trans a1, b1⟩
theorem c_L_bag {b : Bool} {xs : sh_T} {hp : hp_T} {d : Nat} {Q : Option Value → sh_T → hp_T → Prop} {n w : Int32} {nI wI : Int} (nE : n.toInt = nI) (wE : w.toInt = wI) (hz : 0 ≤ (hp.1 17 0).toInt ∧ (hp.1 17 0).toInt ≤ 60) (h1 : 0 ≤ nI ∧ nI < (hp.1 17 0).toInt ∧ 0 ≤ wI ∧ wI ≤ 3 → Q (some (.int 0)) (SH b xs) (sL hp 77 0 (bgX hp nI wI).toInt64)) (h0 : nI < 0 ∨ (hp.1 17 0).toInt ≤ nI ∨ wI < 0 ∨ 3 < wI → ∀ k, Q (some (.int 1)) (SH b (xs ++ gbs k)) hp) : gB (d + 7) 1 6 [.ref 0, .int n, .int w, .ref 77] (SH b xs) hp Q := by
  refine gb_enter rfl ?_
  refine g_run 5 rfl ?_
  refine gb_call rfl ?_
  refine cx_X9_bag (nI := nI) (wI := wI) nE wE hz (fun k1 => ?_) (fun k1 k => ?_)
  · refine g_run 1 rfl ?_
    refine g_last (j := 0) rfl rfl (by decide) (by decide) ?_
    refine g_run 2 rfl ?_
    exact gb_ret (g_iret rfl rfl (h1 k1))
  · refine g_run 1 rfl ?_
    exact gb_ret (g_iret rfl rfl (h0 k1 k))
