/-! the law's entry -/
def R_law : String := "RoastHouseLaw"
def tmS (i : Nat) : Term := .string "RoastHouse$Tokens" (sidx.getD i 0)
section ST
set_option maxRecDepth 100000 in
theorem st_in : ∀ i, i < 10 → Cond.stringRef RX8 (sidx.getD i 0) (stxt.getD i "") ∈ lw_tbl := by decide +kernel
set_option maxRecDepth 100000 in
theorem st_ex : ∀ i, i < 10 → Cond.exactly (tmS i) "java/lang/String" ∈ flatC (Jvm.Cond.and given_1 narrow_1) := by decide +kernel
set_option maxRecDepth 100000 in
theorem st_co : ∀ i, i < 10 → Cond.eq (.field (tmS i) "java/lang/String" "coder" "B") (.int 0) ∈ flatC (Jvm.Cond.and given_1 narrow_1) := by decide +kernel
set_option maxRecDepth 100000 in
theorem st_ar : ∀ i, i < 10 → Cond.arrayOf (.field (tmS i) "java/lang/String" "value" "[B") .byte ∈ flatC (Jvm.Cond.and given_1 narrow_1) := by decide +kernel
set_option maxRecDepth 100000 in
theorem st_le : ∀ i, i < 10 → Cond.eq (.length (.field (tmS i) "java/lang/String" "value" "[B")) (.int (Int32.ofNat (slen.getD i 0))) ∈ flatC (Jvm.Cond.and given_1 narrow_1) := by decide +kernel
set_option maxRecDepth 100000 in
theorem st_el : ∀ i, i < 10 → ∀ j, j < slen.getD i 0 → Cond.eq (.elem (.field (tmS i) "java/lang/String" "value" "[B") (.int (Int32.ofNat j))) (.int ((sbyt.getD i []).getD j 0)) ∈ flatC (Jvm.Cond.and given_1 narrow_1) := by decide +kernel
set_option maxRecDepth 100000 in
theorem st_ne : ∀ i, i < 10 → ∀ j, j < 10 → i ≠ j → Cond.not (Cond.eq (tmS i) (tmS j)) ∈ flatC (Jvm.Cond.and given_1 narrow_1) ∨ Cond.not (Cond.eq (tmS j) (tmS i)) ∈ flatC (Jvm.Cond.and given_1 narrow_1) := by decide +kernel
set_option maxRecDepth 100000 in
theorem sn_31 : ∀ i, i < 10 → slen.getD i 0 < 2 ^ 31 := by decide +kernel
set_option maxRecDepth 100000 in
theorem st_cs : Cond.eq (.static "java/lang/String" "COMPACT_STRINGS" "Z") (.int 1) ∈ flatC (Jvm.Cond.and given_1 narrow_1) := by decide +kernel
set_option maxRecDepth 100000 in
theorem st_sf : Cond.isRef (.static "jdk/internal/util/Preconditions" "SIOOBE_FORMATTER" "Ljava/util/function/BiFunction;") ∈ flatC (Jvm.Cond.and given_1 narrow_1) := by decide +kernel
set_option maxRecDepth 100000 in
theorem st_us : Cond.isRef (.static Bundle.tN "UNASSIGNED_STACK" Bundle.steD) ∈ flatC (Jvm.Cond.and given_1 narrow_1) := by decide +kernel
set_option maxRecDepth 100000 in
theorem st_ss : Cond.isRef (.static Bundle.tN "SUPPRESSED_SENTINEL" Bundle.listD) ∈ flatC (Jvm.Cond.and given_1 narrow_1) := by decide +kernel
set_option maxRecDepth 100000 in
theorem tl_490 : Cond.laysStatic "java/lang/String" "COMPACT_STRINGS" "Z" ∈ lw_tbl := List.mem_of_getElem? (i := 490) rfl
set_option maxRecDepth 100000 in
theorem tl_506 : Cond.laysStatic "jdk/internal/util/Preconditions" "SIOOBE_FORMATTER" "Ljava/util/function/BiFunction;" ∈ lw_tbl := List.mem_of_getElem? (i := 506) rfl
set_option maxRecDepth 100000 in
theorem tl_909 : Cond.laysStatic Bundle.tN "UNASSIGNED_STACK" Bundle.steD ∈ lw_tbl := List.mem_of_getElem? (i := 909) rfl
set_option maxRecDepth 100000 in
theorem tl_911 : Cond.laysStatic Bundle.tN "SUPPRESSED_SENTINEL" Bundle.listD ∈ lw_tbl := List.mem_of_getElem? (i := 911) rfl
set_option maxRecDepth 100000 in
theorem tl_74 : Cond.initialized "java/lang/String" ∈ lw_tbl := List.mem_of_getElem? (i := 74) rfl
set_option maxRecDepth 100000 in
theorem tl_76 : Cond.initialized "jdk/internal/util/Preconditions" ∈ lw_tbl := List.mem_of_getElem? (i := 76) rfl
set_option maxRecDepth 100000 in
theorem tl_79 : Cond.initialized Bundle.tN ∈ lw_tbl := List.mem_of_getElem? (i := 79) rfl
set_option maxRecDepth 100000 in
theorem tl_885 : Cond.declares ⟨"java/lang/RuntimeException", "<init>", "()V"⟩ ∈ lw_tbl := List.mem_of_getElem? (i := 885) rfl
set_option maxRecDepth 100000 in
theorem tl_887 : Cond.declares ⟨"java/lang/Exception", "<init>", "()V"⟩ ∈ lw_tbl := List.mem_of_getElem? (i := 887) rfl
set_option maxRecDepth 100000 in
theorem tl_889 : Cond.declares ⟨"java/lang/Throwable", "<init>", "()V"⟩ ∈ lw_tbl := List.mem_of_getElem? (i := 889) rfl
set_option maxRecDepth 100000 in
theorem tl_884 : Cond.castable "java/util/NoSuchElementException" "java/util/NoSuchElementException" ∈ lw_tbl := List.mem_of_getElem? (i := 884) rfl
set_option maxRecDepth 100000 in
theorem tl_nest : ∀ q ∈ nests, Cond.methodLinkNest q.1 q.2 yX9_within "RoastHouse" ∈ lw_tbl := by decide +kernel
set_option maxRecDepth 100000 in
theorem kis_ok : ∀ (ci : Nat) (q : vw_C), kcls[ci]? = some q → Cond.instantiable q.1 q.2.2 ∈ lw_tbl := kall (List.mem_of_getElem? (i := 270) rfl) (List.mem_of_getElem? (i := 329) rfl) (List.mem_of_getElem? (i := 309) rfl) (List.mem_of_getElem? (i := 95) rfl) (List.mem_of_getElem? (i := 219) rfl) (List.mem_of_getElem? (i := 138) rfl) (List.mem_of_getElem? (i := 173) rfl) (List.mem_of_getElem? (i := 121) rfl) (List.mem_of_getElem? (i := 144) rfl) (List.mem_of_getElem? (i := 87) rfl) (List.mem_of_getElem? (i := 958) rfl)
end ST
theorem lw_cls {args : Array Value} {s : State} (hts : ∀ w ∈ gT, w.before args s = true) (hall : ∀ w ∈ lw_tbl, w.before args s = true) : ∃ D : va_G, ∀ (ci : Nat) (q : vw_C), kcls[ci]? = some q → u_Kn s q.1 q.2.1 q.2.2 (D.1 ci) (D.2 ci) := by
  have h0 : ∀ ci : Nat, ∃ r : ClassId × (Nat → Nat), ∀ q : vw_C, kcls[ci]? = some q → u_Kn s q.1 q.2.1 q.2.2 r.1 r.2 := by
    intro ci
    cases hq : kcls[ci]? with
    | none => exact ⟨(0, fun _ => 0), fun q h => by cases h⟩
    | some q =>
      obtain ⟨cC, iS, h⟩ := u_known (C := q.1) (T := q.2.1) (N := q.2.2) (n := q.2.2) hts (kin_ok ci q hq) (hall _ (kis_ok ci q hq))
      exact ⟨(cC, iS), fun q' h' => by cases h'; exact h⟩
  obtain ⟨r, hr⟩ := Classical.axiomOfChoice h0
  exact ⟨(fun ci => (r ci).1, fun ci => (r ci).2), fun ci q h => hr ci q h⟩
theorem lw_arr {args : Array Value} {s : State} {ty : FieldType} (h : (Cond.arrayClass ty).before args s = true) : ∃ cA : ClassId, ArrOfT s cA ty ∧ s.vm.findClass ("[" ++ ty.toString) = some cA := by
  obtain ⟨cA, kA, comp, h1, h2, h3⟩ := Cond.arrayClass_spec (show (Cond.arrayClass ty).holds args s none s [] = true from h)
  exact ⟨cA, fun n z => ⟨fun k h => (by cases h), kA, h2, comp, h3⟩, h1⟩
/-- what holds at the law's entry: the machine, the code, the tables' words, the script of L ints xs at the cell b, what the Statement gives of the start -/
def lw_At (p : Program) (s : State) (m : MethodId) (meth : Method) (c : Code) (b L : Nat) (xs : Nat → Int32) : Prop :=
  p.tables.exec = Jvm.exec ∧ c.code = code ∧ meth.sig.returnType = ret ∧ c.maxLocals = 7 ∧ s.vm.findClass R_law = some m.cls ∧ (∀ w ∈ lw_tbl, w.before #[Value.ref b] s = true) ∧ va_X b L xs s s.heap ∧ b < s.heap.size ∧ meth.locks = false ∧ (Jvm.Cond.and given_1 narrow_1).before #[Value.ref b] s = true ∧ meth.name = "law"
def e5 (b t : Nat) (adK adV : Nat → Nat) : Nat → Nat := fun k => if k = 100 then b else if k = 150 then t else if 200 ≤ k then adV (k - 200) else adK k
theorem e5_K {b t : Nat} {adK adV : Nat → Nat} {i : Nat} (hi : i < 10) : e5 b t adK adV i = adK i := by
  unfold e5
  rw [if_neg (by omega), if_neg (by omega), if_neg (by omega)]
theorem e5_V {b t : Nat} {adK adV : Nat → Nat} {i : Nat} : e5 b t adK adV (200 + i) = adV i := by
  unfold e5
  rw [if_neg (by omega), if_neg (by omega), if_pos (by omega), Nat.add_sub_cancel_left]
set_option maxRecDepth 100000 in
theorem whole_start {p : Program} {e : Env} {s : State} {m : MethodId} {below : List Frame} {meth : Method} {c : Code} (l : Launch) (hl0 : l.stackTraces = false) {b L : Nat} {xs : Nat → Int32} (hL : L ≤ 3584) (C0 : lw_At p s m meth c b L xs) : W p l e room_1 s m #[Value.ref b] below meth c s.heap [] 0 0 (lw_Z below #[Value.ref b] s) (entryFrame m ([Value.ref b] : List Value).toArray 7) := by
  obtain ⟨hx, hb, hr, hml, hown, hts, hX, hbl, hlocks, hgv, hname⟩ := C0
  have hs := flat_of_before _ hgv
  have hg : ∀ w ∈ gT, w.before #[Value.ref b] s = true := fun w hw => hts w (List.mem_filter.mp hw).1
  obtain ⟨D, hD⟩ := lw_cls hg hts
  obtain ⟨cI, aI, fI⟩ := lw_arr (hg _ gT_119)
  obtain ⟨cB, aB, fB⟩ := lw_arr (hg _ gT_136)
  obtain ⟨cJ, aJ, fJ⟩ := lw_arr (hg _ gT_1156)
  have hA : ∀ a : Nat, a < s.heap.size → ¬ (fun q => s.heap.size ≤ q) a := fun a ha h => absurd (show s.heap.size ≤ a from h) (by omega)
  obtain ⟨adK, adV, hS, hev⟩ := vk_Sof (tm := tmS) (len := slen) (byt := sbyt) (N := 10) (A := fun q => s.heap.size ≤ q) sn_31 (fun i hi => hs _ (st_ex i hi)) (fun i hi => hs _ (st_co i hi)) (fun i hi => hs _ (st_ar i hi)) (fun i hi => hs _ (st_le i hi)) (fun i hi j hj => hs _ (st_el i hi j hj)) (fun i j hi hj hij => (st_ne i hi j hj hij).imp (hs _) (hs _)) hA
  have hcs := va_Zof (hts _ tl_490) (hts _ tl_74) (va_eqi (hs _ st_cs)) hA
  have hsf := va_Zqof (hts _ tl_506) (hts _ tl_76) (hs _ st_sf) hA
  have hus := vx_Zqof (hts _ tl_909) (hts _ tl_79) (hs _ st_us) hA
  have hss := vx_Zqof (hts _ tl_911) (hts _ tl_79) (hs _ st_ss) hA
  obtain ⟨t, hsf⟩ : ∃ t : Nat, va_Z "jdk/internal/util/Preconditions" "SIOOBE_FORMATTER" "Ljava/util/function/BiFunction;" .null (fun q => s.heap.size ≤ q) s s.heap ∨ va_Z "jdk/internal/util/Preconditions" "SIOOBE_FORMATTER" "Ljava/util/function/BiFunction;" (.ref t) (fun q => s.heap.size ≤ q) s s.heap := by
    rcases hsf with h | ⟨t, h⟩
    · exact ⟨0, Or.inl h⟩
    · exact ⟨t, Or.inr h⟩
  obtain ⟨E, hE⟩ : ∃ E : en_T, E = (s.heap.size, (fun q => s.heap[q]?), D, (fun ty => match ty with | .byte => cB | .long => cJ | _ => cI), e5 b t adK adV) := ⟨_, rfl⟩
  have hkx : kx E s := by
    subst hE
    refine ⟨⟨hD, fun k q hk => ?_⟩, fun q hq => va_Nw.of rfl (hts _ (tl_nest q hq)), fun i hi => ?_, fun H h1 h2 => ?_⟩
    · match k, hk with
      | 0, hk => cases hk; exact ⟨aI, fI⟩
      | 1, hk => cases hk; exact ⟨aB, fB⟩
      | 2, hk => cases hk; exact ⟨aJ, fJ⟩
      | k + 3, hk => cases hk
    · show vk_R RX8 (sidx.getD i 0) (stxt.getD i "") (e5 b t adK adV i) s
      rw [e5_K hi]
      have h9 := hev i hi
      exact vk_R.of (A := #[Value.ref b]) (hts _ (st_in i hi)) h9
    · have hq : ∀ a : Nat, a < s.heap.size → ¬ (fun q => s.heap.size ≤ q) a → H[a]? = s.heap[a]? := fun a ha _ => h2 a ha
      refine ⟨⟨fun i hi => ?_, fun i j hi hj h => ?_⟩, hcs.kept hq, hsf.imp (fun h => h.kept hq) (fun h => h.kept hq), hus.kept hq, hss.kept hq⟩
      · show va_O "java/lang/String" (e5 b t adK adV i) _ s H ∧ va_OF "java/lang/String" "coder" "B" (.int 0) (e5 b t adK adV i) _ s H ∧ va_OF "java/lang/String" "value" "[B" (.ref (e5 b t adK adV (200 + i))) (e5 b t adK adV i) _ s H ∧ va_T .byte (e5 b t adK adV (200 + i)) (slen.getD i 0) (fun j => .int ((sbyt.getD i []).getD j 0)) _ s H
        rw [e5_K hi, e5_V]
        exact (hS.kept hq).1 i hi
      · have h3 : e5 b t adK adV i = e5 b t adK adV j := h
        rw [e5_K hi, e5_K hj] at h3
        exact hS.2 i j hi hj h3
  have hkw : kw s := ⟨va_Nw.of rfl (hts _ tl_885), va_Nw.of rfl (hts _ tl_887), va_Nw.of rfl (hts _ tl_889), va_Nw.of rfl (hts _ tl_884)⟩
  have hb5 : ([.float 100] : List Value).map (cv E) = [Value.ref b] := by
    subst hE
    rfl
  obtain ⟨lo, h1, h2, h3⟩ := entK_ok E 7 [.float 100] some [.float 100, .retAddr 0, .retAddr 0, .retAddr 0, .retAddr 0, .retAddr 0, .retAddr 0] rfl
  cases h1
  have hlv := lv_entry (([.float 100] : List Value).map (cv E)) (n := 7) h2
  have hZ : (zL L xs).1 l c s E := by
    subst hE
    exact ⟨hl0, hkw, rfl, fun q _ => rfl, hX⟩
  have hw : wd E [] HP0 s.heap := by
    subst hE
    exact ⟨rfl, fun q _ => rfl, fun k e h => by cases h⟩
  have K := lw_all (w := xs) hL okL_law p l e s m #[Value.ref b] below meth c E s.heap [] _ ⟨hx, hb, hr, hml, hown, hg, hlocks, hname, hkx⟩ hZ hw (fun _ h => by cases h) (hs_sub hlv (fun z hz => by
    obtain ⟨i, w⟩ := z
    obtain ⟨v, hv, hs, rfl⟩ := al_mem.mp hz
    simpa using h3 0 i v hv hs))
  rw [← hb5, lg_entry_eq]
  rw [← hb5] at K
  exact K
