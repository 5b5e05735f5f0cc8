/-! the world under gets, puts, loads and stores -/
def sI (hp : hp_T) (c i : Nat) (x : Int32) : hp_T := (va_up hp.1 c (va_up (hp.1 c) i x), hp.2)
def sL (hp : hp_T) (c i : Nat) (x : Int64) : hp_T := (hp.1, va_up hp.2 c (va_up (hp.2 c) i x))
theorem sI_at (hp : hp_T) (c i : Nat) (x : Int32) : (sI hp c i x).1 c = va_up (hp.1 c) i x := by simp [sI, va_up]
theorem sI_ne {hp : hp_T} {c i k : Nat} {x : Int32} (h : k ≠ c) : (sI hp c i x).1 k = hp.1 k := by simp [sI, va_up, h]
theorem sI_2 (hp : hp_T) (c i : Nat) (x : Int32) : (sI hp c i x).2 = hp.2 := rfl
theorem sL_at (hp : hp_T) (c i : Nat) (x : Int64) : (sL hp c i x).2 c = va_up (hp.2 c) i x := by simp [sL, va_up]
theorem sL_ne {hp : hp_T} {c i k : Nat} {x : Int64} (h : k ≠ c) : (sL hp c i x).2 k = hp.2 k := by simp [sL, va_up, h]
theorem sL_1 (hp : hp_T) (c i : Nat) (x : Int64) : (sL hp c i x).1 = hp.1 := rfl
theorem av_row {hp hp' : hp_T} {c : Nat} (h1 : hp'.1 c = hp.1 c) (h2 : hp'.2 c = hp.2 c) (i : Nat) (v : Value) : av hp' c i v = av hp c i v := by cases v <;> simp [av, h1, h2]
theorem ce_row {E : en_T} {hp hp' : hp_T} {c : Nat} (h1 : hp'.1 c = hp.1 c) (h2 : hp'.2 c = hp.2 c) (e : sh_E) : ce E hp' c e = ce E hp c e := by
  rcases e with ⟨ty, n⟩ | ⟨ci, ks⟩
  · simp only [ce, arc]
    split <;> simp [h1, h2]
  · simp only [ce, fs_of]
    have hf : (fun (i : Nat) (v : Value) => cv E (av hp' c i v)) = (fun i v => cv E (av hp c i v)) := by
      funext i v
      rw [av_row h1 h2]
    rw [hf]
theorem wd_at {E : en_T} {sh : sh_T} {hp : hp_T} {H : Heap} (h : wd E sh hp H) {k : Nat} {e : sh_E} (hk : sh[k]? = some e) (hg : gar e = false) : va_at E.2.2.1 kcls (E.1 + k, ce E hp k e) H := h.2.2 k e hk hg
theorem wd_put {E : en_T} {sh sh' : sh_T} {hp hp' : hp_T} {H H1 : Heap} {c : Nat} (h : wd E sh hp H) (hlen : sh'.length = sh.length) (hz : H1.size = H.size) (ho : ∀ q, q ≠ E.1 + c → H1[q]? = H[q]?) (hn : ∀ e, sh'[c]? = some e → gar e = false → va_at E.2.2.1 kcls (E.1 + c, ce E hp' c e) H1) (hs : ∀ k e, k ≠ c → sh'[k]? = some e → sh[k]? = some e) (hr : ∀ k, k ≠ c → hp'.1 k = hp.1 k ∧ hp'.2 k = hp.2 k) : wd E sh' hp' H1 := by
  refine ⟨by rw [hz, h.1, hlen], fun q hq => by rw [ho q (by omega)]; exact h.2.1 q hq, fun k e hk hg => ?_⟩
  by_cases hkc : k = c
  · subst hkc; exact hn e hk hg
  · rw [ce_row (hr k hkc).1 (hr k hkc).2]
    exact (h.2.2 k e (hs k e hkc hk) hg).kept (ho _ (by simp; omega))
theorem fs_get {E : en_T} {hp : hp_T} {c k : Nat} {ks : List Value} {v : Value} (h : ks[k]? = some v) : (fs_of E hp c ks)[k]? = some (cv E (av hp c k v)) := by
  simp [fs_of, h]
theorem fs_len {E : en_T} {hp : hp_T} {c : Nat} {ks : List Value} : (fs_of E hp c ks).length = ks.length := by simp [fs_of]
theorem fs_set {E : en_T} {hp hp' : hp_T} {c k : Nat} {ks ks' : List Value} {w : Value} (hl : ks'.length = ks.length) (h1 : ∀ i v, ks'[i]? = some v → (i = k → cv E (av hp' c i v) = w) ∧ (i ≠ k → ∃ v', ks[i]? = some v' ∧ cv E (av hp' c i v) = cv E (av hp c i v'))) : fs_of E hp' c ks' = (fs_of E hp c ks).set k w := by
  apply List.ext_getElem?
  intro i
  rw [List.getElem?_set]
  by_cases hi : i < ks.length
  · have hv : ks'[i]? = some (ks'[i]'(by omega)) := List.getElem?_eq_getElem (by omega)
    have hx := h1 i _ hv
    rw [fs_get hv]
    by_cases hik : k = i
    · subst hik
      simp [fs_len, hi, hx.1 rfl]
    · obtain ⟨v', e1, e2⟩ := hx.2 (Ne.symm hik)
      simp [hik, fs_get e1, e2]
  · have a1 : (fs_of E hp' c ks')[i]? = none := by rw [List.getElem?_eq_none_iff, fs_len]; omega
    have a2 : (fs_of E hp c ks)[i]? = none := by rw [List.getElem?_eq_none_iff, fs_len]; omega
    rw [a1, a2]
    split
    · next h => subst h; simp [fs_len, hi]
    · rfl
theorem fk_of {ci k : Nat} {q : vw_C} (hq : kcls[ci]? = some q) (hk : k < q.2.2) : fk ci k = q.2.1 k := by simp [fk, hq, hk]
section PUT
variable {p : Program} {l : Launch} {e : Env} {R : Room} {s : State} {m : MethodId} {args : Array Value} {below : List Frame} {meth : Method} {c0 : Code} {H : Heap} {locs : List Loc} {cells slots : Nat} {QQ : State → Prop} {pc : Nat} {ls : Array Slot} {rest : List Value}
theorem put_core {y : mt_T} {E : en_T} {ws : Nat × va_E} {a ci k x : Nat} {q : vw_C} {fs : List Value} {v : Value} {ty : FieldType} (C : cx y E p s m args meth c0) (hat : va_at E.2.2.1 kcls (a, .inr (ci, fs)) H) (hq : kcls[ci]? = some q) (hk : k < q.2.2) (hl : Cond.fieldLink y.1.cls x (q.2.1 k).1 (q.2.1 k).2.1 (q.2.1 k).2.2.1 ∈ gT) (hfin : (q.2.1 k).2.2.2 = false ∨ ((q.2.1 k).2.2.2 = true ∧ y.1.name = "<init>" ∧ (q.2.1 k).1 = y.1.cls)) (hd : parseFieldDescriptor (q.2.1 k).2.2.1 = some ty) (hn : narrow ty v = v) (hfit : fits ty v = true) (hln : k < fs.length) (hbase : E.1 ≤ a) (hL : ∀ q ∈ locs, E.1 ≤ q.base)
    (hdg : decode y.2.1 pc = .ok (.putfield x, 3)) (kk : ∀ (H1 : Heap) (locs1 : List Loc), H1.size = H.size → (∀ z, z ≠ a → H1[z]? = H[z]?) → va_at E.2.2.1 kcls (a, .inr (ci, fs.set k v)) H1 → (∀ q ∈ locs1, E.1 ≤ q.base) → W p l e R s m args below meth c0 H1 locs1 cells slots QQ (F0 m (pc + 3) ls rest)) : W p l e R s m args below meth c0 H locs cells slots QQ (F0 m pc ls (v :: .ref a :: rest)) := by
  obtain ⟨hexec, hb, -, -, hown, hts, -, hname, hKx⟩ := C
  obtain ⟨q9, hq9, cell, here, kind, plain, vals⟩ := hat
  cases Option.some.inj (hq9.symm.trans hq)
  obtain ⟨places, named, kC, listed, ordin⟩ := hKx.1.1 ci _ hq
  obtain ⟨cf, kf, fi, fd, found, lies⟩ := places k hk
  have said := hts _ (kin_ok ci _ hq _ (u_in_lay hk))
  have lay := u_lays hts (kin_ok ci _ hq) hk
  have inst := (u_facts named listed lay found).1
  have room : fd.slot < cell.slots.size := lies ▸ k2_hasslot (vals k hk)
  -- what comes behind the write, whichever of the two rows does it
  have behind : ∀ H9 : Heap, H9[a]? = some (cell.setSlot fd.slot v) → H9.size = H.size → (∀ z, z ≠ a → H9[z]? = H[z]?) → W p l e R s m args below meth c0 H9 (locs ++ [⟨a, fd.slot⟩]) cells slots QQ (F0 m (pc + 3) ls rest) := by
    intro H9 new size9 others
    refine kk H9 _ size9 others ⟨_, hq, _, new, kind, plain, fun j hj => ?_⟩ (fun z hz => ?_)
    · have w := t_set vals (va_apart (own := y.1.cls) hts (kin_ok ci _ hq) (ktyp ci) (kty_ok ci _ hq) (knm_ok ci _ hq) hKx.1 hq) hk v j hj
      rw [vp_updV_set hln] at w
      rw [lies]
      exact w
    · cases List.mem_append.mp hz with
      | inl old => exact hL z old
      | inr one => cases List.mem_singleton.mp one; exact hbase
  cases hfin with
  | inl free =>
    rw [u_lay, free, if_neg Bool.false_ne_true] at said
    exact W.putK hexec hb (f := fd) ⟨hown, hts _ hl, ⟨cf, kf, fi, found⟩, inst⟩ (kind ▸ u_store named listed ordin said found hd hn hfit) here plain room rfl rfl hdg behind
  | inr fin =>
    rw [u_lay, fin.1, if_pos rfl] at said
    obtain ⟨_, _, cO, _, _, _, -, -, fO, -, -, -, nO, -⟩ := Cond.laysFinal_spec said
    have there : cO = cf := congrArg Prod.fst (Option.some.inj (fO.symm.trans found))
    have mine : m.cls = cO := Option.some.inj (hown.symm.trans (fin.2.2 ▸ nO))
    exact W.putFinK hexec hb hown (hts _ hl) found inst (mine.trans there) (hname.trans fin.2.1) (kind ▸ u_fits named listed ordin lay found hd hn hfit) here plain room rfl rfl hdg behind
theorem get_core {y : mt_T} {E : en_T} {a ci k x : Nat} {q : vw_C} {fs : List Value} {v : Value} (C : cx y E p s m args meth c0) (hat : va_at E.2.2.1 kcls (a, .inr (ci, fs)) H) (hq : kcls[ci]? = some q) (hk : k < q.2.2) (hl : Cond.fieldLink y.1.cls x (q.2.1 k).1 (q.2.1 k).2.1 (q.2.1 k).2.2.1 ∈ gT) (hv : fs[k]? = some v) (hdg : decode y.2.1 pc = .ok (.getfield x, 3))
    (kk : W p l e R s m args below meth c0 H locs cells slots QQ (F0 m (pc + 3) ls (v :: rest))) : W p l e R s m args below meth c0 H locs cells slots QQ (F0 m pc ls (.ref a :: rest)) := by
  obtain ⟨hexec, hb, -, -, hown, hts, -, hname, hKx⟩ := C
  refine va_get (C := q.1) (T := q.2.1) (N := q.2.2) (ci := ci) (D := E.2.2.1) (cl := kcls) (ws := [(a, .inr (ci, fs))]) hexec hb hts (kin_ok ci q hq) hown hKx.1 (fun j z hz => ?_) 0 rfl hq k hk (hts _ hl) (fun _ h => h) hv hdg kk
  match j, hz with
  | 0, hz => cases hz; exact hat
  | j + 1, hz => simp at hz
end PUT
section GH
variable {y : mt_T} {d mc ms : Nat} {Q : zt} {cells slots : Nat} {pc : Nat} {lo st : List Value} {sh : sh_T} {hp : hp_T}
theorem g1_get {c ci k x : Nat} {q : vw_C} {ks : List Value} {v : Value} (hd : decode y.2.1 pc = .ok (.getfield x, 3)) (hc : sh[c]? = some (.inr (ci, ks))) (hq : kcls[ci]? = some q) (hk : k < q.2.2) (hl : Cond.fieldLink y.1.cls x (q.2.1 k).1 (q.2.1 k).2.1 (q.2.1 k).2.2.1 ∈ gT) (hv : ks[k]? = some v) (kk : gG y d mc ms Q cells slots (pc + 3, lo, av hp c k v :: st, sh, hp)) : gG y d mc ms Q cells slots (pc, lo, .ref c :: st, sh, hp) :=
  fun ok p l e s m args below meth c0 E H locs ls C hX hw hL hl2 => get_core C (wd_at hw hc rfl) hq hk hl (fs_get hv) hd (kk ok p l e s m args below meth c0 E H locs ls C hX hw hL hl2)
theorem g1_put {c ci k x : Nat} {q : vw_C} {ks : List Value} {v : Value} {sh' : sh_T} {hp' : hp_T} {ty : FieldType} (hd : decode y.2.1 pc = .ok (.putfield x, 3)) (hc : sh[c]? = some (.inr (ci, ks))) (hq : kcls[ci]? = some q) (hk : k < q.2.2) (hl : Cond.fieldLink y.1.cls x (q.2.1 k).1 (q.2.1 k).2.1 (q.2.1 k).2.2.1 ∈ gT) (hfin : (q.2.1 k).2.2.2 = false ∨ ((q.2.1 k).2.2.2 = true ∧ y.1.name = "<init>" ∧ (q.2.1 k).1 = y.1.cls)) (hty : parseFieldDescriptor (q.2.1 k).2.2.1 = some ty) (hn : ∀ E, narrow ty (cv E v) = cv E v) (hfit : ∀ E, fits ty (cv E v) = true) (hkl : k < ks.length)
    (hsh : ∃ ks', sh' = sh.set c (.inr (ci, ks')) ∧ ks'.length = ks.length ∧ ∀ (E : en_T) (i : Nat) (w : Value), ks'[i]? = some w → (i = k → cv E (av hp' c i w) = cv E v) ∧ (i ≠ k → ∃ w', ks[i]? = some w' ∧ cv E (av hp' c i w) = cv E (av hp c i w'))) (hr : ∀ j, j ≠ c → hp'.1 j = hp.1 j ∧ hp'.2 j = hp.2 j)
    (kk : gG y d mc ms Q cells slots (pc + 3, lo, st, sh', hp')) : gG y d mc ms Q cells slots (pc, lo, v :: .ref c :: st, sh, hp) := by
  intro ok p l e s m args below meth c0 E H locs ls C hX hw hL hl2
  obtain ⟨ks', rfl, hlen, hks⟩ := hsh
  have hcl : c < sh.length := (List.getElem?_eq_some_iff.mp hc).1
  refine put_core (ws := (0, .inr (0, []))) C (wd_at hw hc rfl) hq hk hl hfin hty (hn E) (hfit E) (by rw [fs_len]; exact hkl) (Nat.le_add_right _ _) hL hd (fun H1 locs1 z1 o1 hat hL1 => ?_)
  refine kk ok p l e s m args below meth c0 E H1 locs1 ls C hX ?_ hL1 hl2
  refine wd_put (c := c) hw (by simp) z1 o1 (fun e he _ => ?_) (fun j e hj he => ?_) hr
  · rw [List.getElem?_set_self hcl] at he
    cases he
    simp only [ce]
    rw [fs_set hlen (hks E)]
    exact hat
  · rwa [List.getElem?_set_ne (Ne.symm hj)] at he
theorem sh_same {c : Nat} {e : sh_E} (h : sh[c]? = some e) : sh.set c e = sh := by
  apply List.ext_getElem?
  intro i
  rw [List.getElem?_set]
  split
  · next hi => subst hi; rw [h]; simp [(List.getElem?_eq_some_iff.mp h).1]
  · rfl
theorem g1_putI {c ci k x : Nat} {q : vw_C} {ks : List Value} {v0 v : Int32} {ty : FieldType} (hd : decode y.2.1 pc = .ok (.putfield x, 3)) (hc : sh[c]? = some (.inr (ci, ks))) (hq : kcls[ci]? = some q) (hk : k < q.2.2) (hl : Cond.fieldLink y.1.cls x (q.2.1 k).1 (q.2.1 k).2.1 (q.2.1 k).2.2.1 ∈ gT) (hfin : (q.2.1 k).2.2.2 = false) (hty : parseFieldDescriptor (q.2.1 k).2.2.1 = some ty) (hn : narrow ty (.int v) = .int v) (hfit : fits ty (.int v) = true) (hv : ks[k]? = some (.int v0))
    (kk : gG y d mc ms Q cells slots (pc + 3, lo, st, sh, sI hp c k v)) : gG y d mc ms Q cells slots (pc, lo, .int v :: .ref c :: st, sh, hp) := by
  refine g1_put (sh' := sh) (hp' := sI hp c k v) hd hc hq hk hl (Or.inl hfin) hty (fun E => hn) (fun E => hfit) (List.getElem?_eq_some_iff.mp hv).1 ⟨ks, (sh_same hc).symm, rfl, fun E i w hw => ⟨fun hi => ?_, fun hi => ⟨w, hw, ?_⟩⟩⟩ (fun j hj => ⟨sI_ne hj, rfl⟩) kk
  · subst hi
    rw [hv] at hw; cases hw
    simp [av, sI_at, va_up, cv]
  · cases w <;> simp [av, sI_at, va_up, hi, sI_2]
theorem g1_putL {c ci k x : Nat} {q : vw_C} {ks : List Value} {v0 v : Int64} (hd : decode y.2.1 pc = .ok (.putfield x, 3)) (hc : sh[c]? = some (.inr (ci, ks))) (hq : kcls[ci]? = some q) (hk : k < q.2.2) (hl : Cond.fieldLink y.1.cls x (q.2.1 k).1 (q.2.1 k).2.1 (q.2.1 k).2.2.1 ∈ gT) (hfin : (q.2.1 k).2.2.2 = false) (hty : parseFieldDescriptor (q.2.1 k).2.2.1 = some .long) (hv : ks[k]? = some (.long v0))
    (kk : gG y d mc ms Q cells slots (pc + 3, lo, st, sh, sL hp c k v)) : gG y d mc ms Q cells slots (pc, lo, .long v :: .ref c :: st, sh, hp) := by
  refine g1_put (sh' := sh) (hp' := sL hp c k v) hd hc hq hk hl (Or.inl hfin) hty (fun E => rfl) (fun E => rfl) (List.getElem?_eq_some_iff.mp hv).1 ⟨ks, (sh_same hc).symm, rfl, fun E i w hw => ⟨fun hi => ?_, fun hi => ⟨w, hw, ?_⟩⟩⟩ (fun j hj => ⟨rfl, sL_ne hj⟩) kk
  · subst hi
    rw [hv] at hw; cases hw
    simp [av, sL_at, va_up, cv]
  · cases w <;> simp [av, sL_at, va_up, hi, sL_1]
/-- a reference is put: the shape changes -/
theorem g1_putR {c ci k x : Nat} {q : vw_C} {ks : List Value} {v : Value} {ty : FieldType} (hd : decode y.2.1 pc = .ok (.putfield x, 3)) (hc : sh[c]? = some (.inr (ci, ks))) (hq : kcls[ci]? = some q) (hk : k < q.2.2) (hl : Cond.fieldLink y.1.cls x (q.2.1 k).1 (q.2.1 k).2.1 (q.2.1 k).2.2.1 ∈ gT) (hfin : (q.2.1 k).2.2.2 = false ∨ ((q.2.1 k).2.2.2 = true ∧ y.1.name = "<init>" ∧ (q.2.1 k).1 = y.1.cls)) (hty : parseFieldDescriptor (q.2.1 k).2.2.1 = some ty) (hn : ∀ E, narrow ty (cv E v) = cv E v) (hfit : ∀ E, fits ty (cv E v) = true) (hkl : k < ks.length) (hr : isR v = true)
    (kk : gG y d mc ms Q cells slots (pc + 3, lo, st, sh.set c (.inr (ci, ks.set k v)), hp)) : gG y d mc ms Q cells slots (pc, lo, v :: .ref c :: st, sh, hp) := by
  refine g1_put (hp' := hp) hd hc hq hk hl hfin hty hn hfit hkl ⟨_, rfl, by simp, fun E i w hw => ⟨fun hi => ?_, fun hi => ⟨w, ?_, rfl⟩⟩⟩ (fun j hj => ⟨rfl, rfl⟩) kk
  · subst hi
    rw [List.getElem?_set_self hkl] at hw; cases hw
    cases v <;> first | rfl | cases hr
  · rwa [List.getElem?_set_ne (Ne.symm hi)] at hw
theorem cl_of {i : Int32} {j : Nat} (h : i.toInt = (j : Int)) : i.toNatClampNeg = j := by
  show i.toInt.toNat = j
  omega
theorem in_of {i : Int32} {j n : Nat} (h : i.toInt = (j : Int)) (hj : j < n) : vp_in i n := vp_in_iff.mpr ⟨by omega, by omega⟩
theorem ty_at {E : en_T} {s : State} (h : kx E s) : ArrOfT s (E.2.2.2.1 .int) .int ∧ ArrOfT s (E.2.2.2.1 .byte) .byte ∧ ArrOfT s (E.2.2.2.1 .long) .long := ⟨(h.1.2 0 _ rfl).1, (h.1.2 1 _ rfl).1, (h.1.2 2 _ rfl).1⟩
theorem wd_i {E : en_T} {H : Heap} {c n : Nat} {ty : FieldType} (hw : wd E sh hp H) (hc : sh[c]? = some (.inl (ty, n))) (ht : ty = .int ∨ ty = .byte) : H[E.1 + c]? = some (arrV (E.2.2.2.1 ty) n (fun j => .int (hp.1 c j))) := by
  rcases ht with rfl | rfl <;> exact wd_at hw hc rfl
theorem wd_l {E : en_T} {H : Heap} {c n : Nat} (hw : wd E sh hp H) (hc : sh[c]? = some (.inl (.long, n))) : H[E.1 + c]? = some (arrV (E.2.2.2.1 .long) n (fun j => .long (hp.2 c j))) := wd_at hw hc rfl
theorem g1_iald {c n j : Nat} {i : Int32} (hd : decode y.2.1 pc = .ok (.iaload, 1)) (hc : sh[c]? = some (.inl (.int, n))) (hi : i.toInt = (j : Int)) (hj : j < n) (kk : gG y d mc ms Q cells slots (pc + 1, lo, .int (hp.1 c j) :: st, sh, hp)) : gG y d mc ms Q cells slots (pc, lo, .int i :: .ref c :: st, sh, hp) := by
  intro ok p l e s m args below meth c0 E H locs ls C hX hw hL hl2
  have k := kk ok p l e s m args below meth c0 E H locs ls C hX hw hL hl2
  refine W.iald (v := .int (hp.1 c j)) C.1 C.2.1 (wd_i hw hc (Or.inl rfl)) ((ty_at C.2.2.2.2.2.2.2.2).1 n (fun j => .int (hp.1 c j))) (fun q => by cases q) (by show ¬ (i < 0 ∨ (arrV _ _ _).slots.size ≤ _); rw [arrV_size]; exact in_of hi hj) (by show (arrV _ _ _).slots[_]? = _; rw [cl_of hi, arrV_read _ _ hj]) rfl rfl hd k
theorem g1_bald {c n j : Nat} {i : Int32} (hd : decode y.2.1 pc = .ok (.baload, 1)) (hc : sh[c]? = some (.inl (.byte, n))) (hi : i.toInt = (j : Int)) (hj : j < n) (kk : gG y d mc ms Q cells slots (pc + 1, lo, .int (hp.1 c j) :: st, sh, hp)) : gG y d mc ms Q cells slots (pc, lo, .int i :: .ref c :: st, sh, hp) := by
  intro ok p l e s m args below meth c0 E H locs ls C hX hw hL hl2
  have k := kk ok p l e s m args below meth c0 E H locs ls C hX hw hL hl2
  refine W.bald (v := .int (hp.1 c j)) C.1 C.2.1 (wd_i hw hc (Or.inr rfl)) ((ty_at C.2.2.2.2.2.2.2.2).2.1 n (fun j => .int (hp.1 c j))) (fun q => by cases q) (by show ¬ (i < 0 ∨ (arrV _ _ _).slots.size ≤ _); rw [arrV_size]; exact in_of hi hj) (by show (arrV _ _ _).slots[_]? = _; rw [cl_of hi, arrV_read _ _ hj]) rfl rfl hd k
theorem g1_lald {c n j : Nat} {i : Int32} (hd : decode y.2.1 pc = .ok (.laload, 1)) (hc : sh[c]? = some (.inl (.long, n))) (hi : i.toInt = (j : Int)) (hj : j < n) (kk : gG y d mc ms Q cells slots (pc + 1, lo, .long (hp.2 c j) :: st, sh, hp)) : gG y d mc ms Q cells slots (pc, lo, .int i :: .ref c :: st, sh, hp) := by
  intro ok p l e s m args below meth c0 E H locs ls C hX hw hL hl2
  have k := kk ok p l e s m args below meth c0 E H locs ls C hX hw hL hl2
  refine W.lald (v := .long (hp.2 c j)) C.1 C.2.1 (wd_l hw hc) ((ty_at C.2.2.2.2.2.2.2.2).2.2 n (fun j => .long (hp.2 c j))) (fun q => by cases q) (by show ¬ (i < 0 ∨ (arrV _ _ _).slots.size ≤ _); rw [arrV_size]; exact in_of hi hj) (by show (arrV _ _ _).slots[_]? = _; rw [cl_of hi, arrV_read _ _ hj]) rfl rfl hd k
theorem g1_iast {c n j : Nat} {i x : Int32} (hd : decode y.2.1 pc = .ok (.iastore, 1)) (hc : sh[c]? = some (.inl (.int, n))) (hi : i.toInt = (j : Int)) (hj : j < n) (kk : gG y d mc ms Q cells slots (pc + 1, lo, st, sh, sI hp c j x)) : gG y d mc ms Q cells slots (pc, lo, .int x :: .int i :: .ref c :: st, sh, hp) := by
  intro ok p l e s m args below meth c0 E H locs ls C hX hw hL hl2
  refine W.iast C.1 C.2.1 (wd_i hw hc (Or.inl rfl)) ((ty_at C.2.2.2.2.2.2.2.2).1 n (fun j => .int (hp.1 c j))) (fun q => by cases q) (by show ¬ (i < 0 ∨ (arrV _ _ _).slots.size ≤ _); rw [arrV_size]; exact in_of hi hj) rfl rfl hd fun H1 e1 z oq => ?_
  refine kk ok p l e s m args below meth c0 E H1 _ ls C hX (wd_put (c := c) hw rfl z oq (fun e2 he _ => ?_) (fun j e hj he => he) (fun j hj => ⟨sI_ne hj, rfl⟩)) ?_ hl2
  · rw [hc] at he; cases he
    show H1[E.1 + c]? = some (vp_cell _ _)
    rw [e1]
    simp only [arc, vp_cell_i, arrV_store, sI_at]
    congr 2
    funext q
    rw [cl_of hi]
    by_cases hq : q = j
    · subst hq; simp [updV, va_up]
    · simp [updV, va_up, hq]
  · intro q hq
    rcases List.mem_append.mp hq with h | h
    · exact hL q h
    · rw [List.mem_singleton.mp h]; exact Nat.le_add_right _ _
theorem g1_bast {c n j : Nat} {i x : Int32} (hd : decode y.2.1 pc = .ok (.bastore, 1)) (hc : sh[c]? = some (.inl (.byte, n))) (hi : i.toInt = (j : Int)) (hj : j < n) (kk : gG y d mc ms Q cells slots (pc + 1, lo, st, sh, sI hp c j (vp_nar .byte x))) : gG y d mc ms Q cells slots (pc, lo, .int x :: .int i :: .ref c :: st, sh, hp) := by
  intro ok p l e s m args below meth c0 E H locs ls C hX hw hL hl2
  refine W.bast C.1 C.2.1 (wd_i hw hc (Or.inr rfl)) ((ty_at C.2.2.2.2.2.2.2.2).2.1 n (fun j => .int (hp.1 c j))) (fun q => by cases q) (by show ¬ (i < 0 ∨ (arrV _ _ _).slots.size ≤ _); rw [arrV_size]; exact in_of hi hj) rfl rfl hd fun H1 e1 z oq => ?_
  refine kk ok p l e s m args below meth c0 E H1 _ ls C hX (wd_put (c := c) hw rfl z oq (fun e2 he _ => ?_) (fun j e hj he => he) (fun j hj => ⟨sI_ne hj, rfl⟩)) ?_ hl2
  · rw [hc] at he; cases he
    show H1[E.1 + c]? = some (vp_cell _ _)
    rw [e1]
    simp only [arc, vp_cell_i, arrV_store, sI_at]
    congr 2
    funext q
    rw [cl_of hi]
    by_cases hq : q = j
    · subst hq
      simp [updV, va_up, vp_nar]
      try rfl
    · simp [updV, va_up, hq]
  · intro q hq
    rcases List.mem_append.mp hq with h | h
    · exact hL q h
    · rw [List.mem_singleton.mp h]; exact Nat.le_add_right _ _
theorem g1_last {c n j : Nat} {i : Int32} {x : Int64} (hd : decode y.2.1 pc = .ok (.lastore, 1)) (hc : sh[c]? = some (.inl (.long, n))) (hi : i.toInt = (j : Int)) (hj : j < n) (kk : gG y d mc ms Q cells slots (pc + 1, lo, st, sh, sL hp c j x)) : gG y d mc ms Q cells slots (pc, lo, .long x :: .int i :: .ref c :: st, sh, hp) := by
  intro ok p l e s m args below meth c0 E H locs ls C hX hw hL hl2
  refine W.last C.1 C.2.1 (wd_l hw hc) ((ty_at C.2.2.2.2.2.2.2.2).2.2 n (fun j => .long (hp.2 c j))) (fun q => by cases q) (by show ¬ (i < 0 ∨ (arrV _ _ _).slots.size ≤ _); rw [arrV_size]; exact in_of hi hj) rfl rfl hd fun H1 e1 z oq => ?_
  refine kk ok p l e s m args below meth c0 E H1 _ ls C hX (wd_put (c := c) hw rfl z oq (fun e2 he _ => ?_) (fun j e hj he => he) (fun j hj => ⟨rfl, sL_ne hj⟩)) ?_ hl2
  · rw [hc] at he; cases he
    show H1[E.1 + c]? = some (vp_cell _ _)
    rw [e1]
    simp only [arc, vp_cell_l, arrV_store, sL_at]
    congr 2
    funext q
    rw [cl_of hi]
    by_cases hq : q = j
    · subst hq; simp [updV, va_up]
    · simp [updV, va_up, hq]
  · intro q hq
    rcases List.mem_append.mp hq with h | h
    · exact hL q h
    · rw [List.mem_singleton.mp h]; exact Nat.le_add_right _ _
theorem g1_alen {c n : Nat} {ty : FieldType} (hd : decode y.2.1 pc = .ok (.arraylength, 1)) (hc : sh[c]? = some (.inl (ty, n))) (ht : ty = .int ∨ ty = .byte ∨ ty = .long) (kk : gG y d mc ms Q cells slots (pc + 1, lo, .int (nI n) :: st, sh, hp)) : gG y d mc ms Q cells slots (pc, lo, .ref c :: st, sh, hp) := by
  intro ok p l e s m args below meth c0 E H locs ls C hX hw hL hl2
  have k := kk ok p l e s m args below meth c0 E H locs ls C hX hw hL hl2
  rcases ht with rfl | rfl | rfl
  · exact W.alen C.1 C.2.1 (wd_at hw hc rfl) ((ty_at C.2.2.2.2.2.2.2.2).1 n (fun j => .int (hp.1 c j))) (by show (arrV _ _ _).slots.size.toInt32 = _; rw [arrV_size]; rfl) rfl rfl hd k
  · exact W.alen C.1 C.2.1 (wd_at hw hc rfl) ((ty_at C.2.2.2.2.2.2.2.2).2.1 n (fun j => .int (hp.1 c j))) (by show (arrV _ _ _).slots.size.toInt32 = _; rw [arrV_size]; rfl) rfl rfl hd k
  · exact W.alen C.1 C.2.1 (wd_at hw hc rfl) ((ty_at C.2.2.2.2.2.2.2.2).2.2 n (fun j => .long (hp.2 c j))) (by show (arrV _ _ _).slots.size.toInt32 = _; rw [arrV_size]; rfl) rfl rfl hd k
end GH
