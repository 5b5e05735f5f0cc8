/-! THE ABSTRACT MACHINE. Objects and arrays that the law makes lie one behind another from the law's own start on: cell k at address base + k. A world: a shape (what is where, how it refers) and two tables of numbers (ints and longs, by cell and place). -/
abbrev hp_T : Type := (Nat → Nat → Int32) × (Nat → Nat → Int64)
abbrev sh_E : Type := (FieldType × Nat) ⊕ (Nat × List Value)
abbrev sh_T : Type := List sh_E
abbrev en_T : Type := Nat × (Nat → Option Cell) × va_G × (FieldType → ClassId) × (Nat → Nat)
abbrev ie_T : Type := Nat × Instr × Instr × Nat × Nat × Nat × Int32 × Int64 × Nat
abbrev mt_T : Type := MethodName × ByteArray × Nat × Option FieldType × List ie_T
abbrev st_T : Type := Nat × List Value × List Value × sh_T × hp_T
def kcls : List vw_C := [(RX0, TX0, 9), (RX1, TX1, 10), (RX2, TX2, 4), (RX3, TX3, 4), (RX4, TX4, 12), (RX5, TX5, 3), (RX6, TX6, 8), (RX7, TX7, 2), (RX8, TX8, 5), (RX9, TX9, 10), (RX10, TX10, 60)]
def ktyp (ci : Nat) : Nat → FieldType := match ci with
  | 0 => tyX0
  | 1 => tyX1
  | 2 => tyX2
  | 3 => tyX3
  | 4 => tyX4
  | 5 => tyX5
  | 6 => tyX6
  | 7 => tyX7
  | 8 => tyX8
  | 9 => tyX9
  | _ => tyX10
def gT : List Cond := lw_tbl.filter goodWord
theorem gT_of {w : Cond} (h : w ∈ lw_tbl) (hg : goodWord w = true) : w ∈ gT := List.mem_filter.mpr ⟨h, hg⟩
theorem gT_good : GoodIn gT gT := fun w hw => ⟨hw, good_of_word (List.mem_filter.mp hw).2⟩
theorem kall {P : Nat → vw_C → Prop} (h0 : P 0 (RX0, TX0, 9)) (h1 : P 1 (RX1, TX1, 10)) (h2 : P 2 (RX2, TX2, 4)) (h3 : P 3 (RX3, TX3, 4)) (h4 : P 4 (RX4, TX4, 12)) (h5 : P 5 (RX5, TX5, 3)) (h6 : P 6 (RX6, TX6, 8)) (h7 : P 7 (RX7, TX7, 2)) (h8 : P 8 (RX8, TX8, 5)) (h9 : P 9 (RX9, TX9, 10)) (h10 : P 10 (RX10, TX10, 60)) : ∀ ci q, kcls[ci]? = some q → P ci q := by
  intro ci q h
  match ci, h with
  | 0, h => cases h; exact h0
  | 1, h => cases h; exact h1
  | 2, h => cases h; exact h2
  | 3, h => cases h; exact h3
  | 4, h => cases h; exact h4
  | 5, h => cases h; exact h5
  | 6, h => cases h; exact h6
  | 7, h => cases h; exact h7
  | 8, h => cases h; exact h8
  | 9, h => cases h; exact h9
  | 10, h => cases h; exact h10
  | k + 11, h => simp [kcls] at h
theorem kty_ok : ∀ (ci : Nat) (q : vw_C), kcls[ci]? = some q → ∀ k, k < q.2.2 → parseFieldDescriptor (q.2.1 k).2.2.1 = some (ktyp ci k) := kall tyX0_ok tyX1_ok tyX2_ok tyX3_ok tyX4_ok tyX5_ok tyX6_ok tyX7_ok tyX8_ok tyX9_ok tyX10_ok
theorem knm_ok : ∀ (ci : Nat) (q : vw_C), kcls[ci]? = some q → ∀ a, a < q.2.2 → ∀ b, b < q.2.2 → a ≠ b → (q.2.1 a).2.1 ≠ (q.2.1 b).2.1 := kall nmX0 nmX1 nmX2 nmX3 nmX4 nmX5 nmX6 nmX7 nmX8 nmX9 nmX10
def kin_b (q : vw_C) (ps : List Nat) : Bool := decide (u_ws q.1 q.2.1 q.2.2 = ps.filterMap (fun i => lw_tbl[i]?)) && (u_ws q.1 q.2.1 q.2.2).all goodWord
theorem kin_of {q : vw_C} {ps : List Nat} (h : kin_b q ps = true) : ∀ w ∈ u_ws q.1 q.2.1 q.2.2, w ∈ gT := by
  simp only [kin_b, Bool.and_eq_true, decide_eq_true_eq] at h
  intro w hw
  have hg := List.all_eq_true.mp h.2 w hw
  rw [h.1] at hw
  obtain ⟨i, -, hi⟩ := List.mem_filterMap.mp hw
  exact gT_of (List.mem_of_getElem? hi) hg
theorem kin0 : kin_b (RX0, TX0, 9) [289, 291, 293, 295, 297, 299, 301, 303, 305] = true := by decide +kernel
theorem kin1 : kin_b (RX1, TX1, 10) [347, 349, 351, 353, 355, 357, 359, 361, 363, 365] = true := by decide +kernel
theorem kin2 : kin_b (RX2, TX2, 4) [319, 321, 323, 325] = true := by decide +kernel
theorem kin3 : kin_b (RX3, TX3, 4) [110, 112, 114, 116] = true := by decide +kernel
theorem kin4 : kin_b (RX4, TX4, 12) [244, 246, 248, 250, 252, 254, 256, 258, 260, 262, 264, 266] = true := by decide +kernel
theorem kin5 : kin_b (RX5, TX5, 3) [211, 213, 215] = true := by decide +kernel
theorem kin6 : kin_b (RX6, TX6, 8) [191, 193, 195, 197, 199, 201, 203, 205] = true := by decide +kernel
theorem kin7 : kin_b (RX7, TX7, 2) [131, 133] = true := by decide +kernel
theorem kin8 : kin_b (RX8, TX8, 5) [161, 163, 165, 167, 169] = true := by decide +kernel
theorem kin9 : kin_b (RX9, TX9, 10) [381, 383, 385, 387, 389, 391, 393, 395, 397, 399] = true := by decide +kernel
theorem kin10 : kin_b (RX10, TX10, 60) [1035, 1037, 1039, 1041, 1043, 1045, 1047, 1049, 1051, 1053, 1055, 1057, 1059, 1061, 1063, 1065, 1067, 1069, 1071, 1073, 1075, 1077, 1079, 1081, 1083, 1085, 1087, 1089, 1091, 1093, 1095, 1097, 1099, 1101, 1103, 1105, 1107, 1109, 1111, 1113, 1115, 1117, 1119, 1121, 1123, 1125, 1127, 1129, 1131, 1133, 1135, 1137, 1139, 1141, 1143, 1145, 1147, 1149, 1151, 1153] = true := by decide +kernel
theorem kin_ok : ∀ (ci : Nat) (q : vw_C), kcls[ci]? = some q → ∀ w ∈ u_ws q.1 q.2.1 q.2.2, w ∈ gT := kall (kin_of kin0) (kin_of kin1) (kin_of kin2) (kin_of kin3) (kin_of kin4) (kin_of kin5) (kin_of kin6) (kin_of kin7) (kin_of kin8) (kin_of kin9) (kin_of kin10)
/-- a value of the abstract machine as the JVM has it: a cell by its number, a constant String (or the script) by its own number as a float -/
def cv (E : en_T) : Value → Value
  | .ref k => .ref (E.1 + k)
  | .float u => .ref (E.2.2.2.2 u.toNat)
  | v => v
/-- what is in a place of a cell: ints and longs by the tables, the rest as the shape has it -/
def av (hp : hp_T) (c i : Nat) : Value → Value
  | .int _ => .int (hp.1 c i)
  | .long _ => .long (hp.2 c i)
  | v => v
def fs_of (E : en_T) (hp : hp_T) (c : Nat) (ks : List Value) : List Value := ks.mapIdx (fun i v => cv E (av hp c i v))
def arc (hp : hp_T) (c : Nat) (ty : FieldType) (n : Nat) : vp_A := match ty with
  | .long => (n, .inr (.inl (hp.2 c)))
  | _ => (n, .inl (hp.1 c))
def ce (E : en_T) (hp : hp_T) (c : Nat) : sh_E → va_E
  | .inl (ty, n) => .inl (E.2.2.2.1 ty, arc hp c ty n)
  | .inr (ci, ks) => .inr (ci, fs_of E hp c ks)
/-- a cell of which nothing is said -/
def gar : sh_E → Bool
  | .inl (.double, _) => true
  | _ => false
/-- the world: all the cells from base on, by the shape and the tables; what lies below is as it was -/
def wd (E : en_T) (sh : sh_T) (hp : hp_T) (H : Heap) : Prop :=
  H.size = E.1 + sh.length ∧ (∀ q, q < E.1 → H[q]? = E.2.1 q) ∧ ∀ k e, sh[k]? = some e → gar e = false → va_at E.2.2.1 kcls (E.1 + k, ce E hp k e) H
def ktys (cA : FieldType → ClassId) : List (ClassId × FieldType) := [(cA .int, .int), (cA .byte, .byte), (cA .long, .long)]
def nests : List (String × Nat) := [("RoastHouse$Roaster", 60), ("RoastHouse$Tape", 21), ("RoastHouse$Tokens", 97), ("RoastHouse$RuleReader", 95), ("RoastHouse$Rules", 64), ("RoastHouse$Bags", 52), ("RoastHouse$Cups", 31), ("RoastHouse$Blender", 50)]
def sidx : List Nat := [64, 70, 72, 74, 76, 78, 80, 82, 84, 86]
def stxt : List String := ["and", "drum", "drop", "fire", "grams", "minute", "rise", "told", "when", "warmth"]
def slen : List Nat := [3, 4, 4, 4, 5, 6, 4, 4, 4, 6]
def sbyt : List (List Int32) := [[97, 110, 100], [100, 114, 117, 109], [100, 114, 111, 112], [102, 105, 114, 101], [103, 114, 97, 109, 115], [109, 105, 110, 117, 116, 101], [114, 105, 115, 101], [116, 111, 108, 100], [119, 104, 101, 110], [119, 97, 114, 109, 116, 104]]
/-- statics that nobody writes: what String.checkIndex and Throwable's constructor read -/
def kst (E : en_T) (U : State) (H : Heap) : Prop := (va_Z "jdk/internal/util/Preconditions" "SIOOBE_FORMATTER" "Ljava/util/function/BiFunction;" .null (fun q => E.1 ≤ q) U H ∨ va_Z "jdk/internal/util/Preconditions" "SIOOBE_FORMATTER" "Ljava/util/function/BiFunction;" (.ref (E.2.2.2.2 150)) (fun q => E.1 ≤ q) U H) ∧ vx_Zq Bundle.tN "UNASSIGNED_STACK" Bundle.steD (fun q => E.1 ≤ q) U H ∧ vx_Zq Bundle.tN "SUPPRESSED_SENTINEL" Bundle.listD (fun q => E.1 ≤ q) U H
theorem kst_moved {E : en_T} {u U : State} {H : Heap} (hvm : u.vm.Alike U.vm) (h : kst E u H) : kst E U H := ⟨h.1.imp (va_Z.moved hvm) (va_Z.moved hvm), vx_Zq.moved hvm h.2.1, vx_Zq.moved hvm h.2.2⟩
/-- the constant Strings: where they are, what is in them -/
def kstr (E : en_T) (U : State) : Prop := (∀ i, i < 10 → vk_R RX8 (sidx.getD i 0) (stxt.getD i "") (E.2.2.2.2 i) U) ∧ ∀ H : Heap, E.1 ≤ H.size → (∀ q, q < E.1 → H[q]? = E.2.1 q) → vk_S 10 slen sbyt E.2.2.2.2 (fun i => E.2.2.2.2 (200 + i)) (fun q => E.1 ≤ q) U H ∧ va_Z "java/lang/String" "COMPACT_STRINGS" "Z" (.int 1) (fun q => E.1 ≤ q) U H ∧ kst E U H
def kx (E : en_T) (U : State) : Prop := va_K E.2.2.1 kcls (ktys E.2.2.2.1) U ∧ (∀ q ∈ nests, va_Nw (.methodLinkNest q.1 q.2 yX9_within "RoastHouse") U) ∧ kstr E U
def rm (d mc ms : Nat) : Room := { frames := d, cells := mc, slots := ms, locals := 40 * d + 2080 }
def cx (y : mt_T) (E : en_T) (p : Program) (s : State) (m : MethodId) (args : Array Value) (meth : Method) (c : Code) : Prop :=
  p.tables.exec = Jvm.exec ∧ c.code = y.2.1 ∧ meth.sig.returnType = y.2.2.2.1 ∧ c.maxLocals = y.2.2.1 ∧ s.vm.findClass y.1.cls = some m.cls ∧ (∀ w ∈ gT, w.before args s = true) ∧ meth.locks = false ∧ meth.name = y.1.name ∧ kx E s
def isV : Value → Bool
  | .retAddr _ => false
  | _ => true
/-- the known locals, with their places (an unknown one: retAddr) -/
def al (E : en_T) (lo : List Value) : List (Nat × Value) := (List.range lo.length).filterMap (fun i => match lo[i]? with
  | some v => if isV v = true then some (i, cv E v) else none
  | none => none)
theorem al_mem {E : en_T} {lo : List Value} {i : Nat} {w : Value} : (i, w) ∈ al E lo ↔ ∃ v, lo[i]? = some v ∧ isV v = true ∧ w = cv E v := by
  unfold al
  rw [List.mem_filterMap]
  constructor
  · rintro ⟨j, hj, h⟩
    split at h
    · next v hv =>
      split at h
      · next h1 => cases h; exact ⟨v, hv, h1, rfl⟩
      · cases h
    · cases h
  · rintro ⟨v, hv, h1, rfl⟩
    refine ⟨i, List.mem_range.mpr (List.getElem?_eq_some_iff.mp hv).1, ?_⟩
    rw [hv]
    simp [h1]
def qcc (E : en_T) (Q : Option Value → sh_T → hp_T → Prop) : Array Value → State → Outcome → State → Prop := fun _ _ o t => ∃ r sh hp, o = .returned (r.map (cv E)) ∧ Q r sh hp ∧ wd E sh hp t.heap
def pcc (E : en_T) (av : List Value) (sh : sh_T) (hp : hp_T) : Array Value → State → Prop := fun v U => v = (av.map (cv E)).toArray ∧ wd E sh hp U.heap ∧ kx E U
def wsm (y : mt_T) : List Cond := .code y.1 y.2.1 y.2.2.1 y.2.2.2.1 :: gT
/-- a method's contract: from this world, with these arguments, it returns, and Q holds of its answer and of the world behind it -/
def gC (y : mt_T) (d mc ms : Nat) (as : List Value) (sh : sh_T) (hp : hp_T) (Q : Option Value → sh_T → hp_T → Prop) : Prop :=
  ∀ (l : Launch) (E : en_T), Met l y.1 (wsm y) (rm d mc ms) (pcc E as sh hp) (qcc E Q) mc ms (fun q => E.1 ≤ q)
/-! the code of a method, with its links resolved: (pc, instruction, its plain form, next pc, a, length, int, long, place of a word) -/
def dec (cc : ByteArray) (pc : Nat) (i : Instr) (n : Nat) : Bool := match decode cc pc with
  | .ok (a, b) => decide (a = i) && Nat.beq b n
  | _ => false
theorem dec_of {cc : ByteArray} {pc : Nat} {i : Instr} {n : Nat} (h : dec cc pc i n = true) : decode cc pc = .ok (i, n) := by
  unfold dec at h
  split at h
  · next a b e =>
    simp only [Bool.and_eq_true, decide_eq_true_eq] at h
    rw [e, h.1, Nat.eq_of_beq_eq_true h.2]
  · cases h
def tb (j : Nat) (w : Cond) : Bool := decide (lw_tbl[j]? = some w) && goodWord w
theorem tb_of {j : Nat} {w : Cond} (h : tb j w = true) : w ∈ gT := by
  simp only [tb, Bool.and_eq_true, decide_eq_true_eq] at h
  exact gT_of (List.mem_of_getElem? h.1) h.2
def fk (ci k : Nat) : String × String × String × Bool := match kcls[ci]? with
  | some q => if k < q.2.2 then q.2.1 k else ("", "", "", false)
  | none => ("", "", "", false)
/-- the length of an instruction that stands for itself -/
def il : Instr → Nat
  | .getstatic _ | .ldc_w _ | .getfield _ | .putfield _ | .invokevirtual _ | .invokestatic _ | .invokespecial _ | .new _ | .if_icmp _ _ | .ifCond _ _ | .goto _ | .iinc _ _ | .ldc2_w _ => 3
  | .newarray _ | .ldc _ => 2
  | .tableswitch _ _ _ _ | .lookupswitch _ _ => 0
  | _ => 1
def okb (own : String) (cc : ByteArray) : ie_T → Bool
  | (pc, ia, ic, nx, a, b, v, w, j) => dec cc pc ia b && match ic with
    | .iconst n => Nat.beq nx (pc + b) && ((decide (ia = .iconst n) && decide (Int32.ofInt n = v) && Nat.beq b 1) || (decide (ia = .bipush n) && decide ((Int8.ofInt n).toInt32 = v) && Nat.beq b 2) || (decide (ia = .sipush n) && decide ((Int16.ofInt n).toInt32 = v) && Nat.beq b 3) || (decide (ia = .ldc a) && Nat.beq b 2 && tb j (.constant own a v)) || (decide (ia = .ldc_w a) && Nat.beq b 3 && tb j (.constant own a v)))
    | .lconst n => Nat.beq nx (pc + 1) && decide (ia = .lconst n) && Nat.beq b 1 && decide (Int64.ofNat (n : Nat) = w)
    | .ldc2_w x => Nat.beq nx (pc + 3) && decide (ia = .ldc2_w x) && Nat.beq b 3 && tb j (.constantLong own x w)
    | .iload i => Nat.beq nx (pc + b) && ((decide (ia = .iload i) && Nat.beq b 2) || (decide (ia = .iload_n (Fin.ofNat 4 i)) && Nat.beq b 1 && Nat.blt i 4))
    | .lload i => Nat.beq nx (pc + b) && ((decide (ia = .lload i) && Nat.beq b 2) || (decide (ia = .lload_n (Fin.ofNat 4 i)) && Nat.beq b 1 && Nat.blt i 4))
    | .aload i => Nat.beq nx (pc + b) && ((decide (ia = .aload i) && Nat.beq b 2) || (decide (ia = .aload_n (Fin.ofNat 4 i)) && Nat.beq b 1 && Nat.blt i 4))
    | .istore i => Nat.beq nx (pc + b) && ((decide (ia = .istore i) && Nat.beq b 2) || (decide (ia = .istore_n (Fin.ofNat 4 i)) && Nat.beq b 1 && Nat.blt i 4))
    | .lstore i => Nat.beq nx (pc + b) && ((decide (ia = .lstore i) && Nat.beq b 2) || (decide (ia = .lstore_n (Fin.ofNat 4 i)) && Nat.beq b 1 && Nat.blt i 4))
    | .astore i => Nat.beq nx (pc + b) && ((decide (ia = .astore i) && Nat.beq b 2) || (decide (ia = .astore_n (Fin.ofNat 4 i)) && Nat.beq b 1 && Nat.blt i 4))
    | .iinc i n => Nat.beq nx (pc + 3) && decide (ia = .iinc i n) && Nat.beq b 3 && decide (Int32.ofInt n = v)
    | .goto off => decide (ia = .goto off) && Nat.beq b 3 && decide ((pc : Int) + off = (nx : Int))
    | .if_icmp c off => Nat.beq nx (pc + 3) && decide (ia = .if_icmp c off) && Nat.beq b 3 && decide ((pc : Int) + off = (a : Int))
    | .ifCond c off => Nat.beq nx (pc + 3) && decide (ia = .ifCond c off) && Nat.beq b 3 && decide ((pc : Int) + off = (a : Int))
    | .getfield k => Nat.beq nx (pc + 3) && Nat.beq b 3 && (match ia with
      | .getfield x => tb j (.fieldLink own x (fk a k).1 (fk a k).2.1 (fk a k).2.2.1) && (match kcls[a]? with
        | some q => Nat.blt k q.2.2
        | none => false)
      | _ => false)
    | .putfield k => Nat.beq nx (pc + 3) && Nat.beq b 3 && (match ia with
      | .putfield x => tb j (.fieldLink own x (fk a k).1 (fk a k).2.1 (fk a k).2.2.1) && (match kcls[a]? with
        | some q => Nat.blt k q.2.2
        | none => false)
      | _ => false)
    | i => decide (ia = i) && (if il i = 0 then true else Nat.beq b (il i) && Nat.beq nx (pc + il i))
def okm (y : mt_T) : Bool := y.2.2.2.2.all (okb y.1.cls y.2.1)
def lk (pc : Nat) : List ie_T → Option ie_T
  | [] => none
  | e :: r => match Nat.beq e.1 pc with
    | true => some e
    | false => lk pc r
theorem lk_mem {pc : Nat} {l : List ie_T} {e : ie_T} (h : lk pc l = some e) : e ∈ l ∧ e.1 = pc := by
  induction l with
  | nil => cases h
  | cons a r ih =>
    unfold lk at h
    split at h
    · next hb => cases h; exact ⟨List.mem_cons_self, Nat.eq_of_beq_eq_true hb⟩
    · exact ⟨List.mem_cons_of_mem _ (ih h).1, (ih h).2⟩
theorem lk_ok {y : mt_T} (hy : okm y = true) {pc : Nat} {e : ie_T} (h : lk pc y.2.2.2.2 = some e) : okb y.1.cls y.2.1 e = true ∧ e.1 = pc := ⟨List.all_eq_true.mp hy e (lk_mem h).1, (lk_mem h).2⟩
/-- what is asked at an end, and what more may be taken as given -/
abbrev zt : Type := (Launch → Code → State → en_T → Prop) × (State → Array Value → List Frame → en_T → State → Prop)
def zQ (mc ms : Nat) (Q : Option Value → sh_T → hp_T → Prop) : zt := (fun _ _ _ _ => True, fun s args below E => MQ below (qcc E Q) args s mc ms (fun q => E.1 ≤ q))
/-- the judgement: from this point of method y, in this world, y comes to its end with Q -/
def gG (y : mt_T) (d mc ms : Nat) (Q : zt) (cells slots : Nat) (S : st_T) : Prop :=
  okm y = true → ∀ (p : Program) (l : Launch) (e : Env) (s : State) (m : MethodId) (args : Array Value) (below : List Frame) (meth : Method) (c : Code) (E : en_T) (H : Heap) (locs : List Loc) (ls : Array Slot),
    cx y E p s m args meth c → Q.1 l c s E → wd E S.2.2.2.1 S.2.2.2.2 H → (∀ q ∈ locs, E.1 ≤ q.base) → lv_has ls y.2.2.1 (al E S.2.1) →
    W p l e (rm d mc ms) s m args below meth c H locs cells slots (Q.2 s args below E) (F0 m S.1 ls (S.2.2.1.map (cv E)))
