/-! many steps at once, by computing -/
def nth {α : Type} : List α → Nat → Option α
  | [], _ => none
  | a :: _, 0 => some a
  | _ :: r, i + 1 => nth r i
theorem nth_eq {α : Type} : ∀ (l : List α) (i : Nat), nth l i = l[i]?
  | [], i => by simp [nth]
  | a :: r, 0 => by simp [nth]
  | a :: r, i + 1 => by simp [nth, nth_eq r i]
def stL {α : Type} : List Value → Nat → Value → (List Value → Option α) → Option α
  | [], _, _, _ => none
  | _ :: r, 0, v, k => k (v :: r)
  | a :: r, i + 1, v, k => stL r i v (fun r' => k (a :: r'))
theorem stL_ok {α : Type} : ∀ (l : List Value) (i : Nat) (v : Value) (k : List Value → Option α) (z : α), stL l i v k = some z → k (l.set i v) = some z
  | [], _, _, _, _, h => by simp [stL] at h
  | _ :: r, 0, v, k, z, h => by simpa [stL] using h
  | a :: r, i + 1, v, k, z, h => by
    have := stL_ok r i v (fun r' => k (a :: r')) z (by simpa [stL] using h)
    simpa using this
def notLb (lo : List Value) (i : Nat) : Bool := match i with
  | 0 => true
  | k + 1 => match nth lo k with
    | some v => Nat.beq v.category 1
    | none => true
theorem notLb_ok {lo : List Value} {i : Nat} (h : notLb lo i = true) : notL lo i = true := by
  cases i with
  | zero => rfl
  | succ k =>
    have e := nth_eq lo k
    simp only [notLb, e] at h
    simp only [notL]
    revert h
    cases lo[k]? <;> exact id
/-- one step that asks for nothing: the next state -/
def s1 (nL : Nat) (e : ie_T) (S : st_T) : Option st_T := match e with
  | (_, _, ic, nx, a, _, v, w, _) => match S with
    | (_, lo, st, sh, hp) => match ic with
      | .iconst _ => some (nx, lo, .int v :: st, sh, hp)
      | .lconst _ => some (nx, lo, .long w :: st, sh, hp)
      | .ldc2_w _ => some (nx, lo, .long w :: st, sh, hp)
      | .iload i => match nth lo i with
        | some (.int x) => some (nx, lo, .int x :: st, sh, hp)
        | _ => none
      | .lload i => match nth lo i with
        | some (.long x) => some (nx, lo, .long x :: st, sh, hp)
        | _ => none
      | .aload i => match nth lo i with
        | some (.ref x) => some (nx, lo, .ref x :: st, sh, hp)
        | some (.float x) => some (nx, lo, .float x :: st, sh, hp)
        | _ => none
      | .istore i => match st with
        | .int x :: r => match Nat.blt i nL && notLb lo i with
          | true => stL lo i (.int x) (fun lo' => some (nx, lo', r, sh, hp))
          | false => none
        | _ => none
      | .astore i => match st with
        | .ref x :: r => match Nat.blt i nL && notLb lo i with
          | true => stL lo i (.ref x) (fun lo' => some (nx, lo', r, sh, hp))
          | false => none
        | _ => none
      | .lstore i => match st with
        | .long x :: r => match Nat.blt (i + 1) nL && notLb lo i with
          | true => stL lo i (.long x) (fun lo' => stL lo' (i + 1) (.retAddr 0) (fun lo2 => some (nx, lo2, r, sh, hp)))
          | false => none
        | _ => none
      | .iinc i _ => match nth lo i with
        | some (.int x) => match Nat.blt i nL && notLb lo i with
          | true => stL lo i (.int (x + v)) (fun lo' => some (nx, lo', st, sh, hp))
          | false => none
        | _ => none
      | .goto _ => some (nx, lo, st, sh, hp)
      | .iadd => match st with
        | .int z :: .int x :: r => some (nx, lo, .int (x + z) :: r, sh, hp)
        | _ => none
      | .isub => match st with
        | .int z :: .int x :: r => some (nx, lo, .int (x - z) :: r, sh, hp)
        | _ => none
      | .imul => match st with
        | .int z :: .int x :: r => some (nx, lo, .int (x * z) :: r, sh, hp)
        | _ => none
      | .iand => match st with
        | .int z :: .int x :: r => some (nx, lo, .int (x &&& z) :: r, sh, hp)
        | _ => none
      | .ishl => match st with
        | .int z :: .int x :: r => some (nx, lo, .int (x <<< (z &&& 31)) :: r, sh, hp)
        | _ => none
      | .ishr => match st with
        | .int z :: .int x :: r => some (nx, lo, .int (x >>> (z &&& 31)) :: r, sh, hp)
        | _ => none
      | .iushr => match st with
        | .int z :: .int x :: r => some (nx, lo, .int (x.toUInt32 >>> (z.toUInt32 &&& Int32.toUInt32 31)).toInt32 :: r, sh, hp)
        | _ => none
      | .ineg => match st with
        | .int x :: r => some (nx, lo, .int (-x) :: r, sh, hp)
        | _ => none
      | .ladd => match st with
        | .long z :: .long x :: r => some (nx, lo, .long (x + z) :: r, sh, hp)
        | _ => none
      | .lsub => match st with
        | .long z :: .long x :: r => some (nx, lo, .long (x - z) :: r, sh, hp)
        | _ => none
      | .lmul => match st with
        | .long z :: .long x :: r => some (nx, lo, .long (x * z) :: r, sh, hp)
        | _ => none
      | .land => match st with
        | .long z :: .long x :: r => some (nx, lo, .long (x &&& z) :: r, sh, hp)
        | _ => none
      | .lor => match st with
        | .long z :: .long x :: r => some (nx, lo, .long (x ||| z) :: r, sh, hp)
        | _ => none
      | .lxor => match st with
        | .long z :: .long x :: r => some (nx, lo, .long (x ^^^ z) :: r, sh, hp)
        | _ => none
      | .lcmp => match st with
        | .long z :: .long x :: r => some (nx, lo, .int (lg_cmp x z) :: r, sh, hp)
        | _ => none
      | .lshl => match st with
        | .int z :: .long x :: r => some (nx, lo, .long (x <<< (z.toInt64 &&& 63)) :: r, sh, hp)
        | _ => none
      | .lshr => match st with
        | .int z :: .long x :: r => some (nx, lo, .long (x >>> (z.toInt64 &&& 63)) :: r, sh, hp)
        | _ => none
      | .lushr => match st with
        | .int z :: .long x :: r => some (nx, lo, .long (x.toUInt64 >>> (z.toInt64.toUInt64 &&& Int64.toUInt64 63)).toInt64 :: r, sh, hp)
        | _ => none
      | .i2l => match st with
        | .int x :: r => some (nx, lo, .long x.toInt64 :: r, sh, hp)
        | _ => none
      | .l2i => match st with
        | .long x :: r => some (nx, lo, .int x.toInt32 :: r, sh, hp)
        | _ => none
      | .i2b => match st with
        | .int x :: r => some (nx, lo, .int x.toInt8.toInt32 :: r, sh, hp)
        | _ => none
      | .dup => match st with
        | .int x :: r => some (nx, lo, .int x :: .int x :: r, sh, hp)
        | .ref x :: r => some (nx, lo, .ref x :: .ref x :: r, sh, hp)
        | _ => none
      | .dup2 => match st with
        | .int x :: .ref z :: r => some (nx, lo, .int x :: .ref z :: .int x :: .ref z :: r, sh, hp)
        | _ => none
      | .getfield k => match st with
        | .ref c :: r => match nth sh c with
          | some (.inr (ci, ks)) => match Nat.beq ci a with
            | true => match nth ks k with
              | some (.int _) => some (nx, lo, .int (hp.1 c k) :: r, sh, hp)
              | some (.long _) => some (nx, lo, .long (hp.2 c k) :: r, sh, hp)
              | some (.ref q) => some (nx, lo, .ref q :: r, sh, hp)
              | _ => none
            | false => none
          | _ => none
        | _ => none
      | .putfield k => match st with
        | .int x :: .ref c :: r => match nth sh c with
          | some (.inr (ci, ks)) => match Nat.beq ci a && decide ((fk a k).2.2 = ("I", false)) with
            | true => match nth ks k with
              | some (.int _) => some (nx, lo, r, sh, sI hp c k x)
              | _ => none
            | false => none
          | _ => none
        | .long x :: .ref c :: r => match nth sh c with
          | some (.inr (ci, ks)) => match Nat.beq ci a && decide ((fk a k).2.2 = ("J", false)) with
            | true => match nth ks k with
              | some (.long _) => some (nx, lo, r, sh, sL hp c k x)
              | _ => none
            | false => none
          | _ => none
        | _ => none
      | .arraylength => match st with
        | .ref c :: r => match nth sh c with
          | some (.inl (.int, n)) => some (nx, lo, .int (nI n) :: r, sh, hp)
          | some (.inl (.byte, n)) => some (nx, lo, .int (nI n) :: r, sh, hp)
          | _ => none
        | _ => none
      | _ => none
section GR
variable {y : mt_T} {d mc ms : Nat} {Q : zt} {cells slots : Nat} {pc : Nat} {lo st : List Value} {sh : sh_T} {hp : hp_T}
theorem ld_of {cc : ByteArray} {i2 i1 ia : Instr} {i b : Nat} (hd : dec cc pc ia b = true) (h : ((decide (ia = i2) && Nat.beq b 2) || (decide (ia = i1) && Nat.beq b 1 && Nat.blt i 4)) = true) : (decode cc pc = .ok (i2, 2) ∧ b = 2) ∨ (decode cc pc = .ok (i1, 1) ∧ b = 1 ∧ i < 4) := by
  simp only [Bool.or_eq_true, Bool.and_eq_true, decide_eq_true_eq] at h
  rcases h with ⟨h1, h2⟩ | ⟨⟨h1, h2⟩, h3⟩
  · have h2 := Nat.eq_of_beq_eq_true h2
    subst h1; subst h2
    exact Or.inl ⟨dec_of hd, rfl⟩
  · have h2 := Nat.eq_of_beq_eq_true h2
    subst h1; subst h2
    exact Or.inr ⟨dec_of hd, rfl, Nat.lt_of_le_of_lt (by simpa [Nat.blt] using h3) (by decide : 3 < 4)⟩
theorem df_of {cc : ByteArray} {i ia : Instr} {b nx n : Nat} (hn : il i = n) (h0 : n ≠ 0) (hd : dec cc pc ia b = true) (h : (decide (ia = i) && (if il i = 0 then true else Nat.beq b (il i) && Nat.beq nx (pc + il i))) = true) : decode cc pc = .ok (i, n) ∧ nx = pc + n := by
  simp only [Bool.and_eq_true, decide_eq_true_eq] at h
  obtain ⟨h1, h2⟩ := h
  rw [hn, if_neg h0] at h2
  simp only [Bool.and_eq_true] at h2
  have e1 := Nat.eq_of_beq_eq_true h2.1
  have e2 := Nat.eq_of_beq_eq_true h2.2
  subst h1; subst e1
  exact ⟨dec_of hd, e2⟩
theorem bl_of {i n : Nat} (h : Nat.blt i n = true) : i < n := by
  have h9 : i + 1 ≤ n := by simpa [Nat.blt] using h
  omega
theorem ld_blt {cc : ByteArray} {i2 i1 ia : Instr} {i b nx : Nat} (hd : dec cc pc ia b = true) (h : (Nat.beq nx (pc + b) && ((decide (ia = i2) && Nat.beq b 2) || (decide (ia = i1) && Nat.beq b 1 && Nat.blt i 4))) = true) : nx = pc + b ∧ ((decode cc pc = .ok (i2, 2) ∧ b = 2) ∨ (decode cc pc = .ok (i1, 1) ∧ b = 1 ∧ i < 4)) := by
  rw [Bool.and_eq_true] at h
  exact ⟨Nat.eq_of_beq_eq_true h.1, ld_of hd h.2⟩
set_option maxHeartbeats 4000000 in
theorem s1_ok {e : ie_T} (ok : okm y = true) (hl : lk pc y.2.2.2.2 = some e) {S' : st_T} (h : s1 y.2.2.1 e (pc, lo, st, sh, hp) = some S') (k : gG y d mc ms Q cells slots S') : gG y d mc ms Q cells slots (pc, lo, st, sh, hp) := by
  obtain ⟨hb, he⟩ := lk_ok ok hl
  obtain ⟨pc0, ia, ic, nx, a, b, v, w, j⟩ := e
  change pc0 = pc at he
  subst he
  unfold okb at hb
  rw [Bool.and_eq_true] at hb
  obtain ⟨hd, hb⟩ := hb
  cases ic <;> first | (change (none : Option st_T) = some S' at h; cases h; done) | skip
  case iadd =>
    obtain ⟨hd, rfl⟩ := df_of rfl (by decide) hd hb
    simp only [s1] at h
    split at h
    · cases h; exact g1_iadd hd k
    · cases h
  case isub =>
    obtain ⟨hd, rfl⟩ := df_of rfl (by decide) hd hb
    simp only [s1] at h
    split at h
    · cases h; exact g1_isub hd k
    · cases h
  case imul =>
    obtain ⟨hd, rfl⟩ := df_of rfl (by decide) hd hb
    simp only [s1] at h
    split at h
    · cases h; exact g1_imul hd k
    · cases h
  case iand =>
    obtain ⟨hd, rfl⟩ := df_of rfl (by decide) hd hb
    simp only [s1] at h
    split at h
    · cases h; exact g1_iand hd k
    · cases h
  case ishl =>
    obtain ⟨hd, rfl⟩ := df_of rfl (by decide) hd hb
    simp only [s1] at h
    split at h
    · cases h; exact g1_ishl hd k
    · cases h
  case ishr =>
    obtain ⟨hd, rfl⟩ := df_of rfl (by decide) hd hb
    simp only [s1] at h
    split at h
    · cases h; exact g1_ishr hd k
    · cases h
  case iushr =>
    obtain ⟨hd, rfl⟩ := df_of rfl (by decide) hd hb
    simp only [s1] at h
    split at h
    · cases h; exact g1_iushr hd k
    · cases h
  case ineg =>
    obtain ⟨hd, rfl⟩ := df_of rfl (by decide) hd hb
    simp only [s1] at h
    split at h
    · cases h; exact g1_ineg hd k
    · cases h
  case ladd =>
    obtain ⟨hd, rfl⟩ := df_of rfl (by decide) hd hb
    simp only [s1] at h
    split at h
    · cases h; exact g1_ladd hd k
    · cases h
  case lsub =>
    obtain ⟨hd, rfl⟩ := df_of rfl (by decide) hd hb
    simp only [s1] at h
    split at h
    · cases h; exact g1_lsub hd k
    · cases h
  case lmul =>
    obtain ⟨hd, rfl⟩ := df_of rfl (by decide) hd hb
    simp only [s1] at h
    split at h
    · cases h; exact g1_lmul hd k
    · cases h
  case land =>
    obtain ⟨hd, rfl⟩ := df_of rfl (by decide) hd hb
    simp only [s1] at h
    split at h
    · cases h; exact g1_land hd k
    · cases h
  case lor =>
    obtain ⟨hd, rfl⟩ := df_of rfl (by decide) hd hb
    simp only [s1] at h
    split at h
    · cases h; exact g1_lor hd k
    · cases h
  case lxor =>
    obtain ⟨hd, rfl⟩ := df_of rfl (by decide) hd hb
    simp only [s1] at h
    split at h
    · cases h; exact g1_lxor hd k
    · cases h
  case lcmp =>
    obtain ⟨hd, rfl⟩ := df_of rfl (by decide) hd hb
    simp only [s1] at h
    split at h
    · cases h; exact g1_lcmp hd k
    · cases h
  case lshl =>
    obtain ⟨hd, rfl⟩ := df_of rfl (by decide) hd hb
    simp only [s1] at h
    split at h
    · cases h; exact g1_lshl hd k
    · cases h
  case lshr =>
    obtain ⟨hd, rfl⟩ := df_of rfl (by decide) hd hb
    simp only [s1] at h
    split at h
    · cases h; exact g1_lshr hd k
    · cases h
  case lushr =>
    obtain ⟨hd, rfl⟩ := df_of rfl (by decide) hd hb
    simp only [s1] at h
    split at h
    · cases h; exact g1_lushr hd k
    · cases h
  case i2l =>
    obtain ⟨hd, rfl⟩ := df_of rfl (by decide) hd hb
    simp only [s1] at h
    split at h
    · cases h; exact g1_i2l hd k
    · cases h
  case l2i =>
    obtain ⟨hd, rfl⟩ := df_of rfl (by decide) hd hb
    simp only [s1] at h
    split at h
    · cases h; exact g1_l2i hd k
    · cases h
  case i2b =>
    obtain ⟨hd, rfl⟩ := df_of rfl (by decide) hd hb
    simp only [s1] at h
    split at h
    · cases h; exact g1_i2b hd k
    · cases h
  case dup =>
    obtain ⟨hd, rfl⟩ := df_of rfl (by decide) hd hb
    simp only [s1] at h
    split at h
    · cases h; exact g1_dup rfl hd k
    · cases h; exact g1_dup rfl hd k
    · cases h
  case dup2 =>
    obtain ⟨hd, rfl⟩ := df_of rfl (by decide) hd hb
    simp only [s1] at h
    split at h
    · cases h; exact g1_dup2 rfl rfl hd k
    · cases h
  case lconst n =>
    simp only [Bool.and_eq_true, decide_eq_true_eq] at hb
    obtain ⟨⟨⟨h1, h2⟩, h3⟩, h4⟩ := hb
    have h1 := Nat.eq_of_beq_eq_true h1
    have h3 := Nat.eq_of_beq_eq_true h3
    subst h1; subst h2; subst h3
    cases h
    exact g1_lconst (dec_of hd) h4 k
  case ldc2_w n =>
    simp only [Bool.and_eq_true, decide_eq_true_eq] at hb
    obtain ⟨⟨⟨h1, h2⟩, h3⟩, h4⟩ := hb
    have h1 := Nat.eq_of_beq_eq_true h1
    have h3 := Nat.eq_of_beq_eq_true h3
    subst h1; subst h2; subst h3
    cases h
    exact g1_ldc2 (dec_of hd) (tb_of h4) k
  case iconst n =>
    simp only [Bool.and_eq_true, Bool.or_eq_true, decide_eq_true_eq] at hb
    obtain ⟨h1, hb⟩ := hb
    have h1 := Nat.eq_of_beq_eq_true h1
    subst h1
    cases h
    rcases hb with (((⟨⟨h2, h3⟩, h4⟩ | ⟨⟨h2, h3⟩, h4⟩) | ⟨⟨h2, h3⟩, h4⟩) | ⟨⟨h2, h4⟩, h3⟩) | ⟨⟨h2, h4⟩, h3⟩ <;> (have h4 := Nat.eq_of_beq_eq_true h4; subst h2; subst h4)
    · exact g1_iconst (dec_of hd) h3 k
    · exact g1_bipush (dec_of hd) h3 k
    · exact g1_sipush (dec_of hd) h3 k
    · exact g1_ldc (dec_of hd) (tb_of h3) k
    · exact g1_ldcw (dec_of hd) (tb_of h3) k
  case goto off =>
    simp only [Bool.and_eq_true, decide_eq_true_eq] at hb
    obtain ⟨⟨h2, h3⟩, h4⟩ := hb
    have h3 := Nat.eq_of_beq_eq_true h3
    subst h2; subst h3
    cases h
    exact g1_goto (dec_of hd) h4 k
  case iload i =>
    obtain ⟨rfl, hd⟩ := ld_blt hd hb
    simp only [s1] at h
    split at h
    · next x hx => cases h; exact g1_iload hd (by rw [← nth_eq]; exact hx) k
    · cases h
  case lload i =>
    obtain ⟨rfl, hd⟩ := ld_blt hd hb
    simp only [s1] at h
    split at h
    · next x hx => cases h; exact g1_lload hd (by rw [← nth_eq]; exact hx) k
    · cases h
  case aload i =>
    obtain ⟨rfl, hd⟩ := ld_blt hd hb
    simp only [s1] at h
    split at h
    · next x hx => cases h; exact g1_aload hd (by rw [← nth_eq]; exact hx) rfl k
    · next x hx => cases h; exact g1_aload hd (by rw [← nth_eq]; exact hx) rfl k
    · cases h
  case istore i =>
    obtain ⟨rfl, hd⟩ := ld_blt hd hb
    simp only [s1] at h
    split at h
    · split at h
      · next x r hx =>
        rw [Bool.and_eq_true] at hx
        have h := stL_ok _ _ _ _ _ h
        cases h
        exact g1_istore hd (bl_of hx.1) (notLb_ok hx.2) k
      · cases h
    · cases h
  case astore i =>
    obtain ⟨rfl, hd⟩ := ld_blt hd hb
    simp only [s1] at h
    split at h
    · split at h
      · next x r hx =>
        rw [Bool.and_eq_true] at hx
        have h := stL_ok _ _ _ _ _ h
        cases h
        exact g1_astore hd (bl_of hx.1) (notLb_ok hx.2) rfl k
      · cases h
    · cases h
  case lstore i =>
    obtain ⟨rfl, hd⟩ := ld_blt hd hb
    simp only [s1] at h
    split at h
    · split at h
      · next x r hx =>
        rw [Bool.and_eq_true] at hx
        have h := stL_ok _ _ _ _ _ h
        have h := stL_ok _ _ _ _ _ h
        cases h
        exact g1_lstore hd (bl_of hx.1) (notLb_ok hx.2) k
      · cases h
    · cases h
  case iinc i n =>
    simp only [Bool.and_eq_true, decide_eq_true_eq] at hb
    obtain ⟨⟨⟨h1, h2⟩, h3⟩, h4⟩ := hb
    have h1 := Nat.eq_of_beq_eq_true h1
    have h3 := Nat.eq_of_beq_eq_true h3
    subst h1; subst h2; subst h3
    simp only [s1] at h
    split at h
    · next x hx =>
      split at h
      · next hy =>
        rw [Bool.and_eq_true] at hy
        have h := stL_ok _ _ _ _ _ h
        cases h
        exact g1_iinc (dec_of hd) h4 (by rw [← nth_eq]; exact hx) (bl_of hy.1) (notLb_ok hy.2) k
      · cases h
    · cases h
  case arraylength =>
    obtain ⟨hd, rfl⟩ := df_of rfl (by decide) hd hb
    simp only [s1] at h
    split at h
    · split at h
      · next c r n hx => cases h; exact g1_alen hd (by rw [← nth_eq]; exact hx) (Or.inl rfl) k
      · next c r n hx => cases h; exact g1_alen hd (by rw [← nth_eq]; exact hx) (Or.inr (Or.inl rfl)) k
      · cases h
    · cases h
  case getfield kf =>
    rw [Bool.and_eq_true, Bool.and_eq_true] at hb
    obtain ⟨⟨h1, h2⟩, h3⟩ := hb
    have h1 := Nat.eq_of_beq_eq_true h1
    have h2 := Nat.eq_of_beq_eq_true h2
    subst h1; subst h2
    split at h3
    · next x =>
      rw [Bool.and_eq_true] at h3
      obtain ⟨h4, h5⟩ := h3
      split at h5
      · next q hq =>
        have hk := bl_of h5
        have h6 := tb_of h4
        rw [fk_of hq hk] at h6
        simp only [s1] at h
        split at h
        · next c r =>
          split at h
          · next ci ks hc =>
            split at h
            · next hci =>
              have hci := Nat.eq_of_beq_eq_true hci
              subst hci
              rw [nth_eq] at hc
              split at h
              · next z hz => cases h; rw [nth_eq] at hz; exact g1_get (dec_of hd) hc hq hk h6 hz k
              · next z hz => cases h; rw [nth_eq] at hz; exact g1_get (dec_of hd) hc hq hk h6 hz k
              · next z hz => cases h; rw [nth_eq] at hz; exact g1_get (dec_of hd) hc hq hk h6 hz k
              · cases h
            · cases h
          · cases h
        · cases h
      · cases h5
    · cases h3
  case putfield kf =>
    rw [Bool.and_eq_true, Bool.and_eq_true] at hb
    obtain ⟨⟨h1, h2⟩, h3⟩ := hb
    have h1 := Nat.eq_of_beq_eq_true h1
    have h2 := Nat.eq_of_beq_eq_true h2
    subst h1; subst h2
    split at h3
    · next x =>
      rw [Bool.and_eq_true] at h3
      obtain ⟨h4, h5⟩ := h3
      split at h5
      · next q hq =>
        have hk := bl_of h5
        have h6 := tb_of h4
        rw [fk_of hq hk] at h6
        simp only [s1] at h
        split at h
        · next x2 c r =>
          split at h
          · next ci ks hc =>
            split at h
            · next hci =>
              rw [Bool.and_eq_true, decide_eq_true_eq, fk_of hq hk] at hci
              obtain ⟨hci, hty⟩ := hci
              have hci := Nat.eq_of_beq_eq_true hci
              subst hci
              rw [nth_eq] at hc
              split at h
              · next z hz =>
                cases h
                rw [nth_eq] at hz
                refine g1_putI (ty := .int) (dec_of hd) hc hq hk h6 (by rw [hty]) (by rw [hty]; decide +kernel) rfl rfl hz k
              · cases h
            · cases h
          · cases h
        · next x2 c r =>
          split at h
          · next ci ks hc =>
            split at h
            · next hci =>
              rw [Bool.and_eq_true, decide_eq_true_eq, fk_of hq hk] at hci
              obtain ⟨hci, hty⟩ := hci
              have hci := Nat.eq_of_beq_eq_true hci
              subst hci
              rw [nth_eq] at hc
              split at h
              · next z hz =>
                cases h
                rw [nth_eq] at hz
                refine g1_putL (dec_of hd) hc hq hk h6 (by rw [hty]) (by rw [hty]; decide +kernel) hz k
              · cases h
            · cases h
          · cases h
        · cases h
      · cases h5
    · cases h3
/-- n steps -/
def rn (y : mt_T) : Nat → st_T → Option st_T
  | 0, S => some S
  | n + 1, S => match lk S.1 y.2.2.2.2 with
    | some e => match s1 y.2.2.1 e S with
      | some S' => rn y n S'
      | none => none
    | none => none
theorem g_run (n : Nat) {S S' : st_T} (h : rn y n S = some S') (k : gG y d mc ms Q cells slots S') : gG y d mc ms Q cells slots S := by
  induction n generalizing S with
  | zero => cases h; exact k
  | succ n ih =>
    unfold rn at h
    split at h
    · next e he =>
      split at h
      · next S1 h1 =>
        have k1 := ih h
        obtain ⟨pc0, lo0, st0, sh0, hp0⟩ := S
        exact fun ok => s1_ok ok he h1 k1 ok
      · cases h
    · cases h
end GR
