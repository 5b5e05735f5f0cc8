/-! numbers -/
theorem ia_add {a b : Int32} (h1 : -2147483648 ≤ a.toInt + b.toInt) (h2 : a.toInt + b.toInt < 2147483648) : (a + b).toInt = a.toInt + b.toInt := by
  rw [Int32.toInt_add, Int.bmod_eq_of_le (by omega) (by omega)]
theorem ia_sub {a b : Int32} (h1 : -2147483648 ≤ a.toInt - b.toInt) (h2 : a.toInt - b.toInt < 2147483648) : (a - b).toInt = a.toInt - b.toInt := by
  rw [Int32.toInt_sub, Int.bmod_eq_of_le (by omega) (by omega)]
theorem ia_mul {a b : Int32} (h1 : -2147483648 ≤ a.toInt * b.toInt) (h2 : a.toInt * b.toInt < 2147483648) : (a * b).toInt = a.toInt * b.toInt := by
  rw [Int32.toInt_mul, Int.bmod_eq_of_le (by omega) (by omega)]
theorem ia_add2 {a b : Int32} {x y : Int} (ha : a.toInt = x) (hb : b.toInt = y) (h1 : -2147483648 ≤ x + y) (h2 : x + y < 2147483648) : (a + b).toInt = x + y := by subst ha; subst hb; exact ia_add h1 h2
theorem ia_sub2 {a b : Int32} {x y : Int} (ha : a.toInt = x) (hb : b.toInt = y) (h1 : -2147483648 ≤ x - y) (h2 : x - y < 2147483648) : (a - b).toInt = x - y := by subst ha; subst hb; exact ia_sub h1 h2
theorem ia_mul2 {a b : Int32} {x y : Int} (ha : a.toInt = x) (hb : b.toInt = y) (h1 : -2147483648 ≤ x * y) (h2 : x * y < 2147483648) : (a * b).toInt = x * y := by subst ha; subst hb; exact ia_mul h1 h2
theorem ia_lt (a b : Int32) : a < b ↔ a.toInt < b.toInt := Int32.lt_iff_toInt_lt
theorem ia_le (a b : Int32) : a ≤ b ↔ a.toInt ≤ b.toInt := Int32.le_iff_toInt_le
theorem ia_eq (a b : Int32) : a = b ↔ a.toInt = b.toInt := Int32.toInt_inj.symm
theorem ia_bd (a : Int32) : -2147483648 ≤ a.toInt ∧ a.toInt < 2147483648 := ⟨Int32.le_toInt a, Int32.toInt_lt a⟩
theorem ia_ofI {x : Int} (h1 : -2147483648 ≤ x) (h2 : x < 2147483648) : (Int32.ofInt x).toInt = x := by
  rw [Int32.toInt_ofInt]
  exact Int.bmod_eq_of_le (by simp [Int32.size]; omega) (by simp [Int32.size]; omega)
section GJ
variable {y : mt_T} {d mc ms : Nat} {Q : zt} {cells slots : Nat} {pc : Nat} {lo st : List Value} {sh : sh_T} {hp : hp_T} {ia : Instr} {nx tg b j : Nat} {v : Int32} {w : Int64} {off : Int} {x z : Int32} {kx kz : Int}
theorem gj_eq (h : lk pc y.2.2.2.2 = some (pc, ia, .if_icmp .eq off, nx, tg, b, v, w, j)) (hx : x.toInt = kx) (hz : z.toInt = kz) (kt : kx = kz → gG y d mc ms Q cells slots (tg, lo, st, sh, hp)) (kf : kx ≠ kz → gG y d mc ms Q cells slots (nx, lo, st, sh, hp)) : gG y d mc ms Q cells slots (pc, lo, .int z :: .int x :: st, sh, hp) := by
  refine g_icmp_eq h (fun q => kt ?_) (fun q => kf ?_) <;> (simp only [ia_lt, ia_le, ia_eq, ne_eq, Decidable.not_not] at q; omega)
theorem gz_eq (h : lk pc y.2.2.2.2 = some (pc, ia, .ifCond .eq off, nx, tg, b, v, w, j)) (hx : x.toInt = kx) (kt : kx = 0 → gG y d mc ms Q cells slots (tg, lo, st, sh, hp)) (kf : kx ≠ 0 → gG y d mc ms Q cells slots (nx, lo, st, sh, hp)) : gG y d mc ms Q cells slots (pc, lo, .int x :: st, sh, hp) := by
  have h0 : (0 : Int32).toInt = 0 := by decide
  refine g_if_eq h (fun q => kt ?_) (fun q => kf ?_) <;> (simp only [ia_lt, ia_le, ia_eq, ne_eq, Decidable.not_not] at q; omega)
theorem gj_ne (h : lk pc y.2.2.2.2 = some (pc, ia, .if_icmp .ne off, nx, tg, b, v, w, j)) (hx : x.toInt = kx) (hz : z.toInt = kz) (kt : kx ≠ kz → gG y d mc ms Q cells slots (tg, lo, st, sh, hp)) (kf : kx = kz → gG y d mc ms Q cells slots (nx, lo, st, sh, hp)) : gG y d mc ms Q cells slots (pc, lo, .int z :: .int x :: st, sh, hp) := by
  refine g_icmp_ne h (fun q => kt ?_) (fun q => kf ?_) <;> (simp only [ia_lt, ia_le, ia_eq, ne_eq, Decidable.not_not] at q; omega)
theorem gz_ne (h : lk pc y.2.2.2.2 = some (pc, ia, .ifCond .ne off, nx, tg, b, v, w, j)) (hx : x.toInt = kx) (kt : kx ≠ 0 → gG y d mc ms Q cells slots (tg, lo, st, sh, hp)) (kf : kx = 0 → gG y d mc ms Q cells slots (nx, lo, st, sh, hp)) : gG y d mc ms Q cells slots (pc, lo, .int x :: st, sh, hp) := by
  have h0 : (0 : Int32).toInt = 0 := by decide
  refine g_if_ne h (fun q => kt ?_) (fun q => kf ?_) <;> (simp only [ia_lt, ia_le, ia_eq, ne_eq, Decidable.not_not] at q; omega)
theorem gj_lt (h : lk pc y.2.2.2.2 = some (pc, ia, .if_icmp .lt off, nx, tg, b, v, w, j)) (hx : x.toInt = kx) (hz : z.toInt = kz) (kt : kx < kz → gG y d mc ms Q cells slots (tg, lo, st, sh, hp)) (kf : kz ≤ kx → gG y d mc ms Q cells slots (nx, lo, st, sh, hp)) : gG y d mc ms Q cells slots (pc, lo, .int z :: .int x :: st, sh, hp) := by
  refine g_icmp_lt h (fun q => kt ?_) (fun q => kf ?_) <;> (simp only [ia_lt, ia_le, ia_eq, ne_eq, Decidable.not_not] at q; omega)
theorem gz_lt (h : lk pc y.2.2.2.2 = some (pc, ia, .ifCond .lt off, nx, tg, b, v, w, j)) (hx : x.toInt = kx) (kt : kx < 0 → gG y d mc ms Q cells slots (tg, lo, st, sh, hp)) (kf : 0 ≤ kx → gG y d mc ms Q cells slots (nx, lo, st, sh, hp)) : gG y d mc ms Q cells slots (pc, lo, .int x :: st, sh, hp) := by
  have h0 : (0 : Int32).toInt = 0 := by decide
  refine g_if_lt h (fun q => kt ?_) (fun q => kf ?_) <;> (simp only [ia_lt, ia_le, ia_eq, ne_eq, Decidable.not_not] at q; omega)
theorem gj_ge (h : lk pc y.2.2.2.2 = some (pc, ia, .if_icmp .ge off, nx, tg, b, v, w, j)) (hx : x.toInt = kx) (hz : z.toInt = kz) (kt : kz ≤ kx → gG y d mc ms Q cells slots (tg, lo, st, sh, hp)) (kf : kx < kz → gG y d mc ms Q cells slots (nx, lo, st, sh, hp)) : gG y d mc ms Q cells slots (pc, lo, .int z :: .int x :: st, sh, hp) := by
  refine g_icmp_ge h (fun q => kt ?_) (fun q => kf ?_) <;> (simp only [ia_lt, ia_le, ia_eq, ne_eq, Decidable.not_not] at q; omega)
theorem gz_ge (h : lk pc y.2.2.2.2 = some (pc, ia, .ifCond .ge off, nx, tg, b, v, w, j)) (hx : x.toInt = kx) (kt : 0 ≤ kx → gG y d mc ms Q cells slots (tg, lo, st, sh, hp)) (kf : kx < 0 → gG y d mc ms Q cells slots (nx, lo, st, sh, hp)) : gG y d mc ms Q cells slots (pc, lo, .int x :: st, sh, hp) := by
  have h0 : (0 : Int32).toInt = 0 := by decide
  refine g_if_ge h (fun q => kt ?_) (fun q => kf ?_) <;> (simp only [ia_lt, ia_le, ia_eq, ne_eq, Decidable.not_not] at q; omega)
theorem gj_gt (h : lk pc y.2.2.2.2 = some (pc, ia, .if_icmp .gt off, nx, tg, b, v, w, j)) (hx : x.toInt = kx) (hz : z.toInt = kz) (kt : kz < kx → gG y d mc ms Q cells slots (tg, lo, st, sh, hp)) (kf : kx ≤ kz → gG y d mc ms Q cells slots (nx, lo, st, sh, hp)) : gG y d mc ms Q cells slots (pc, lo, .int z :: .int x :: st, sh, hp) := by
  refine g_icmp_gt h (fun q => kt ?_) (fun q => kf ?_) <;> (simp only [ia_lt, ia_le, ia_eq, ne_eq, Decidable.not_not] at q; omega)
theorem gz_gt (h : lk pc y.2.2.2.2 = some (pc, ia, .ifCond .gt off, nx, tg, b, v, w, j)) (hx : x.toInt = kx) (kt : 0 < kx → gG y d mc ms Q cells slots (tg, lo, st, sh, hp)) (kf : kx ≤ 0 → gG y d mc ms Q cells slots (nx, lo, st, sh, hp)) : gG y d mc ms Q cells slots (pc, lo, .int x :: st, sh, hp) := by
  have h0 : (0 : Int32).toInt = 0 := by decide
  refine g_if_gt h (fun q => kt ?_) (fun q => kf ?_) <;> (simp only [ia_lt, ia_le, ia_eq, ne_eq, Decidable.not_not] at q; omega)
theorem gj_le (h : lk pc y.2.2.2.2 = some (pc, ia, .if_icmp .le off, nx, tg, b, v, w, j)) (hx : x.toInt = kx) (hz : z.toInt = kz) (kt : kx ≤ kz → gG y d mc ms Q cells slots (tg, lo, st, sh, hp)) (kf : kz < kx → gG y d mc ms Q cells slots (nx, lo, st, sh, hp)) : gG y d mc ms Q cells slots (pc, lo, .int z :: .int x :: st, sh, hp) := by
  refine g_icmp_le h (fun q => kt ?_) (fun q => kf ?_) <;> (simp only [ia_lt, ia_le, ia_eq, ne_eq, Decidable.not_not] at q; omega)
theorem gz_le (h : lk pc y.2.2.2.2 = some (pc, ia, .ifCond .le off, nx, tg, b, v, w, j)) (hx : x.toInt = kx) (kt : kx ≤ 0 → gG y d mc ms Q cells slots (tg, lo, st, sh, hp)) (kf : 0 < kx → gG y d mc ms Q cells slots (nx, lo, st, sh, hp)) : gG y d mc ms Q cells slots (pc, lo, .int x :: st, sh, hp) := by
  have h0 : (0 : Int32).toInt = 0 := by decide
  refine g_if_le h (fun q => kt ?_) (fun q => kf ?_) <;> (simp only [ia_lt, ia_le, ia_eq, ne_eq, Decidable.not_not] at q; omega)
theorem g_putZ {c k a : Nat} {ks : List Value} {v0 : Int32} (h : lk pc y.2.2.2.2 = some (pc, ia, .putfield k, nx, a, b, v, w, j)) (hc : nth sh c = some (.inr (a, ks))) (hv : nth ks k = some (.int v0)) (hty : (fk a k).2.2 = ("Z", false)) (h01 : x = 0 ∨ x = 1) (kk : gG y d mc ms Q cells slots (nx, lo, st, sh, sI hp c k x)) : gG y d mc ms Q cells slots (pc, lo, .int x :: .ref c :: st, sh, hp) := by
  intro ok
  have hb := (lk_ok ok h).1
  unfold okb at hb
  rw [Bool.and_eq_true, Bool.and_eq_true, Bool.and_eq_true] at hb
  obtain ⟨hd, ⟨h1, h2⟩, h3⟩ := hb
  have h1 := Nat.eq_of_beq_eq_true h1
  have h2 := Nat.eq_of_beq_eq_true h2
  subst h1; subst h2
  split at h3
  · next x2 =>
    rw [Bool.and_eq_true] at h3
    obtain ⟨h4, h5⟩ := h3
    split at h5
    · next q hq =>
      have hk := bl_of h5
      have h6 := tb_of h4
      rw [fk_of hq hk] at h6 hty
      rw [nth_eq] at hc hv
      exact g1_putI (ty := .boolean) (dec_of hd) hc hq hk h6 (by rw [hty]) (by rw [hty]; decide +kernel) (by rcases h01 with rfl | rfl <;> decide +kernel) (by rcases h01 with rfl | rfl <;> decide +kernel) hv kk ok
    · cases h5
  · cases h3
end GJ

section GC0
variable {y : mt_T} {d mc ms : Nat} {Q : zt} {cells slots : Nat} {pc : Nat} {lo st : List Value} {sh : sh_T} {hp : hp_T} {ia : Instr} {nx a b j0 : Nat} {v0 : Int32} {w0 : Int64}
theorem g_callV0 {y' : mt_T} {x n bb ci : Nat} {as r ks : List Value} (h : lk pc y.2.2.2.2 = some (pc, ia, .invokevirtual x, nx, a, b, v0, w0, j0)) (hl : lV y.1.cls x y' n) (hcut : cut n [] st = some (as, .ref bb :: r)) (hb : nth sh bb = some (.inr (ci, ks))) (hcls : (kcls[ci]?).map (fun q => q.1) = some y'.1.cls) (hW : Nat.ble (cats r) 8 = true)
    (kk : gC y' d 0 0 (.ref bb :: as) sh hp (fun ans sh' hp' => gG y (d + 1) mc ms Q cells slots (nx, lo, ans.toList ++ r, sh', hp'))) (h1 : cells ≤ mc := by decide) (h2 : slots ≤ ms := by decide) : gG y (d + 1) mc ms Q cells slots (pc, lo, st, sh, hp) := g_callV (bs := []) (mc' := 0) (ms' := 0) h hl hcut hb hcls hW kk h1 h2
theorem g_callS0 {y' : mt_T} {x n : Nat} {as r : List Value} (h : lk pc y.2.2.2.2 = some (pc, ia, .invokestatic x, nx, a, b, v0, w0, j0)) (hl : lS y.1.cls x y' n ∨ lN2 y.1.cls x y' n) (hcut : cut n [] st = some (as, r)) (hW : Nat.ble (cats r) 8 = true)
    (kk : gC y' d 0 0 as sh hp (fun ans sh' hp' => gG y (d + 1) mc ms Q cells slots (nx, lo, ans.toList ++ r, sh', hp'))) (h1 : cells ≤ mc := by decide) (h2 : slots ≤ ms := by decide) : gG y (d + 1) mc ms Q cells slots (pc, lo, st, sh, hp) := g_callS (mc' := 0) (ms' := 0) h hl hcut hW kk h1 h2
end GC0
