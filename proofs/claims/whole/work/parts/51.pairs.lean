/-! more pairs: order, worth, count, take, send, lot -/
theorem rel_f {b : Bool} {hp hp2 : hp_T} (h : Rel b hp) (e1 : hp2.1 = hp.1) (e2 : hp2.2 48 = hp.2 48) : Rel b hp2 := by
  obtain ⟨a1, a2⟩ := hp2
  obtain ⟨c1, c2⟩ := hp
  dsimp only at e1 e2
  subst e1
  exact ⟨h.1, h.2.1, h.2.2.1, h.2.2.2.1, h.2.2.2.2.1, h.2.2.2.2.2.1, h.2.2.2.2.2.2.1, h.2.2.2.2.2.2.2.1, h.2.2.2.2.2.2.2.2.1, h.2.2.2.2.2.2.2.2.2.1, h.2.2.2.2.2.2.2.2.2.2.1, fun w hw => by show (a2 48 w).toInt = _; rw [e2]; exact h.2.2.2.2.2.2.2.2.2.2.2 w hw⟩
theorem rel_0 {b : Bool} {hp : hp_T} (hR : Rel b hp) : Rel b (sI hp 43 0 0) := by
  obtain ⟨h_lot, h_now, h_cur, h_tap, h_rul, h_roa, h_bag, h_cup, h_spa, h_bes, h_kee, h_wor⟩ := hR
  exact ⟨h_lot, h_now, h_cur, h_tap, rul_k h_rul rfl rfl rfl rfl rfl rfl rfl rfl rfl rfl rfl rfl rfl rfl rfl rfl rfl rfl rfl, h_roa, h_bag, h_cup, h_spa, h_bes, h_kee, h_wor⟩
theorem upP {P : Nat → Int32 → Prop} {w : Nat → Int32} {k : Nat} {v : Int32} (h : P k v) (h2 : ∀ j, j ≠ k → P j (w j)) (j : Nat) : P j (va_up w k v j) := by
  by_cases e : j = k
  · subst e; simp only [va_up, if_true]; exact h
  · simp only [va_up, if_neg e]; exact h2 j e
theorem cz_up {p p2 : Nat → Bool} {k : Nat} (h1 : p k = false) (h2 : p2 k = true) (h3 : ∀ j, j ≠ k → p2 j = p j) : ∀ n : Nat, cz p2 n = cz p n + (if k < n then 1 else 0)
  | 0 => by rw [cz, cz]; simp
  | n + 1 => by
    have ih := cz_up h1 h2 h3 n
    by_cases e : n = k
    · subst e
      rw [cz_t h2, cz_f h1, ih, if_neg (by omega), if_pos (by omega)]
      omega
    · cases hp : p n with
      | true =>
        rw [cz_t (h3 n e ▸ hp), cz_t hp, ih]
        by_cases c : k < n
        · rw [if_pos c, if_pos (by omega)]
        · rw [if_neg c, if_neg (by omega)]; omega
      | false =>
        rw [cz_f (h3 n e ▸ hp), cz_f hp, ih]
        by_cases c : k < n
        · rw [if_pos c, if_pos (by omega)]
        · rw [if_neg c, if_neg (by omega)]
section S51
variable {hp : hp_T} {b : Bool} {xs : sh_T}
theorem pr_order {a c : Int32} (hR : Rel b hp) : prP mX9_order mX10_order [.ref 0, .int a, .int c] [.ref 43, .int a, .int c] b xs hp := by
  have hR0 := rel_0 hR
  obtain ⟨h_lot, h_now, h_cur, h_tap, h_rul, h_roa, h_bag, h_cup, h_spa, h_bes, h_kee, h_wor⟩ := hR
  intro K h
  refine c_X9_order (d := 2043) rfl rfl (fun i _ => h_cup.2.2.1 i) (fun i _ => h_cup.2.2.2 i) (fun r hp2 er e1 e2 => ?_)
  refine h _ _ _ (fun KM hK => ?_)
  refine c_X10_order (d := 2046) rfl rfl (fun i _ => by rw [e1, ← h_cup.1]; exact h_cup.2.2.1 i) (fun i _ => by rw [e1, ← h_cup.2.1]; exact h_cup.2.2.2 i) (fun r2 hp3 er2 e3 e4 => ?_)
  have er3 : r2 = r := by
    rw [er2, er, e1]
    simp only [← h_cup.1, ← h_cup.2.1, Int.mul_comm]
  refine kq er3 (hK _ (rel_f hR0 (e3.trans (by show va_up hp2.1 43 (va_up (hp2.1 43) 0 0) = va_up hp.1 43 (va_up (hp.1 43) 0 0); rw [e1])) ?_))
  rw [e4 48 (by decide), e2 48 (by decide)]
  rfl
theorem pr_worth {a : Int32} (hR : Rel b hp) : prP mX9_worth mX10_worth [.ref 0, .int a] [.ref 43, .int a] b xs hp := by
  have hR0 := rel_0 hR
  obtain ⟨h_lot, h_now, h_cur, h_tap, h_rul, h_roa, h_bag, h_cup, h_spa, h_bes, h_kee, h_wor⟩ := hR
  intro K h
  refine c_X9_worth (d := 2043) rfl (fun i _ => h_cup.2.2.1 i) (fun i _ => h_cup.2.2.2 i) (fun r hp2 er e1 e2 => ?_)
  refine h _ _ _ (fun KM hK => ?_)
  refine c_X10_worth (d := 2046) rfl (fun i _ => by rw [e1, ← h_cup.1]; exact h_cup.2.2.1 i) (fun i _ => by rw [e1, ← h_cup.2.1]; exact h_cup.2.2.2 i) (fun r2 hp3 er2 e3 e4 => ?_)
  have er3 : r2 = r := by
    rw [er2, er, e1]
    simp only [← h_cup.1, ← h_cup.2.1, Int.mul_comm]
  refine kq er3 (hK _ (rel_f hR0 (e3.trans (by show va_up hp2.1 43 (va_up (hp2.1 43) 0 0) = va_up hp.1 43 (va_up (hp.1 43) 0 0); rw [e1])) ?_))
  rw [e4 48 (by decide), e2 48 (by decide)]
  rfl
theorem pr_count {w : Int32} (hR : Rel b hp) : prP mX9_count mX10_count [.ref 0, .int w] [.ref 43, .int w] b xs hp := by
  have hR0 := rel_0 hR
  obtain ⟨h_lot, h_now, h_cur, h_tap, h_rul, h_roa, h_bag, h_cup, h_spa, h_bes, h_kee, h_wor⟩ := hR
  obtain ⟨⟨ls, ho, r1, r2, r3, r4, r5⟩, r6⟩ := id h_rul
  have eB : (hp.1 43 30).toInt = (hp.1 17 0).toInt := by rw [h_bag.1]
  have hB := h_bag.2.1
  have eS : sumI (fun k => sumI (fun l => hp.1 63 ((12 * (k : Int)) + (l : Int)).toNat) 12) (hp.1 43 30).toInt.toNat = sumI (hp.1 18) (hp.1 17 0).toInt.toNat := by
    rw [eB]
    refine sumI_cg _ (fun k hk => ?_)
    rw [row_i (x := (k : Int)) (by omega), Int.toNat_natCast, h_bag.2.2.2.2.2.2.2.1 k (by omega), h_bag.2.2.2.2.2.2.1]
  have eC : hp.1 49 (hp.1 43 16).toInt.toNat = hp.1 (rl b) 0 := by rw [r1, Int.toNat_natCast, r4.1, r3.1]
  intro K h
  have hM : ∀ (r : Int32), (w.toInt = 0 → hp.1 1 0 = r) → (w.toInt = 1 → hp.1 17 0 = r) → (w.toInt = 2 → hp.1 0 9 = r) → (w.toInt = 3 → hp.1 (rl b) 0 = r) → (w.toInt = 4 → hp.1 5 1 = r) → (w.toInt = 5 → hp.1 17 1 = r) → (w.toInt = 6 → sumI (hp.1 18) (hp.1 17 0).toInt.toNat = r) → (w.toInt < 0 ∨ 6 < w.toInt → (-1 : Int32) = r) → K (some (.int r)) (SH b xs) hp := by
    intro r e0 e1 e2 e3 e4 e5 e6 e7
    refine h _ _ _ (fun KM hK => ?_)
    refine c_X10_count (d := 2046) (hp := hp) rfl (by omega) (by omega) (fun q => ?_) (fun q => ?_) (fun q => ?_) (fun q => ?_) (fun q => ?_) (fun q => ?_) (fun q => ?_) (fun q => ?_)
    · exact kq (h_lot.1.symm.trans (e0 q)) (hK _ hR0)
    · exact kq (h_bag.1.symm.trans (e1 q)) (hK _ hR0)
    · exact kq (h_now.1.symm.trans (e2 q)) (hK _ hR0)
    · exact kq (eC.trans (e3 q)) (hK _ hR0)
    · exact kq (h_tap.2.1.symm.trans (e4 q)) (hK _ hR0)
    · exact kq (h_bag.2.2.1.symm.trans (e5 q)) (hK _ hR0)
    · exact kq (eS.trans (e6 q)) (hK _ hR0)
    · exact kq (e7 q) (hK _ hR0)
  refine c_X9_count (d := 2046) rfl hB (fun q => ?_) (fun q => ?_) (fun q => ?_) (fun q => ?_) (fun q => ?_) (fun q => ?_) (fun q => ?_) (fun q => ?_)
  · exact hM _ (fun _ => rfl) (fun z => by omega) (fun z => by omega) (fun z => by omega) (fun z => by omega) (fun z => by omega) (fun z => by omega) (fun z => by omega)
  · exact hM _ (fun z => by omega) (fun _ => rfl) (fun z => by omega) (fun z => by omega) (fun z => by omega) (fun z => by omega) (fun z => by omega) (fun z => by omega)
  · exact hM _ (fun z => by omega) (fun z => by omega) (fun _ => rfl) (fun z => by omega) (fun z => by omega) (fun z => by omega) (fun z => by omega) (fun z => by omega)
  · exact hM _ (fun z => by omega) (fun z => by omega) (fun z => by omega) (fun _ => rfl) (fun z => by omega) (fun z => by omega) (fun z => by omega) (fun z => by omega)
  · exact hM _ (fun z => by omega) (fun z => by omega) (fun z => by omega) (fun z => by omega) (fun _ => rfl) (fun z => by omega) (fun z => by omega) (fun z => by omega)
  · exact hM _ (fun z => by omega) (fun z => by omega) (fun z => by omega) (fun z => by omega) (fun z => by omega) (fun _ => rfl) (fun z => by omega) (fun z => by omega)
  · exact hM _ (fun z => by omega) (fun z => by omega) (fun z => by omega) (fun z => by omega) (fun z => by omega) (fun z => by omega) (fun _ => rfl) (fun z => by omega)
  · exact hM _ (fun z => by omega) (fun z => by omega) (fun z => by omega) (fun z => by omega) (fun z => by omega) (fun z => by omega) (fun z => by omega) (fun _ => rfl)
theorem pr_take {n g : Int32} (hR : Rel b hp) : prP mX9_take mX10_take [.ref 0, .int n, .int g] [.ref 43, .int n, .int g] b xs hp := by
  have hR0 := rel_0 hR
  obtain ⟨h_lot, h_now, h_cur, h_tap, h_rul, h_roa, h_bag, h_cup, h_spa, h_bes, h_kee, h_wor⟩ := hR
  obtain ⟨b1, b2, b3, b4, b5, b6, b7, b8, b9, b10, b11, b12, b13, b14, b15, b16⟩ := h_bag
  have eB : (hp.1 43 30).toInt = (hp.1 17 0).toInt := by rw [b1]
  have hc60 := cz_bd (fun k => decide (0 < (hp.1 21 k).toInt)) 60
  have fx : 0 ≤ n.toInt → n.toInt < (hp.1 17 0).toInt → (sumI (fun l => hp.1 63 ((12 * n.toInt) + (l : Int)).toNat) 12).toInt = (hp.1 18 n.toInt.toNat).toInt := by
    intro h1 h2
    rw [row_i h1, b8 _ (by omega), b7]
  have e67 : (hp.1 67 n.toInt.toNat).toInt = (hp.1 21 n.toInt.toNat).toInt := by rw [b6]
  have e65 : (hp.1 65 n.toInt.toNat).toInt = (hp.1 20 n.toInt.toNat).toInt := by rw [b5]
  have hh := b16 n.toInt.toNat
  intro K h
  refine c_X9_take (d := 2045) rfl rfl b2 (fun q => ?_) (fun q => ?_)
  · have hk := b13 n.toInt.toNat (by omega)
    have f1 := fx q.1 q.2.1
    refine h _ _ _ (fun KM hK => ?_)
    refine c_X10_take (d := 2046) (hp := sI (sI hp 21 n.toInt.toNat g) 17 1 (hp.1 17 1 + 1)) rfl rfl (show 0 ≤ (hp.1 43 30).toInt ∧ (hp.1 43 30).toInt ≤ 60 from by omega) (fun q2 => ?_) (fun q2 => ?_)
    · have ea : (hp.1 17 1 + 1).toInt = (hp.1 17 1).toInt + 1 := ia_add2 rfl (by decide : (1 : Int32).toInt = 1) (by omega) (by omega)
      have ec := cz_up (p := fun k => decide (0 < (hp.1 21 k).toInt)) (p2 := fun k => decide (0 < (va_up (hp.1 21) n.toInt.toNat g k).toInt)) (k := n.toInt.toNat) (decide_eq_false (by omega)) (decide_eq_true (by simp only [va_up, if_true]; omega)) (fun j hj => by simp only [va_up, if_neg hj]) 60
      rw [if_pos (by omega)] at ec
      exact kq (show hp.1 43 44 + 1 = hp.1 17 1 + 1 from by rw [b3]) (hK _ ⟨h_lot, h_now, h_cur, h_tap, rul_k h_rul rfl rfl rfl rfl rfl rfl rfl rfl rfl rfl rfl rfl rfl rfl rfl rfl rfl rfl rfl, h_roa, ⟨b1, b2, (show hp.1 17 1 + 1 = hp.1 43 44 + 1 from by rw [b3]), b4, b5, (show va_up (hp.1 21) n.toInt.toNat g = va_up (hp.1 67) n.toInt.toNat g from by rw [b6]), b7, b8, b9, b10, b11, b12, (fun k hk2 => upP (P := fun k z => k < 60 → 0 ≤ z.toInt ∧ z.toInt ≤ (hp.1 18 k).toInt ∧ (0 < z.toInt → (k : Int) < (hp.1 17 0).toInt)) (fun _ => by omega) (fun j _ hj => b13 j hj) k hk2), (show (hp.1 17 1 + 1).toInt = cz (fun k => decide (0 < (va_up (hp.1 21) n.toInt.toNat g k).toInt)) 60 from by rw [ec, ea, b14]), b15, b16⟩, h_cup, h_spa, h_bes, h_kee, h_wor⟩)
    · have q3 : n.toInt < 0 ∨ (hp.1 43 30).toInt ≤ n.toInt ∨ 0 < (hp.1 67 n.toInt.toNat).toInt ∨ 0 ≤ (hp.1 65 n.toInt.toNat).toInt ∨ g.toInt < 1 ∨ (sumI (fun l => hp.1 63 ((12 * n.toInt) + (l : Int)).toNat) 12).toInt < g.toInt := q2
      exfalso; omega
  · refine h _ _ _ (fun KM hK => ?_)
    refine c_X10_take (d := 2046) (hp := hp) rfl rfl (by omega) (fun q2 => ?_) (fun q2 => ?_)
    · have f1 := fx q2.1 (by omega)
      exfalso; omega
    · exact hK _ hR0
theorem pr_send {n u : Int32} (hR : Rel b hp) : prP mX9_send mX10_send [.ref 0, .int n, .int u] [.ref 43, .int n, .int u] b xs hp := by
  have hR0 := rel_0 hR
  obtain ⟨h_lot, h_now, h_cur, h_tap, h_rul, h_roa, h_bag, h_cup, h_spa, h_bes, h_kee, h_wor⟩ := hR
  obtain ⟨b1, b2, b3, b4, b5, b6, b7, b8, b9, b10, b11, b12, b13, b14, b15, b16⟩ := h_bag
  have eB : (hp.1 43 30).toInt = (hp.1 17 0).toInt := by rw [b1]
  have fx : 0 ≤ n.toInt → n.toInt < (hp.1 17 0).toInt → (sumI (fun l => hp.1 63 ((12 * n.toInt) + (l : Int)).toNat) 12).toInt = (hp.1 18 n.toInt.toNat).toInt := by
    intro h1 h2
    rw [row_i h1, b8 _ (by omega), b7]
  have e67 : (hp.1 67 n.toInt.toNat).toInt = (hp.1 21 n.toInt.toNat).toInt := by rw [b6]
  have e65 : (hp.1 65 n.toInt.toNat).toInt = (hp.1 20 n.toInt.toNat).toInt := by rw [b5]
  have hh := b16 n.toInt.toNat
  intro K h
  refine c_X9_send (d := 2045) rfl rfl b2 (fun q => ?_) (fun q => ?_)
  · have f1 := fx q.1.1 q.1.2.1
    refine h _ _ _ (fun KM hK => ?_)
    refine c_X10_send (d := 2046) (hp := sI hp 20 n.toInt.toNat u) rfl rfl (show 0 ≤ (hp.1 43 30).toInt ∧ (hp.1 43 30).toInt ≤ 60 from by omega) (fun q2 => ?_) (fun q2 => ?_)
    · exact hK _ ⟨h_lot, h_now, h_cur, h_tap, rul_k h_rul rfl rfl rfl rfl rfl rfl rfl rfl rfl rfl rfl rfl rfl rfl rfl rfl rfl rfl rfl, h_roa, ⟨b1, b2, b3, b4, (show va_up (hp.1 20) n.toInt.toNat u = va_up (hp.1 65) n.toInt.toNat u from by rw [b5]), b6, b7, b8, b9, b10, b11, b12, b13, b14, b15, (up_bd b16 (by omega))⟩, h_cup, h_spa, h_bes, h_kee, h_wor⟩
    · have q3 : n.toInt < 0 ∨ (hp.1 43 30).toInt ≤ n.toInt ∨ u.toInt < 0 ∨ 10 ≤ u.toInt ∨ 0 ≤ (hp.1 65 n.toInt.toNat).toInt ∨ 0 < (hp.1 67 n.toInt.toNat).toInt ∨ (sumI (fun l => hp.1 63 ((12 * n.toInt) + (l : Int)).toNat) 12).toInt = 0 := q2
      exfalso; omega
  · refine h _ _ _ (fun KM hK => ?_)
    refine c_X10_send (d := 2046) (hp := hp) rfl rfl (by omega) (fun q2 => ?_) (fun q2 => ?_)
    · have f1 := fx q2.1 (by omega)
      exfalso; omega
    · exact hK _ hR0
theorem colS_0 {P : Nat → Int32} {l : Nat} (h : ∀ k, P (12 * k + l) = 0) : ∀ n : Nat, colS P l n = 0
  | 0 => rfl
  | n + 1 => by rw [colS, colS_0 h n, h n]; decide
theorem pr_lot {g p a e c : Int32} (hR : Rel b hp) : prP mX9_lot mX10_lot [.ref 0, .int g, .int p, .int a, .int e, .int c] [.ref 43, .int g, .int p, .int a, .int e, .int c] b xs hp := by
  have hR0 := rel_0 hR
  obtain ⟨h_lot, h_now, h_cur, h_tap, h_rul, h_roa, h_bag, h_cup, h_spa, h_bes, h_kee, h_wor⟩ := hR
  obtain ⟨b1, b2, b3, b4, b5, b6, b7, b8, b9, b10, b11, b12, b13, b14, b15, b16⟩ := h_bag
  obtain ⟨l1, l2, l3, l4, l5, l6⟩ := h_lot
  have eL : (hp.1 43 26).toInt = (hp.1 1 0).toInt := by rw [l1]
  intro K h
  refine c_X9_lot (d := 2046) rfl rfl rfl rfl rfl l2.1 (fun q => ?_) (fun q => ?_)
  · refine h _ _ _ (fun KM hK => ?_)
    refine c_X10_lot (d := 2046) (hp := (sI (sI (sI (sI (sI (sI hp 2 (hp.1 1 0).toInt.toNat g) 3 (hp.1 1 0).toInt.toNat p) 4 ((hp.1 1 0).toInt * 3).toNat a) 4 (((hp.1 1 0).toInt * 3) + 1).toNat e) 4 (((hp.1 1 0).toInt * 3) + 2).toNat c) 1 0 ((hp.1 1 0) + 1))) rfl rfl rfl rfl rfl (show 0 ≤ (hp.1 43 26).toInt ∧ (hp.1 43 26).toInt ≤ 12 from by omega) (fun q2 => ?_) (fun q2 => ?_)
    · have ea : (hp.1 1 0 + 1).toInt = (hp.1 1 0).toInt + 1 := ia_add2 rfl (by decide : (1 : Int32).toInt = 1) (by omega) (by omega)
      have l4x : (va_up (va_up (va_up (hp.1 4) ((hp.1 1 0).toInt * 3).toNat a) (((hp.1 1 0).toInt * 3) + 1).toNat e) (((hp.1 1 0).toInt * 3) + 2).toNat c) = (va_up (va_up (va_up (hp.1 62) (3 * (hp.1 43 26).toInt).toNat a) ((3 * (hp.1 43 26).toInt) + 1).toNat e) ((3 * (hp.1 43 26).toInt) + 2).toNat c) := by rw [l5, eL, Int.mul_comm]
      refine kq (show hp.1 43 26 + 1 - 1 = hp.1 1 0 from by rw [Int32.add_sub_cancel, l1]) (hK _ ⟨⟨show hp.1 1 0 + 1 = hp.1 43 26 + 1 from by rw [l1], show 0 ≤ (hp.1 1 0 + 1).toInt ∧ (hp.1 1 0 + 1).toInt ≤ 12 from by omega, show va_up (hp.1 2) (hp.1 1 0).toInt.toNat g = va_up (hp.1 60) (hp.1 43 26).toInt.toNat g from by rw [l3, eL], show va_up (hp.1 3) (hp.1 1 0).toInt.toNat p = va_up (hp.1 61) (hp.1 43 26).toInt.toNat p from by rw [l4, eL], l4x, up_bd l6 (by omega)⟩, h_now, h_cur, h_tap, rul_k h_rul rfl rfl rfl rfl rfl rfl rfl rfl rfl rfl rfl rfl rfl rfl rfl rfl rfl rfl rfl, h_roa, ⟨b1, b2, b3, b4, b5, b6, b7, b8, b9, b10, (fun k l h1 h2 => b11 k l (by have h3 : (hp.1 1 0 + 1).toInt ≤ (l : Int) := h1; omega) h2), (fun l hl => upP (P := fun l z => l < 12 → 0 ≤ z.toInt ∧ colS (hp.1 22) l 60 + z.toInt ≤ 100000) (fun hl2 => by rw [colS_0 (fun k => b11 k _ (by omega) hl2)]; omega) (fun j _ hj => b12 j hj) l hl), b13, b14, b15, b16⟩, h_cup, h_spa, h_bes, h_kee, h_wor⟩)
    · have q3 : g.toInt < 1 ∨ 100000 < g.toInt ∨ p.toInt < 1 ∨ 10000 < p.toInt ∨ a.toInt < 0 ∨ 100 < a.toInt ∨ e.toInt < 0 ∨ 100 < e.toInt ∨ c.toInt < 0 ∨ 100 < c.toInt ∨ (hp.1 43 26).toInt = 12 := q2
      exfalso; omega
  · refine h _ _ _ (fun KM hK => ?_)
    refine c_X10_lot (d := 2046) (hp := hp) rfl rfl rfl rfl rfl (by omega) (fun q2 => ?_) (fun q2 => ?_)
    · exfalso; omega
    · exact hK _ hR0
end S51
