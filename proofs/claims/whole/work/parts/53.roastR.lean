/-! the pair of roast -/
theorem divc {g : Int32} {gI c : Int} {k : Int32} (gE : g.toInt = gI) (h : 0 ≤ gI) (kE : k.toInt = c) (hc : 1 ≤ c) : (g / k).toInt = gI / c := by
  have hb := ia_bd g
  have h1 : gI / c ≤ gI := Int.ediv_le_self c h
  have h2 : 0 ≤ gI / c := Int.ediv_nonneg h (by omega)
  rw [Int32.toInt_div, gE, kE, Int.tdiv_eq_ediv_of_nonneg h]
  exact Int.bmod_eq_of_le (by omega) (by omega)
theorem mn_bd {G : Int32 → Int32 → Int32 → q3 → q3} {tw : Nat → Int32} : ∀ (f k : Nat) (s : s6), (0 ≤ s.1.toInt ∧ s.1.toInt ≤ 400) → (0 ≤ s.2.2.1.toInt ∧ s.2.2.1.toInt ≤ (k : Int)) → k + f ≤ 20 → (0 ≤ (mnP G tw f k s).1.toInt ∧ (mnP G tw f k s).1.toInt ≤ 400) ∧ 0 ≤ (mnP G tw f k s).2.2.1.toInt ∧ (mnP G tw f k s).2.2.1.toInt ≤ 20
  | 0, k, s, h1, h2, h3 => ⟨h1, by rw [mnP]; omega⟩
  | f + 1, k, s, h1, h2, h3 => by
    rw [mnP]
    split
    · exact ⟨h1, by omega⟩
    · refine mn_bd f (k + 1) _ ?_ ?_ (by omega)
      · split
        · exact clmp_bd _
        · exact h1
      · split
        · dsimp only
          rw [ia_add2 rfl (by decide : (1 : Int32).toInt = 1) (by omega) (by omega)]
          omega
        · dsimp only; omega
theorem loss_bd {s : s6} (h1 : 0 ≤ s.1.toInt ∧ s.1.toInt ≤ 400) (h2 : 0 ≤ s.2.2.1.toInt ∧ s.2.2.1.toInt ≤ 20) : 0 ≤ (lossX s).toInt ∧ (lossX s).toInt ≤ 600 := by
  have h4 : (s.1 / 4).toInt = s.1.toInt / 4 := divc rfl h1.1 (by decide) (by omega)
  have h5 : (s.1 / 4 + 3 * s.2.2.1).toInt = s.1.toInt / 4 + 3 * s.2.2.1.toInt := ia_add2 h4 (ia_mul2 (by decide : (3 : Int32).toInt = 3) rfl (by omega) (by omega)) (by omega) (by omega)
  rw [lossX, minI]
  split
  · decide
  · next q => rw [h5] at q ⊢; simp at q; omega
theorem out_bd {g l : Int32} (hg : 1 ≤ g.toInt ∧ g.toInt ≤ 20000) (hl : 0 ≤ l.toInt ∧ l.toInt ≤ 600) : 0 ≤ (outX g l).toInt ∧ (outX g l).toInt ≤ g.toInt := by
  have h1 : (1000 - l).toInt = 1000 - l.toInt := ia_sub2 (by decide : (1000 : Int32).toInt = 1000) rfl (by omega) (by omega)
  have h2 : 0 ≤ g.toInt * (1000 - l.toInt) := Int.mul_nonneg (by omega) (by omega)
  have h3 : g.toInt * (1000 - l.toInt) ≤ g.toInt * 1000 := Int.mul_le_mul_of_nonneg_left (by omega) (by omega)
  have h4 : (g * (1000 - l)).toInt = g.toInt * (1000 - l.toInt) := ia_mul2 rfl h1 (by omega) (by omega)
  rw [outX, divc (c := 1000) h4 h2 (by decide) (by omega)]
  omega
theorem clr_id {P : Nat → Int32} {z : Int} (hz : 0 ≤ z) (h : ∀ l, l < 12 → P (12 * z.toNat + l) = 0) : ∀ n : Nat, n ≤ 12 → clr P z n = P
  | 0, _ => rfl
  | n + 1, hn => by
    rw [clr, clr_id hz h n (by omega)]
    funext j
    simp only [va_up]
    split
    · next e => rw [e, show (12 * z + (n : Int)).toNat = 12 * z.toNat + n by omega, h n (by omega)]
    · rfl
theorem colS_ne {P : Nat → Int32} {B l0 l : Nat} {v : Int32} (h : l ≠ l0) (hl : l < 12) (h0 : l0 < 12) : ∀ n : Nat, colS (va_up P (12 * B + l0) v) l n = colS P l n
  | 0 => rfl
  | n + 1 => by rw [colS, colS, colS_ne h hl h0 n, up_ne (by omega)]
theorem colS_eq {P : Nat → Int32} {B l : Nat} {v : Int32} (hl : l < 12) : ∀ n : Nat, colS (va_up P (12 * B + l) v) l n = colS P l n + (if B < n then v.toInt - (P (12 * B + l)).toInt else 0)
  | 0 => by simp [colS]
  | n + 1 => by
    rw [colS, colS, colS_eq hl n]
    by_cases e : n = B
    · subst e
      rw [if_neg (by omega), if_pos (by omega)]
      simp only [va_up, if_true]
      omega
    · rw [up_ne (by omega)]
      by_cases c : B < n
      · rw [if_pos c, if_pos (by omega)]; omega
      · rw [if_neg c, if_neg (by omega)]; omega
theorem row_ne {P : Nat → Int32} {B l k : Nat} {v : Int32} (h : k ≠ B) (hl : l < 12) : rowI (va_up P (12 * B + l) v) k = rowI P k := sumI_cg 12 (fun i hi => up_ne (by omega))
theorem sum_one {l : Nat} {v : Int32} : ∀ n : Nat, sumI (fun j => if j = l then v else 0) n = if l < n then v else 0
  | 0 => rfl
  | n + 1 => by
    rw [sumI, sum_one n]
    by_cases e : n = l
    · subst e; rw [if_neg (by omega), if_pos rfl, if_pos (by omega)]; simp
    · rw [if_neg e]
      by_cases c : l < n
      · rw [if_pos c, if_pos (by omega)]; simp
      · rw [if_neg c, if_neg (by omega)]; simp
theorem row_eq {P : Nat → Int32} {B l : Nat} {v : Int32} (hl : l < 12) (h : ∀ j, j < 12 → P (12 * B + j) = 0) : rowI (va_up P (12 * B + l) v) B = v := by
  have : rowI (va_up P (12 * B + l) v) B = sumI (fun j => if j = l then v else 0) 12 := sumI_cg 12 (fun i hi => by
    by_cases e : i = l
    · subst e; simp [va_up]
    · rw [up_ne (by omega), if_neg e]; exact h i hi)
  rw [this, sum_one, if_pos hl]
section S53
variable {hp : hp_T} {xs : sh_T}
theorem pr_roast_false {l g : Int32} (hR : Rel false hp) : prP mX9_roast mX10_roast [.ref 0, .int l, .int g] [.ref 43, .int l, .int g] false xs hp := by
  have hR0 := rel_0 hR
  obtain ⟨h_lot, h_now, h_cur, h_tap, h_rul, h_roa, h_bag, h_cup, h_spa, h_bes, h_kee, h_wor⟩ := hR
  obtain ⟨b1, b2, b3, b4, b5, b6, b7, b8, b9, b10, b11, b12, b13, b14, b15, b16⟩ := h_bag
  obtain ⟨l1, l2, l3, l4, l5, l6⟩ := h_lot
  obtain ⟨⟨ls, ho, r1, r2, r3, r4, r5⟩, r6, r7⟩ := id h_rul
  have eL : (hp.1 43 26).toInt = (hp.1 1 0).toInt := by rw [l1]
  have eB : (hp.1 43 30).toInt = (hp.1 17 0).toInt := by rw [b1]
  have eG : (hp.1 60 l.toInt.toNat).toInt = (hp.1 2 l.toInt.toNat).toInt := by rw [l3]
  have hx := roX_hyp r3 r5
  have hm := roM_hyp r2 r4 r5
  have eR : roX hp 37 g = roM hp ho (lnL ls) g := ro_eq r2 r3 r4 r5 (fun k _ => congrFun h_cur.1 k)
  have hs1 := mn_bd (G := gX hp 37 g) (tw := hp.1 16) 20 0 s_0 (by decide) (by decide) (by omega)
  obtain ⟨s0, hs0⟩ : ∃ s, roX hp 37 g = s := ⟨_, rfl⟩
  have hs : (0 ≤ s0.1.toInt ∧ s0.1.toInt ≤ 400) ∧ 0 ≤ s0.2.2.1.toInt ∧ s0.2.2.1.toInt ≤ 20 := by rw [← hs0]; exact hs1
  rw [hs0] at eR
  have hlo := loss_bd (s := s0) hs.1 hs.2
  have hcv : ∀ i, i < 20 → 0 ≤ (hp.1 66 i).toInt ∧ (hp.1 66 i).toInt ≤ 400 := fun i _ => by rw [← h_cur.1]; exact h_cur.2 i
  intro K h
  refine c_X9_roast_37 (d := 2042) rfl rfl hs0 l2 b2.1 hx.1 hx.2.1 hx.2.2 r7 (fun q q1 mi z hz => ?_) (fun q q1 mi z hz => ?_) (fun q => ?_)
  · refine h _ _ _ (fun KM hK => ?_)
    have hz7 := nI_toInt (n := z.2) (by omega)
    have ho0 := out_bd (g := g) ⟨q.2.2.1, q.2.2.2.1⟩ hlo
    have eg : (hp.1 2 l.toInt.toNat - g).toInt = (hp.1 2 l.toInt.toNat).toInt - g.toInt := ia_sub2 rfl rfl (by have := ia_bd g; have := b12 l.toInt.toNat (by omega); omega) (by have := ia_bd (hp.1 2 l.toInt.toNat); omega)
    have ea : (hp.1 17 0 + 1).toInt = (hp.1 17 0).toInt + 1 := ia_add2 rfl (by decide : (1 : Int32).toInt = 1) (by omega) (by omega)
    have eIx : (((hp.1 17 0).toInt * 12) + l.toInt).toNat = 12 * (hp.1 17 0).toInt.toNat + l.toInt.toNat := by omega
    refine c_X10_roast (d := 2044) (hp := (sI (sI (sI (sI (sI (WX (sR (sI hp 2 l.toInt.toNat (hp.1 2 l.toInt.toNat - g)) 15 (RO (hp.1 15) (lossX s0) g mi s0)) 37 z) 19 (hp.1 17 0).toInt.toNat (hp.1 0 9)) 20 (hp.1 17 0).toInt.toNat (-1)) 17 0 (hp.1 17 0 + 1)) 18 (hp.1 17 0).toInt.toNat (outX g (lossX s0))) 22 (((hp.1 17 0).toInt * 12) + l.toInt).toNat (outX g (lossX s0)))) (s0 := s0) (ho := ho) (ln := lnL ls) rfl rfl r1 r2 hm.1 hm.2 hcv eR.symm (show 0 ≤ (hp.1 43 26).toInt ∧ (hp.1 43 26).toInt ≤ 12 from by omega) (show 0 ≤ (hp.1 43 30).toInt ∧ (hp.1 43 30).toInt ≤ 60 from by omega) (fun q2 q3 kn pl => ?_) (fun q2 q3 kn pl => ?_) (fun q2 => ?_)
    · refine kq (show hp.1 43 30 = hp.1 17 0 from b1.symm) (hK _ ?_)
      generalize hoX : outX g (lossX s0) = o at *
      exact ⟨⟨l1, l2, show va_up (hp.1 2) l.toInt.toNat (hp.1 2 l.toInt.toNat - g) = va_up (hp.1 60) l.toInt.toNat (hp.1 60 l.toInt.toNat - g) from by rw [l3], l4, l5, l6⟩, h_now, h_cur, h_tap, ⟨⟨ls, ho, r1, r2, r3, r4, r5⟩, r6, (show 0 ≤ (nI z.2).toInt ∧ (nI z.2).toInt ≤ 16 from by omega)⟩, ⟨rfl, fun _ => ⟨rfl, rfl, rfl, rfl, rfl⟩⟩, ⟨(show hp.1 17 0 + 1 = hp.1 43 30 + 1 from by rw [b1]), (show 0 ≤ (hp.1 17 0 + 1).toInt ∧ (hp.1 17 0 + 1).toInt ≤ 60 from by omega), b3, (show va_up (hp.1 19) (hp.1 17 0).toInt.toNat (hp.1 0 9) = va_up (hp.1 64) (hp.1 43 30).toInt.toNat (hp.1 43 25) from by rw [b4, eB, h_now.1]), (show va_up (hp.1 20) (hp.1 17 0).toInt.toNat (-1) = va_up (hp.1 65) (hp.1 43 30).toInt.toNat (-1) from by rw [b5, eB]), b6, (show va_up (hp.1 22) (((hp.1 17 0).toInt * 12) + l.toInt).toNat o = va_up (clr (hp.1 63) (hp.1 43 30).toInt 12) (12 * (hp.1 43 30).toInt + l.toInt).toNat o from by rw [eB, clr_id b2.1 (fun j hj => by rw [← b7]; exact b10 _ j (by omega) hj) 12 (Nat.le_refl _), b7, Int.mul_comm]), (fun k hk => (show va_up (hp.1 18) (hp.1 17 0).toInt.toNat o k = rowI (va_up (hp.1 22) (((hp.1 17 0).toInt * 12) + l.toInt).toNat o) k from by rw [eIx]; exact upP (P := fun k y => k < 60 → y = rowI (va_up (hp.1 22) (12 * (hp.1 17 0).toInt.toNat + l.toInt.toNat) o) k) (fun _ => (row_eq (by omega) (fun j hj => b10 _ j (by omega) hj)).symm) (fun k2 hk2 hk3 => (b8 k2 hk3).trans (row_ne hk2 (by omega)).symm) k hk)), (upP (P := fun _ y => 0 ≤ y.toInt) (by omega) (fun k _ => b9 k)), (fun k j h1 h2 => (show va_up (hp.1 22) (((hp.1 17 0).toInt * 12) + l.toInt).toNat o (12 * k + j) = 0 from by have h3 : (hp.1 17 0 + 1).toInt ≤ (k : Int) := h1; rw [eIx, up_ne (by omega)]; exact b10 k j (by omega) h2)), (fun k j h1 h2 => (show va_up (hp.1 22) (((hp.1 17 0).toInt * 12) + l.toInt).toNat o (12 * k + j) = 0 from by have h3 : (hp.1 1 0).toInt ≤ (j : Int) := h1; rw [eIx, up_ne (by omega)]; exact b11 k j h1 h2)), (fun j hj => (show 0 ≤ (va_up (hp.1 2) l.toInt.toNat (hp.1 2 l.toInt.toNat - g) j).toInt ∧ colS (va_up (hp.1 22) (((hp.1 17 0).toInt * 12) + l.toInt).toNat o) j 60 + (va_up (hp.1 2) l.toInt.toNat (hp.1 2 l.toInt.toNat - g) j).toInt ≤ 100000 from by rw [eIx]; exact upP (P := fun j y => j < 12 → 0 ≤ y.toInt ∧ colS (va_up (hp.1 22) (12 * (hp.1 17 0).toInt.toNat + l.toInt.toNat) o) j 60 + y.toInt ≤ 100000) (fun hj2 => by rw [colS_eq hj2, if_pos (by omega), b10 _ _ (by omega) hj2]; have := b12 _ hj2; have e0 : (0 : Int32).toInt = 0 := (by decide); omega) (fun k hk hk2 => by rw [colS_ne hk hk2 (by omega)]; exact b12 k hk2) j hj)), (fun k hk => (show 0 ≤ (hp.1 21 k).toInt ∧ (hp.1 21 k).toInt ≤ (va_up (hp.1 18) (hp.1 17 0).toInt.toNat o k).toInt ∧ (0 < (hp.1 21 k).toInt → (k : Int) < (hp.1 17 0 + 1).toInt) from upP (P := fun k y => k < 60 → 0 ≤ (hp.1 21 k).toInt ∧ (hp.1 21 k).toInt ≤ y.toInt ∧ (0 < (hp.1 21 k).toInt → (k : Int) < (hp.1 17 0 + 1).toInt)) (fun hk2 => by have := b13 _ hk2; omega) (fun k2 _ hk3 => by have := b13 k2 hk3; omega) k hk)), b14, (up_bd b15 h_now.2), (up_bd b16 (by decide))⟩, h_cup, h_spa, h_bes, h_kee, h_wor⟩
    · exfalso; omega
    · have q3 : l.toInt < 0 ∨ (hp.1 43 26).toInt ≤ l.toInt ∨ g.toInt < 1 ∨ 20000 < g.toInt ∨ (hp.1 60 l.toInt.toNat).toInt < g.toInt ∨ 60 ≤ (hp.1 43 30).toInt := q2
      exfalso; omega
  · refine h _ _ _ (fun KM hK => ?_)
    have hz7 := nI_toInt (n := z.2) (by omega)
    have eg : (hp.1 2 l.toInt.toNat - g).toInt = (hp.1 2 l.toInt.toNat).toInt - g.toInt := ia_sub2 rfl rfl (by have := ia_bd g; have := b12 l.toInt.toNat (by omega); omega) (by have := ia_bd (hp.1 2 l.toInt.toNat); omega)
    refine c_X10_roast (d := 2044) (hp := (WX (sR (sI hp 2 l.toInt.toNat (hp.1 2 l.toInt.toNat - g)) 15 (RO (hp.1 15) (lossX s0) g mi s0)) 37 z)) (s0 := s0) (ho := ho) (ln := lnL ls) rfl rfl r1 r2 hm.1 hm.2 hcv eR.symm (show 0 ≤ (hp.1 43 26).toInt ∧ (hp.1 43 26).toInt ≤ 12 from by omega) (show 0 ≤ (hp.1 43 30).toInt ∧ (hp.1 43 30).toInt ≤ 60 from by omega) (fun q2 q3 kn pl => ?_) (fun q2 q3 kn pl => ?_) (fun q2 => ?_)
    · exfalso; omega
    · exact hK _ ⟨⟨l1, l2, show va_up (hp.1 2) l.toInt.toNat (hp.1 2 l.toInt.toNat - g) = va_up (hp.1 60) l.toInt.toNat (hp.1 60 l.toInt.toNat - g) from by rw [l3], l4, l5, l6⟩, h_now, h_cur, h_tap, ⟨⟨ls, ho, r1, r2, r3, r4, r5⟩, r6, (show 0 ≤ (nI z.2).toInt ∧ (nI z.2).toInt ≤ 16 from by omega)⟩, ⟨rfl, fun _ => ⟨rfl, rfl, rfl, rfl, rfl⟩⟩, ⟨b1, b2, b3, b4, b5, b6, b7, b8, b9, b10, b11, (fun j hj => upP (P := fun j y => j < 12 → 0 ≤ y.toInt ∧ colS (hp.1 22) j 60 + y.toInt ≤ 100000) (fun hj2 => by have := b12 _ hj2; omega) (fun k _ hk => b12 k hk) j hj), b13, b14, b15, b16⟩, h_cup, h_spa, h_bes, h_kee, h_wor⟩
    · have q3 : l.toInt < 0 ∨ (hp.1 43 26).toInt ≤ l.toInt ∨ g.toInt < 1 ∨ 20000 < g.toInt ∨ (hp.1 60 l.toInt.toNat).toInt < g.toInt ∨ 60 ≤ (hp.1 43 30).toInt := q2
      exfalso; omega
  · refine h _ _ _ (fun KM hK => ?_)
    refine c_X10_roast (d := 2044) (hp := hp) (s0 := s0) (ho := ho) (ln := lnL ls) rfl rfl r1 r2 hm.1 hm.2 hcv eR.symm (by omega) (by omega) (fun q2 q3 kn pl => ?_) (fun q2 q3 kn pl => ?_) (fun q2 => ?_)
    · exfalso; omega
    · exfalso; omega
    · exact hK _ hR0
theorem pr_roast_true {l g : Int32} (hR : Rel true hp) : prP mX9_roast mX10_roast [.ref 0, .int l, .int g] [.ref 43, .int l, .int g] true xs hp := by
  have hR0 := rel_0 hR
  obtain ⟨h_lot, h_now, h_cur, h_tap, h_rul, h_roa, h_bag, h_cup, h_spa, h_bes, h_kee, h_wor⟩ := hR
  obtain ⟨b1, b2, b3, b4, b5, b6, b7, b8, b9, b10, b11, b12, b13, b14, b15, b16⟩ := h_bag
  obtain ⟨l1, l2, l3, l4, l5, l6⟩ := h_lot
  obtain ⟨⟨ls, ho, r1, r2, r3, r4, r5⟩, r6, r7⟩ := id h_rul
  have eL : (hp.1 43 26).toInt = (hp.1 1 0).toInt := by rw [l1]
  have eB : (hp.1 43 30).toInt = (hp.1 17 0).toInt := by rw [b1]
  have eG : (hp.1 60 l.toInt.toNat).toInt = (hp.1 2 l.toInt.toNat).toInt := by rw [l3]
  have hx := roX_hyp r3 r5
  have hm := roM_hyp r2 r4 r5
  have eR : roX hp 9 g = roM hp ho (lnL ls) g := ro_eq r2 r3 r4 r5 (fun k _ => congrFun h_cur.1 k)
  have hs1 := mn_bd (G := gX hp 9 g) (tw := hp.1 16) 20 0 s_0 (by decide) (by decide) (by omega)
  obtain ⟨s0, hs0⟩ : ∃ s, roX hp 9 g = s := ⟨_, rfl⟩
  have hs : (0 ≤ s0.1.toInt ∧ s0.1.toInt ≤ 400) ∧ 0 ≤ s0.2.2.1.toInt ∧ s0.2.2.1.toInt ≤ 20 := by rw [← hs0]; exact hs1
  rw [hs0] at eR
  have hlo := loss_bd (s := s0) hs.1 hs.2
  have hcv : ∀ i, i < 20 → 0 ≤ (hp.1 66 i).toInt ∧ (hp.1 66 i).toInt ≤ 400 := fun i _ => by rw [← h_cur.1]; exact h_cur.2 i
  intro K h
  refine c_X9_roast_9 (d := 2042) rfl rfl hs0 l2 b2.1 hx.1 hx.2.1 hx.2.2 r6 (fun q q1 mi z hz => ?_) (fun q q1 mi z hz => ?_) (fun q => ?_)
  · refine h _ _ _ (fun KM hK => ?_)
    have hz7 := nI_toInt (n := z.2) (by omega)
    have ho0 := out_bd (g := g) ⟨q.2.2.1, q.2.2.2.1⟩ hlo
    have eg : (hp.1 2 l.toInt.toNat - g).toInt = (hp.1 2 l.toInt.toNat).toInt - g.toInt := ia_sub2 rfl rfl (by have := ia_bd g; have := b12 l.toInt.toNat (by omega); omega) (by have := ia_bd (hp.1 2 l.toInt.toNat); omega)
    have ea : (hp.1 17 0 + 1).toInt = (hp.1 17 0).toInt + 1 := ia_add2 rfl (by decide : (1 : Int32).toInt = 1) (by omega) (by omega)
    have eIx : (((hp.1 17 0).toInt * 12) + l.toInt).toNat = 12 * (hp.1 17 0).toInt.toNat + l.toInt.toNat := by omega
    refine c_X10_roast (d := 2044) (hp := (sI (sI (sI (sI (sI (WX (sR (sI hp 2 l.toInt.toNat (hp.1 2 l.toInt.toNat - g)) 15 (RO (hp.1 15) (lossX s0) g mi s0)) 9 z) 19 (hp.1 17 0).toInt.toNat (hp.1 0 9)) 20 (hp.1 17 0).toInt.toNat (-1)) 17 0 (hp.1 17 0 + 1)) 18 (hp.1 17 0).toInt.toNat (outX g (lossX s0))) 22 (((hp.1 17 0).toInt * 12) + l.toInt).toNat (outX g (lossX s0)))) (s0 := s0) (ho := ho) (ln := lnL ls) rfl rfl r1 r2 hm.1 hm.2 hcv eR.symm (show 0 ≤ (hp.1 43 26).toInt ∧ (hp.1 43 26).toInt ≤ 12 from by omega) (show 0 ≤ (hp.1 43 30).toInt ∧ (hp.1 43 30).toInt ≤ 60 from by omega) (fun q2 q3 kn pl => ?_) (fun q2 q3 kn pl => ?_) (fun q2 => ?_)
    · refine kq (show hp.1 43 30 = hp.1 17 0 from b1.symm) (hK _ ?_)
      generalize hoX : outX g (lossX s0) = o at *
      exact ⟨⟨l1, l2, show va_up (hp.1 2) l.toInt.toNat (hp.1 2 l.toInt.toNat - g) = va_up (hp.1 60) l.toInt.toNat (hp.1 60 l.toInt.toNat - g) from by rw [l3], l4, l5, l6⟩, h_now, h_cur, h_tap, ⟨⟨ls, ho, r1, r2, r3, r4, r5⟩, (show 0 ≤ (nI z.2).toInt ∧ (nI z.2).toInt ≤ 16 from by omega), r7⟩, ⟨rfl, fun _ => ⟨rfl, rfl, rfl, rfl, rfl⟩⟩, ⟨(show hp.1 17 0 + 1 = hp.1 43 30 + 1 from by rw [b1]), (show 0 ≤ (hp.1 17 0 + 1).toInt ∧ (hp.1 17 0 + 1).toInt ≤ 60 from by omega), b3, (show va_up (hp.1 19) (hp.1 17 0).toInt.toNat (hp.1 0 9) = va_up (hp.1 64) (hp.1 43 30).toInt.toNat (hp.1 43 25) from by rw [b4, eB, h_now.1]), (show va_up (hp.1 20) (hp.1 17 0).toInt.toNat (-1) = va_up (hp.1 65) (hp.1 43 30).toInt.toNat (-1) from by rw [b5, eB]), b6, (show va_up (hp.1 22) (((hp.1 17 0).toInt * 12) + l.toInt).toNat o = va_up (clr (hp.1 63) (hp.1 43 30).toInt 12) (12 * (hp.1 43 30).toInt + l.toInt).toNat o from by rw [eB, clr_id b2.1 (fun j hj => by rw [← b7]; exact b10 _ j (by omega) hj) 12 (Nat.le_refl _), b7, Int.mul_comm]), (fun k hk => (show va_up (hp.1 18) (hp.1 17 0).toInt.toNat o k = rowI (va_up (hp.1 22) (((hp.1 17 0).toInt * 12) + l.toInt).toNat o) k from by rw [eIx]; exact upP (P := fun k y => k < 60 → y = rowI (va_up (hp.1 22) (12 * (hp.1 17 0).toInt.toNat + l.toInt.toNat) o) k) (fun _ => (row_eq (by omega) (fun j hj => b10 _ j (by omega) hj)).symm) (fun k2 hk2 hk3 => (b8 k2 hk3).trans (row_ne hk2 (by omega)).symm) k hk)), (upP (P := fun _ y => 0 ≤ y.toInt) (by omega) (fun k _ => b9 k)), (fun k j h1 h2 => (show va_up (hp.1 22) (((hp.1 17 0).toInt * 12) + l.toInt).toNat o (12 * k + j) = 0 from by have h3 : (hp.1 17 0 + 1).toInt ≤ (k : Int) := h1; rw [eIx, up_ne (by omega)]; exact b10 k j (by omega) h2)), (fun k j h1 h2 => (show va_up (hp.1 22) (((hp.1 17 0).toInt * 12) + l.toInt).toNat o (12 * k + j) = 0 from by have h3 : (hp.1 1 0).toInt ≤ (j : Int) := h1; rw [eIx, up_ne (by omega)]; exact b11 k j h1 h2)), (fun j hj => (show 0 ≤ (va_up (hp.1 2) l.toInt.toNat (hp.1 2 l.toInt.toNat - g) j).toInt ∧ colS (va_up (hp.1 22) (((hp.1 17 0).toInt * 12) + l.toInt).toNat o) j 60 + (va_up (hp.1 2) l.toInt.toNat (hp.1 2 l.toInt.toNat - g) j).toInt ≤ 100000 from by rw [eIx]; exact upP (P := fun j y => j < 12 → 0 ≤ y.toInt ∧ colS (va_up (hp.1 22) (12 * (hp.1 17 0).toInt.toNat + l.toInt.toNat) o) j 60 + y.toInt ≤ 100000) (fun hj2 => by rw [colS_eq hj2, if_pos (by omega), b10 _ _ (by omega) hj2]; have := b12 _ hj2; have e0 : (0 : Int32).toInt = 0 := (by decide); omega) (fun k hk hk2 => by rw [colS_ne hk hk2 (by omega)]; exact b12 k hk2) j hj)), (fun k hk => (show 0 ≤ (hp.1 21 k).toInt ∧ (hp.1 21 k).toInt ≤ (va_up (hp.1 18) (hp.1 17 0).toInt.toNat o k).toInt ∧ (0 < (hp.1 21 k).toInt → (k : Int) < (hp.1 17 0 + 1).toInt) from upP (P := fun k y => k < 60 → 0 ≤ (hp.1 21 k).toInt ∧ (hp.1 21 k).toInt ≤ y.toInt ∧ (0 < (hp.1 21 k).toInt → (k : Int) < (hp.1 17 0 + 1).toInt)) (fun hk2 => by have := b13 _ hk2; omega) (fun k2 _ hk3 => by have := b13 k2 hk3; omega) k hk)), b14, (up_bd b15 h_now.2), (up_bd b16 (by decide))⟩, h_cup, h_spa, h_bes, h_kee, h_wor⟩
    · exfalso; omega
    · have q3 : l.toInt < 0 ∨ (hp.1 43 26).toInt ≤ l.toInt ∨ g.toInt < 1 ∨ 20000 < g.toInt ∨ (hp.1 60 l.toInt.toNat).toInt < g.toInt ∨ 60 ≤ (hp.1 43 30).toInt := q2
      exfalso; omega
  · refine h _ _ _ (fun KM hK => ?_)
    have hz7 := nI_toInt (n := z.2) (by omega)
    have eg : (hp.1 2 l.toInt.toNat - g).toInt = (hp.1 2 l.toInt.toNat).toInt - g.toInt := ia_sub2 rfl rfl (by have := ia_bd g; have := b12 l.toInt.toNat (by omega); omega) (by have := ia_bd (hp.1 2 l.toInt.toNat); omega)
    refine c_X10_roast (d := 2044) (hp := (WX (sR (sI hp 2 l.toInt.toNat (hp.1 2 l.toInt.toNat - g)) 15 (RO (hp.1 15) (lossX s0) g mi s0)) 9 z)) (s0 := s0) (ho := ho) (ln := lnL ls) rfl rfl r1 r2 hm.1 hm.2 hcv eR.symm (show 0 ≤ (hp.1 43 26).toInt ∧ (hp.1 43 26).toInt ≤ 12 from by omega) (show 0 ≤ (hp.1 43 30).toInt ∧ (hp.1 43 30).toInt ≤ 60 from by omega) (fun q2 q3 kn pl => ?_) (fun q2 q3 kn pl => ?_) (fun q2 => ?_)
    · exfalso; omega
    · exact hK _ ⟨⟨l1, l2, show va_up (hp.1 2) l.toInt.toNat (hp.1 2 l.toInt.toNat - g) = va_up (hp.1 60) l.toInt.toNat (hp.1 60 l.toInt.toNat - g) from by rw [l3], l4, l5, l6⟩, h_now, h_cur, h_tap, ⟨⟨ls, ho, r1, r2, r3, r4, r5⟩, (show 0 ≤ (nI z.2).toInt ∧ (nI z.2).toInt ≤ 16 from by omega), r7⟩, ⟨rfl, fun _ => ⟨rfl, rfl, rfl, rfl, rfl⟩⟩, ⟨b1, b2, b3, b4, b5, b6, b7, b8, b9, b10, b11, (fun j hj => upP (P := fun j y => j < 12 → 0 ≤ y.toInt ∧ colS (hp.1 22) j 60 + y.toInt ≤ 100000) (fun hj2 => by have := b12 _ hj2; omega) (fun k _ hk => b12 k hk) j hj), b13, b14, b15, b16⟩, h_cup, h_spa, h_bes, h_kee, h_wor⟩
    · have q3 : l.toInt < 0 ∨ (hp.1 43 26).toInt ≤ l.toInt ∨ g.toInt < 1 ∨ 20000 < g.toInt ∨ (hp.1 60 l.toInt.toNat).toInt < g.toInt ∨ 60 ≤ (hp.1 43 30).toInt := q2
      exfalso; omega
  · refine h _ _ _ (fun KM hK => ?_)
    refine c_X10_roast (d := 2044) (hp := hp) (s0 := s0) (ho := ho) (ln := lnL ls) rfl rfl r1 r2 hm.1 hm.2 hcv eR.symm (by omega) (by omega) (fun q2 q3 kn pl => ?_) (fun q2 q3 kn pl => ?_) (fun q2 => ?_)
    · exfalso; omega
    · exfalso; omega
    · exact hK _ hR0
theorem pr_roast {b : Bool} {l g : Int32} (hR : Rel b hp) : prP mX9_roast mX10_roast [.ref 0, .int l, .int g] [.ref 43, .int l, .int g] b xs hp := by
  cases b with
  | false => exact pr_roast_false hR
  | true => exact pr_roast_true hR
end S53
