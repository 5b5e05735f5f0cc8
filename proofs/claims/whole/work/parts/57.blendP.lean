/-! the pair of blend -/
def okc (c : Nat) : Bool := !([17, 18, 19, 20, 21, 22, 23, 24, 43, 63, 64, 65, 67, 68].contains c)
theorem rel_bl {b : Bool} {hp H : hp_T} (hR : Rel b hp) (o : ∀ c, okc c = true → H.1 c = hp.1 c) (o43 : ∀ i, i ≠ 0 → i ≠ 30 → i ≠ 44 → H.1 43 i = hp.1 43 i) (o2 : H.2 = hp.2) (hG : gBag H) : Rel b H := by
  obtain ⟨h_lot, h_now, h_cur, h_tap, h_rul, h_roa, h_bag, h_cup, h_spa, h_bes, h_kee, h_wor⟩ := hR
  exact ⟨(show gLot H from by unfold gLot; rw [o 1 rfl, o 2 rfl, o 60 rfl, o 3 rfl, o 61 rfl, o 4 rfl, o 62 rfl, o43 26 (by decide) (by decide) (by decide)]; exact h_lot), (show gNow H from by unfold gNow; rw [o 0 rfl, o43 25 (by decide) (by decide) (by decide)]; exact h_now), (show gCur H from by unfold gCur; rw [o 16 rfl, o 66 rfl]; exact h_cur), (show gTap H from by unfold gTap; rw [o 6 rfl, o 44 rfl, o 5 rfl, o43 2 (by decide) (by decide) (by decide)]; exact h_tap), rul_k h_rul (congrFun (o 9 rfl) 0) (congrFun (o 9 rfl) 7) (congrFun (o 37 rfl) 0) (congrFun (o 37 rfl) 7) (o 10 rfl) (o 11 rfl) (o 12 rfl) (o 13 rfl) (o 38 rfl) (o 39 rfl) (o 40 rfl) (o 41 rfl) (o 49 rfl) (o 50 rfl) (o 51 rfl) (o 52 rfl) (o 53 rfl) (o 54 rfl) (o43 16 (by decide) (by decide) (by decide)), (show gRoa H from by unfold gRoa; rw [o 15 rfl, o43 35 (by decide) (by decide) (by decide), o43 36 (by decide) (by decide) (by decide), o43 37 (by decide) (by decide) (by decide), o43 41 (by decide) (by decide) (by decide), o43 42 (by decide) (by decide) (by decide), o43 43 (by decide) (by decide) (by decide)]; exact h_roa), hG, (show gCup H from by unfold gCup; rw [o 26 rfl, o 69 rfl, o 27 rfl, o 70 rfl]; exact h_cup), (show gSpa H from by unfold gSpa; rw [o 30 rfl, o 71 rfl, o 31 rfl, o 72 rfl]; exact h_spa), (show gBes H from by unfold gBes; rw [o 28 rfl, o 29 rfl, o 75 rfl, o43 56 (by decide) (by decide) (by decide)]; exact h_bes), (show gKee H from by unfold gKee; rw [o 36 rfl, o 76 rfl]; exact h_kee), (show gWor H from by unfold gWor; rw [o2]; exact h_wor)⟩
theorem cz_0 {p : Nat → Bool} : ∀ n : Nat, (∀ j, j < n → p j = false) → cz p n = 0
  | 0, _ => rfl
  | n + 1, h => by rw [cz_f (h n (by omega)), cz_0 n (fun j hj => h j (by omega))]
section S57
variable {hp : hp_T} {b : Bool} {xs : sh_T}
theorem gBag_bl {H : hp_T} (h_bag : gBag hp) {z : Nat} (hz : z < 60) (eZ : (hp.1 17 0).toInt = (z : Int)) (h1 : (hp.1 17 1).toInt ≠ 0) (e1 : H.1 1 = hp.1 1) (e2 : H.1 2 = hp.1 2) (e17 : H.1 17 0 = hp.1 17 0 + 1) (e17b : H.1 17 1 = 0) (e43 : H.1 43 30 = hp.1 43 30 + 1) (e43b : H.1 43 44 = 0) (e18 : ∀ j, j < 60 → H.1 18 j = rowI (blP (hp.1 21) (hp.1 22) z z) j) (e19 : H.1 19 = va_up (hp.1 19) z (dyX (hp.1 21) (hp.1 19) z)) (e64 : H.1 64 = va_up (hp.1 64) z (dyM (hp.1 67) (hp.1 64) z)) (e20 : H.1 20 = va_up (hp.1 20) z (-1)) (e65 : H.1 65 = va_up (hp.1 65) z (-1)) (e21 : H.1 21 = tdP (hp.1 21) z) (e67 : H.1 67 = tdP (hp.1 67) z) (e22 : H.1 22 = blP (hp.1 21) (hp.1 22) z z) (e63 : H.1 63 = blP (hp.1 67) (hp.1 63) z z) (hB : okB (hp.1 21) (hp.1 22) z) : gBag H := by
  obtain ⟨b1, b2, b3, b4, b5, b6, b7, b8, b9, b10, b11, b12, b13, b14, b15, b16⟩ := h_bag
  have hin := blP_in hB z (Nat.le_refl z)
  have hrow : ∀ k, k < 60 → 0 ≤ (rowI (blP (hp.1 21) (hp.1 22) z z) k).toInt := fun k hk => by
    have h2 := sT_bd (f := fun l => blP (hp.1 21) (hp.1 22) z z (12 * k + l)) 12 (Nat.le_refl _) (fun i hi => by
      have a := (colS_ge (k := k) (l := i) hin.1 60).2 hk
      have c := hB.2.2.1 i hi
      rw [hin.2.1 i hi] at a
      exact ⟨hin.1 _, by omega⟩)
    have h3 : (rowI (blP (hp.1 21) (hp.1 22) z z) k).toInt = sT (fun l => blP (hp.1 21) (hp.1 22) z z (12 * k + l)) 12 := h2.1
    omega
  have ht : ∀ k, k < 60 → tdP (hp.1 21) z k = 0 := fun k hk => by
    have a := b13 k hk
    simp only [tdP]
    by_cases c : 0 < (hp.1 21 k).toInt
    · rw [if_pos ⟨by omega, c⟩]
    · rw [if_neg (fun q => c q.2)]
      exact (ia_eq _ _).mpr (by have e0 : (0 : Int32).toInt = 0 := (by decide); omega)
  have e0 : (0 : Int32).toInt = 0 := by decide
  have hdy : dyX (hp.1 21) (hp.1 19) z = dyM (hp.1 21) (hp.1 19) z ∧ 0 ≤ (dyX (hp.1 21) (hp.1 19) z).toInt ∧ (dyX (hp.1 21) (hp.1 19) z).toInt ≤ 999 := by
    rcases dy_eq (T0 := hp.1 21) (D0 := hp.1 19) b15 z with q | q
    · exfalso
      have hc := cz_bd (fun k => decide (0 < (hp.1 21 k).toInt)) 60
      obtain ⟨i, hi, hi2⟩ := cz_ex 60 (show 1 ≤ cz (fun k => decide (0 < (hp.1 21 k).toInt)) 60 by omega)
      have hi3 : 0 < (hp.1 21 i).toInt := of_decide_eq_true hi2
      have hi4 := (b13 i hi).2.2 hi3
      have hi5 := q.2.2 i (by omega)
      omega
    · exact q
  have ea : (hp.1 17 0 + 1).toInt = (hp.1 17 0).toInt + 1 := ia_add2 rfl (by decide : (1 : Int32).toInt = 1) (by omega) (by omega)
  refine ⟨by rw [e17, e43, b1], by rw [e17]; omega, by rw [e17b, e43b], ?_, by rw [e20, e65, b5], by rw [e21, e67, b6], by rw [e22, e63, b6, b7], ?_, ?_, ?_, ?_, ?_, ?_, ?_, ?_, ?_⟩
  · rw [e19, e64, hdy.1, b4, b6]
  · intro k hk
    rw [e18 k hk, e22]
  · rw [e22]; exact hin.1
  · intro k l h3 h4
    rw [e17] at h3
    rw [e22, hin.2.2.1 k l (by omega) (by omega) h4]
    exact b10 k l (by omega) h4
  · intro k l h3 h4
    rw [e1] at h3
    rw [e22]
    exact hin.2.2.2 l h4 (fun j => b11 j l h3 h4) k
  · intro l hl
    rw [e22, e2, hin.2.1 l hl]
    exact b12 l hl
  · intro k hk
    rw [e18 k hk, e21, ht k hk, e0]
    exact ⟨Int.le_refl _, hrow k hk, fun q => absurd q (Int.lt_irrefl 0)⟩
  · rw [e17b, e21, cz_0 60 (fun j hj => by rw [ht j hj]; decide), e0]
  · rw [e19]; exact up_bd b15 hdy.2
  · rw [e20]; exact up_bd b16 (by decide)
theorem pr_blend (hR : Rel b hp) : prP mX9_blend mX10_blend [.ref 0] [.ref 43] b xs hp := by
  have hR0 := rel_0 hR
  have hR1 := hR
  obtain ⟨h_lot, h_now, h_cur, h_tap, h_rul, h_roa, h_bag, h_cup, h_spa, h_bes, h_kee, h_wor⟩ := hR
  have h_bag2 := h_bag
  obtain ⟨b1, b2, b3, b4, b5, b6, b7, b8, b9, b10, b11, b12, b13, b14, b15, b16⟩ := h_bag
  obtain ⟨z, eZ⟩ : ∃ z : Nat, (hp.1 17 0).toInt = (z : Int) := ⟨(hp.1 17 0).toInt.toNat, by omega⟩
  have eM : (hp.1 43 30).toInt = (z : Int) := by rw [← b1]; exact eZ
  have hB : (hp.1 17 0).toInt < 60 → okB (hp.1 21) (hp.1 22) z := fun q => ⟨by omega, b9, fun l hl => by have := b12 l hl; omega, fun k hk => by rw [← b8 k hk]; exact (b13 k hk).2.1⟩
  obtain ⟨H0, hH0⟩ : ∃ h, sI (sI (sI hp 19 z 999) 20 z (-1)) 17 0 (hp.1 17 0 + 1) = h := ⟨_, rfl⟩
  have a21 : H0.1 21 = hp.1 21 := by rw [← hH0]; rfl
  have a22 : H0.1 22 = hp.1 22 := by rw [← hH0]; rfl
  have a18 : ∀ j, j < 60 → H0.1 18 j = rowI (hp.1 22) j := fun j hj => by rw [← hH0]; exact b8 j hj
  have a19 : H0.1 19 = va_up (hp.1 19) z 999 := by rw [← hH0]; rfl
  have fx := fun q => blX_is (hB q) a21 a22 a18 a19
  have hgX : (hp.1 17 0).toInt < 60 → ∀ k : Nat, (k : Int) < (z : Int) → 0 < ((blX H0 (z : Int) k).1 21 k).toInt → 1 ≤ ((blX H0 (z : Int) k).1 18 k).toInt := fun q k hk hp0 => by
    obtain ⟨i1, i2, i3, i4, i5, i6⟩ := fx q k (by omega)
    rw [i2, td_k] at hp0
    have := inB_f (hB q) (blP_in (hB q) k (by omega)) (by omega) hp0
    rw [i3 k (by omega)]
    omega
  intro K h
  refine c_X9_blend (b := b) (d := 2043) b2.1 (by rw [eZ, Int.toNat_natCast, hH0]; exact eZ ▸ hgX) (fun q => ?_) (fun q => ?_)
  · rw [eZ, Int.toNat_natCast, hH0]
    have hz : z < 60 := by omega
    obtain ⟨i1, i2, i3, i4, i5, i6⟩ := fx q.2 z (Nat.le_refl z)
    generalize blX H0 (z : Int) z = hX at i1 i2 i3 i4 i5 i6
    have xo : ∀ c, c ≠ 17 → c ≠ 18 → c ≠ 19 → c ≠ 20 → c ≠ 21 → c ≠ 22 → c ≠ 23 → c ≠ 24 → (sI hX 17 1 0).1 c = hp.1 c := fun c c0 c1 c2 c3 c4 c5 c6 c7 => by
      rw [show (sI hX 17 1 0).1 c = hX.1 c by simp [sI, va_up, c0], i5 c c1 c2 c4 c5 c6 c7, ← hH0]
      simp [sI, va_up, c0, c2, c3]
    have x17 : (sI hX 17 1 0).1 17 0 = hp.1 17 0 + 1 := by
      rw [show (sI hX 17 1 0).1 17 0 = hX.1 17 0 by simp [sI, va_up], i5 17 (by decide) (by decide) (by decide) (by decide) (by decide) (by decide), ← hH0]
      simp [sI, va_up]
    have x17b : (sI hX 17 1 0).1 17 1 = 0 := by simp [sI, va_up]
    have x20 : (sI hX 17 1 0).1 20 = va_up (hp.1 20) z (-1) := by
      rw [show (sI hX 17 1 0).1 20 = hX.1 20 by simp [sI, va_up], i5 20 (by decide) (by decide) (by decide) (by decide) (by decide) (by decide), ← hH0]
      rfl
    have x22 : (sI hX 17 1 0).1 22 = blP (hp.1 21) (hp.1 22) z z := i1
    have x21 : (sI hX 17 1 0).1 21 = tdP (hp.1 21) z := i2
    have x18 : ∀ j, j < 60 → (sI hX 17 1 0).1 18 j = rowI (blP (hp.1 21) (hp.1 22) z z) j := i3
    have x19 : (sI hX 17 1 0).1 19 = va_up (hp.1 19) z (dyX (hp.1 21) (hp.1 19) z) := i4
    have x2 : (sI hX 17 1 0).2 = hp.2 := by rw [show (sI hX 17 1 0).2 = hX.2 from rfl, i6, ← hH0]; rfl
    generalize sI hX 17 1 0 = HX at xo x17 x17b x18 x19 x20 x21 x22 x2
    clear i1 i2 i3 i4 i5 i6
    have x43 : HX.1 43 = hp.1 43 := xo 43 (by decide) (by decide) (by decide) (by decide) (by decide) (by decide) (by decide) (by decide)
    have x63 : HX.1 63 = hp.1 63 := xo 63 (by decide) (by decide) (by decide) (by decide) (by decide) (by decide) (by decide) (by decide)
    have x64 : HX.1 64 = hp.1 64 := xo 64 (by decide) (by decide) (by decide) (by decide) (by decide) (by decide) (by decide) (by decide)
    have x65 : HX.1 65 = hp.1 65 := xo 65 (by decide) (by decide) (by decide) (by decide) (by decide) (by decide) (by decide) (by decide)
    have x67 : HX.1 67 = hp.1 67 := xo 67 (by decide) (by decide) (by decide) (by decide) (by decide) (by decide) (by decide) (by decide)
    have eZM : (HX.1 43 30).toInt = (z : Int) := by rw [x43]; exact eM
    refine h _ _ _ (fun KM hK => ?_)
    obtain ⟨HN, hHN⟩ : ∃ h, nbM (sI HX 43 0 0) (dyM (HX.1 67) (HX.1 64) z) = h := ⟨_, rfl⟩
    have m63 : HN.1 63 = hp.1 63 := by
      rw [← hHN, show (nbM (sI HX 43 0 0) (dyM (HX.1 67) (HX.1 64) z)).1 63 = clr (HX.1 63) (HX.1 43 30).toInt 12 from rfl, x63, eZM]
      exact clr_id (by omega) (fun l hl => by rw [Int.toNat_natCast, ← b7]; exact b10 z l (by omega) hl) 12 (Nat.le_refl _)
    have m67 : HN.1 67 = hp.1 67 := by rw [← hHN, ← x67]; rfl
    have m64 : HN.1 64 = va_up (hp.1 64) z (dyM (hp.1 67) (hp.1 64) z) := by
      rw [← hHN, show (nbM (sI HX 43 0 0) (dyM (HX.1 67) (HX.1 64) z)).1 64 = va_up (HX.1 64) (HX.1 43 30).toInt.toNat (dyM (HX.1 67) (HX.1 64) z) from rfl, eZM, Int.toNat_natCast, x64, x67]
    have m65 : HN.1 65 = va_up (hp.1 65) z (-1) := by
      rw [← hHN, show (nbM (sI HX 43 0 0) (dyM (HX.1 67) (HX.1 64) z)).1 65 = va_up (HX.1 65) (HX.1 43 30).toInt.toNat (-1) from rfl, eZM, Int.toNat_natCast, x65]
    have m43 : HN.1 43 = va_up (va_up (hp.1 43) 0 0) 30 (hp.1 43 30 + 1) := by
      rw [← hHN, show (nbM (sI HX 43 0 0) (dyM (HX.1 67) (HX.1 64) z)).1 43 = va_up (va_up (HX.1 43) 0 0) 30 (HX.1 43 30 + 1) from rfl, x43]
    have mo : ∀ c, c ≠ 43 → c ≠ 63 → c ≠ 64 → c ≠ 65 → HN.1 c = HX.1 c := fun c c1 c2 c3 c4 => by
      rw [← hHN]
      simp [nbM, sI, sR, va_up, c1, c2, c3, c4]
    have m2 : HN.2 = HX.2 := by rw [← hHN]; rfl
    have hBM : okB (hp.1 67) (hp.1 63) z := by rw [← b6, ← b7]; exact hB q.2
    have fm := blM_is hBM m67 m63
    refine c_X10_blend (b := b) (d := 2045) (hp := HX) (by omega) (fun _ => ?_) (fun q2 => ?_) (fun q2 => ?_)
    · rw [eZM, Int.toNat_natCast, hHN]
      intro k hk hp0
      obtain ⟨i1, i2, i5, i6⟩ := fm k (by omega)
      rw [i2, td_k] at hp0
      have := inB_f hBM (blP_in hBM k (by omega)) (by omega) hp0
      rw [i1, row_i (by omega), Int.toNat_natCast]
      omega
    · rw [eZM, Int.toNat_natCast, hHN]
      obtain ⟨j1, j2, j5, j6⟩ := fm z (Nat.le_refl z)
      generalize blM HN (z : Int) z = hM at j1 j2 j5 j6
      refine kq (show HX.1 43 30 + 1 - 1 = hp.1 17 0 from by rw [x43, Int32.add_sub_cancel, b1]) (hK _ ?_)
      have y43 : (sI hM 43 44 0).1 43 = va_up (va_up (va_up (hp.1 43) 0 0) 30 (hp.1 43 30 + 1)) 44 0 := by
        rw [show (sI hM 43 44 0).1 43 = va_up (hM.1 43) 44 0 from rfl, j5 43 (by decide) (by decide) (by decide), m43]
      have yo : ∀ c, c ≠ 43 → c ≠ 63 → c ≠ 67 → c ≠ 68 → (sI hM 43 44 0).1 c = HN.1 c := fun c c1 c2 c3 c4 => by
        rw [show (sI hM 43 44 0).1 c = hM.1 c by simp [sI, va_up, c1], j5 c c2 c3 c4]
      have y63 : (sI hM 43 44 0).1 63 = blP (hp.1 67) (hp.1 63) z z := j1
      have y67 : (sI hM 43 44 0).1 67 = tdP (hp.1 67) z := j2
      have y2 : (sI hM 43 44 0).2 = hp.2 := by rw [show (sI hM 43 44 0).2 = hM.2 from rfl, j6, m2, x2]
      generalize sI hM 43 44 0 = HM at y43 yo y63 y67 y2
      clear j1 j2 j5 j6
      have yx : ∀ c, c ≠ 43 → c ≠ 63 → c ≠ 64 → c ≠ 65 → c ≠ 67 → c ≠ 68 → HM.1 c = HX.1 c := fun c c1 c2 c3 c4 c5 c6 => (yo c c1 c2 c5 c6).trans (mo c c1 c2 c3 c4)
      have x8 : ∀ c, c = 17 ∨ c = 18 ∨ c = 19 ∨ c = 20 ∨ c = 21 ∨ c = 22 → HM.1 c = HX.1 c := fun c q => yx c (by omega) (by omega) (by omega) (by omega) (by omega) (by omega)
      have oo : ∀ c, okc c = true → HM.1 c = hp.1 c := fun c q => by
        have q2 : ¬ (c = 17 ∨ c = 18 ∨ c = 19 ∨ c = 20 ∨ c = 21 ∨ c = 22 ∨ c = 23 ∨ c = 24 ∨ c = 43 ∨ c = 63 ∨ c = 64 ∨ c = 65 ∨ c = 67 ∨ c = 68) := by simpa [okc] using q
        exact (yx c (by omega) (by omega) (by omega) (by omega) (by omega) (by omega)).trans (xo c (by omega) (by omega) (by omega) (by omega) (by omega) (by omega) (by omega) (by omega))
      refine rel_bl hR1 oo (fun i i1 i2 i3 => ?_) y2 (gBag_bl h_bag2 hz eZ q.1 (oo 1 rfl) (oo 2 rfl) ?_ ?_ ?_ ?_ ?_ ?_ ?_ ?_ ?_ ?_ y67 ?_ y63 (hB q.2))
      · rw [y43, up_ne i3, up_ne i2, up_ne i1]
      · rw [x8 17 (by omega)]; exact x17
      · rw [x8 17 (by omega)]; exact x17b
      · rw [y43]; simp [va_up]
      · rw [y43]; simp [va_up]
      · rw [x8 18 (by omega)]; exact x18
      · rw [x8 19 (by omega)]; exact x19
      · rw [yo 64 (by decide) (by decide) (by decide) (by decide)]; exact m64
      · rw [x8 20 (by omega)]; exact x20
      · rw [yo 65 (by decide) (by decide) (by decide) (by decide)]; exact m65
      · rw [x8 21 (by omega)]; exact x21
      · rw [x8 22 (by omega)]; exact x22
    · exfalso
      have q3 : (hp.1 17 1).toInt = (HX.1 43 44).toInt := by rw [x43, b3]
      omega
  · refine h _ _ _ (fun KM hK => ?_)
    refine c_X10_blend (b := b) (d := 2045) (hp := hp) (by omega) (fun q0 => ?_) (fun q2 => ?_) (fun q2 => ?_)
    · rw [eM, Int.toNat_natCast]
      obtain ⟨HN, hHN⟩ : ∃ h, nbM (sI hp 43 0 0) (dyM (hp.1 67) (hp.1 64) z) = h := ⟨_, rfl⟩
      have m63 : HN.1 63 = hp.1 63 := by
        rw [← hHN, show (nbM (sI hp 43 0 0) (dyM (hp.1 67) (hp.1 64) z)).1 63 = clr (hp.1 63) (hp.1 43 30).toInt 12 from rfl, eM]
        exact clr_id (by omega) (fun l hl => by rw [Int.toNat_natCast, ← b7]; exact b10 z l (by omega) hl) 12 (Nat.le_refl _)
      have m67 : HN.1 67 = hp.1 67 := by rw [← hHN]; rfl
      have hBM : okB (hp.1 67) (hp.1 63) z := by rw [← b6, ← b7]; exact hB (by omega)
      have fm := blM_is hBM m67 m63
      rw [hHN]
      intro k hk hp0
      obtain ⟨i1, i2, i5, i6⟩ := fm k (by omega)
      rw [i2, td_k] at hp0
      have := inB_f hBM (blP_in hBM k (by omega)) (by omega) hp0
      rw [i1, row_i (by omega), Int.toNat_natCast]
      omega
    · exfalso
      have q3 : (hp.1 17 1).toInt = (hp.1 43 44).toInt := by rw [b3]
      omega
    · exact hK _ hR0
end S57
