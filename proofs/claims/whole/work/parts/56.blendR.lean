/-! the pair of blend: the runs -/
def tdP (T0 : Nat → Int32) (k : Nat) : Nat → Int32 := fun i => if i < k ∧ 0 < (T0 i).toInt then 0 else T0 i
def blP (T0 P0 : Nat → Int32) (z : Nat) : Nat → (Nat → Int32)
  | 0 => P0
  | k + 1 => if 0 < (T0 k).toInt then MV (blP T0 P0 z k) k z (cS (T0 k) (rowI (blP T0 P0 z k) k) (fun l => blP T0 P0 z k (12 * k + l))) else blP T0 P0 z k
def dyX (T0 D0 : Nat → Int32) : Nat → Int32
  | 0 => 999
  | k + 1 => if 0 < (T0 k).toInt then (if (dyX T0 D0 k).toInt ≤ (D0 k).toInt then dyX T0 D0 k else D0 k) else dyX T0 D0 k
theorem colS_ge {P : Nat → Int32} {l k : Nat} (h : ∀ j, 0 ≤ (P j).toInt) : ∀ n : Nat, 0 ≤ colS P l n ∧ (k < n → (P (12 * k + l)).toInt ≤ colS P l n)
  | 0 => by rw [colS]; exact ⟨Int.le_refl _, fun q => absurd q (Nat.not_lt_zero k)⟩
  | n + 1 => by
    rw [colS]
    have h1 := colS_ge (k := k) (l := l) h n
    have h2 := h (12 * n + l)
    refine ⟨by omega, fun q => ?_⟩
    by_cases e : k = n
    · rw [e]; omega
    · have := h1.2 (by omega)
      omega
theorem colS_MV {P s : Nat → Int32} {f t l : Nat} (hft : f ≠ t) (hl : l < 12) (e1 : (P (12 * f + l) - s l).toInt = (P (12 * f + l)).toInt - (s l).toInt) (e2 : (P (12 * t + l) + s l).toInt = (P (12 * t + l)).toInt + (s l).toInt) : ∀ n : Nat, colS (MV P f t s) l n = colS P l n - (if f < n then (s l).toInt else 0) + (if t < n then (s l).toInt else 0)
  | 0 => by simp [colS]
  | n + 1 => by
    rw [colS, colS, colS_MV hft hl e1 e2 n]
    by_cases c1 : n = f
    · subst c1
      rw [MV_f hl, e1, if_neg (Nat.lt_irrefl n), if_pos (show n < n + 1 by omega)]
      by_cases c : t < n
      · rw [if_pos c, if_pos (by omega)]; omega
      · rw [if_neg c, if_neg (by omega)]; omega
    · by_cases c2 : n = t
      · subst c2
        rw [MV_t hft hl, e2, if_neg (Nat.lt_irrefl n), if_pos (show n < n + 1 by omega)]
        by_cases c : f < n
        · rw [if_pos c, if_pos (by omega)]; omega
        · rw [if_neg c, if_neg (by omega)]; omega
      · rw [MV_n c1 c2 hl]
        by_cases c : f < n
        · rw [if_pos c, if_pos (show f < n + 1 by omega)]
          by_cases c3 : t < n
          · rw [if_pos c3, if_pos (by omega)]; omega
          · rw [if_neg c3, if_neg (by omega)]; omega
        · rw [if_neg c, if_neg (show ¬ f < n + 1 by omega)]
          by_cases c3 : t < n
          · rw [if_pos c3, if_pos (by omega)]; omega
          · rw [if_neg c3, if_neg (by omega)]; omega
theorem sumI_add {f g : Nat → Int32} : ∀ n : Nat, sumI (fun l => f l + g l) n = sumI f n + sumI g n
  | 0 => by rw [sumI, sumI, sumI]; decide
  | n + 1 => by
    rw [sumI, sumI, sumI, sumI_add n]
    ac_rfl
theorem sumI_sub {f g : Nat → Int32} (n : Nat) : sumI (fun l => f l - g l) n = sumI f n - sumI g n := by
  have h := sumI_add (f := fun l => f l - g l) (g := g) n
  rw [sumI_cg n (fun i _ => Int32.sub_add_cancel (f i) (g i)) (g := f)] at h
  rw [h, Int32.add_sub_cancel]
section S56
variable {T0 P0 D0 : Nat → Int32} {z : Nat}
def okB (T0 P0 : Nat → Int32) (z : Nat) : Prop := z < 60 ∧ (∀ j, 0 ≤ (P0 j).toInt) ∧ (∀ l, l < 12 → colS P0 l 60 ≤ 100000) ∧ ∀ k, k < 60 → (T0 k).toInt ≤ (rowI P0 k).toInt
def inB (T0 P0 : Nat → Int32) (z k : Nat) (P : Nat → Int32) : Prop := (∀ j, 0 ≤ (P j).toInt) ∧ (∀ l, l < 12 → colS P l 60 = colS P0 l 60) ∧ (∀ j l, k ≤ j → j ≠ z → l < 12 → P (12 * j + l) = P0 (12 * j + l)) ∧ ∀ l, l < 12 → (∀ j, P0 (12 * j + l) = 0) → ∀ j, P (12 * j + l) = 0
theorem inB_f {P : Nat → Int32} {k : Nat} (hB : okB T0 P0 z) (h : inB T0 P0 z k P) (hk : k < z) (hp : 0 < (T0 k).toInt) : (∀ j l, j < 60 → l < 12 → 0 ≤ (P (12 * j + l)).toInt ∧ (P (12 * j + l)).toInt ≤ 100000) ∧ (rowI P k).toInt = sT (fun l => P (12 * k + l)) 12 ∧ 1 ≤ (T0 k).toInt ∧ (T0 k).toInt ≤ (rowI P k).toInt := by
  have hz := hB.1
  have h1 : ∀ j l, j < 60 → l < 12 → 0 ≤ (P (12 * j + l)).toInt ∧ (P (12 * j + l)).toInt ≤ 100000 := fun j l hj hl => by
    have a := (colS_ge (k := j) (l := l) h.1 60).2 hj
    have b := hB.2.2.1 l hl
    rw [h.2.1 l hl] at a
    exact ⟨h.1 _, by omega⟩
  have e : rowI P k = rowI P0 k := sumI_cg 12 (fun i hi => h.2.2.1 k i (Nat.le_refl k) (by omega) hi)
  have h2 := sT_bd (f := fun l => P (12 * k + l)) 12 (Nat.le_refl _) (fun i hi => h1 k i (by omega) hi)
  refine ⟨h1, h2.1, by omega, ?_⟩
  rw [e]
  exact hB.2.2.2 k (by omega)
theorem inB_s {P : Nat → Int32} {k : Nat} (hB : okB T0 P0 z) (h : inB T0 P0 z k P) (hk : k < z) (hp : 0 < (T0 k).toInt) : inB T0 P0 z (k + 1) (MV P k z (cS (T0 k) (rowI P k) (fun l => P (12 * k + l)))) ∧ rowI (MV P k z (cS (T0 k) (rowI P k) (fun l => P (12 * k + l)))) k = rowI P k - T0 k ∧ rowI (MV P k z (cS (T0 k) (rowI P k) (fun l => P (12 * k + l)))) z = rowI P z + T0 k := by
  have hz := hB.1
  obtain ⟨f1, f2, f3, f4⟩ := inB_f hB h hk hp
  obtain ⟨s1, s2⟩ := cS_ok (n := T0 k) (G := rowI P k) (p := fun l => P (12 * k + l)) (fun i hi => f1 k i (by omega) hi) f2 ⟨f3, f4⟩
  generalize cS (T0 k) (rowI P k) (fun l => P (12 * k + l)) = s at s1 s2
  have s3 := sT_bd (f := s) 12 (Nat.le_refl _) (fun i hi => by have := s1 i hi; have := f1 k i (by omega) hi; omega)
  have s4 : sumI s 12 = T0 k := (ia_eq _ _).mpr (by rw [s3.1, s2])
  have eS : ∀ l, l < 12 → (P (12 * k + l) - s l).toInt = (P (12 * k + l)).toInt - (s l).toInt := fun l hl => by
    have := s1 l hl
    have := f1 k l (by omega) hl
    exact ia_sub2 rfl rfl (by omega) (by omega)
  have eA : ∀ l, l < 12 → (P (12 * z + l) + s l).toInt = (P (12 * z + l)).toInt + (s l).toInt := fun l hl => by
    have := s1 l hl
    have := f1 k l (by omega) hl
    have := f1 z l (by omega) hl
    exact ia_add2 rfl rfl (by omega) (by omega)
  have hkz : k ≠ z := by omega
  refine ⟨⟨fun j => ?_, fun l hl => ?_, fun j l hj hjz hl => ?_, fun l hl q j => ?_⟩, ?_, ?_⟩
  · have hd : 12 * (j / 12) + j % 12 = j := by omega
    have hm : j % 12 < 12 := by omega
    rw [← hd]
    by_cases c1 : j / 12 = k
    · rw [c1, MV_f hm, eS _ hm]
      have := s1 _ hm
      omega
    · by_cases c2 : j / 12 = z
      · rw [c2, MV_t hkz hm, eA _ hm]
        have := s1 _ hm
        have := f1 z _ hz hm
        omega
      · rw [MV_n c1 c2 hm]
        exact h.1 _
  · rw [colS_MV hkz hl (eS l hl) (eA l hl), if_pos (by omega), if_pos (by omega), ← h.2.1 l hl]
    omega
  · rw [MV_n (by omega) hjz hl]
    exact h.2.2.1 j l (by omega) hjz hl
  · have a := h.2.2.2 l hl q
    have b := s1 l hl
    have e0 : (0 : Int32).toInt = 0 := by decide
    have b2 : s l = 0 := (ia_eq _ _).mpr (by
      have b3 := b.2
      rw [a k] at b3
      omega)
    by_cases c1 : j = k
    · rw [c1, MV_f hl, a k, b2]; decide
    · by_cases c2 : j = z
      · rw [c2, MV_t hkz hl, a z, b2]; decide
      · rw [MV_n c1 c2 hl]; exact a j
  · rw [← s4]
    exact (sumI_cg 12 (fun i hi => MV_f hi)).trans (sumI_sub 12)
  · rw [← s4]
    exact (sumI_cg 12 (fun i hi => MV_t hkz hi)).trans (sumI_add 12)
theorem blP_in (hB : okB T0 P0 z) : ∀ k : Nat, k ≤ z → inB T0 P0 z k (blP T0 P0 z k)
  | 0, _ => ⟨hB.2.1, fun _ _ => rfl, fun _ _ _ _ _ => rfl, fun _ _ q => q⟩
  | k + 1, hk => by
    have ih := blP_in hB k (by omega)
    rw [blP]
    by_cases c : 0 < (T0 k).toInt
    · rw [if_pos c]
      exact (inB_s hB ih (by omega) c).1
    · rw [if_neg c]
      exact ⟨ih.1, ih.2.1, fun j l hj => ih.2.2.1 j l (by omega), ih.2.2.2⟩
theorem td_s {k : Nat} (c : 0 < (T0 k).toInt) : va_up (tdP T0 k) k 0 = tdP T0 (k + 1) := by
  funext i
  by_cases e : i = k
  · rw [e, up_eq]; simp only [tdP]; rw [if_pos ⟨by omega, c⟩]
  · rw [up_ne e]
    simp only [tdP]
    by_cases q : i < k ∧ 0 < (T0 i).toInt
    · rw [if_pos q, if_pos ⟨by omega, q.2⟩]
    · rw [if_neg q, if_neg (fun q2 => q ⟨by omega, q2.2⟩)]
theorem td_n {k : Nat} (c : ¬ 0 < (T0 k).toInt) : tdP T0 k = tdP T0 (k + 1) := by
  funext i
  simp only [tdP]
  by_cases q : i < k ∧ 0 < (T0 i).toInt
  · rw [if_pos q, if_pos ⟨by omega, q.2⟩]
  · rw [if_neg q, if_neg (fun q2 => by
      by_cases e : i = k
      · rw [e] at q2; exact c q2.2
      · exact q ⟨by omega, q2.2⟩)]
theorem td_k {k : Nat} : tdP T0 k k = T0 k := by simp [tdP]
theorem dy_eq (hD : ∀ k, 0 ≤ (D0 k).toInt ∧ (D0 k).toInt ≤ 999) : ∀ k : Nat, ((dyM T0 D0 k).toInt = 1000 ∧ (dyX T0 D0 k).toInt = 999 ∧ ∀ j, j < k → (T0 j).toInt ≤ 0) ∨ (dyX T0 D0 k = dyM T0 D0 k ∧ 0 ≤ (dyX T0 D0 k).toInt ∧ (dyX T0 D0 k).toInt ≤ 999)
  | 0 => Or.inl ⟨show (1000 : Int32).toInt = 1000 from by decide, show (999 : Int32).toInt = 999 from by decide, fun j hj => absurd hj (Nat.not_lt_zero j)⟩
  | k + 1 => by
    have hk := hD k
    rw [dyM, dyX]
    by_cases c : 0 < (T0 k).toInt
    · rw [if_pos c]
      rcases dy_eq hD k with q | q
      · right
        have cM : 0 < (T0 k).toInt ∧ (D0 k).toInt < (dyM T0 D0 k).toInt := ⟨c, by omega⟩
        rw [if_pos cM]
        by_cases c2 : (dyX T0 D0 k).toInt ≤ (D0 k).toInt
        · rw [if_pos c2]
          exact ⟨(ia_eq _ _).mpr (by omega), by omega, by omega⟩
        · rw [if_neg c2]
          exact ⟨rfl, hk⟩
      · right
        by_cases c2 : (dyX T0 D0 k).toInt ≤ (D0 k).toInt
        · have cN : ¬ (0 < (T0 k).toInt ∧ (D0 k).toInt < (dyM T0 D0 k).toInt) := fun q2 => by
            have q3 := q2.2
            rw [← q.1] at q3
            omega
          rw [if_pos c2, if_neg cN]
          exact q
        · have cM : 0 < (T0 k).toInt ∧ (D0 k).toInt < (dyM T0 D0 k).toInt := ⟨c, by rw [← q.1]; omega⟩
          rw [if_neg c2, if_pos cM]
          exact ⟨rfl, hk⟩
    · have cN : ¬ (0 < (T0 k).toInt ∧ (D0 k).toInt < (dyM T0 D0 k).toInt) := fun q2 => c q2.1
      rw [if_neg c, if_neg cN]
      rcases dy_eq hD k with q | q
      · left
        refine ⟨q.1, q.2.1, fun j hj => ?_⟩
        by_cases e : j = k
        · rw [e]; omega
        · exact q.2.2 j (by omega)
      · exact Or.inr q
theorem blX_is {h0 : hp_T} (hB : okB T0 P0 z) (e21 : h0.1 21 = T0) (e22 : h0.1 22 = P0) (e18 : ∀ j, j < 60 → h0.1 18 j = rowI P0 j) (e19 : h0.1 19 = va_up D0 z 999) : ∀ k : Nat, k ≤ z → (blX h0 (z : Int) k).1 22 = blP T0 P0 z k ∧ (blX h0 (z : Int) k).1 21 = tdP T0 k ∧ (∀ j, j < 60 → (blX h0 (z : Int) k).1 18 j = rowI (blP T0 P0 z k) j) ∧ (blX h0 (z : Int) k).1 19 = va_up D0 z (dyX T0 D0 k) ∧ (∀ c, c ≠ 18 → c ≠ 19 → c ≠ 21 → c ≠ 22 → c ≠ 23 → c ≠ 24 → (blX h0 (z : Int) k).1 c = h0.1 c) ∧ (blX h0 (z : Int) k).2 = h0.2
  | 0, _ => ⟨e22, by rw [blX, e21]; funext i; simp [tdP], e18, e19, fun _ _ _ _ _ _ _ => rfl, rfl⟩
  | k + 1, hk => by
    obtain ⟨i1, i2, i3, i4, i5, i6⟩ := blX_is hB e21 e22 e18 e19 k (by omega)
    have hz := hB.1
    have hin := blP_in hB k (by omega)
    have e21k : (blX h0 (z : Int) k).1 21 k = T0 k := by rw [i2, td_k]
    by_cases c : 0 < (T0 k).toInt
    · rw [blX_t (by rw [e21k]; exact c), blP, if_pos c, dyX, if_pos c]
      generalize blX h0 (z : Int) k = h at i1 i2 i3 i4 i5 i6 e21k
      generalize blP T0 P0 z k = P at i1 i3 hin
      obtain ⟨_, r1, r2⟩ := inB_s hB hin (by omega) c
      have hkz : k ≠ z := by omega
      refine ⟨?_, ?_, fun j hj => ?_, ?_, fun cc c1 c2 c3 c4 c5 c6 => ?_, i6⟩
      · show prL (shX h (k : Int) (h.1 21 k)).1 (k : Int) (z : Int) (h.1 22) 12 = _
        rw [prL_MV hkz 12 (Nat.le_refl _), e21k, i1]
        refine MV_cg (fun i hi => ?_)
        rw [if_pos hi, shX_c i hi, i3 k (by omega), i1]
      · show va_up (h.1 21) k 0 = _
        rw [i2, td_s c]
      · show va_up (va_up (h.1 18) k (h.1 18 k - h.1 21 k)) z (va_up (h.1 18) k (h.1 18 k - h.1 21 k) z + h.1 21 k) j = _
        rw [e21k]
        by_cases c1 : j = z
        · rw [c1, up_eq, up_ne (by omega), i3 z hz, r2]
        · rw [up_ne c1]
          by_cases c2 : j = k
          · rw [c2, up_eq, i3 k (by omega), r1]
          · rw [up_ne c2, i3 j hj]
            exact (sumI_cg 12 (fun i hi => MV_n c2 c1 hi)).symm
      · show va_up (h.1 19) z (if (h.1 19 z).toInt ≤ (h.1 19 k).toInt then h.1 19 z else h.1 19 k) = _
        rw [i4, up_eq, up_ne hkz]
        funext i
        by_cases e : i = z
        · rw [e, up_eq, up_eq]
        · rw [up_ne e, up_ne e, up_ne e]
      · rw [← i5 cc c1 c2 c3 c4 c5 c6]
        simp [blS, pourX, sI, sR, va_up, c1, c2, c3, c4, c5, c6]
    · rw [blX_f (by rw [e21k]; omega), blP, if_neg c, dyX, if_neg c, ← td_n c]
      exact ⟨i1, i2, i3, i4, i5, i6⟩
theorem mvs_63 {h : hp_T} {bI tI : Int} {n v : Int32} {k : Nat} : (sI (mvF h bI tI n) 67 k v).1 63 = (mvE n (gsM h bI) bI tI (h.1 63) (h.1 68)).1 := by simp [sI, mvF, sR, va_up]
theorem mvs_67 {h : hp_T} {bI tI : Int} {n v : Int32} {k : Nat} : (sI (mvF h bI tI n) 67 k v).1 67 = va_up (h.1 67) k v := by simp [sI, mvF, sR, va_up]
theorem mvs_o {h : hp_T} {bI tI : Int} {n v : Int32} {k c : Nat} (c1 : c ≠ 63) (c2 : c ≠ 67) (c3 : c ≠ 68) : (sI (mvF h bI tI n) 67 k v).1 c = h.1 c := by simp [sI, mvF, sR, va_up, c1, c2, c3]
theorem blM_is {h0 : hp_T} (hB : okB T0 P0 z) (e21 : h0.1 67 = T0) (e22 : h0.1 63 = P0) : ∀ k : Nat, k ≤ z → (blM h0 (z : Int) k).1 63 = blP T0 P0 z k ∧ (blM h0 (z : Int) k).1 67 = tdP T0 k ∧ (∀ c, c ≠ 63 → c ≠ 67 → c ≠ 68 → (blM h0 (z : Int) k).1 c = h0.1 c) ∧ (blM h0 (z : Int) k).2 = h0.2
  | 0, _ => ⟨e22, by rw [blM, e21]; funext i; simp [tdP], fun _ _ _ _ => rfl, rfl⟩
  | k + 1, hk => by
    obtain ⟨i1, i2, i5, i6⟩ := blM_is hB e21 e22 k (by omega)
    have hz := hB.1
    have hin := blP_in hB k (by omega)
    have e21k : (blM h0 (z : Int) k).1 67 k = T0 k := by rw [i2, td_k]
    by_cases c : 0 < (T0 k).toInt
    · rw [blM_t (by rw [e21k]; exact c), blP, if_pos c]
      generalize blM h0 (z : Int) k = h at i1 i2 i5 i6 e21k
      generalize blP T0 P0 z k = P at i1 hin
      obtain ⟨f1, f2, f3, f4⟩ := inB_f hB hin (by omega) c
      have hkz : k ≠ z := by omega
      refine ⟨?_, ?_, fun cc c1 c2 c3 => ?_, i6⟩
      · rw [mvs_63]
        have eg : gsM h (k : Int) = rowI P k := by rw [gsM, i1]; exact row_i (by omega)
        rw [e21k, eg, i1]
        exact mvE_c hkz (fun i hi => f1 k i (by omega) hi) f2 ⟨f3, f4⟩
      · rw [mvs_67, i2, td_s c]
      · rw [mvs_o c1 c2 c3]
        exact i5 cc c1 c2 c3
    · rw [blM_f (by rw [e21k]; omega), blP, if_neg c, ← td_n c]
      exact ⟨i1, i2, i5, i6⟩
end S56
