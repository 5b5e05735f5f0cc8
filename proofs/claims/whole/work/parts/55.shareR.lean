/-! the pair of blend: shares -/
def sT (f : Nat → Int32) : Nat → Int
  | 0 => 0
  | k + 1 => sT f k + (f k).toInt
theorem up_eq {w : Nat → Int32} {k : Nat} {v : Int32} : va_up w k v k = v := by simp [va_up]
theorem sT_cg {f g : Nat → Int32} : ∀ n : Nat, (∀ i, i < n → f i = g i) → sT f n = sT g n
  | 0, _ => rfl
  | n + 1, h => by rw [sT, sT, sT_cg n (fun i hi => h i (by omega)), h n (by omega)]
theorem sT_up {f : Nat → Int32} {k : Nat} {v : Int32} : ∀ n : Nat, sT (va_up f k v) n = sT f n + (if k < n then v.toInt - (f k).toInt else 0)
  | 0 => by simp [sT]
  | n + 1 => by
    rw [sT, sT, sT_up n]
    by_cases e : n = k
    · subst e
      rw [if_neg (by omega), if_pos (by omega), up_eq]
      omega
    · rw [up_ne e]
      by_cases c : k < n
      · rw [if_pos c, if_pos (by omega)]; omega
      · rw [if_neg c, if_neg (by omega)]; omega
theorem sT_bd {f : Nat → Int32} : ∀ n : Nat, n ≤ 12 → (∀ i, i < n → 0 ≤ (f i).toInt ∧ (f i).toInt ≤ 100000) → (sumI f n).toInt = sT f n ∧ 0 ≤ sT f n ∧ sT f n ≤ 100000 * (n : Int)
  | 0, _, _ => ⟨by rw [sumI, sT]; decide, by rw [sT]; omega, by rw [sT]; omega⟩
  | n + 1, hn, h => by
    obtain ⟨h1, h2, h3⟩ := sT_bd n (by omega) (fun i hi => h i (by omega))
    have h4 := h n (by omega)
    rw [sumI, sT, ia_add2 h1 rfl (by omega) (by omega)]
    exact ⟨rfl, by omega, by omega⟩
theorem sT_mo {f : Nat → Int32} {k : Nat} : ∀ n : Nat, (∀ i, i < k + n → 0 ≤ (f i).toInt) → sT f k ≤ sT f (k + n)
  | 0, _ => Int.le_refl _
  | n + 1, h => by
    have h1 := sT_mo (f := f) (k := k) n (fun i hi => h i (by omega))
    have h2 := h (k + n) (by omega)
    rw [← Nat.add_assoc, sT]
    omega
theorem mul_cc {a b c : Int} (h : a * b ≤ a * c) (ha : 0 < a) : b ≤ c := by
  by_cases q : b ≤ c
  · exact q
  · have h1 := Int.mul_le_mul_of_nonneg_left (show c + 1 ≤ b by omega) (show 0 ≤ a by omega)
    rw [Int.mul_add, Int.mul_one] at h1
    omega
theorem qr_t {n G p : Int32} (hn : 0 ≤ n.toInt ∧ n.toInt ≤ G.toInt) (hG : 1 ≤ G.toInt ∧ G.toInt ≤ 1200000) (hp : 0 ≤ p.toInt ∧ p.toInt ≤ 100000) : n.toInt * p.toInt = G.toInt * (qS n G p).toInt + (rS n G p).toInt ∧ (0 ≤ (qS n G p).toInt ∧ (qS n G p).toInt ≤ p.toInt) ∧ (0 ≤ (rS n G p).toInt ∧ (rS n G p).toInt < G.toInt) ∧ (0 < (rS n G p).toInt → (qS n G p).toInt + 1 ≤ p.toInt) := by
  have m0 : 0 ≤ n.toInt * p.toInt := Int.mul_nonneg hn.1 hp.1
  have m1 : n.toInt * p.toInt ≤ G.toInt * p.toInt := Int.mul_le_mul_of_nonneg_right hn.2 hp.1
  have m2 : G.toInt * p.toInt ≤ 1200000 * p.toInt := Int.mul_le_mul_of_nonneg_right hG.2 hp.1
  have e1 : (n.toInt64 * p.toInt64).toInt = n.toInt * p.toInt := la_mul2 (t64 rfl) (t64 rfl) (by omega) (by omega)
  have d0 : 0 ≤ n.toInt * p.toInt / G.toInt := Int.ediv_nonneg m0 (by omega)
  have d1 : n.toInt * p.toInt / G.toInt ≤ n.toInt * p.toInt := Int.ediv_le_self _ m0
  have d2 := Int.mul_ediv_add_emod (n.toInt * p.toInt) G.toInt
  have d3 := Int.emod_lt_of_pos (n.toInt * p.toInt) (b := G.toInt) (by omega)
  have d4 := Int.emod_nonneg (n.toInt * p.toInt) (b := G.toInt) (by omega)
  have e2 : (n.toInt64 * p.toInt64 / G.toInt64).toInt = n.toInt * p.toInt / G.toInt := by
    rw [Int64.toInt_div, e1, t64 rfl, Int.tdiv_eq_ediv_of_nonneg m0]
    exact Int.bmod_eq_of_le (by omega) (by omega)
  generalize n.toInt * p.toInt / G.toInt = q at *
  generalize n.toInt * p.toInt % G.toInt = r at *
  have q1 : q ≤ p.toInt := mul_cc (a := G.toInt) (by omega) (by omega)
  have eq : (qS n G p).toInt = q := by
    rw [qS, Int64.toInt_toInt32, e2]
    exact Int.bmod_eq_of_le (by omega) (by omega)
  have e3 : (n.toInt64 * p.toInt64 / G.toInt64 * G.toInt64).toInt = q * G.toInt := la_mul2 e2 (t64 rfl) (by rw [Int.mul_comm]; omega) (by rw [Int.mul_comm]; omega)
  have e4 : (n.toInt64 * p.toInt64 - n.toInt64 * p.toInt64 / G.toInt64 * G.toInt64).toInt = n.toInt * p.toInt - q * G.toInt := la_sub2 e1 e3 (by rw [Int.mul_comm q]; omega) (by rw [Int.mul_comm q]; omega)
  have er : (rS n G p).toInt = r := by
    rw [rS, Int64.toInt_toInt32, e4, Int.mul_comm q, show n.toInt * p.toInt - G.toInt * q = r by omega]
    exact Int.bmod_eq_of_le (by omega) (by omega)
  rw [eq, er]
  refine ⟨by omega, ⟨d0, q1⟩, ⟨d4, d3⟩, fun h => ?_⟩
  have q2 : G.toInt * (q + 1) ≤ G.toInt * p.toInt + G.toInt := by rw [Int.mul_add, Int.mul_one]; omega
  by_cases c : q + 1 ≤ p.toInt
  · exact c
  · have : q = p.toInt := by omega
    rw [this] at d2
    omega
theorem lf_t {n : Int32} {q : Nat → Int32} : ∀ k : Nat, (∀ m, m ≤ k → 0 ≤ sT q m ∧ sT q m ≤ n.toInt) → (lfq n q k).toInt = n.toInt - sT q k
  | 0, _ => by rw [lfq, sT]; omega
  | k + 1, h => by
    have h1 := h (k + 1) (by omega)
    have h2 := h k (by omega)
    have h3 := ia_bd n
    rw [sT] at h1
    rw [lfq, sT, ia_sub2 (lf_t k (fun m hm => h m (by omega))) rfl (by omega) (by omega)]
    omega
theorem lf_cg {n : Int32} {q q2 : Nat → Int32} : ∀ k : Nat, (∀ i, i < k → q i = q2 i) → lfq n q k = lfq n q2 k
  | 0, _ => rfl
  | k + 1, h => by rw [lfq, lfq, lf_cg k (fun i hi => h i (by omega)), h k (by omega)]
theorem sum_q {n G : Int} {q r p : Nat → Int32} (h : ∀ l, l < 12 → n * (p l).toInt = G * (q l).toInt + (r l).toInt) : ∀ k : Nat, k ≤ 12 → n * sT p k = G * sT q k + sT r k
  | 0, _ => by simp [sT]
  | k + 1, hk => by
    have h1 := sum_q h k (by omega)
    have h2 := h k (by omega)
    rw [sT, sT, sT, Int.mul_add, Int.mul_add, h1, h2]
    omega
theorem sum_r {G : Int} {r : Nat → Int32} (h : ∀ l, l < 12 → 0 ≤ (r l).toInt ∧ (r l).toInt < G) : ∀ k : Nat, k ≤ 12 → 0 ≤ sT r k ∧ sT r k ≤ G * cz (fun i => decide (0 < (r i).toInt)) k
  | 0, _ => by simp [sT, cz]
  | k + 1, hk => by
    have h1 := sum_r h k (by omega)
    have h2 := h k (by omega)
    rw [sT]
    by_cases c : 0 < (r k).toInt
    · rw [cz_t (by rw [decide_eq_true_iff]; exact c), Int.mul_add, Int.mul_one]
      omega
    · rw [cz_f (decide_eq_false c)]
      omega
theorem sh_ok {n G : Int32} {p : Nat → Int32} (hp : ∀ i, i < 12 → 0 ≤ (p i).toInt ∧ (p i).toInt ≤ 100000) (hG : G.toInt = sT p 12) (hn : 1 ≤ n.toInt ∧ n.toInt ≤ G.toInt) : (∀ l, l < 12 → (0 ≤ (qS n G (p l)).toInt ∧ (qS n G (p l)).toInt ≤ (p l).toInt) ∧ 0 ≤ (rS n G (p l)).toInt ∧ (0 < (rS n G (p l)).toInt → (qS n G (p l)).toInt + 1 ≤ (p l).toInt)) ∧ 0 ≤ (lfq n (fun l => qS n G (p l)) 12).toInt ∧ (lfq n (fun l => qS n G (p l)) 12).toInt ≤ cz (fun i => decide (0 < (rS n G (p i)).toInt)) 12 ∧ (lfq n (fun l => qS n G (p l)) 12).toInt = n.toInt - sT (fun l => qS n G (p l)) 12 := by
  have hb := sT_bd 12 (Nat.le_refl _) hp
  have hG2 : 1 ≤ G.toInt ∧ G.toInt ≤ 1200000 := by omega
  have ha := fun l (hl : l < 12) => qr_t (n := n) (G := G) (p := p l) ⟨by omega, hn.2⟩ hG2 (hp l hl)
  have h1 := sum_q (n := n.toInt) (G := G.toInt) (p := p) (q := fun l => qS n G (p l)) (r := fun l => rS n G (p l)) (fun l hl => (ha l hl).1) 12 (Nat.le_refl _)
  have h2 := sum_r (G := G.toInt) (r := fun l => rS n G (p l)) (fun l hl => (ha l hl).2.2.1) 12 (Nat.le_refl _)
  have hq0 : ∀ i, i < 12 → 0 ≤ ((fun l => qS n G (p l)) i).toInt := fun i hi => (ha i hi).2.1.1
  rw [← hG, Int.mul_comm] at h1
  have h3 : sT (fun l => qS n G (p l)) 12 ≤ n.toInt := mul_cc (a := G.toInt) (by omega) (by omega)
  have h4 : n.toInt ≤ sT (fun l => qS n G (p l)) 12 + cz (fun i => decide (0 < (rS n G (p i)).toInt)) 12 := mul_cc (a := G.toInt) (by rw [Int.mul_add]; have := h2.2; omega) (by omega)
  have h5 : (lfq n (fun l => qS n G (p l)) 12).toInt = n.toInt - sT (fun l => qS n G (p l)) 12 := lf_t 12 (fun m hm => by
    have a1 := sT_mo (f := fun l => qS n G (p l)) (k := m) (12 - m) (fun i hi => hq0 i (by omega))
    have a2 := sT_mo (f := fun l => qS n G (p l)) (k := 0) m (fun i hi => hq0 i (by omega))
    rw [show m + (12 - m) = 12 by omega] at a1
    rw [Nat.zero_add] at a2
    have a3 : sT (fun l => qS n G (p l)) 0 = 0 := rfl
    omega)
  exact ⟨fun l hl => ⟨(ha l hl).2.1, (ha l hl).2.2.1.1, (ha l hl).2.2.2⟩, by omega, by omega, h5⟩
theorem gm_max (r : Nat → Int32) : ∀ k i : Nat, i ≤ k → (r i).toInt ≤ (r (gm r k)).toInt
  | 0, i, h => by
    have : i = 0 := by omega
    subst this
    exact Int.le_refl _
  | k + 1, i, h => by
    rw [gm]
    by_cases e : i = k + 1
    · subst e
      split
      · exact Int.le_refl _
      · omega
    · have := gm_max r k i (by omega)
      split <;> omega
theorem gm_first (r : Nat → Int32) : ∀ k i : Nat, i < gm r k → (r i).toInt < (r (gm r k)).toInt
  | 0, i, h => by rw [gm] at h; omega
  | k + 1, i, h => by
    rw [gm] at h ⊢
    by_cases c : (r (gm r k)).toInt < (r (k + 1)).toInt
    · rw [if_pos c] at h ⊢
      have := gm_max r k i (by omega)
      omega
    · rw [if_neg c] at h ⊢
      exact gm_first r k i h
theorem gm_u {r : Nat → Int32} {g k : Nat} (hg : g ≤ k) (h1 : ∀ i, i ≤ k → (r i).toInt ≤ (r g).toInt) (h2 : ∀ i, i < g → (r i).toInt < (r g).toInt) : gm r k = g := by
  have a := gm_le r k
  rcases Nat.lt_trichotomy (gm r k) g with c | c | c
  · have := h2 _ c
    have := gm_max r k g hg
    omega
  · exact c
  · have := gm_first r k g c
    have := h1 _ a
    omega
theorem gm_cg {r r2 : Nat → Int32} : ∀ k : Nat, (∀ i, i ≤ k → r i = r2 i) → gm r k = gm r2 k
  | 0, _ => rfl
  | k + 1, h => by
    have := gm_le r2 k
    rw [gm, gm, gm_cg k (fun i hi => h i (by omega)), h (k + 1) (by omega), h (gm r2 k) (by omega)]
theorem cz_ex {p : Nat → Bool} : ∀ n : Nat, 1 ≤ cz p n → ∃ i, i < n ∧ p i = true
  | 0, h => by rw [cz] at h; omega
  | n + 1, h => by
    by_cases c : p n = true
    · exact ⟨n, by omega, c⟩
    · rw [cz_f (by simpa using c)] at h
      obtain ⟨i, h1, h2⟩ := cz_ex n h
      exact ⟨i, by omega, h2⟩
def MV (P : Nat → Int32) (f t : Nat) (s : Nat → Int32) : Nat → Int32 := fun j => if j / 12 = f then P j - s (j % 12) else if j / 12 = t then P j + s (j % 12) else P j
section S55
variable {P p s s2 : Nat → Int32} {f t k z l : Nat}
theorem MV_cg (h : ∀ i, i < 12 → s i = s2 i) : MV P f t s = MV P f t s2 := by
  funext j
  simp only [MV]
  rw [h (j % 12) (by omega)]
theorem MV_f (hl : l < 12) : MV P f t s (12 * f + l) = P (12 * f + l) - s l := by
  simp only [MV]
  rw [if_pos (by omega), show (12 * f + l) % 12 = l by omega]
theorem MV_t (h : f ≠ t) (hl : l < 12) : MV P f t s (12 * t + l) = P (12 * t + l) + s l := by
  simp only [MV]
  rw [if_neg (by omega), if_pos (by omega), show (12 * t + l) % 12 = l by omega]
theorem MV_n {j : Nat} (h1 : j ≠ f) (h2 : j ≠ t) (hl : l < 12) : MV P f t s (12 * j + l) = P (12 * j + l) := by
  simp only [MV]
  rw [if_neg (by omega), if_neg (by omega)]
theorem gv_MV {x : Int32} (h : f ≠ t) (hl : l < 12) : gv (MV P f t s) (12 * f + l) (12 * t + l) x = MV P f t (va_up s l (s l + x)) := by
  funext j
  by_cases c1 : j = 12 * t + l
  · subst c1
    rw [gv, up_eq, up_ne (by omega), MV_t h hl, MV_t h hl, up_eq, Int32.add_assoc]
  · rw [gv, up_ne c1]
    by_cases c2 : j = 12 * f + l
    · subst c2
      rw [up_eq, MV_f hl, MV_f hl, up_eq, Int32.sub_sub]
    · rw [up_ne c2]
      simp only [MV]
      by_cases c3 : j / 12 = f
      · rw [if_pos c3, if_pos c3, up_ne (by omega)]
      · rw [if_neg c3, if_neg c3]
        by_cases c4 : j / 12 = t
        · rw [if_pos c4, if_pos c4, up_ne (by omega)]
        · rw [if_neg c4, if_neg c4]
theorem MV_0 : MV P f t (fun i => if i < 0 then s i else 0) = P := by
  funext j
  simp [MV]
theorem MV_s {m : Nat} {i : Nat} : va_up (fun i => if i < m then s i else 0) m ((fun i => if i < m then s i else 0) m + s m) i = (fun i => if i < m + 1 then s i else 0) i := by
  by_cases e : i = m
  · subst e
    rw [up_eq]
    simp
  · rw [up_ne e]
    dsimp only
    by_cases c : i < m
    · rw [if_pos c, if_pos (by omega)]
    · rw [if_neg c, if_neg (by omega)]
theorem prL_MV (h : k ≠ z) : ∀ m : Nat, m ≤ 12 → prL s (k : Int) (z : Int) P m = MV P k z (fun i => if i < m then s i else 0)
  | 0, _ => MV_0.symm
  | m + 1, hm => by
    show gv (prL s (k : Int) (z : Int) P m) (((k : Int) * 12) + (m : Int)).toNat (((z : Int) * 12) + (m : Int)).toNat (s m) = _
    rw [prL_MV h m (by omega), show (((k : Int) * 12) + (m : Int)).toNat = 12 * k + m by omega, show (((z : Int) * 12) + (m : Int)).toNat = 12 * z + m by omega, gv_MV h (by omega)]
    exact MV_cg (fun i _ => MV_s)
theorem mvM_MV {n G : Int32} (h : k ≠ z) : ∀ m : Nat, m ≤ 12 → mvM n G (k : Int) (z : Int) P m = MV P k z (fun i => if i < m then qS n G (P (12 * k + i)) else 0)
  | 0, _ => (MV_0 (s := fun i => qS n G (P (12 * k + i)))).symm
  | m + 1, hm => by
    rw [mvM, gvI, mvM_MV h m (by omega), show ((12 * (k : Int)) + (m : Int)).toNat = 12 * k + m by omega, show ((12 * (z : Int)) + (m : Int)).toNat = 12 * z + m by omega, gv_MV h (by omega), MV_f (by omega), if_neg (Nat.lt_irrefl m)]
    refine MV_cg (fun i _ => ?_)
    rw [show P (12 * k + m) - 0 = P (12 * k + m) by simp]
    have := MV_s (s := fun i => qS n G (P (12 * k + i))) (m := m) (i := i)
    dsimp only at this
    rw [if_neg (Nat.lt_irrefl m)] at this
    exact this
theorem mv_at {n G : Int32} (h : k ≠ z) {m : Nat} (hm : m < 12) : mvM n G (k : Int) (z : Int) P m ((12 * (k : Int)) + (m : Int)).toNat = P (12 * k + m) := by
  rw [mvM_MV h m (by omega), show ((12 * (k : Int)) + (m : Int)).toNat = 12 * k + m by omega, MV_f hm, if_neg (Nat.lt_irrefl m)]
  simp
theorem ex_cg : ∀ (f : Nat) (s s2 r r2 : Nat → Int32) (left : Int32), (∀ i, i < 12 → s i = s2 i) → (∀ i, i < 12 → r i = r2 i) → ∀ i, i < 12 → (exX f s r left).1 i = (exX f s2 r2 left).1 i
  | 0, s, s2, r, r2, left, hs, hr => hs
  | f + 1, s, s2, r, r2, left, hs, hr => by
    have hg : gm r 11 = gm r2 11 := gm_cg 11 (fun i hi => hr i (by omega))
    have hl := gm_le r2 11
    rw [exX, exX]
    split
    · rw [hg]
      refine ex_cg f _ _ _ _ _ (fun i hi => ?_) (fun i hi => ?_)
      · by_cases e : i = gm r2 11
        · rw [e, up_eq, up_eq, hs _ (by omega)]
        · rw [up_ne e, up_ne e]; exact hs i hi
      · by_cases e : i = gm r2 11
        · rw [e, up_eq, up_eq]
        · rw [up_ne e, up_ne e]; exact hr i hi
    · exact hs
theorem ex_all (hkz : k ≠ z) : ∀ (f : Nat) (s r t : Nat → Int32) (left : Int32), 0 ≤ left.toInt → left.toInt ≤ (f : Int) → left.toInt ≤ cz (fun i => decide (0 < (r i).toInt)) 12 → (∀ i, i < 12 → (t i = r i ∧ 0 ≤ (r i).toInt) ∨ (t i = -1 ∧ (r i).toInt = 0)) → (∀ i, i < 12 → 0 ≤ (s i).toInt ∧ (s i).toInt ≤ (p i).toInt ∧ (p i).toInt ≤ 100000 ∧ (0 < (r i).toInt → (s i).toInt + 1 ≤ (p i).toInt)) → (exM (k : Int) (z : Int) left.toInt.toNat (MV P k z s) t).1 = MV P k z (exX f s r left).1 ∧ (∀ i, i < 12 → 0 ≤ ((exX f s r left).1 i).toInt ∧ ((exX f s r left).1 i).toInt ≤ (p i).toInt) ∧ sT (exX f s r left).1 12 = sT s 12 + left.toInt
  | 0, s, r, t, left, h0, h1, h2, h3, h4 => by
    have e : left.toInt = 0 := by omega
    rw [e]
    exact ⟨rfl, fun i hi => ⟨(h4 i hi).1, (h4 i hi).2.1⟩, (Int.add_zero _).symm⟩
  | f + 1, s, r, t, left, h0, h1, h2, h3, h4 => by
    by_cases c : 0 < left.toInt
    · obtain ⟨i0, hi0, hr0⟩ := cz_ex 12 (show 1 ≤ cz (fun i => decide (0 < (r i).toInt)) 12 by omega)
      have hr1 : 0 < (r i0).toInt := of_decide_eq_true hr0
      have hm0 := gm_max r 11 i0 (by omega)
      obtain ⟨g, hg⟩ : ∃ g, gm r 11 = g := ⟨_, rfl⟩
      have hgl : g ≤ 11 := hg ▸ gm_le r 11
      rw [hg] at hm0
      have htg : t g = r g := by
        rcases h3 g (by omega) with q | q
        · exact q.1
        · omega
      have em : (-1 : Int32).toInt = -1 := by decide
      have ht : gm t 11 = g := by
        refine gm_u hgl (fun i hi => ?_) (fun i hi => ?_)
        · have a := gm_max r 11 i hi
          rw [hg] at a
          rw [htg]
          rcases h3 i (by omega) with q | q
          · rw [q.1]; exact a
          · rw [q.1, em]; omega
        · have a := gm_first r 11 i (by rw [hg]; exact hi)
          rw [hg] at a
          rw [htg]
          rcases h3 i (by omega) with q | q
          · rw [q.1]; exact a
          · rw [q.1, em]; omega
      have hb := ia_bd left
      have el0 : (left + -1).toInt = left.toInt + -1 := ia_add2 rfl em (by omega) (by omega)
      obtain ⟨l2, hl2⟩ : ∃ x, left + -1 = x := ⟨_, rfl⟩
      rw [hl2] at el0
      have el : l2.toInt = left.toInt - 1 := by omega
      clear el0
      have en : left.toInt.toNat = l2.toInt.toNat + 1 := by omega
      have h5 := h4 g (by omega)
      have es : (s g + 1).toInt = (s g).toInt + 1 := ia_add2 rfl (by decide : (1 : Int32).toInt = 1) (by omega) (by omega)
      obtain ⟨v, hv⟩ : ∃ x, s g + 1 = x := ⟨_, rfl⟩
      rw [hv] at es
      have hc := cz_up (p := fun i => decide (0 < (va_up r g 0 i).toInt)) (p2 := fun i => decide (0 < (r i).toInt)) (k := g) (show decide (0 < (va_up r g 0 g).toInt) = false from by rw [up_eq]; decide) (decide_eq_true (by omega)) (fun j hj => show decide (0 < (r j).toInt) = decide (0 < (va_up r g 0 j).toInt) from by rw [up_ne hj]) 12
      rw [if_pos (by omega)] at hc
      rw [exX_t c, hg, hl2, hv, en, exM, ht, gvI, show ((12 * (k : Int)) + (g : Int)).toNat = 12 * k + g by omega, show ((12 * (z : Int)) + (g : Int)).toNat = 12 * z + g by omega, gv_MV hkz (by omega), hv]
      have h3' : ∀ i, i < 12 → (va_up t g (-1) i = va_up r g 0 i ∧ 0 ≤ (va_up r g 0 i).toInt) ∨ (va_up t g (-1) i = -1 ∧ (va_up r g 0 i).toInt = 0) := fun i hi => by
        by_cases e : i = g
        · rw [e, up_eq, up_eq]; exact Or.inr ⟨rfl, by decide⟩
        · rw [up_ne e, up_ne e]; exact h3 i hi
      have h4' : ∀ i, i < 12 → 0 ≤ (va_up s g v i).toInt ∧ (va_up s g v i).toInt ≤ (p i).toInt ∧ (p i).toInt ≤ 100000 ∧ (0 < (va_up r g 0 i).toInt → (va_up s g v i).toInt + 1 ≤ (p i).toInt) := fun i hi => by
        by_cases e : i = g
        · rw [e, up_eq, up_eq]
          have e0 : (0 : Int32).toInt = 0 := by decide
          have := h5.2.2.2 (by omega)
          exact ⟨by omega, by omega, by omega, by omega⟩
        · rw [up_ne e, up_ne e]; exact h4 i hi
      obtain ⟨a1, a2, a3⟩ := ex_all hkz f (va_up s g v) (va_up r g 0) (va_up t g (-1)) l2 (by omega) (by omega) (by omega) h3' h4'
      refine ⟨a1, a2, ?_⟩
      rw [a3, sT_up, if_pos (by omega)]
      omega
    · have e : left.toInt = 0 := by omega
      rw [exX_f (by omega), e]
      exact ⟨rfl, fun i hi => ⟨(h4 i hi).1, (h4 i hi).2.1⟩, (Int.add_zero _).symm⟩
/-- what is taken of each lot when n of the G grams p are poured -/
def cS (n G : Int32) (p : Nat → Int32) : Nat → Int32 := (exX 12 (fun l => qS n G (p l)) (fun l => rS n G (p l)) (lfq n (fun l => qS n G (p l)) 12)).1
theorem cS_ok {n G : Int32} (hp : ∀ i, i < 12 → 0 ≤ (p i).toInt ∧ (p i).toInt ≤ 100000) (hG : G.toInt = sT p 12) (hn : 1 ≤ n.toInt ∧ n.toInt ≤ G.toInt) : (∀ i, i < 12 → 0 ≤ (cS n G p i).toInt ∧ (cS n G p i).toInt ≤ (p i).toInt) ∧ sT (cS n G p) 12 = n.toInt := by
  obtain ⟨h1, h2, h3, h4⟩ := sh_ok hp hG hn
  have hz := (cz_bd (fun i => decide (0 < (rS n G (p i)).toInt)) 12).2
  obtain ⟨_, a2, a3⟩ := ex_all (P := p) (p := p) (show (0 : Nat) ≠ 1 by omega) 12 (fun l => qS n G (p l)) (fun l => rS n G (p l)) (fun l => rS n G (p l)) (lfq n (fun l => qS n G (p l)) 12) h2 (by omega) h3 (fun i hi => Or.inl ⟨rfl, (h1 i hi).2.1⟩) (fun i hi => ⟨(h1 i hi).1.1, (h1 i hi).1.2, (hp i hi).2, (h1 i hi).2.2⟩)
  exact ⟨a2, by rw [cS, a3, h4]; omega⟩
theorem shX_c {h : hp_T} {n : Int32} (i : Nat) (hi : i < 12) : (shX h (k : Int) n).1 i = cS n (h.1 18 k) (fun l => h.1 22 (12 * k + l)) i := by
  have e : ∀ l : Nat, (((k : Int) * 12) + (l : Int)).toNat = 12 * k + l := fun l => by omega
  simp only [shX, cS, e, Int.toNat_natCast]
  exact ex_cg 12 _ _ _ _ _ (fun i hi => by simp only [fT]; rw [if_pos hi]) (fun i hi => by simp only [fT]; rw [if_pos hi]) i hi
theorem mvE_c {n G : Int32} {t : Nat → Int32} (hkz : k ≠ z) (hp : ∀ i, i < 12 → 0 ≤ (P (12 * k + i)).toInt ∧ (P (12 * k + i)).toInt ≤ 100000) (hG : G.toInt = sT (fun l => P (12 * k + l)) 12) (hn : 1 ≤ n.toInt ∧ n.toInt ≤ G.toInt) : (mvE n G (k : Int) (z : Int) P t).1 = MV P k z (cS n G (fun l => P (12 * k + l))) := by
  obtain ⟨h1, h2, h3, h4⟩ := sh_ok hp hG hn
  have hz := (cz_bd (fun i => decide (0 < (rS n G (P (12 * k + i))).toInt)) 12).2
  have el : lfq n (fun l => qS n G (mvM n G (k : Int) (z : Int) P l ((12 * (k : Int)) + (l : Int)).toNat)) 12 = lfq n (fun l => qS n G (P (12 * k + l))) 12 := lf_cg 12 (fun i hi => by first | rw [mv_at hkz hi] | (dsimp only; rw [mv_at hkz hi]))
  have er : ∀ i, i < 12 → fT (fun l => rS n G (mvM n G (k : Int) (z : Int) P l ((12 * (k : Int)) + (l : Int)).toNat)) 12 t i = rS n G (P (12 * k + i)) := fun i hi => by simp only [fT]; rw [if_pos hi, mv_at hkz hi]
  have key := ex_all (P := P) (p := fun l => P (12 * k + l)) hkz 12 (fun i => if i < 12 then qS n G (P (12 * k + i)) else 0) (fun l => rS n G (P (12 * k + l))) (fT (fun l => rS n G (mvM n G (k : Int) (z : Int) P l ((12 * (k : Int)) + (l : Int)).toNat)) 12 t) (lfq n (fun l => qS n G (P (12 * k + l))) 12) h2 (by omega) h3 (fun i hi => Or.inl ⟨er i hi, (h1 i hi).2.1⟩) (fun i hi => by
    first | rw [if_pos hi] | (dsimp only; rw [if_pos hi])
    exact ⟨(h1 i hi).1.1, (h1 i hi).1.2, (hp i hi).2, (h1 i hi).2.2⟩)
  have e2 : mvE n G (k : Int) (z : Int) P t = exM (k : Int) (z : Int) (lfq n (fun l => qS n G (P (12 * k + l))) 12).toInt.toNat (MV P k z (fun i => if i < 12 then qS n G (P (12 * k + i)) else 0)) (fT (fun l => rS n G (mvM n G (k : Int) (z : Int) P l ((12 * (k : Int)) + (l : Int)).toNat)) 12 t) := by
    rw [mvE, el, mvM_MV hkz 12 (Nat.le_refl _)]
  exact (congrArg Prod.fst e2).trans (key.1.trans (MV_cg (ex_cg 12 _ _ _ _ _ (fun i hi => if_pos hi) (fun i hi => rfl))))
end S55
