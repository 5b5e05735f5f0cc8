/-! cups: contracts (rows printed by my own program) -/
theorem lgc_gt {x z : Int64} (h : 0 ≤ (lg_cmp x z).toInt) (h2 : (lg_cmp x z).toInt ≠ 0) : z < x := by
  unfold lg_cmp at h h2
  split at h <;> rename_i q
  · exact q
  · split at h <;> rename_i q2
    · simp [q, q2] at h2
    · simp at h
theorem lgc_eq {x z : Int64} (h : (lg_cmp x z).toInt = 0) : x = z := by
  unfold lg_cmp at h
  split at h <;> rename_i q
  · simp at h
  · split at h <;> rename_i q2
    · exact q2
    · simp at h
theorem lgc_lt {x z : Int64} (h : (lg_cmp x z).toInt < 0) : x < z := by
  unfold lg_cmp at h
  split at h <;> rename_i q
  · simp at h
  · split at h <;> rename_i q2
    · simp at h
    · change ¬ z < x at q
      rw [Int64.lt_iff_toInt_lt] at q ⊢
      have : ¬ x.toInt = z.toInt := fun e => q2 (Int64.toInt_inj.mp e)
      omega
def jfd (x z : Int64) : Int64 := if 0 ≤ (lg_cmp (x ^^^ z) 0).toInt then x / z else if (lg_cmp (x / z * z) x).toInt = 0 then x / z else x / z - 1
def cz (p : Nat → Bool) : Nat → Int
  | 0 => 0
  | k + 1 => if p k = true then cz p k + 1 else cz p k
theorem cz_t {p : Nat → Bool} {k : Nat} (h : p k = true) : cz p (k + 1) = cz p k + 1 := by simp [cz, h]
theorem cz_f {p : Nat → Bool} {k : Nat} (h : p k = false) : cz p (k + 1) = cz p k := by simp [cz, h]
theorem cz_bd (p : Nat → Bool) : ∀ k : Nat, 0 ≤ cz p k ∧ cz p k ≤ (k : Int)
  | 0 => by simp [cz]
  | k + 1 => by
    have := cz_bd p k
    unfold cz
    split <;> omega
def oz (p : Nat → Bool) (f : Nat → Int) : Nat → Int
  | 0 => 0
  | k + 1 => if p k = true then oz p f k + f k else oz p f k
theorem oz_t {p : Nat → Bool} {f : Nat → Int} {k : Nat} (h : p k = true) : oz p f (k + 1) = oz p f k + f k := by simp [oz, h]
theorem oz_f {p : Nat → Bool} {f : Nat → Int} {k : Nat} (h : p k = false) : oz p f (k + 1) = oz p f k := by simp [oz, h]
theorem oz_bd {p : Nat → Bool} {f : Nat → Int} {B : Int} {n : Nat} (hB : 0 ≤ B) (h : ∀ s, s < n → -B ≤ f s ∧ f s ≤ B) : ∀ k : Nat, k ≤ n → -(B * (k : Int)) ≤ oz p f k ∧ oz p f k ≤ B * (k : Int)
  | 0, _ => by simp [oz]
  | k + 1, hk => by
    have h1 := oz_bd (p := p) (f := f) hB h k (by omega)
    have h2 := h k (by omega)
    have e : B * ((k + 1 : Nat) : Int) = B * (k : Int) + B := by rw [Int.natCast_add, Int.mul_add]; simp
    unfold oz
    rw [e]
    split <;> omega
theorem la_add2 {a b : Int64} {x y : Int} (ha : a.toInt = x) (hb : b.toInt = y) (h1 : -9223372036854775808 ≤ x + y) (h2 : x + y < 9223372036854775808) : (a + b).toInt = x + y := by
  rw [Int64.toInt_add, ha, hb, Int.bmod_eq_of_le (by omega) (by omega)]
theorem la_sub2 {a b : Int64} {x y : Int} (ha : a.toInt = x) (hb : b.toInt = y) (h1 : -9223372036854775808 ≤ x - y) (h2 : x - y < 9223372036854775808) : (a - b).toInt = x - y := by
  rw [Int64.toInt_sub, ha, hb, Int.bmod_eq_of_le (by omega) (by omega)]
theorem la_mul2 {a b : Int64} {x y : Int} (ha : a.toInt = x) (hb : b.toInt = y) (h1 : -9223372036854775808 ≤ x * y) (h2 : x * y < 9223372036854775808) : (a * b).toInt = x * y := by
  rw [Int64.toInt_mul, ha, hb, Int.bmod_eq_of_le (by omega) (by omega)]
theorem t64 {a : Int32} {x : Int} (h : a.toInt = x) : a.toInt64.toInt = x := by rw [Int32.toInt_toInt64]; exact h
theorem mul_bd {a b A B : Int} (ha : -A ≤ a ∧ a ≤ A) (hb : 0 ≤ b ∧ b ≤ B) : -(A * B) ≤ a * b ∧ a * b ≤ A * B := by
  have h0 : 0 ≤ A := by omega
  have h1 : a * b ≤ A * b := Int.mul_le_mul_of_nonneg_right ha.2 hb.1
  have h2 : A * b ≤ A * B := Int.mul_le_mul_of_nonneg_left hb.2 h0
  have h3 : -A * b ≤ a * b := Int.mul_le_mul_of_nonneg_right ha.1 hb.1
  rw [Int.neg_mul] at h3
  omega
/-- the fraction that is gathered over the judges: numerator, denominator, how many -/
def wz (n g o : Nat → Int) : Nat → Int × Int × Int
  | 0 => (0, 1, 0)
  | k + 1 => if 0 ≤ g k ∧ 0 < n k then ((wz n g o k).1 * n k + (g k * n k - o k) * (wz n g o k).2.1, (wz n g o k).2.1 * n k, (wz n g o k).2.2 + 1) else wz n g o k
theorem wz_t {n g o : Nat → Int} {k : Nat} (h : 0 ≤ g k ∧ 0 < n k) : wz n g o (k + 1) = ((wz n g o k).1 * n k + (g k * n k - o k) * (wz n g o k).2.1, (wz n g o k).2.1 * n k, (wz n g o k).2.2 + 1) := by
  rw [wz, if_pos h]
theorem wz_f {n g o : Nat → Int} {k : Nat} (h : ¬ (0 ≤ g k ∧ 0 < n k)) : wz n g o (k + 1) = wz n g o k := by
  rw [wz, if_neg h]
theorem wz_s {n g o : Nat → Int} {k : Nat} {B C : Int} (hn : 0 ≤ n k ∧ n k ≤ 20) (hg : -1 ≤ g k ∧ g k ≤ 100) (ho : -2020 ≤ o k ∧ o k ≤ 2020) (h : 1 ≤ (wz n g o k).2.1 ∧ (wz n g o k).2.1 ≤ B ∧ -C ≤ (wz n g o k).1 ∧ (wz n g o k).1 ≤ C ∧ 0 ≤ (wz n g o k).2.2 ∧ (wz n g o k).2.2 ≤ (k : Int)) :
    1 ≤ (wz n g o (k + 1)).2.1 ∧ (wz n g o (k + 1)).2.1 ≤ 20 * B ∧ -(20 * C + 5000 * B) ≤ (wz n g o (k + 1)).1 ∧ (wz n g o (k + 1)).1 ≤ 20 * C + 5000 * B ∧ 0 ≤ (wz n g o (k + 1)).2.2 ∧ (wz n g o (k + 1)).2.2 ≤ ((k + 1 : Nat) : Int) := by
  by_cases hc : 0 ≤ g k ∧ 0 < n k
  · rw [wz_t hc]
    dsimp only
    have h1 := mul_bd (a := (wz n g o k).1) (b := n k) (A := C) (B := 20) (by omega) (by omega)
    have h2 := mul_bd (a := (wz n g o k).2.1) (b := n k) (A := B) (B := 20) (by omega) (by omega)
    have h3 := mul_bd (a := g k) (b := n k) (A := 100) (B := 20) (by omega) (by omega)
    have h4 := mul_bd (a := g k * n k - o k) (b := (wz n g o k).2.1) (A := 5000) (B := B) (by omega) (by omega)
    have h5 : 1 * 1 ≤ (wz n g o k).2.1 * n k := Int.mul_le_mul (by omega) (by omega) (by omega) (by omega)
    omega
  · rw [wz_f hc]
    omega
theorem wz_bd {n g o : Nat → Int} (hn : ∀ k, k < 5 → 0 ≤ n k ∧ n k ≤ 20) (hg : ∀ k, k < 5 → -1 ≤ g k ∧ g k ≤ 100) (ho : ∀ k, k < 5 → -2020 ≤ o k ∧ o k ≤ 2020) : ∀ k, k ≤ 5 → 1 ≤ (wz n g o k).2.1 ∧ (wz n g o k).2.1 ≤ 3200000 ∧ -4100000000 ≤ (wz n g o k).1 ∧ (wz n g o k).1 ≤ 4100000000 ∧ 0 ≤ (wz n g o k).2.2 ∧ (wz n g o k).2.2 ≤ (k : Int) := by
  have s0 : 1 ≤ (wz n g o 0).2.1 ∧ (wz n g o 0).2.1 ≤ 1 ∧ -0 ≤ (wz n g o 0).1 ∧ (wz n g o 0).1 ≤ 0 ∧ 0 ≤ (wz n g o 0).2.2 ∧ (wz n g o 0).2.2 ≤ ((0 : Nat) : Int) := by simp [wz]
  have s1 := wz_s (hn 0 (by omega)) (hg 0 (by omega)) (ho 0 (by omega)) s0
  have s2 := wz_s (hn 1 (by omega)) (hg 1 (by omega)) (ho 1 (by omega)) s1
  have s3 := wz_s (hn 2 (by omega)) (hg 2 (by omega)) (ho 2 (by omega)) s2
  have s4 := wz_s (hn 3 (by omega)) (hg 3 (by omega)) (ho 3 (by omega)) s3
  have s5 := wz_s (hn 4 (by omega)) (hg 4 (by omega)) (ho 4 (by omega)) s4
  simp only [Nat.reduceAdd] at s1 s2 s3 s4 s5
  intro k hk
  rcases (show k = 0 ∨ k = 1 ∨ k = 2 ∨ k = 3 ∨ k = 4 ∨ k = 5 by omega) with rfl | rfl | rfl | rfl | rfl | rfl <;> omega
theorem wz_64 {u dd n64 g64 o64 : Int64} {U D N G O : Int} (uE : u.toInt = U) (dE : dd.toInt = D) (nE : n64.toInt = N) (gE : g64.toInt = G) (oE : o64.toInt = O) (bU : -4100000000 ≤ U ∧ U ≤ 4100000000) (bD : 0 ≤ D ∧ D ≤ 3200000) (bN : 0 ≤ N ∧ N ≤ 20) (bG : -1 ≤ G ∧ G ≤ 100) (bO : -2020 ≤ O ∧ O ≤ 2020) :
    (u * n64 + (g64 * n64 - o64) * dd).toInt = U * N + (G * N - O) * D ∧ (dd * n64).toInt = D * N := by
  have h1 := mul_bd (a := U) (b := N) (A := 4100000000) (B := 20) (by omega) (by omega)
  have h2 := mul_bd (a := D) (b := N) (A := 3200000) (B := 20) (by omega) (by omega)
  have h3 := mul_bd (a := G) (b := N) (A := 100) (B := 20) (by omega) (by omega)
  have h4 := mul_bd (a := G * N - O) (b := D) (A := 5000) (B := 3200000) (by omega) (by omega)
  exact ⟨la_add2 (la_mul2 uE nE (by omega) (by omega)) (la_mul2 (la_sub2 (la_mul2 gE nE (by omega) (by omega)) oE (by omega) (by omega)) dE (by omega) (by omega)) (by omega) (by omega), la_mul2 dE nE (by omega) (by omega)⟩
theorem sL_norm {hp : hp_T} {c i j : Nat} {u v u' v' : Int64} (h : i ≠ j) : sL (sL (sL (sL hp c i u) c j v) c i u') c j v' = sL (sL hp c i u') c j v' := by
  simp only [sL]
  congr 1
  funext z q
  simp only [va_up]
  by_cases hz : z = c
  · subst hz
    by_cases h1 : q = j
    · simp [va_up, h1]
    · by_cases h2 : q = i
      · simp [va_up, h2, h]
      · simp [va_up, h1, h2]
  · simp [hz]
theorem sL_same {hp : hp_T} {c i : Nat} {u v : Int64} : sL (sL hp c i u) c i v = sL hp c i v := by
  simp only [sL]
  congr 1
  funext z q
  simp only [va_up]
  by_cases hz : z = c
  · subst hz
    by_cases h1 : q = i <;> simp [va_up, h1]
  · simp [hz]
section S17
variable {d : Nat} {sh : sh_T} {hp : hp_T} {Q : Option Value → sh_T → hp_T → Prop} {b : Bool} {xs : sh_T}
theorem c_J13_compare_74951 {x : Int64} {z : Int64} (h1 : z < x → Q (some (.int 1)) sh hp) (h2 : x = z → Q (some (.int 0)) sh hp) (h0 : x < z → Q (some (.int (-1))) sh hp) : gC mJ13_compare_74951 d 0 0 [.long x, .long z] sh hp Q := by
  refine g_enter okJ13_compare_74951 (by decide +kernel) rfl ?_
  refine g_run 3 rfl ?_
  refine gz_ge (kx := (lg_cmp x z).toInt) rfl rfl (fun k1 => ?_) (fun k1 => ?_)
  · refine g_run 3 rfl ?_
    refine gz_ne (kx := (lg_cmp x z).toInt) rfl rfl (fun k2 => ?_) (fun k2 => ?_)
    · refine g_run 1 rfl ?_
      exact g_iret rfl rfl (by first | exact h1 (lgc_gt (by omega) (by omega)) | exact h2 (lgc_eq (by omega)) | exact h0 (lgc_lt (by omega)))
    · refine g_run 2 rfl ?_
      exact g_iret rfl rfl (by first | exact h1 (lgc_gt (by omega) (by omega)) | exact h2 (lgc_eq (by omega)) | exact h0 (lgc_lt (by omega)))
  · refine g_run 2 rfl ?_
    exact g_iret rfl rfl (by first | exact h1 (lgc_gt (by omega) (by omega)) | exact h2 (lgc_eq (by omega)) | exact h0 (lgc_lt (by omega)))
theorem c_J9_floorDiv_f86c9 {x : Int64} {z : Int64} (hz : ¬ z = 0) (h1 : Q (some (.long (jfd x z))) sh hp) : gC mJ9_floorDiv_f86c9 d 0 0 [.long x, .long z] sh hp Q := by
  refine g_enter okJ9_floorDiv_f86c9 (by decide +kernel) rfl ?_
  refine g_run 2 rfl ?_
  refine g_ldiv rfl (by first | assumption | decide) ?_
  refine g_run 6 rfl ?_
  refine gz_ge (kx := (lg_cmp (x ^^^ z) 0).toInt) rfl rfl (fun k1 => ?_) (fun k1 => ?_)
  · refine g_run 1 rfl ?_
    exact g_lret rfl rfl (by unfold jfd at h1; first | (rw [if_pos (by assumption)] at h1; exact h1) | (rw [if_neg (by omega), if_pos (by assumption)] at h1; exact h1) | (rw [if_neg (by omega), if_neg (by assumption)] at h1; exact h1))
  · refine g_run 5 rfl ?_
    refine gz_eq (kx := (lg_cmp ((x / z) * z) x).toInt) rfl rfl (fun k2 => ?_) (fun k2 => ?_)
    · refine g_run 1 rfl ?_
      exact g_lret rfl rfl (by unfold jfd at h1; first | (rw [if_pos (by assumption)] at h1; exact h1) | (rw [if_neg (by omega), if_pos (by assumption)] at h1; exact h1) | (rw [if_neg (by omega), if_neg (by assumption)] at h1; exact h1))
    · refine g_run 3 rfl ?_
      exact g_lret rfl rfl (by unfold jfd at h1; first | (rw [if_pos (by assumption)] at h1; exact h1) | (rw [if_neg (by omega), if_pos (by assumption)] at h1; exact h1) | (rw [if_neg (by omega), if_neg (by assumption)] at h1; exact h1))
theorem c_X2_isToldAndMarked {j : Int32} {jI : Int} {a : Int32} {aI : Int} (jE : j.toInt = jI) (aE : a.toInt = aI) (hj : 0 ≤ jI ∧ jI < 5) (ha : 0 ≤ aI ∧ aI < 20) (h1 : (hp.1 27 aI.toNat).toInt ≠ -1 ∧ (hp.1 26 ((jI * 20) + aI).toNat).toInt ≠ -1 → Q (some (.int 1)) (SH b xs) hp) (h0 : ¬ ((hp.1 27 aI.toNat).toInt ≠ -1 ∧ (hp.1 26 ((jI * 20) + aI).toNat).toInt ≠ -1) → Q (some (.int 0)) (SH b xs) hp) : gC mX2_isToldAndMarked d 0 0 [.ref 25, .int j, .int a] (SH b xs) hp Q := by
  refine g_enter okX2_isToldAndMarked (plainFor_of_name rfl) rfl ?_
  refine g_run 3 rfl ?_
  refine g_iald (j := aI.toNat) rfl rfl ((show _ = aI from aE).trans (by omega)) (by omega) ?_
  refine g_run 1 rfl ?_
  refine gj_eq (kx := (hp.1 27 aI.toNat).toInt) (kz := (-1)) rfl rfl (by decide) (fun k1 => ?_) (fun k1 => ?_)
  · refine g_run 1 rfl ?_
    exact g_zret rfl rfl (Or.inl rfl) (by first | exact h1 (by omega) | exact h0 (by omega))
  · refine g_run 7 rfl ?_
    refine g_iald (j := ((jI * 20) + aI).toNat) rfl rfl ((show _ = ((jI * 20) + aI) from (ia_add2 (ia_mul2 jE (by decide) (by omega) (by omega)) aE (by omega) (by omega))).trans (by omega)) (by omega) ?_
    refine g_run 1 rfl ?_
    refine gj_eq (kx := (hp.1 26 (((jI * 20) + aI).toNat)).toInt) (kz := (-1)) rfl rfl (by decide) (fun k2 => ?_) (fun k2 => ?_)
    · refine g_run 1 rfl ?_
      exact g_zret rfl rfl (Or.inl rfl) (by first | exact h1 (by omega) | exact h0 (by omega))
    · refine g_run 2 rfl ?_
      exact g_zret rfl rfl (Or.inr rfl) (by first | exact h1 (by omega) | exact h0 (by omega))
theorem lp_X2_toldMarkedBy  {j : Int32} {jI : Int} (jE : j.toInt = jI) (hj : 0 ≤ jI ∧ jI < 5) (h1 : ∀ r : Int32, r.toInt = cz (fun s => decide ((hp.1 27 s).toInt ≠ -1 ∧ (hp.1 26 ((jI * 20) + (s : Int)).toNat).toInt ≠ -1)) 20 → Q (some (.int r)) (SH b xs) hp) : ∀ (f k : Nat) (i acc : Int32), i.toInt = (k : Int) → acc.toInt = cz (fun s => decide ((hp.1 27 s).toInt ≠ -1 ∧ (hp.1 26 ((jI * 20) + (s : Int)).toNat).toInt ≠ -1)) k → k ≤ 20 → 20 - k < f → gG mX2_toldMarkedBy (d + 1) 0 0 (zQ 0 0 Q) 0 0 (4, [.ref 25, .int j, .int acc, .int i], [], (SH b xs), hp) := by
  intro f
  induction f with
  | zero => intros; omega
  | succ f ih =>
    intro k i acc iE aE hk hf
    refine g_run 2 rfl ?_
    refine gj_ge (kx := (k : Int)) (kz := 20) rfl iE (by decide) (fun k1 => ?_) (fun k1 => ?_)
    · refine g_run 1 rfl ?_
      obtain rfl : k = 20 := by omega
      exact g_iret rfl rfl (h1 _ aE)
    · refine g_run 3 rfl ?_
      refine g_callV0 rfl LX2_64 rfl rfl rfl rfl ?_
      refine c_X2_isToldAndMarked (jI := jI) (aI := (k : Int)) jE iE (by omega) (by omega) (fun k2 => ?_) (fun k3 => ?_)
      · refine gz_eq (kx := 1) rfl (show (1 : Int32).toInt = 1 from by decide) (fun q => absurd q (by decide)) (fun _ => ?_)
        refine g_run 3 rfl ?_
        exact ih (k + 1) _ _ (inc1 iE (by omega)) (by rw [cz_t (p := (fun s => decide ((hp.1 27 s).toInt ≠ -1 ∧ (hp.1 26 ((jI * 20) + (s : Int)).toNat).toInt ≠ -1))) (k := k) (by simp only [Int.toNat_natCast] at *; simp; omega)]; exact ia_add2 aE (by decide) (by have := cz_bd (fun s => decide ((hp.1 27 s).toInt ≠ -1 ∧ (hp.1 26 ((jI * 20) + (s : Int)).toNat).toInt ≠ -1)) k; omega) (by have := cz_bd (fun s => decide ((hp.1 27 s).toInt ≠ -1 ∧ (hp.1 26 ((jI * 20) + (s : Int)).toNat).toInt ≠ -1)) k; omega)) (by omega) (by omega)
      · refine gz_eq (kx := 0) rfl (show (0 : Int32).toInt = 0 from by decide) (fun _ => ?_) (fun q => absurd q (by decide))
        refine g_run 2 rfl ?_
        exact ih (k + 1) _ _ (inc1 iE (by omega)) (by rw [cz_f (p := (fun s => decide ((hp.1 27 s).toInt ≠ -1 ∧ (hp.1 26 ((jI * 20) + (s : Int)).toNat).toInt ≠ -1))) (k := k) (by simp only [Int.toNat_natCast] at *; simp; omega)]; exact aE) (by omega) (by omega)
theorem c_X2_toldMarkedBy {j : Int32} {jI : Int} (jE : j.toInt = jI) (hj : 0 ≤ jI ∧ jI < 5) (h1 : ∀ r : Int32, r.toInt = cz (fun s => decide ((hp.1 27 s).toInt ≠ -1 ∧ (hp.1 26 ((jI * 20) + (s : Int)).toNat).toInt ≠ -1)) 20 → Q (some (.int r)) (SH b xs) hp) : gC mX2_toldMarkedBy (d + 1) 0 0 [.ref 25, .int j] (SH b xs) hp Q := by
  refine g_enter okX2_toldMarkedBy (plainFor_of_name rfl) rfl ?_
  refine g_run 4 rfl ?_
  exact lp_X2_toldMarkedBy jE hj h1 21 0 0 0 (by decide) (show (0 : Int32).toInt = 0 from by decide) (by omega) (by omega)
theorem lp_X2_excessOf  (mw : ∀ i, i < 100 → -1 ≤ (hp.1 26 i).toInt ∧ (hp.1 26 i).toInt ≤ 100) (tw : ∀ i, i < 20 → -1 ≤ (hp.1 27 i).toInt ∧ (hp.1 27 i).toInt ≤ 100) {j : Int32} {jI : Int} (jE : j.toInt = jI) (hj : 0 ≤ jI ∧ jI < 5) (h1 : ∀ r : Int32, r.toInt = oz (fun s => decide ((hp.1 27 s).toInt ≠ -1 ∧ (hp.1 26 ((jI * 20) + (s : Int)).toNat).toInt ≠ -1)) (fun s => (hp.1 26 ((jI * 20) + (s : Int)).toNat).toInt - (hp.1 27 s).toInt) 20 → Q (some (.int r)) (SH b xs) hp) : ∀ (f k : Nat) (i acc : Int32), i.toInt = (k : Int) → acc.toInt = oz (fun s => decide ((hp.1 27 s).toInt ≠ -1 ∧ (hp.1 26 ((jI * 20) + (s : Int)).toNat).toInt ≠ -1)) (fun s => (hp.1 26 ((jI * 20) + (s : Int)).toNat).toInt - (hp.1 27 s).toInt) k → k ≤ 20 → 20 - k < f → gG mX2_excessOf (d + 1) 0 0 (zQ 0 0 Q) 0 0 (4, [.ref 25, .int j, .int acc, .int i], [], (SH b xs), hp) := by
  intro f
  induction f with
  | zero => intros; omega
  | succ f ih =>
    intro k i acc iE aE hk hf
    refine g_run 2 rfl ?_
    refine gj_ge (kx := (k : Int)) (kz := 20) rfl iE (by decide) (fun k1 => ?_) (fun k1 => ?_)
    · refine g_run 1 rfl ?_
      obtain rfl : k = 20 := by omega
      exact g_iret rfl rfl (h1 _ aE)
    · refine g_run 3 rfl ?_
      refine g_callV0 rfl LX2_64 rfl rfl rfl rfl ?_
      refine c_X2_isToldAndMarked (jI := jI) (aI := (k : Int)) jE iE (by omega) (by omega) (fun k2 => ?_) (fun k3 => ?_)
      · refine gz_eq (kx := 1) rfl (show (1 : Int32).toInt = 1 from by decide) (fun q => absurd q (by decide)) (fun _ => ?_)
        refine g_run 8 rfl ?_
        refine g_iald (j := ((jI * 20) + (k : Int)).toNat) rfl rfl ((show _ = ((jI * 20) + (k : Int)) from (ia_add2 (ia_mul2 jE (by decide) (by omega) (by omega)) iE (by omega) (by omega))).trans (by omega)) (by omega) ?_
        refine g_run 3 rfl ?_
        refine g_iald (j := k) rfl rfl ((show _ = (k : Int) from iE).trans (by omega)) (by omega) ?_
        refine g_run 5 rfl ?_
        have hb := oz_bd (p := (fun s => decide ((hp.1 27 s).toInt ≠ -1 ∧ (hp.1 26 ((jI * 20) + (s : Int)).toNat).toInt ≠ -1))) (f := (fun s => (hp.1 26 ((jI * 20) + (s : Int)).toNat).toInt - (hp.1 27 s).toInt)) (B := 101) (n := 20) (by omega) (fun s hs => by have := mw ((jI * 20) + (s : Int)).toNat (by omega); have := tw s hs; (try dsimp only); omega) k (by omega)
        have hm := mw ((jI * 20) + (k : Int)).toNat (by omega)
        have ht := tw k (by omega)
        have hkk : (k : Int) ≤ 20 := by omega
        exact ih (k + 1) _ _ (inc1 iE (by omega)) (by rw [oz_t (p := (fun s => decide ((hp.1 27 s).toInt ≠ -1 ∧ (hp.1 26 ((jI * 20) + (s : Int)).toNat).toInt ≠ -1))) (f := (fun s => (hp.1 26 ((jI * 20) + (s : Int)).toNat).toInt - (hp.1 27 s).toInt)) (k := k) (by simp only [Int.toNat_natCast] at *; simp; omega)]; exact ia_add2 aE (ia_sub2 rfl rfl (by omega) (by omega)) (by omega) (by omega)) (by omega) (by omega)
      · refine gz_eq (kx := 0) rfl (show (0 : Int32).toInt = 0 from by decide) (fun _ => ?_) (fun q => absurd q (by decide))
        refine g_run 2 rfl ?_
        exact ih (k + 1) _ _ (inc1 iE (by omega)) (by rw [oz_f (p := (fun s => decide ((hp.1 27 s).toInt ≠ -1 ∧ (hp.1 26 ((jI * 20) + (s : Int)).toNat).toInt ≠ -1))) (f := (fun s => (hp.1 26 ((jI * 20) + (s : Int)).toNat).toInt - (hp.1 27 s).toInt)) (k := k) (by simp only [Int.toNat_natCast] at *; simp; omega)]; exact aE) (by omega) (by omega)
theorem c_X2_excessOf {j : Int32} {jI : Int} (jE : j.toInt = jI) (hj : 0 ≤ jI ∧ jI < 5) (mw : ∀ i, i < 100 → -1 ≤ (hp.1 26 i).toInt ∧ (hp.1 26 i).toInt ≤ 100) (tw : ∀ i, i < 20 → -1 ≤ (hp.1 27 i).toInt ∧ (hp.1 27 i).toInt ≤ 100) (h1 : ∀ r : Int32, r.toInt = oz (fun s => decide ((hp.1 27 s).toInt ≠ -1 ∧ (hp.1 26 ((jI * 20) + (s : Int)).toNat).toInt ≠ -1)) (fun s => (hp.1 26 ((jI * 20) + (s : Int)).toNat).toInt - (hp.1 27 s).toInt) 20 → Q (some (.int r)) (SH b xs) hp) : gC mX2_excessOf (d + 1) 0 0 [.ref 25, .int j] (SH b xs) hp Q := by
  refine g_enter okX2_excessOf (plainFor_of_name rfl) rfl ?_
  refine g_run 4 rfl ?_
  exact lp_X2_excessOf mw tw jE hj h1 21 0 0 0 (by decide) (show (0 : Int32).toInt = 0 from by decide) (by omega) (by omega)
theorem lp_X2_weigh  (mw : ∀ i, i < 100 → -1 ≤ (hp.1 26 i).toInt ∧ (hp.1 26 i).toInt ≤ 100) (tw : ∀ i, i < 20 → -1 ≤ (hp.1 27 i).toInt ∧ (hp.1 27 i).toInt ≤ 100) {a : Int32} {aI : Int} (aE : a.toInt = aI) (ha : 0 ≤ aI ∧ aI < 20) (h1 : 0 ≤ aI ∧ aI < 20 ∧ 0 < (wz (fun jj : Nat => cz (fun s => decide ((hp.1 27 s).toInt ≠ -1 ∧ (hp.1 26 (((jj : Int) * 20) + (s : Int)).toNat).toInt ≠ -1)) 20) (fun jj : Nat => (hp.1 26 (((jj : Int) * 20) + aI).toNat).toInt) (fun jj : Nat => oz (fun s => decide ((hp.1 27 s).toInt ≠ -1 ∧ (hp.1 26 (((jj : Int) * 20) + (s : Int)).toNat).toInt ≠ -1)) (fun s => (hp.1 26 (((jj : Int) * 20) + (s : Int)).toNat).toInt - (hp.1 27 s).toInt) 20) 5).2.2 → ∀ u dd : Int64, u.toInt = (wz (fun jj : Nat => cz (fun s => decide ((hp.1 27 s).toInt ≠ -1 ∧ (hp.1 26 (((jj : Int) * 20) + (s : Int)).toNat).toInt ≠ -1)) 20) (fun jj : Nat => (hp.1 26 (((jj : Int) * 20) + aI).toNat).toInt) (fun jj : Nat => oz (fun s => decide ((hp.1 27 s).toInt ≠ -1 ∧ (hp.1 26 (((jj : Int) * 20) + (s : Int)).toNat).toInt ≠ -1)) (fun s => (hp.1 26 (((jj : Int) * 20) + (s : Int)).toNat).toInt - (hp.1 27 s).toInt) 20) 5).1 → dd.toInt = (wz (fun jj : Nat => cz (fun s => decide ((hp.1 27 s).toInt ≠ -1 ∧ (hp.1 26 (((jj : Int) * 20) + (s : Int)).toNat).toInt ≠ -1)) 20) (fun jj : Nat => (hp.1 26 (((jj : Int) * 20) + aI).toNat).toInt) (fun jj : Nat => oz (fun s => decide ((hp.1 27 s).toInt ≠ -1 ∧ (hp.1 26 (((jj : Int) * 20) + (s : Int)).toNat).toInt ≠ -1)) (fun s => (hp.1 26 (((jj : Int) * 20) + (s : Int)).toNat).toInt - (hp.1 27 s).toInt) 20) 5).2.1 * (wz (fun jj : Nat => cz (fun s => decide ((hp.1 27 s).toInt ≠ -1 ∧ (hp.1 26 (((jj : Int) * 20) + (s : Int)).toNat).toInt ≠ -1)) 20) (fun jj : Nat => (hp.1 26 (((jj : Int) * 20) + aI).toNat).toInt) (fun jj : Nat => oz (fun s => decide ((hp.1 27 s).toInt ≠ -1 ∧ (hp.1 26 (((jj : Int) * 20) + (s : Int)).toNat).toInt ≠ -1)) (fun s => (hp.1 26 (((jj : Int) * 20) + (s : Int)).toNat).toInt - (hp.1 27 s).toInt) 20) 5).2.2 → Q (some (.int 1)) (SH b xs) (sL (sL hp 25 2 u) 25 3 dd)) (h2 : 0 ≤ aI ∧ aI < 20 ∧ (wz (fun jj : Nat => cz (fun s => decide ((hp.1 27 s).toInt ≠ -1 ∧ (hp.1 26 (((jj : Int) * 20) + (s : Int)).toNat).toInt ≠ -1)) 20) (fun jj : Nat => (hp.1 26 (((jj : Int) * 20) + aI).toNat).toInt) (fun jj : Nat => oz (fun s => decide ((hp.1 27 s).toInt ≠ -1 ∧ (hp.1 26 (((jj : Int) * 20) + (s : Int)).toNat).toInt ≠ -1)) (fun s => (hp.1 26 (((jj : Int) * 20) + (s : Int)).toNat).toInt - (hp.1 27 s).toInt) 20) 5).2.2 = 0 → ∀ u dd : Int64, Q (some (.int 0)) (SH b xs) (sL (sL hp 25 2 u) 25 3 dd)) : ∀ (f k : Nat) (i J : Int32) (u dd : Int64) (w4 w5 w6 w7 : Value), i.toInt = (k : Int) → J.toInt = (wz (fun jj : Nat => cz (fun s => decide ((hp.1 27 s).toInt ≠ -1 ∧ (hp.1 26 (((jj : Int) * 20) + (s : Int)).toNat).toInt ≠ -1)) 20) (fun jj : Nat => (hp.1 26 (((jj : Int) * 20) + aI).toNat).toInt) (fun jj : Nat => oz (fun s => decide ((hp.1 27 s).toInt ≠ -1 ∧ (hp.1 26 (((jj : Int) * 20) + (s : Int)).toNat).toInt ≠ -1)) (fun s => (hp.1 26 (((jj : Int) * 20) + (s : Int)).toNat).toInt - (hp.1 27 s).toInt) 20) k).2.2 → u.toInt = (wz (fun jj : Nat => cz (fun s => decide ((hp.1 27 s).toInt ≠ -1 ∧ (hp.1 26 (((jj : Int) * 20) + (s : Int)).toNat).toInt ≠ -1)) 20) (fun jj : Nat => (hp.1 26 (((jj : Int) * 20) + aI).toNat).toInt) (fun jj : Nat => oz (fun s => decide ((hp.1 27 s).toInt ≠ -1 ∧ (hp.1 26 (((jj : Int) * 20) + (s : Int)).toNat).toInt ≠ -1)) (fun s => (hp.1 26 (((jj : Int) * 20) + (s : Int)).toNat).toInt - (hp.1 27 s).toInt) 20) k).1 → dd.toInt = (wz (fun jj : Nat => cz (fun s => decide ((hp.1 27 s).toInt ≠ -1 ∧ (hp.1 26 (((jj : Int) * 20) + (s : Int)).toNat).toInt ≠ -1)) 20) (fun jj : Nat => (hp.1 26 (((jj : Int) * 20) + aI).toNat).toInt) (fun jj : Nat => oz (fun s => decide ((hp.1 27 s).toInt ≠ -1 ∧ (hp.1 26 (((jj : Int) * 20) + (s : Int)).toNat).toInt ≠ -1)) (fun s => (hp.1 26 (((jj : Int) * 20) + (s : Int)).toNat).toInt - (hp.1 27 s).toInt) 20) k).2.1 → k ≤ 5 → 5 - k < f → gG mX2_weigh (d + 2) 0 0 (zQ 0 0 Q) 0 0 (23, [.ref 25, .int a, .int J, .int i, w4, w5, w6, w7], [], (SH b xs), (sL (sL hp 25 2 u) 25 3 dd)) := by
  intro f
  induction f with
  | zero => intros; omega
  | succ f ih =>
    intro k i J u dd w4 w5 w6 w7 iE jE uE dE hk hf
    have hbd := wz_bd (n := (fun jj : Nat => cz (fun s => decide ((hp.1 27 s).toInt ≠ -1 ∧ (hp.1 26 (((jj : Int) * 20) + (s : Int)).toNat).toInt ≠ -1)) 20)) (g := (fun jj : Nat => (hp.1 26 (((jj : Int) * 20) + aI).toNat).toInt)) (o := (fun jj : Nat => oz (fun s => decide ((hp.1 27 s).toInt ≠ -1 ∧ (hp.1 26 (((jj : Int) * 20) + (s : Int)).toNat).toInt ≠ -1)) (fun s => (hp.1 26 (((jj : Int) * 20) + (s : Int)).toNat).toInt - (hp.1 27 s).toInt) 20)) (by intro z hz; have := cz_bd (p := (fun s => decide ((hp.1 27 s).toInt ≠ -1 ∧ (hp.1 26 (((z : Int) * 20) + (s : Int)).toNat).toInt ≠ -1))) 20; (try dsimp only); omega) (by intro z hz; have := mw (((z : Int) * 20) + aI).toNat (by omega); (try dsimp only); omega) (by intro z hz; have := oz_bd (p := (fun s => decide ((hp.1 27 s).toInt ≠ -1 ∧ (hp.1 26 (((z : Int) * 20) + (s : Int)).toNat).toInt ≠ -1))) (f := (fun s => (hp.1 26 (((z : Int) * 20) + (s : Int)).toNat).toInt - (hp.1 27 s).toInt)) (B := 101) (n := 20) (by omega) (fun s hs => by have := mw (((z : Int) * 20) + (s : Int)).toNat (by omega); have := tw s hs; (try dsimp only); omega) 20 (by omega); (try dsimp only); omega)
    refine g_run 2 rfl ?_
    refine gj_ge (kx := (k : Int)) (kz := 5) rfl iE (by decide) (fun k1 => ?_) (fun k1 => ?_)
    · refine g_run 8 rfl ?_
      refine gz_le (kx := (wz (fun jj : Nat => cz (fun s => decide ((hp.1 27 s).toInt ≠ -1 ∧ (hp.1 26 (((jj : Int) * 20) + (s : Int)).toNat).toInt ≠ -1)) 20) (fun jj : Nat => (hp.1 26 (((jj : Int) * 20) + aI).toNat).toInt) (fun jj : Nat => oz (fun s => decide ((hp.1 27 s).toInt ≠ -1 ∧ (hp.1 26 (((jj : Int) * 20) + (s : Int)).toNat).toInt ≠ -1)) (fun s => (hp.1 26 (((jj : Int) * 20) + (s : Int)).toNat).toInt - (hp.1 27 s).toInt) 20) k).2.2) rfl jE (fun k2 => ?_) (fun k2 => ?_)
      · refine g_run 1 rfl ?_
        obtain rfl : k = 5 := by omega
        rw [sL_same]
        have hbk := hbd 5 (by omega)
        exact g_zret rfl rfl (Or.inl rfl) (h2 (by omega) _ _)
      · refine g_run 2 rfl ?_
        obtain rfl : k = 5 := by omega
        rw [sL_same]
        exact g_zret rfl rfl (Or.inr rfl) (h1 (by omega) _ _ uE (by have hbk := hbd 5 (by omega); exact la_mul2 dE (t64 jE) (by have := mul_bd (a := (wz (fun jj : Nat => cz (fun s => decide ((hp.1 27 s).toInt ≠ -1 ∧ (hp.1 26 (((jj : Int) * 20) + (s : Int)).toNat).toInt ≠ -1)) 20) (fun jj : Nat => (hp.1 26 (((jj : Int) * 20) + aI).toNat).toInt) (fun jj : Nat => oz (fun s => decide ((hp.1 27 s).toInt ≠ -1 ∧ (hp.1 26 (((jj : Int) * 20) + (s : Int)).toNat).toInt ≠ -1)) (fun s => (hp.1 26 (((jj : Int) * 20) + (s : Int)).toNat).toInt - (hp.1 27 s).toInt) 20) 5).2.1) (b := (wz (fun jj : Nat => cz (fun s => decide ((hp.1 27 s).toInt ≠ -1 ∧ (hp.1 26 (((jj : Int) * 20) + (s : Int)).toNat).toInt ≠ -1)) 20) (fun jj : Nat => (hp.1 26 (((jj : Int) * 20) + aI).toNat).toInt) (fun jj : Nat => oz (fun s => decide ((hp.1 27 s).toInt ≠ -1 ∧ (hp.1 26 (((jj : Int) * 20) + (s : Int)).toNat).toInt ≠ -1)) (fun s => (hp.1 26 (((jj : Int) * 20) + (s : Int)).toNat).toInt - (hp.1 27 s).toInt) 20) 5).2.2) (A := 3200000) (B := 5) (by omega) (by omega); omega) (by have := mul_bd (a := (wz (fun jj : Nat => cz (fun s => decide ((hp.1 27 s).toInt ≠ -1 ∧ (hp.1 26 (((jj : Int) * 20) + (s : Int)).toNat).toInt ≠ -1)) 20) (fun jj : Nat => (hp.1 26 (((jj : Int) * 20) + aI).toNat).toInt) (fun jj : Nat => oz (fun s => decide ((hp.1 27 s).toInt ≠ -1 ∧ (hp.1 26 (((jj : Int) * 20) + (s : Int)).toNat).toInt ≠ -1)) (fun s => (hp.1 26 (((jj : Int) * 20) + (s : Int)).toNat).toInt - (hp.1 27 s).toInt) 20) 5).2.1) (b := (wz (fun jj : Nat => cz (fun s => decide ((hp.1 27 s).toInt ≠ -1 ∧ (hp.1 26 (((jj : Int) * 20) + (s : Int)).toNat).toInt ≠ -1)) 20) (fun jj : Nat => (hp.1 26 (((jj : Int) * 20) + aI).toNat).toInt) (fun jj : Nat => oz (fun s => decide ((hp.1 27 s).toInt ≠ -1 ∧ (hp.1 26 (((jj : Int) * 20) + (s : Int)).toNat).toInt ≠ -1)) (fun s => (hp.1 26 (((jj : Int) * 20) + (s : Int)).toNat).toInt - (hp.1 27 s).toInt) 20) 5).2.2) (A := 3200000) (B := 5) (by omega) (by omega); omega)))
    · refine g_run 2 rfl ?_
      refine g_callV0 rfl LX2_57 rfl rfl rfl rfl ?_
      refine c_X2_toldMarkedBy (jI := (k : Int)) iE (by omega) (fun nn rN => ?_)
      have rN : nn.toInt = (cz (fun s => decide ((hp.1 27 s).toInt ≠ -1 ∧ (hp.1 26 (((k : Int) * 20) + (s : Int)).toNat).toInt ≠ -1)) 20) := rN
      refine g_run 8 rfl ?_
      refine g_iald (j := (((k : Int) * 20) + aI).toNat) rfl rfl ((show _ = (((k : Int) * 20) + aI) from (ia_add2 (ia_mul2 iE (by decide) (by omega) (by omega)) aE (by omega) (by omega))).trans (by omega)) (by omega) ?_
      refine g_run 3 rfl ?_
      refine gj_eq (kx := (hp.1 26 ((((k : Int) * 20) + aI).toNat)).toInt) (kz := (-1)) rfl rfl (by decide) (fun k3 => ?_) (fun k3 => ?_)
      · refine g_run 2 rfl ?_
        have hmk := mw (((k : Int) * 20) + aI).toNat (by omega)
        have hw := wz_f (n := (fun jj : Nat => cz (fun s => decide ((hp.1 27 s).toInt ≠ -1 ∧ (hp.1 26 (((jj : Int) * 20) + (s : Int)).toNat).toInt ≠ -1)) 20)) (g := (fun jj : Nat => (hp.1 26 (((jj : Int) * 20) + aI).toNat).toInt)) (o := (fun jj : Nat => oz (fun s => decide ((hp.1 27 s).toInt ≠ -1 ∧ (hp.1 26 (((jj : Int) * 20) + (s : Int)).toNat).toInt ≠ -1)) (fun s => (hp.1 26 (((jj : Int) * 20) + (s : Int)).toNat).toInt - (hp.1 27 s).toInt) 20)) (k := k) (by (try dsimp only); omega)
        exact ih (k + 1) _ _ _ _ _ _ _ _ (inc1 iE (by omega)) (by rw [hw]; exact jE) (by rw [hw]; exact uE) (by rw [hw]; exact dE) (by omega) (by omega)
      · refine g_run 1 rfl ?_
        refine gz_le (kx := (cz (fun s => decide ((hp.1 27 s).toInt ≠ -1 ∧ (hp.1 26 (((k : Int) * 20) + (s : Int)).toNat).toInt ≠ -1)) 20)) rfl rN (fun k4 => ?_) (fun k4 => ?_)
        · refine g_run 2 rfl ?_
          have hmk := mw (((k : Int) * 20) + aI).toNat (by omega)
          have hw := wz_f (n := (fun jj : Nat => cz (fun s => decide ((hp.1 27 s).toInt ≠ -1 ∧ (hp.1 26 (((jj : Int) * 20) + (s : Int)).toNat).toInt ≠ -1)) 20)) (g := (fun jj : Nat => (hp.1 26 (((jj : Int) * 20) + aI).toNat).toInt)) (o := (fun jj : Nat => oz (fun s => decide ((hp.1 27 s).toInt ≠ -1 ∧ (hp.1 26 (((jj : Int) * 20) + (s : Int)).toNat).toInt ≠ -1)) (fun s => (hp.1 26 (((jj : Int) * 20) + (s : Int)).toNat).toInt - (hp.1 27 s).toInt) 20)) (k := k) (by (try dsimp only); omega)
          exact ih (k + 1) _ _ _ _ _ _ _ _ (inc1 iE (by omega)) (by rw [hw]; exact jE) (by rw [hw]; exact uE) (by rw [hw]; exact dE) (by omega) (by omega)
        · refine g_run 7 rfl ?_
          refine g_callV0 rfl LX2_61 rfl rfl rfl rfl ?_
          refine c_X2_excessOf (jI := (k : Int)) iE (by omega) mw tw (fun oo rO => ?_)
          have rO : oo.toInt = (oz (fun s => decide ((hp.1 27 s).toInt ≠ -1 ∧ (hp.1 26 (((k : Int) * 20) + (s : Int)).toNat).toInt ≠ -1)) (fun s => (hp.1 26 (((k : Int) * 20) + (s : Int)).toNat).toInt - (hp.1 27 s).toInt) 20) := rO
          refine g_run 25 rfl ?_
          rw [sL_norm (by decide)]
          have hmk := mw (((k : Int) * 20) + aI).toNat (by omega)
          have hbk := hbd k (by omega)
          have hnk := cz_bd (p := (fun s => decide ((hp.1 27 s).toInt ≠ -1 ∧ (hp.1 26 (((k : Int) * 20) + (s : Int)).toNat).toInt ≠ -1))) 20
          have hst := wz_64 uE dE (t64 rN) (t64 rfl) (t64 rO) (by omega) (by omega) (by omega) (by omega) (by have := oz_bd (p := (fun s => decide ((hp.1 27 s).toInt ≠ -1 ∧ (hp.1 26 (((k : Int) * 20) + (s : Int)).toNat).toInt ≠ -1))) (f := (fun s => (hp.1 26 (((k : Int) * 20) + (s : Int)).toNat).toInt - (hp.1 27 s).toInt)) (B := 101) (n := 20) (by omega) (fun s hs => by have := mw (((k : Int) * 20) + (s : Int)).toNat (by omega); have := tw s hs; (try dsimp only); omega) 20 (by omega); omega)
          have hw := wz_t (n := (fun jj : Nat => cz (fun s => decide ((hp.1 27 s).toInt ≠ -1 ∧ (hp.1 26 (((jj : Int) * 20) + (s : Int)).toNat).toInt ≠ -1)) 20)) (g := (fun jj : Nat => (hp.1 26 (((jj : Int) * 20) + aI).toNat).toInt)) (o := (fun jj : Nat => oz (fun s => decide ((hp.1 27 s).toInt ≠ -1 ∧ (hp.1 26 (((jj : Int) * 20) + (s : Int)).toNat).toInt ≠ -1)) (fun s => (hp.1 26 (((jj : Int) * 20) + (s : Int)).toNat).toInt - (hp.1 27 s).toInt) 20)) (k := k) (by (try dsimp only); omega)
          exact ih (k + 1) _ _ _ _ _ _ _ _ (inc1 iE (by omega)) (by rw [hw]; exact ia_add2 jE (by decide) (by omega) (by omega)) (by rw [hw]; exact hst.1) (by rw [hw]; exact hst.2) (by omega) (by omega)
theorem c_X2_weigh {a : Int32} {aI : Int} (aE : a.toInt = aI) (mw : ∀ i, i < 100 → -1 ≤ (hp.1 26 i).toInt ∧ (hp.1 26 i).toInt ≤ 100) (tw : ∀ i, i < 20 → -1 ≤ (hp.1 27 i).toInt ∧ (hp.1 27 i).toInt ≤ 100) (h1 : 0 ≤ aI ∧ aI < 20 ∧ 0 < (wz (fun jj : Nat => cz (fun s => decide ((hp.1 27 s).toInt ≠ -1 ∧ (hp.1 26 (((jj : Int) * 20) + (s : Int)).toNat).toInt ≠ -1)) 20) (fun jj : Nat => (hp.1 26 (((jj : Int) * 20) + aI).toNat).toInt) (fun jj : Nat => oz (fun s => decide ((hp.1 27 s).toInt ≠ -1 ∧ (hp.1 26 (((jj : Int) * 20) + (s : Int)).toNat).toInt ≠ -1)) (fun s => (hp.1 26 (((jj : Int) * 20) + (s : Int)).toNat).toInt - (hp.1 27 s).toInt) 20) 5).2.2 → ∀ u dd : Int64, u.toInt = (wz (fun jj : Nat => cz (fun s => decide ((hp.1 27 s).toInt ≠ -1 ∧ (hp.1 26 (((jj : Int) * 20) + (s : Int)).toNat).toInt ≠ -1)) 20) (fun jj : Nat => (hp.1 26 (((jj : Int) * 20) + aI).toNat).toInt) (fun jj : Nat => oz (fun s => decide ((hp.1 27 s).toInt ≠ -1 ∧ (hp.1 26 (((jj : Int) * 20) + (s : Int)).toNat).toInt ≠ -1)) (fun s => (hp.1 26 (((jj : Int) * 20) + (s : Int)).toNat).toInt - (hp.1 27 s).toInt) 20) 5).1 → dd.toInt = (wz (fun jj : Nat => cz (fun s => decide ((hp.1 27 s).toInt ≠ -1 ∧ (hp.1 26 (((jj : Int) * 20) + (s : Int)).toNat).toInt ≠ -1)) 20) (fun jj : Nat => (hp.1 26 (((jj : Int) * 20) + aI).toNat).toInt) (fun jj : Nat => oz (fun s => decide ((hp.1 27 s).toInt ≠ -1 ∧ (hp.1 26 (((jj : Int) * 20) + (s : Int)).toNat).toInt ≠ -1)) (fun s => (hp.1 26 (((jj : Int) * 20) + (s : Int)).toNat).toInt - (hp.1 27 s).toInt) 20) 5).2.1 * (wz (fun jj : Nat => cz (fun s => decide ((hp.1 27 s).toInt ≠ -1 ∧ (hp.1 26 (((jj : Int) * 20) + (s : Int)).toNat).toInt ≠ -1)) 20) (fun jj : Nat => (hp.1 26 (((jj : Int) * 20) + aI).toNat).toInt) (fun jj : Nat => oz (fun s => decide ((hp.1 27 s).toInt ≠ -1 ∧ (hp.1 26 (((jj : Int) * 20) + (s : Int)).toNat).toInt ≠ -1)) (fun s => (hp.1 26 (((jj : Int) * 20) + (s : Int)).toNat).toInt - (hp.1 27 s).toInt) 20) 5).2.2 → Q (some (.int 1)) (SH b xs) (sL (sL hp 25 2 u) 25 3 dd)) (h2 : 0 ≤ aI ∧ aI < 20 ∧ (wz (fun jj : Nat => cz (fun s => decide ((hp.1 27 s).toInt ≠ -1 ∧ (hp.1 26 (((jj : Int) * 20) + (s : Int)).toNat).toInt ≠ -1)) 20) (fun jj : Nat => (hp.1 26 (((jj : Int) * 20) + aI).toNat).toInt) (fun jj : Nat => oz (fun s => decide ((hp.1 27 s).toInt ≠ -1 ∧ (hp.1 26 (((jj : Int) * 20) + (s : Int)).toNat).toInt ≠ -1)) (fun s => (hp.1 26 (((jj : Int) * 20) + (s : Int)).toNat).toInt - (hp.1 27 s).toInt) 20) 5).2.2 = 0 → ∀ u dd : Int64, Q (some (.int 0)) (SH b xs) (sL (sL hp 25 2 u) 25 3 dd)) (h0 : aI < 0 ∨ 20 ≤ aI → Q (some (.int 0)) (SH b xs) hp) : gC mX2_weigh (d + 2) 0 0 [.ref 25, .int a] (SH b xs) hp Q := by
  refine g_enter okX2_weigh (plainFor_of_name rfl) rfl ?_
  refine g_run 1 rfl ?_
  refine g_callS0 rfl LX2_35 rfl rfl ?_
  refine c_X2_hasSample (nI := aI) aE (fun k1 => ?_) (fun k2 => ?_)
  · refine gz_ne (kx := 1) rfl (show (1 : Int32).toInt = 1 from by decide) (fun _ => ?_) (fun q => absurd q (by decide))
    refine g_run 10 rfl ?_
    exact lp_X2_weigh mw tw aE (by omega) h1 h2 6 0 0 0 0 1 _ _ _ _ (by decide) (show (0 : Int32).toInt = 0 from by decide) (show (0 : Int64).toInt = 0 from by decide) (show (1 : Int64).toInt = 1 from by decide) (by omega) (by omega)
  · refine gz_ne (kx := 0) rfl (show (0 : Int32).toInt = 0 from by decide) (fun q => absurd q (by decide)) (fun _ => ?_)
    refine g_run 1 rfl ?_
    exact g_zret rfl rfl (Or.inl rfl) (h0 (by omega))
end S17
