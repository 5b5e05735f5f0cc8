/-! the reference reads a text: its small methods -/
def AM (hp : hp_T) (i : Nat) (f : Int32) (c D : Nat) (w1 w2 w3 op on : Nat → Int32) : hp_T := sI (sI (sI (sI (sR (sR (sR (sR (sR hp 55 w1) 56 w2) 57 w3) 53 op) 54 on) 43 7 (nI i)) 43 8 f) 43 18 (nI c)) 43 19 (nI D)
section AMS
variable {hp : hp_T} {i c D : Nat} {f v : Int32} {w1 w2 w3 op on : Nat → Int32} {j : Nat}
theorem am_i : sI (AM hp i f c D w1 w2 w3 op on) 43 7 (nI i + 1) = (AM hp (i + 1) f c D w1 w2 w3 op on) := by
  rw [nI_1]
  refine two_ext (fun z j => ?_) rfl
  by_cases h1 : z = 43
  · subst h1
    by_cases j7 : j = 7
    · subst j7; simp [AM, sI, sR, va_up]
    by_cases j8 : j = 8
    · subst j8; simp [AM, sI, sR, va_up]
    by_cases j18 : j = 18
    · subst j18; simp [AM, sI, sR, va_up]
    by_cases j19 : j = 19
    · subst j19; simp [AM, sI, sR, va_up]
    simp [AM, sI, sR, va_up, j7, j8, j18, j19]
  · simp [AM, sI, sR, va_up, h1]
theorem am_f : sI (AM hp i f c D w1 w2 w3 op on) 43 8 v = (AM hp i v c D w1 w2 w3 op on) := by
  refine two_ext (fun z j => ?_) rfl
  by_cases h1 : z = 43
  · subst h1
    by_cases j7 : j = 7
    · subst j7; simp [AM, sI, sR, va_up]
    by_cases j8 : j = 8
    · subst j8; simp [AM, sI, sR, va_up]
    by_cases j18 : j = 18
    · subst j18; simp [AM, sI, sR, va_up]
    by_cases j19 : j = 19
    · subst j19; simp [AM, sI, sR, va_up]
    simp [AM, sI, sR, va_up, j7, j8, j18, j19]
  · simp [AM, sI, sR, va_up, h1]
theorem am_c0 : sI (AM hp i f c D w1 w2 w3 op on) 43 18 (nI c + 1) = (AM hp i f (c + 1) D w1 w2 w3 op on) := by
  rw [nI_1]
  refine two_ext (fun z j => ?_) rfl
  by_cases h1 : z = 43
  · subst h1
    by_cases j7 : j = 7
    · subst j7; simp [AM, sI, sR, va_up]
    by_cases j8 : j = 8
    · subst j8; simp [AM, sI, sR, va_up]
    by_cases j18 : j = 18
    · subst j18; simp [AM, sI, sR, va_up]
    by_cases j19 : j = 19
    · subst j19; simp [AM, sI, sR, va_up]
    simp [AM, sI, sR, va_up, j7, j8, j18, j19]
  · simp [AM, sI, sR, va_up, h1]
theorem am_D1 : sI (AM hp i f c D w1 w2 w3 op on) 43 19 (nI D + 1) = (AM hp i f c (D + 1) w1 w2 w3 op on) := by
  rw [nI_1]
  refine two_ext (fun z j => ?_) rfl
  by_cases h1 : z = 43
  · subst h1
    by_cases j7 : j = 7
    · subst j7; simp [AM, sI, sR, va_up]
    by_cases j8 : j = 8
    · subst j8; simp [AM, sI, sR, va_up]
    by_cases j18 : j = 18
    · subst j18; simp [AM, sI, sR, va_up]
    by_cases j19 : j = 19
    · subst j19; simp [AM, sI, sR, va_up]
    simp [AM, sI, sR, va_up, j7, j8, j18, j19]
  · simp [AM, sI, sR, va_up, h1]
theorem am_D0 : sI (AM hp i f c D w1 w2 w3 op on) 43 19 0 = (AM hp i f c 0 w1 w2 w3 op on) := by
  rw [← nI_0]
  refine two_ext (fun z j => ?_) rfl
  by_cases h1 : z = 43
  · subst h1
    by_cases j7 : j = 7
    · subst j7; simp [AM, sI, sR, va_up]
    by_cases j8 : j = 8
    · subst j8; simp [AM, sI, sR, va_up]
    by_cases j18 : j = 18
    · subst j18; simp [AM, sI, sR, va_up]
    by_cases j19 : j = 19
    · subst j19; simp [AM, sI, sR, va_up]
    simp [AM, sI, sR, va_up, j7, j8, j18, j19]
  · simp [AM, sI, sR, va_up, h1]
theorem nI_m1 {a : Nat} (h : 1 ≤ a) (h2 : a < 2147483648) : nI a - 1 = nI (a - 1) := (ia_eq _ _).mpr (by rw [ia_sub2 (nI_toInt (by omega)) (by decide : (1 : Int32).toInt = 1) (by omega) (by omega), nI_toInt (by omega)]; omega)
theorem am_Dm (hD : 1 ≤ D) (hD2 : D < 2147483648) : sI (AM hp i f c D w1 w2 w3 op on) 43 19 (nI D - 1) = (AM hp i f c (D - 1) w1 w2 w3 op on) := by
  rw [nI_m1 hD hD2]
  refine two_ext (fun z j => ?_) rfl
  by_cases h1 : z = 43
  · subst h1
    by_cases j7 : j = 7
    · subst j7; simp [AM, sI, sR, va_up]
    by_cases j8 : j = 8
    · subst j8; simp [AM, sI, sR, va_up]
    by_cases j18 : j = 18
    · subst j18; simp [AM, sI, sR, va_up]
    by_cases j19 : j = 19
    · subst j19; simp [AM, sI, sR, va_up]
    simp [AM, sI, sR, va_up, j7, j8, j18, j19]
  · simp [AM, sI, sR, va_up, h1]
theorem am_w1 : sI (AM hp i f c D w1 w2 w3 op on) 55 j v = (AM hp i f c D (va_up w1 j v) w2 w3 op on) := by
  refine two_ext (fun z i => ?_) rfl
  by_cases h1 : z = 43
  · subst h1; simp [AM, sI, sR, va_up]
  · by_cases h2 : z = 55
    · subst h2; simp [AM, sI, sR, va_up]
    · simp [AM, sI, sR, va_up, h1, h2]
theorem am_w2 : sI (AM hp i f c D w1 w2 w3 op on) 56 j v = (AM hp i f c D w1 (va_up w2 j v) w3 op on) := by
  refine two_ext (fun z i => ?_) rfl
  by_cases h1 : z = 43
  · subst h1; simp [AM, sI, sR, va_up]
  · by_cases h2 : z = 56
    · subst h2; simp [AM, sI, sR, va_up]
    · simp [AM, sI, sR, va_up, h1, h2]
theorem am_w3 : sI (AM hp i f c D w1 w2 w3 op on) 57 j v = (AM hp i f c D w1 w2 (va_up w3 j v) op on) := by
  refine two_ext (fun z i => ?_) rfl
  by_cases h1 : z = 43
  · subst h1; simp [AM, sI, sR, va_up]
  · by_cases h2 : z = 57
    · subst h2; simp [AM, sI, sR, va_up]
    · simp [AM, sI, sR, va_up, h1, h2]
theorem am_op : sI (AM hp i f c D w1 w2 w3 op on) 53 j v = (AM hp i f c D w1 w2 w3 (va_up op j v) on) := by
  refine two_ext (fun z i => ?_) rfl
  by_cases h1 : z = 43
  · subst h1; simp [AM, sI, sR, va_up]
  · by_cases h2 : z = 53
    · subst h2; simp [AM, sI, sR, va_up]
    · simp [AM, sI, sR, va_up, h1, h2]
theorem am_on : sI (AM hp i f c D w1 w2 w3 op on) 54 j v = (AM hp i f c D w1 w2 w3 op (va_up on j v)) := by
  refine two_ext (fun z i => ?_) rfl
  by_cases h1 : z = 43
  · subst h1; simp [AM, sI, sR, va_up]
  · by_cases h2 : z = 54
    · subst h2; simp [AM, sI, sR, va_up]
    · simp [AM, sI, sR, va_up, h1, h2]
theorem am_c {o a : Int32} : sI (sI (sI (AM hp i f c D w1 w2 w3 op on) 53 j o) 54 j a) 43 18 (nI c + 1) = (AM hp i f (c + 1) D w1 w2 w3 (va_up op j o) (va_up on j a)) := by rw [am_op, am_on, am_c0]
theorem am_iz : sI (AM hp i f c D w1 w2 w3 op on) 43 7 (nI i + 0) = (AM hp i f c D w1 w2 w3 op on) := by
  rw [Int32.add_zero]
  refine two_ext (fun z j => ?_) rfl
  by_cases h1 : z = 43
  · subst h1
    by_cases j7 : j = 7
    · subst j7; simp [AM, sI, sR, va_up]
    by_cases j8 : j = 8
    · subst j8; simp [AM, sI, sR, va_up]
    by_cases j18 : j = 18
    · subst j18; simp [AM, sI, sR, va_up]
    by_cases j19 : j = 19
    · subst j19; simp [AM, sI, sR, va_up]
    simp [AM, sI, sR, va_up, j7, j8, j18, j19]
  · simp [AM, sI, sR, va_up, h1]
end AMS
theorem l2i_s {v : Int64} {x : Int} (h : v.toInt = x) (hx : 0 ≤ x ∧ x ≤ 9999) : v.toInt32.toInt = x := by
  rw [Int64.toInt_toInt32, h]
  exact Int.bmod_eq_of_le (by omega) (by omega)
theorem lgc_0 {x z : Int64} (h : x = z) : (lg_cmp x z).toInt = 0 := by
  subst h
  unfold lg_cmp
  rw [if_neg (by simp), if_pos rfl]
  decide
theorem l_eq {x z : Int64} : x = z ↔ x.toInt = z.toInt := Int64.toInt_inj.symm
/-- what the reference's parser knows of its tables -/
def okF (hp : hp_T) (t : Nat → Int32) (n N nx : Nat) : Prop := okN t n (hp.1 45) (hp.1 46) (hp.2 47) (N + 1) ∧ (∀ w, w < 10 → (hp.2 48 w).toInt = wvM.getD w 0) ∧ (hp.1 43 17).toInt = (nx : Int) ∧ nx ≤ 1 ∧ N ≤ 600 ∧ n ≤ 600 ∧ ∀ j, j ≤ N → kd t n j ≠ 0 → j < N
section S44
variable {d : Nat} {hp : hp_T} {Q : Option Value → sh_T → hp_T → Prop} {b : Bool} {xs : sh_T} {t : Nat → Int32} {n N nx i c D : Nat} {f : Int32} {w1 w2 w3 op on : Nat → Int32}
theorem wrM0 {v : Int32} {x : Int} (hF : okF hp t n N nx) (hi : i ≤ N) (vE : v.toInt = x) (hx : 0 ≤ x ∧ x ≤ 100) (h1 : ∀ f2 : Int32, f2.toInt = x + 16 * (pl t n i : Int) → Q none (SH b xs) (AM hp i f2 c D w1 w2 w3 op on)) : gC mX10_wrong d 0 0 [.ref 43, .int v] (SH b xs) (AM hp i 0 c D w1 w2 w3 op on) Q := by
  have hpl := pl_le (t := t) (n := n) (i := i)
  have h6 := hF.2.2.2.2.2.1
  have hN := hF.2.2.2.2.1
  refine g_enter okX10_wrong (plainFor_of_name rfl) rfl ?_
  refine g_run 2 rfl ?_
  refine gz_ne (kx := 0) rfl (show (0 : Int32).toInt = 0 from by decide) (fun q => absurd rfl q) (fun _ => ?_)
  refine g_run 7 rfl ?_
  refine g_iald (j := i) rfl rfl (nI_toInt (by omega)) (by omega) ?_
  refine g_run 3 rfl ?_
  refine gG_hp am_f ?_
  exact g_vret rfl rfl (h1 _ (ia_add2 vE (ia_mul2 (by decide : (16 : Int32).toInt = 16) (hF.1 i (by omega)).1 (by omega) (by omega)) (by omega) (by omega)))
theorem wrM1 {v : Int32} (hf : f.toInt ≠ 0) (h1 : Q none (SH b xs) (AM hp i f c D w1 w2 w3 op on)) : gC mX10_wrong d 0 0 [.ref 43, .int v] (SH b xs) (AM hp i f c D w1 w2 w3 op on) Q := by
  refine g_enter okX10_wrong (plainFor_of_name rfl) rfl ?_
  refine g_run 2 rfl ?_
  refine gz_ne (kx := f.toInt) rfl rfl (fun _ => ?_) (fun q => absurd q hf)
  exact g_vret rfl rfl h1
theorem sgM {v : Int32} {x k : Int} (hF : okF hp t n N nx) (hi : i ≤ N) (vE : v.toInt = x) (hk : ((hp.1 45 i).toInt = 3 ∧ (hp.2 47 i).toInt = x) ↔ kd t n i = k) (h1 : kd t n i = k → Q (some (.int 1)) (SH b xs) (AM hp i 0 c D w1 w2 w3 op on)) (h0 : kd t n i ≠ k → Q (some (.int 0)) (SH b xs) (AM hp i 0 c D w1 w2 w3 op on)) : gC mX10_isSign d 0 0 [.ref 43, .int v] (SH b xs) (AM hp i 0 c D w1 w2 w3 op on) Q := by
  have hN := hF.2.2.2.2.1
  refine g_enter okX10_isSign (plainFor_of_name rfl) rfl ?_
  refine g_run 2 rfl ?_
  refine gz_ne (kx := 0) rfl (show (0 : Int32).toInt = 0 from by decide) (fun q => absurd rfl q) (fun _ => ?_)
  refine g_run 4 rfl ?_
  refine g_iald (j := i) rfl rfl (nI_toInt (by omega)) (by omega) ?_
  refine g_run 1 rfl ?_
  refine gj_ne (kx := (hp.1 45 i).toInt) (kz := 3) rfl rfl (by decide) (fun k1 => ?_) (fun k1 => ?_)
  · refine g_run 1 rfl ?_
    exact g_zret rfl rfl (Or.inl rfl) (h0 (fun q => k1 (hk.mpr q).1))
  · refine g_run 4 rfl ?_
    refine g_lald (j := i) rfl rfl (nI_toInt (by omega)) (by omega) ?_
    refine g_run 3 rfl ?_
    refine gz_ne (kx := (lg_cmp (hp.2 47 i) v.toInt64).toInt) rfl rfl (fun k2 => ?_) (fun k2 => ?_)
    · refine g_run 1 rfl ?_
      exact g_zret rfl rfl (Or.inl rfl) (h0 (fun q => k2 (lgc_0 (l_eq.mpr (by rw [t64 vE]; exact (hk.mpr q).2)))))
    · refine g_run 2 rfl ?_
      exact g_zret rfl rfl (Or.inr rfl) (h1 (hk.mp ⟨k1, by rw [l_eq.mp (lgc_eq k2), t64 vE]⟩))
theorem sgM1 {v : Int32} (hf : f.toInt ≠ 0) (h0 : Q (some (.int 0)) (SH b xs) (AM hp i f c D w1 w2 w3 op on)) : gC mX10_isSign d 0 0 [.ref 43, .int v] (SH b xs) (AM hp i f c D w1 w2 w3 op on) Q := by
  refine g_enter okX10_isSign (plainFor_of_name rfl) rfl ?_
  refine g_run 2 rfl ?_
  refine gz_ne (kx := f.toInt) rfl rfl (fun _ => ?_) (fun q => absurd q hf)
  refine g_run 1 rfl ?_
  exact g_zret rfl rfl (Or.inl rfl) h0
theorem wdM {v : Int32} {w : Nat} (hF : okF hp t n N nx) (hi : i ≤ N) (vE : v.toInt = (w : Int)) (hw : w < 10) (h1 : kd t n i = wkM.getD w 0 → Q (some (.int 1)) (SH b xs) (AM hp i 0 c D w1 w2 w3 op on)) (h0 : kd t n i ≠ wkM.getD w 0 → Q (some (.int 0)) (SH b xs) (AM hp i 0 c D w1 w2 w3 op on)) : gC mX10_isWord d 0 0 [.ref 43, .int v] (SH b xs) (AM hp i 0 c D w1 w2 w3 op on) Q := by
  have hN := hF.2.2.2.2.1
  have hk := (hF.1 i (by omega)).2.2.2.2.2.2.2.2.2.2.2 w hw
  have hv := hF.2.1 w hw
  refine g_enter okX10_isWord (plainFor_of_name rfl) rfl ?_
  refine g_run 2 rfl ?_
  refine gz_ne (kx := 0) rfl (show (0 : Int32).toInt = 0 from by decide) (fun q => absurd rfl q) (fun _ => ?_)
  refine g_run 4 rfl ?_
  refine g_iald (j := i) rfl rfl (nI_toInt (by omega)) (by omega) ?_
  refine g_run 1 rfl ?_
  refine gj_ne (kx := (hp.1 45 i).toInt) (kz := 1) rfl rfl (by decide) (fun k1 => ?_) (fun k1 => ?_)
  · refine g_run 1 rfl ?_
    exact g_zret rfl rfl (Or.inl rfl) (h0 (fun q => k1 (hk.mpr q).1))
  · refine g_run 4 rfl ?_
    refine g_lald (j := i) rfl rfl (nI_toInt (by omega)) (by omega) ?_
    refine g_run 3 rfl ?_
    refine g_lald (j := w) rfl rfl vE (by omega) ?_
    refine g_run 1 rfl ?_
    refine gz_ne (kx := (lg_cmp (hp.2 47 i) (hp.2 48 w)).toInt) rfl rfl (fun k2 => ?_) (fun k2 => ?_)
    · refine g_run 1 rfl ?_
      exact g_zret rfl rfl (Or.inl rfl) (h0 (fun q => k2 (lgc_0 (l_eq.mpr (by rw [hv]; exact (hk.mpr q).2)))))
    · refine g_run 2 rfl ?_
      exact g_zret rfl rfl (Or.inr rfl) (h1 (hk.mp ⟨k1, by rw [l_eq.mp (lgc_eq k2), hv]⟩))
theorem wdM1 {v : Int32} (hf : f.toInt ≠ 0) (h0 : Q (some (.int 0)) (SH b xs) (AM hp i f c D w1 w2 w3 op on)) : gC mX10_isWord d 0 0 [.ref 43, .int v] (SH b xs) (AM hp i f c D w1 w2 w3 op on) Q := by
  refine g_enter okX10_isWord (plainFor_of_name rfl) rfl ?_
  refine g_run 2 rfl ?_
  refine gz_ne (kx := f.toInt) rfl rfl (fun _ => ?_) (fun q => absurd q hf)
  refine g_run 1 rfl ?_
  exact g_zret rfl rfl (Or.inl rfl) h0
theorem tkM {v : Int32} {x k : Int} (hF : okF hp t n N nx) (hi : i ≤ N) (vE : v.toInt = x) (hk : ((hp.1 45 i).toInt = 3 ∧ (hp.2 47 i).toInt = x) ↔ kd t n i = k) (h1 : kd t n i = k → Q none (SH b xs) (AM hp (i + 1) 0 c D w1 w2 w3 op on)) (h0 : kd t n i ≠ k → ∀ f2 : Int32, f2.toInt = 1 + 16 * (pl t n i : Int) → Q none (SH b xs) (AM hp i f2 c D w1 w2 w3 op on)) : gC mX10_takeSign (d + 1) 0 0 [.ref 43, .int v] (SH b xs) (AM hp i 0 c D w1 w2 w3 op on) Q := by
  refine g_enter okX10_takeSign (plainFor_of_name rfl) rfl ?_
  refine g_run 2 rfl ?_
  refine g_callV0 rfl LX10_170 rfl rfl rfl rfl ?_
  refine sgM hF hi vE hk (fun k1 => ?_) (fun k1 => ?_)
  · refine gz_eq (kx := 1) rfl (show (1 : Int32).toInt = 1 from by decide) (fun q => absurd q (by decide)) (fun _ => ?_)
    refine g_run 7 rfl ?_
    refine gG_hp am_i ?_
    exact g_vret rfl rfl (h1 k1)
  · refine gz_eq (kx := 0) rfl (show (0 : Int32).toInt = 0 from by decide) (fun _ => ?_) (fun q => absurd rfl q)
    refine g_run 2 rfl ?_
    refine g_callV0 rfl LX10_173 rfl rfl rfl rfl ?_
    refine wrM0 hF hi (by decide : (1 : Int32).toInt = 1) (by omega) (fun f2 hf => ?_)
    exact g_vret rfl rfl (h0 k1 f2 hf)
theorem tkM1 {v : Int32} (hf : f.toInt ≠ 0) (h0 : Q none (SH b xs) (AM hp i f c D w1 w2 w3 op on)) : gC mX10_takeSign (d + 1) 0 0 [.ref 43, .int v] (SH b xs) (AM hp i f c D w1 w2 w3 op on) Q := by
  refine g_enter okX10_takeSign (plainFor_of_name rfl) rfl ?_
  refine g_run 2 rfl ?_
  refine g_callV0 rfl LX10_170 rfl rfl rfl rfl ?_
  refine sgM1 hf ?_
  refine gz_eq (kx := 0) rfl (show (0 : Int32).toInt = 0 from by decide) (fun _ => ?_) (fun q => absurd rfl q)
  refine g_run 2 rfl ?_
  refine g_callV0 rfl LX10_173 rfl rfl rfl rfl ?_
  refine wrM1 hf ?_
  exact g_vret rfl rfl h0
theorem twM {v : Int32} {w : Nat} (hF : okF hp t n N nx) (hi : i ≤ N) (vE : v.toInt = (w : Int)) (hw : w < 10) (h1 : kd t n i = wkM.getD w 0 → Q none (SH b xs) (AM hp (i + 1) 0 c D w1 w2 w3 op on)) (h0 : kd t n i ≠ wkM.getD w 0 → ∀ f2 : Int32, f2.toInt = 1 + 16 * (pl t n i : Int) → Q none (SH b xs) (AM hp i f2 c D w1 w2 w3 op on)) : gC mX10_takeWord (d + 2) 0 0 [.ref 43, .int v] (SH b xs) (AM hp i 0 c D w1 w2 w3 op on) Q := by
  refine g_enter okX10_takeWord (plainFor_of_name rfl) rfl ?_
  refine g_run 2 rfl ?_
  refine g_callV0 rfl LX10_180 rfl rfl rfl rfl ?_
  refine g_enter okX10_hasWord (plainFor_of_name rfl) rfl ?_
  refine g_run 2 rfl ?_
  refine g_callV0 rfl LX10_177 rfl rfl rfl rfl ?_
  refine wdM hF hi vE hw (fun k1 => ?_) (fun k1 => ?_)
  · refine g_run 5 rfl ?_
    refine gz_eq (kx := 1) rfl (show (1 : Int32).toInt = 1 from by decide) (fun q => absurd q (by decide)) (fun _ => ?_)
    refine g_run 5 rfl ?_
    refine gG_hp am_i ?_
    refine g_zret rfl rfl (Or.inr rfl) ?_
    refine gz_ne (kx := 1) rfl (show (1 : Int32).toInt = 1 from by decide) (fun _ => ?_) (fun q => absurd q (by decide))
    exact g_vret rfl rfl (h1 k1)
  · refine g_run 5 rfl ?_
    refine gz_eq (kx := 0) rfl (show (0 : Int32).toInt = 0 from by decide) (fun _ => ?_) (fun q => absurd rfl q)
    refine g_run 4 rfl ?_
    refine gG_hp (h2 := (AM hp i 0 c D w1 w2 w3 op on)) (am_iz) ?_
    refine g_zret rfl rfl (Or.inl rfl) ?_
    refine gz_ne (kx := 0) rfl (show (0 : Int32).toInt = 0 from by decide) (fun q => absurd rfl q) (fun _ => ?_)
    refine g_run 2 rfl ?_
    refine g_callV0 rfl LX10_173 rfl rfl rfl rfl ?_
    refine wrM0 hF hi (by decide : (1 : Int32).toInt = 1) (by omega) (fun f2 hf => ?_)
    exact g_vret rfl rfl (h0 k1 f2 hf)
theorem twM1 {v : Int32} (hf : f.toInt ≠ 0) (h0 : Q none (SH b xs) (AM hp i f c D w1 w2 w3 op on)) : gC mX10_takeWord (d + 2) 0 0 [.ref 43, .int v] (SH b xs) (AM hp i f c D w1 w2 w3 op on) Q := by
  refine g_enter okX10_takeWord (plainFor_of_name rfl) rfl ?_
  refine g_run 2 rfl ?_
  refine g_callV0 rfl LX10_180 rfl rfl rfl rfl ?_
  refine g_enter okX10_hasWord (plainFor_of_name rfl) rfl ?_
  refine g_run 2 rfl ?_
  refine g_callV0 rfl LX10_177 rfl rfl rfl rfl ?_
  refine wdM1 hf ?_
  refine g_run 5 rfl ?_
  refine gz_eq (kx := 0) rfl (show (0 : Int32).toInt = 0 from by decide) (fun _ => ?_) (fun q => absurd rfl q)
  refine g_run 4 rfl ?_
  refine gG_hp (h2 := (AM hp i f c D w1 w2 w3 op on)) (am_iz) ?_
  refine g_zret rfl rfl (Or.inl rfl) ?_
  refine gz_ne (kx := 0) rfl (show (0 : Int32).toInt = 0 from by decide) (fun q => absurd rfl q) (fun _ => ?_)
  refine g_run 2 rfl ?_
  refine g_callV0 rfl LX10_173 rfl rfl rfl rfl ?_
  refine wrM1 hf ?_
  exact g_vret rfl rfl h0
theorem emM {o a : Int32} (hF : okF hp t n N nx) (hc : c < 660) (h1 : Q none (SH b xs) (AM hp i f (c + 1) D w1 w2 w3 (va_up op (660 * nx + c) o) (va_up on (660 * nx + c) a))) : gC mX10_emit d 0 0 [.ref 43, .int o, .int a] (SH b xs) (AM hp i f c D w1 w2 w3 op on) Q := by
  have hx := hF.2.2.1
  have hx1 := hF.2.2.2.1
  refine g_enter okX10_emit (plainFor_of_name rfl) rfl ?_
  have hj : ((660 : Int32) * (hp.1 43 17) + nI c).toInt = ((660 * nx + c : Nat) : Int) := (ia_add2 (ia_mul2 (by decide : (660 : Int32).toInt = 660) hx (by omega) (by omega)) (nI_toInt (by omega)) (by omega) (by omega)).trans (by omega)
  refine g_run 10 rfl ?_
  refine g_iast (j := 660 * nx + c) rfl rfl hj (by omega) ?_
  refine g_run 10 rfl ?_
  refine g_iast (j := 660 * nx + c) rfl rfl hj (by omega) ?_
  refine g_run 6 rfl ?_
  refine gG_hp am_c ?_
  exact g_vret rfl rfl h1
theorem opM (hD : D < 7) (h1 : Q none (SH b xs) (AM hp i f c D (va_up w1 D 0) (va_up w2 D 0) (va_up w3 D 0) op on)) : gC mX10_opens d 0 0 [.ref 43] (SH b xs) (AM hp i f c D w1 w2 w3 op on) Q := by
  refine g_enter okX10_opens (plainFor_of_name rfl) rfl ?_
  refine g_run 5 rfl ?_
  refine g_iast (j := D) rfl rfl (nI_toInt (by omega)) (by omega) ?_
  refine gG_hp am_w1 ?_
  refine g_run 5 rfl ?_
  refine g_iast (j := D) rfl rfl (nI_toInt (by omega)) (by omega) ?_
  refine gG_hp am_w2 ?_
  refine g_run 5 rfl ?_
  refine g_iast (j := D) rfl rfl (nI_toInt (by omega)) (by omega) ?_
  refine gG_hp am_w3 ?_
  exact g_vret rfl rfl h1
/-- which name a kind is to the reference -/
def pwM (k : Int) : Int32 := if 8 ≤ k ∧ k ≤ 12 then Int32.ofInt (k - 8) else if k = 3 then 5 else if k = 4 then 6 else -1
theorem lp_pw (hF : okF hp t n N nx) (hi : i ≤ N) (h1 : Q (some (.int (pwM (kd t n i)))) (SH b xs) (AM hp i 0 c D w1 w2 w3 op on)) : ∀ (fu k : Nat) (ki : Int32), ki.toInt = (k : Int) → k ≤ 5 → (∀ j, j < k → kd t n i ≠ 8 + (j : Int)) → 5 - k < fu → gG mX10_partWord (d + 1) 0 0 (zQ 0 0 Q) 0 0 (2, [.ref 43, .int ki], [], SH b xs, (AM hp i 0 c D w1 w2 w3 op on)) := by
  intro fu
  induction fu with
  | zero => intros; omega
  | succ fu ih =>
    intro k ki kE hk hA hf
    refine g_run 2 rfl ?_
    refine gj_ge (kx := (k : Int)) (kz := 5) rfl kE (by decide) (fun k1 => ?_) (fun k1 => ?_)
    · have a0 := hA 0 (by omega)
      have a1 := hA 1 (by omega)
      have a2 := hA 2 (by omega)
      have a3 := hA 3 (by omega)
      have a4 := hA 4 (by omega)
      rw [pwM, if_neg (by omega)] at h1
      refine g_run 2 rfl ?_
      refine g_callV0 rfl LX10_177 rfl rfl rfl rfl ?_
      refine wdM (w := 1) hF hi (by decide) (by omega) (fun k2 => ?_) (fun k2 => ?_)
      · have k2 : kd t n i = 3 := k2
        rw [if_pos k2] at h1
        refine gz_eq (kx := 1) rfl (show (1 : Int32).toInt = 1 from by decide) (fun q => absurd q (by decide)) (fun _ => ?_)
        refine g_run 2 rfl ?_
        exact g_iret rfl rfl h1
      · have k2 : kd t n i ≠ 3 := k2
        rw [if_neg k2] at h1
        refine gz_eq (kx := 0) rfl (show (0 : Int32).toInt = 0 from by decide) (fun _ => ?_) (fun q => absurd rfl q)
        refine g_run 2 rfl ?_
        refine g_callV0 rfl LX10_177 rfl rfl rfl rfl ?_
        refine wdM (w := 2) hF hi (by decide) (by omega) (fun k3 => ?_) (fun k3 => ?_)
        · have k3 : kd t n i = 4 := k3
          rw [if_pos k3] at h1
          refine gz_eq (kx := 1) rfl (show (1 : Int32).toInt = 1 from by decide) (fun q => absurd q (by decide)) (fun _ => ?_)
          refine g_run 2 rfl ?_
          exact g_iret rfl rfl h1
        · have k3 : kd t n i ≠ 4 := k3
          rw [if_neg k3] at h1
          refine gz_eq (kx := 0) rfl (show (0 : Int32).toInt = 0 from by decide) (fun _ => ?_) (fun q => absurd rfl q)
          refine g_run 1 rfl ?_
          exact g_iret rfl rfl h1
    · have hwk : wkM.getD (5 + k) 0 = 8 + (k : Int) := by
        match k, k1 with
        | 0, _ => rfl
        | 1, _ => rfl
        | 2, _ => rfl
        | 3, _ => rfl
        | 4, _ => rfl
        | m + 5, q => omega
      refine g_run 4 rfl ?_
      refine g_callV0 rfl LX10_177 rfl rfl rfl rfl ?_
      refine wdM (w := 5 + k) hF hi ((ia_add2 (by decide : (5 : Int32).toInt = 5) kE (by omega) (by omega)).trans (by omega)) (by omega) (fun k2 => ?_) (fun k2 => ?_)
      · rw [hwk] at k2
        refine gz_eq (kx := 1) rfl (show (1 : Int32).toInt = 1 from by decide) (fun q => absurd q (by decide)) (fun _ => ?_)
        rw [pwM, if_pos (by omega), show kd t n i - 8 = (k : Int) by omega, ← num_of kE (by omega)] at h1
        refine g_run 1 rfl ?_
        exact g_iret rfl rfl h1
      · rw [hwk] at k2
        refine gz_eq (kx := 0) rfl (show (0 : Int32).toInt = 0 from by decide) (fun _ => ?_) (fun q => absurd rfl q)
        refine g_run 2 rfl ?_
        exact ih (k + 1) _ (inc1 kE (by omega)) (by omega) (fun j hj => (Nat.lt_or_ge j k).elim (fun q => hA j q) (fun q => by rw [show j = k by omega]; exact k2)) (by omega)
theorem pwC (hF : okF hp t n N nx) (hi : i ≤ N) (h1 : Q (some (.int (pwM (kd t n i)))) (SH b xs) (AM hp i 0 c D w1 w2 w3 op on)) : gC mX10_partWord (d + 1) 0 0 [.ref 43] (SH b xs) (AM hp i 0 c D w1 w2 w3 op on) Q := by
  refine g_enter okX10_partWord (plainFor_of_name rfl) rfl ?_
  refine g_run 2 rfl ?_
  exact lp_pw hF hi h1 6 0 0 (by decide) (by omega) (fun j hj => by omega) (by omega)
/-- a step of the class in the reference's two rows -/
def opS (s : Int32) : Int32 := if 0 ≤ s.toInt then 1 else if -s.toInt = 17 then 3 else if -s.toInt = 18 then 4 else if -s.toInt = 15 then 5 else if -s.toInt = 16 then 6 else if -s.toInt = 7 then 7 else 2
def onS (s : Int32) : Int32 := if 0 ≤ s.toInt then s else if -s.toInt = 17 ∨ -s.toInt = 18 ∨ -s.toInt = 15 ∨ -s.toInt = 16 ∨ -s.toInt = 7 then 0 else pwM (-s.toInt)
theorem pw_neg {k : Int} (h : pwM k = -1 ∨ (0 ≤ (pwM k).toInt)) : True := trivial
theorem pwM_y {k : Int} (h : k = 3 ∨ k = 4 ∨ (8 ≤ k ∧ k ≤ 12)) : 0 ≤ (pwM k).toInt ∧ (pwM k).toInt < 7 := by
  rw [pwM]
  split
  · rw [ia_ofI (by omega) (by omega)]; omega
  · split
    · decide
    · split
      · decide
      · omega
theorem pwM_n {k : Int} (h : ¬ (k = 3 ∨ k = 4 ∨ (8 ≤ k ∧ k ≤ 12))) : pwM k = -1 := by
  rw [pwM, if_neg (by omega), if_neg (by omega), if_neg (by omega)]
theorem st_n {k : Int} (h : k = 3 ∨ k = 4 ∨ (8 ≤ k ∧ k ≤ 12)) : opS (Int32.ofInt (-k)) = 2 ∧ onS (Int32.ofInt (-k)) = pwM k := by
  have e : (Int32.ofInt (-k)).toInt = -k := ia_ofI (by omega) (by omega)
  refine ⟨?_, ?_⟩
  · rw [opS, e, if_neg (by omega), if_neg (by omega), if_neg (by omega), if_neg (by omega), if_neg (by omega), if_neg (by omega)]
  · rw [onS, e, if_neg (by omega), if_neg (by omega), Int.neg_neg]
theorem st_v {v : Int} (h : 0 ≤ v ∧ v ≤ 9999) : opS (Int32.ofInt v) = 1 ∧ onS (Int32.ofInt v) = Int32.ofInt v := by
  have e : (Int32.ofInt v).toInt = v := ia_ofI (by omega) (by omega)
  exact ⟨by rw [opS, e, if_pos (by omega)], by rw [onS, e, if_pos (by omega)]⟩
/-- part(): a fault, a bracket that opens, or a step -/
theorem ptM (hF : okF hp t n N nx) (hi : i ≤ N) (hD : D ≤ 5) (hc : c < 660)
    (h0 : ¬ isPt (kd t n i) = true → ∀ f2 : Int32, f2.toInt = 1 + 16 * (pl t n i : Int) → Q (some (.int 0)) (SH b xs) (AM hp i f2 c D w1 w2 w3 op on))
    (h5 : isPt (kd t n i) = true → D = 5 → ∀ f2 : Int32, f2.toInt = 5 + 16 * (pl t n i : Int) → Q (some (.int 0)) (SH b xs) (AM hp i f2 c D w1 w2 w3 op on))
    (h1 : D < 5 → kd t n i = 13 → Q (some (.int 1)) (SH b xs) (AM hp (i + 1) 0 c (D + 1) (va_up w1 (D + 1) 0) (va_up w2 (D + 1) 0) (va_up w3 (D + 1) 0) op on))
    (h2 : D < 5 → isPt (kd t n i) = true → kd t n i ≠ 13 → ∀ s : Int32, s = (if kd t n i = 2 then Int32.ofInt (nv t n i) else Int32.ofInt (-kd t n i)) → Q (some (.int 0)) (SH b xs) (AM hp (i + 1) 0 (c + 1) D w1 w2 w3 (va_up op (660 * nx + c) (opS s)) (va_up on (660 * nx + c) (onS s)))) : gC mX10_part (d + 2) 0 0 [.ref 43] (SH b xs) (AM hp i 0 c D w1 w2 w3 op on) Q := by
  have hT := (hF.1 i (by have := hF.2.2.2.2.1; omega)).2
  have hN := hF.2.2.2.2.1
  have hn6 := hF.2.2.2.2.2.1
  have hpl := pl_le (t := t) (n := n) (i := i)
  have hK := kd_bd (t := t) (n := n) (i := i)
  simp only [isPt, decide_eq_true_eq] at h0 h5 h2
  refine g_enter okX10_part (plainFor_of_name rfl) rfl ?_
  refine g_run 1 rfl ?_
  refine g_callV0 rfl LX10_223 rfl rfl rfl rfl ?_
  refine pwC hF hi ?_
  have k46 : (kd t n i = 2 ∨ kd t n i = 13 ∨ kd t n i = 3 ∨ kd t n i = 4 ∨ (8 ≤ kd t n i ∧ kd t n i ≤ 12)) → gG mX10_part (d + 2) 0 0 (zQ 0 0 Q) 0 0 (46, [.ref 43, .int (pwM (kd t n i))], [], SH b xs, (AM hp i 0 c D w1 w2 w3 op on)) := by
    intro hp1
    refine g_run 3 rfl ?_
    refine gj_ne (kx := (D : Int)) (kz := 5) rfl (nI_toInt (by omega)) (by decide) (fun k1 => ?_) (fun k1 => ?_)
    · refine g_run 2 rfl ?_
      refine gz_le (kx := 0) rfl (show (0 : Int32).toInt = 0 from by decide) (fun _ => ?_) (fun q => absurd q (by decide))
      refine g_run 2 rfl ?_
      refine g_callV0 rfl LX10_227 rfl rfl rfl rfl ?_
      refine g_enter okX10_hasSign (plainFor_of_name rfl) rfl ?_
      refine g_run 2 rfl ?_
      refine g_callV0 rfl LX10_170 rfl rfl rfl rfl ?_
      refine sgM hF hi (by decide : (40 : Int32).toInt = 40) hT.2.2.2.1 (fun k2 => ?_) (fun k2 => ?_)
      · refine g_run 5 rfl ?_
        refine gz_eq (kx := 1) rfl (show (1 : Int32).toInt = 1 from by decide) (fun q => absurd q (by decide)) (fun _ => ?_)
        refine g_run 5 rfl ?_
        refine gG_hp am_i ?_
        refine g_zret rfl rfl (Or.inr rfl) ?_
        refine gz_eq (kx := 1) rfl (show (1 : Int32).toInt = 1 from by decide) (fun q => absurd q (by decide)) (fun _ => ?_)
        refine g_run 6 rfl ?_
        refine gG_hp am_D1 ?_
        refine g_run 1 rfl ?_
        refine g_callV0 rfl LX10_206 rfl rfl rfl rfl ?_
        refine opM (by omega) ?_
        refine g_run 1 rfl ?_
        exact g_zret rfl rfl (Or.inr rfl) (h1 (by omega) k2)
      · refine g_run 5 rfl ?_
        refine gz_eq (kx := 0) rfl (show (0 : Int32).toInt = 0 from by decide) (fun _ => ?_) (fun q => absurd rfl q)
        refine g_run 4 rfl ?_
        refine gG_hp (h2 := (AM hp i 0 c D w1 w2 w3 op on)) (am_iz) ?_
        refine g_zret rfl rfl (Or.inl rfl) ?_
        refine gz_eq (kx := 0) rfl (show (0 : Int32).toInt = 0 from by decide) (fun _ => ?_) (fun q => absurd rfl q)
        refine g_run 2 rfl ?_
        by_cases c2 : kd t n i = 2
        · have hp2 : pwM (kd t n i) = -1 := pwM_n (by omega)
          have hnv := nv_bd c2
          have e2 := st_v hnv
          rw [hp2]
          refine gz_ge (kx := -1) rfl (by decide) (fun q => absurd q (by decide)) (fun _ => ?_)
          refine g_run 3 rfl ?_
          refine gz_ge (kx := -1) rfl (by decide) (fun q => absurd q (by decide)) (fun _ => ?_)
          refine g_run 4 rfl ?_
          refine g_lald (j := i) rfl rfl (nI_toInt (by omega)) (by omega) ?_
          refine g_run 2 rfl ?_
          refine g_callV0 rfl LX10_216 rfl rfl rfl rfl ?_
          have e3 : (hp.2 47 i).toInt32 = Int32.ofInt (nv t n i) := (ia_eq _ _).mpr (by rw [l2i_s (hT.2.2.1 c2) (by omega), ia_ofI (by omega) (by omega)])
          refine emM (hp := hp) hF hc ?_
          refine g_run 6 rfl ?_
          refine gG_hp am_i ?_
          refine g_run 1 rfl ?_
          have := h2 (by omega) (by omega) k2 _ rfl
          rw [if_pos c2, e2.1, e2.2, ← e3] at this
          exact g_zret rfl rfl (Or.inl rfl) this
        · have hp2 := pwM_y (k := kd t n i) (by omega)
          have e2 := st_n (k := kd t n i) (by omega)
          refine gz_ge (kx := (pwM (kd t n i)).toInt) rfl rfl (fun _ => ?_) (fun q => by exfalso; omega)
          refine g_run 2 rfl ?_
          refine gz_ge (kx := (pwM (kd t n i)).toInt) rfl rfl (fun _ => ?_) (fun q => by exfalso; omega)
          refine g_run 1 rfl ?_
          refine g_callV0 rfl LX10_216 rfl rfl rfl rfl ?_
          refine emM (hp := hp) hF hc ?_
          refine g_run 6 rfl ?_
          refine gG_hp am_i ?_
          refine g_run 1 rfl ?_
          have := h2 (by omega) (by omega) k2 _ rfl
          rw [if_neg c2, e2.1, e2.2] at this
          exact g_zret rfl rfl (Or.inl rfl) this
    · refine g_run 2 rfl ?_
      refine g_callV0 rfl LX10_173 rfl rfl rfl rfl ?_
      refine wrM0 hF hi (by decide : (5 : Int32).toInt = 5) (by omega) (fun f2 hf => ?_)
      refine g_run 2 rfl ?_
      refine gz_le (kx := f2.toInt) rfl rfl (fun q => by exfalso; omega) (fun _ => ?_)
      refine g_run 1 rfl ?_
      exact g_zret rfl rfl (Or.inl rfl) (h5 (by omega) (by omega) f2 hf)
  refine g_run 3 rfl ?_
  refine gz_ne (kx := 0) rfl (show (0 : Int32).toInt = 0 from by decide) (fun q => absurd rfl q) (fun _ => ?_)
  refine g_run 4 rfl ?_
  refine g_iald (j := i) rfl rfl (nI_toInt (by omega)) (by omega) ?_
  refine g_run 1 rfl ?_
  refine gj_eq (kx := (hp.1 45 i).toInt) (kz := 2) rfl rfl (by decide) (fun k1 => k46 (Or.inl (hT.2.1.mp k1))) (fun k1 => ?_)
  refine g_run 2 rfl ?_
  refine g_callV0 rfl LX10_170 rfl rfl rfl rfl ?_
  refine sgM hF hi (by decide : (40 : Int32).toInt = 40) hT.2.2.2.1 (fun k2 => ?_) (fun k2 => ?_)
  · refine gz_ne (kx := 1) rfl (show (1 : Int32).toInt = 1 from by decide) (fun _ => k46 (Or.inr (Or.inl k2))) (fun q => absurd q (by decide))
  · refine gz_ne (kx := 0) rfl (show (0 : Int32).toInt = 0 from by decide) (fun q => absurd rfl q) (fun _ => ?_)
    have k1b : kd t n i ≠ 2 := fun q => k1 (hT.2.1.mpr q)
    refine g_run 1 rfl ?_
    by_cases c3 : kd t n i = 3 ∨ kd t n i = 4 ∨ (8 ≤ kd t n i ∧ kd t n i ≤ 12)
    · have hp2 := pwM_y c3
      refine gz_ge (kx := (pwM (kd t n i)).toInt) rfl rfl (fun _ => k46 (by omega)) (fun q => by exfalso; omega)
    · rw [pwM_n c3]
      refine gz_ge (kx := -1) rfl (by decide) (fun q => absurd q (by decide)) (fun _ => ?_)
      refine g_run 2 rfl ?_
      refine g_callV0 rfl LX10_173 rfl rfl rfl rfl ?_
      refine wrM0 hF hi (by decide : (1 : Int32).toInt = 1) (by omega) (fun f2 hf => ?_)
      refine g_run 3 rfl ?_
      refine gz_le (kx := f2.toInt) rfl rfl (fun q => by exfalso; omega) (fun _ => ?_)
      refine g_run 1 rfl ?_
      exact g_zret rfl rfl (Or.inl rfl) (h0 (by omega) f2 hf)
end S44
