/-! the loops of the reference's constructor -/
def mkf (i k : Nat) (f : Nat → Int32) : Nat → Int32 := fun j => if j < 100 ∧ (j % 20 < i ∨ (j % 20 = i ∧ j / 20 < k)) then -1 else f j
theorem mkf_0 {f : Nat → Int32} : mkf 0 0 f = f := funext fun j => if_neg (by omega)
theorem mkf_n {i : Nat} {f : Nat → Int32} : mkf i 5 f = mkf (i + 1) 0 f := by
  funext j
  have h : (j < 100 ∧ (j % 20 < i ∨ (j % 20 = i ∧ j / 20 < 5))) ↔ (j < 100 ∧ (j % 20 < i + 1 ∨ (j % 20 = i + 1 ∧ j / 20 < 0))) := by omega
  show (if j < 100 ∧ (j % 20 < i ∨ (j % 20 = i ∧ j / 20 < 5)) then _ else _) = if j < 100 ∧ (j % 20 < i + 1 ∨ (j % 20 = i + 1 ∧ j / 20 < 0)) then _ else _
  by_cases h1 : j < 100 ∧ (j % 20 < i ∨ (j % 20 = i ∧ j / 20 < 5))
  · rw [if_pos h1, if_pos (h.mp h1)]
  · rw [if_neg h1, if_neg (fun z => h1 (h.mpr z))]
theorem mkf_s {i k : Nat} {f : Nat → Int32} (hi : i < 20) (hk : k < 5) : va_up (mkf i k f) (20 * k + i) (-1) = mkf i (k + 1) f := by
  funext j
  show (if j = 20 * k + i then -1 else if j < 100 ∧ (j % 20 < i ∨ (j % 20 = i ∧ j / 20 < k)) then -1 else f j) = if j < 100 ∧ (j % 20 < i ∨ (j % 20 = i ∧ j / 20 < k + 1)) then -1 else f j
  by_cases h : j = 20 * k + i
  · rw [if_pos h, if_pos (by omega)]
  · rw [if_neg h]
    by_cases h1 : j < 100 ∧ (j % 20 < i ∨ (j % 20 = i ∧ j / 20 < k))
    · rw [if_pos h1, if_pos (by omega)]
    · rw [if_neg h1, if_neg (by omega)]
theorem mkf_e {f : Nat → Int32} : mkf 20 0 f = fl 100 (-1) f := by
  funext j
  show (if j < 100 ∧ (j % 20 < 20 ∨ (j % 20 = 20 ∧ j / 20 < 0)) then (-1 : Int32) else f j) = if j < 100 then -1 else f j
  by_cases h : j < 100
  · rw [if_pos h, if_pos (by omega)]
  · rw [if_neg h, if_neg (by omega)]
def L3 (hp : hp_T) (A B C : Nat → Int32) : hp_T := sR (sR (sR hp 66 A) 70 B) 69 C
section LL3
variable {hp : hp_T} {A B C : Nat → Int32} {j : Nat} {v : Int32}
theorem l3_66 : sI (L3 hp A B C) 66 j v = L3 hp (va_up A j v) B C := by
  refine two_ext (fun z i => ?_) rfl
  simp only [L3, sI, sR, va_up]
  by_cases h1 : z = 66
  · subst h1; simp
  · by_cases h2 : z = 70
    · subst h2; simp
    · by_cases h3 : z = 69
      · subst h3; simp
      · simp [h1, h2, h3]
theorem l3_70 : sI (L3 hp A B C) 70 j v = L3 hp A (va_up B j v) C := by
  refine two_ext (fun z i => ?_) rfl
  simp only [L3, sI, sR, va_up]
  by_cases h1 : z = 66
  · subst h1; simp
  · by_cases h2 : z = 70
    · subst h2; simp
    · by_cases h3 : z = 69
      · subst h3; simp
      · simp [h1, h2, h3]
theorem l3_69 : sI (L3 hp A B C) 69 j v = L3 hp A B (va_up C j v) := by
  refine two_ext (fun z i => ?_) rfl
  simp only [L3, sI, sR, va_up]
  by_cases h1 : z = 66
  · subst h1; simp
  · by_cases h2 : z = 70
    · subst h2; simp
    · by_cases h3 : z = 69
      · subst h3; simp
      · simp [h1, h2, h3]
theorem l3_id : L3 hp (hp.1 66) (hp.1 70) (hp.1 69) = hp := by
  refine two_ext (fun z i => ?_) rfl
  simp only [L3, sR, va_up]
  by_cases h1 : z = 66
  · subst h1; simp
  · by_cases h2 : z = 70
    · subst h2; simp
    · by_cases h3 : z = 69
      · subst h3; simp
      · simp [h1, h2, h3]
end LL3
section LPM
variable {d : Nat} {Z : zt} {hp : hp_T}
set_option maxRecDepth 100000 in
theorem lp_M2 {I : Nat} {i : Int32} {A B f9 : Nat → Int32} (iE : i.toInt = (I : Int)) (hI : I < 20) (hk : ∀ x : Int32, gG mX10_init d 33 6994 Z 33 6994 (386, [.ref 43, .int i, .int x], [], PW152, L3 hp A B (mkf I 5 f9))) : ∀ (f k : Nat) (x : Int32), x.toInt = (k : Int) → k ≤ 5 → 5 - k < f → gG mX10_init d 33 6994 Z 33 6994 (363, [.ref 43, .int i, .int x], [], PW152, L3 hp A B (mkf I k f9)) := by
  intro f
  induction f with
  | zero => intros; omega
  | succ f ih =>
    intro k x xE hk5 hf
    refine g_run 2 rfl ?_
    refine gj_ge (kx := (k : Int)) (kz := 5) rfl xE (by decide) (fun k1 => ?_) (fun k1 => ?_)
    · obtain rfl : k = 5 := by omega
      exact hk x
    · refine g_run 8 rfl ?_
      refine g_iast (j := 20 * k + I) rfl rfl ((show _ = ((20 * (k : Int)) + (I : Int)) from (ia_add2 (ia_mul2 (by decide) xE (by omega) (by omega)) iE (by omega) (by omega))).trans (by omega)) (by omega) ?_
      rw [l3_69, mkf_s hI (by omega)]
      refine g_run 2 rfl ?_
      exact ih (k + 1) _ (inc1 xE (by omega)) (by omega) (by omega)
set_option maxRecDepth 100000 in
theorem lp_M1 {f6 f7 f9 : Nat → Int32} (hk : ∀ (i : Int32) (x : Value), gG mX10_init d 33 6994 Z 33 6994 (392, [.ref 43, .int i, x], [], PW152, L3 hp (fl 20 200 f6) (fl 20 (-1) f7) (mkf 20 0 f9))) : ∀ (f I : Nat) (i : Int32) (x : Value), i.toInt = (I : Int) → I ≤ 20 → 20 - I < f → gG mX10_init d 33 6994 Z 33 6994 (339, [.ref 43, .int i, x], [], PW152, L3 hp (fl I 200 f6) (fl I (-1) f7) (mkf I 0 f9)) := by
  intro f
  induction f with
  | zero => intros; omega
  | succ f ih =>
    intro I i x iE hI hf
    refine g_run 2 rfl ?_
    refine gj_ge (kx := (I : Int)) (kz := 20) rfl iE (by decide) (fun k1 => ?_) (fun k1 => ?_)
    · obtain rfl : I = 20 := by omega
      exact hk i x
    · refine g_run 4 rfl ?_
      refine g_iast (j := I) rfl rfl iE (by omega) ?_
      rw [l3_66, fl_s]
      refine g_run 4 rfl ?_
      refine g_iast (j := I) rfl rfl iE (by omega) ?_
      rw [l3_70, fl_s]
      refine g_run 2 rfl ?_
      refine lp_M2 iE (by omega) (fun x2 => ?_) 6 0 0 (by decide) (by omega) (by omega)
      rw [mkf_n]
      refine g_run 2 rfl ?_
      exact ih (I + 1) _ _ (inc1 iE (by omega)) (by omega) (by omega)
set_option maxRecDepth 100000 in
theorem lp_M3 {f0 : Nat → Int32} (hk : ∀ (i : Int32) (x : Value), gG mX10_init d 33 6994 Z 33 6994 (414, [.ref 43, .int i, x], [], PW152, sR hp 76 (fl 10 30 f0))) : ∀ (f k : Nat) (i : Int32) (x : Value), i.toInt = (k : Int) → k ≤ 10 → 10 - k < f → gG mX10_init d 33 6994 Z 33 6994 (394, [.ref 43, .int i, x], [], PW152, sR hp 76 (fl k 30 f0)) := by
  intro f
  induction f with
  | zero => intros; omega
  | succ f ih =>
    intro k i x iE hk5 hf
    refine g_run 2 rfl ?_
    refine gj_ge (kx := (k : Int)) (kz := 10) rfl iE (by decide) (fun k1 => ?_) (fun k1 => ?_)
    · obtain rfl : k = 10 := by omega
      exact hk i x
    · refine g_run 4 rfl ?_
      refine g_iast (j := k) rfl rfl iE (by omega) ?_
      rw [sR_put, fl_s]
      refine g_run 2 rfl ?_
      exact ih (k + 1) _ _ (inc1 iE (by omega)) (by omega) (by omega)
set_option maxRecDepth 100000 in
theorem lp_M4 {f0 : Nat → Int32} (hk : ∀ (i : Int32) (x : Value), gG mX10_init d 33 6994 Z 33 6994 (435, [.ref 43, .int i, x], [], PW152, sR hp 72 (fl 3 100 f0))) : ∀ (f k : Nat) (i : Int32) (x : Value), i.toInt = (k : Int) → k ≤ 3 → 3 - k < f → gG mX10_init d 33 6994 Z 33 6994 (416, [.ref 43, .int i, x], [], PW152, sR hp 72 (fl k 100 f0)) := by
  intro f
  induction f with
  | zero => intros; omega
  | succ f ih =>
    intro k i x iE hk5 hf
    refine g_run 2 rfl ?_
    refine gj_ge (kx := (k : Int)) (kz := 3) rfl iE (by decide) (fun k1 => ?_) (fun k1 => ?_)
    · obtain rfl : k = 3 := by omega
      exact hk i x
    · refine g_run 4 rfl ?_
      refine g_iast (j := k) rfl rfl iE (by omega) ?_
      rw [sR_put, fl_s]
      refine g_run 2 rfl ?_
      exact ih (k + 1) _ _ (inc1 iE (by omega)) (by omega) (by omega)
end LPM
def HA : hp_T := L3 HP18 (fl 20 200 (HP18.1 66)) (fl 20 (-1) (HP18.1 70)) (mkf 20 0 (HP18.1 69))
def HB : hp_T := sR HA 76 (fl 10 30 (HA.1 76))
def HE : hp_T := sR HB 72 (fl 3 100 (HB.1 72))
set_option maxRecDepth 100000 in
theorem n_X10_init {d : Nat} {Q : Option Value → sh_T → hp_T → Prop} (hq : Q none PW152 HE) : gC mX10_init (d + 1) 33 6994 [.ref 43] PW86 HP17 Q := by
  refine n_X10a ?_
  refine g_run 2 rfl ?_
  have h := lp_M1 (d := d + 1) (Z := zQ 33 6994 Q) (hp := HP18) (f6 := HP18.1 66) (f7 := HP18.1 70) (f9 := HP18.1 69) (fun i x => ?_) 21 0 0 (.retAddr 0) (by decide) (by omega) (by omega)
  · rw [fl_0, fl_0, mkf_0, l3_id] at h
    exact h
  · show gG mX10_init (d + 1) 33 6994 (zQ 33 6994 Q) 33 6994 (392, [.ref 43, .int i, x], [], PW152, HA)
    refine g_run 2 rfl ?_
    have h := lp_M3 (d := d + 1) (Z := zQ 33 6994 Q) (hp := HA) (f0 := HA.1 76) (fun i x => ?_) 11 0 0 x (by decide) (by omega) (by omega)
    · rw [fl_0, sR_rid] at h
      exact h
    · show gG mX10_init (d + 1) 33 6994 (zQ 33 6994 Q) 33 6994 (414, [.ref 43, .int i, x], [], PW152, HB)
      refine g_run 2 rfl ?_
      have h := lp_M4 (d := d + 1) (Z := zQ 33 6994 Q) (hp := HB) (f0 := HB.1 72) (fun i x => ?_) 4 0 0 x (by decide) (by omega) (by omega)
      · rw [fl_0, sR_rid] at h
        exact h
      · exact g_vret rfl rfl hq (Nat.le_refl _) (Nat.le_refl _)
