/-! counts and sums over the bags: contracts (rows printed by my own program) -/
def cntI (p : Nat → Bool) : Nat → Int32
  | 0 => 0
  | k + 1 => if p k = true then cntI p k + 1 else cntI p k
theorem cntI_t {p : Nat → Bool} {k : Nat} (h : p k = true) : cntI p k + 1 = cntI p (k + 1) := by simp [cntI, h]
theorem cntI_f {p : Nat → Bool} {k : Nat} (h : p k = false) : cntI p k = cntI p (k + 1) := by simp [cntI, h]
def sumI (f : Nat → Int32) : Nat → Int32
  | 0 => 0
  | k + 1 => sumI f k + f k
theorem sumI_t {f : Nat → Int32} {k : Nat} {v : Int32} (h : f k = v) : sumI f (k + 1) = sumI f k + v := by simp [sumI, h]
theorem sumI_f {f : Nat → Int32} {k : Nat} (h : f k = 0) : sumI f (k + 1) = sumI f k := by simp [sumI, h]
/-- the q-th place with p from k on, n places to see -/
def fndI (p : Nat → Bool) (q : Int32) : Nat → Nat → Int32
  | 0, _ => -1
  | n + 1, k => if p k = true ∧ cntI p k = q then nI k else fndI p q n (k + 1)
theorem fndI_y {p : Nat → Bool} {q : Int32} {n k : Nat} (h : p k = true) (h2 : cntI p k = q) : fndI p q (n + 1) k = nI k := by simp [fndI, h, h2]
theorem fndI_p {p : Nat → Bool} {q : Int32} {n k : Nat} (h : p k = false) : fndI p q (n + 1) k = fndI p q n (k + 1) := by simp [fndI, h]
theorem fndI_n {p : Nat → Bool} {q : Int32} {n k : Nat} (h : ¬ cntI p k = q) : fndI p q (n + 1) k = fndI p q n (k + 1) := by simp [fndI, h]
theorem eq_nI {i : Int32} {k : Nat} (h : i.toInt = (k : Int)) (hk : k < 2147483648) : i = nI k := by rw [ia_eq, h, nI_toInt (by omega)]
theorem inc1 {i : Int32} {k : Nat} (h : i.toInt = (k : Int)) (hk : k < 2147483647) : (i + 1).toInt = ((k + 1 : Nat) : Int) := by
  rw [ia_add2 (y := 1) h (by decide) (by omega) (by omega)]; omega
theorem dec1 {i : Int32} {k : Nat} (h : i.toInt = ((k + 1 : Nat) : Int)) : (i - 1).toInt = (k : Int) := by
  rw [ia_sub2 (y := 1) h (by decide) (by omega) (by have := ia_bd i; omega)]; omega
theorem sub_s (q c : Int32) : q - c + -1 = q - (c + 1) := by
  rw [Int32.sub_eq_add_neg q c, Int32.sub_eq_add_neg q (c + 1), Int32.neg_add, Int32.sub_eq_add_neg (-c) 1, Int32.add_assoc]
theorem sub_z {q c : Int32} (h : (q - c).toInt = 0) : c = q := by
  have z : q - c = 0 := by rw [ia_eq]; exact h
  have := Int32.sub_add_cancel q c
  rw [z, Int32.zero_add] at this
  exact this
section S14
variable {d : Nat} {sh : sh_T} {hp : hp_T} {Q : Option Value → sh_T → hp_T → Prop} {b : Bool} {xs : sh_T}
theorem c_X0_partOf {n : Int32} {nI : Int} {m : Int32} {mI : Int} (nE : n.toInt = nI) (mE : m.toInt = mI) (hn : 0 ≤ nI ∧ nI < 60) (hm : 0 ≤ mI ∧ mI < 12) (h1 : Q (some (.int (hp.1 22 ((nI * 12) + mI).toNat))) (SH b xs) hp) : gC mX0_partOf d 0 0 [.ref 17, .int n, .int m] (SH b xs) hp Q := by
  refine g_enter okX0_partOf (plainFor_of_name rfl) rfl ?_
  refine g_run 7 rfl ?_
  refine g_iald (j := ((nI * 12) + mI).toNat) rfl rfl ((show _ = ((nI * 12) + mI) from (ia_add2 (ia_mul2 nE (by decide) (by omega) (by omega)) mE (by omega) (by omega))).trans (by omega)) (by omega) ?_
  exact g_iret rfl rfl h1
theorem lp_X0_lotsIn  {n : Int32} {nI : Int} (nE : n.toInt = nI) (hn : 0 ≤ nI ∧ nI < 60) (h1 : Q (some (.int (cntI (fun l => decide (0 < (hp.1 22 ((nI * 12) + (l : Int)).toNat).toInt)) 12))) (SH b xs) hp) : ∀ (f k : Nat) (i : Int32), i.toInt = (k : Int) → k ≤ 12 → 12 - k < f → gG mX0_lotsIn (d + 1) 0 0 (zQ 0 0 Q) 0 0 (4, [.ref 17, .int n, .int (cntI (fun l => decide (0 < (hp.1 22 ((nI * 12) + (l : Int)).toNat).toInt)) k), .int i], [], (SH b xs), hp) := by
  intro f
  induction f with
  | zero => intros; omega
  | succ f ih =>
    intro k i iE hk hf
    refine g_run 2 rfl ?_
    refine gj_ge (kx := (k : Int)) (kz := 12) rfl iE (by decide) (fun k1 => ?_) (fun k1 => ?_)
    · refine g_run 1 rfl ?_
      obtain rfl : k = 12 := by omega
      exact g_iret rfl rfl h1
    · refine g_run 3 rfl ?_
      refine g_callV0 rfl LX0_44 rfl rfl rfl rfl ?_
      refine c_X0_partOf (nI := nI) (mI := (k : Int)) nE iE (by omega) (by omega) ?_
      refine gz_le (kx := (hp.1 22 ((nI * 12) + (k : Int)).toNat).toInt) rfl rfl (fun k2 => ?_) (fun k2 => ?_)
      · refine g_run 2 rfl ?_
        rw [cntI_f (p := (fun l => decide (0 < (hp.1 22 ((nI * 12) + (l : Int)).toNat).toInt))) (k := k) (by simp; omega)]
        exact ih (k + 1) _ (inc1 iE (by omega)) (by omega) (by omega)
      · refine g_run 3 rfl ?_
        rw [cntI_t (p := (fun l => decide (0 < (hp.1 22 ((nI * 12) + (l : Int)).toNat).toInt))) (k := k) (by simp; omega)]
        exact ih (k + 1) _ (inc1 iE (by omega)) (by omega) (by omega)
theorem c_X0_lotsIn {n : Int32} {nI : Int} (nE : n.toInt = nI) (hn : 0 ≤ nI ∧ nI < 60) (h1 : Q (some (.int (cntI (fun l => decide (0 < (hp.1 22 ((nI * 12) + (l : Int)).toNat).toInt)) 12))) (SH b xs) hp) : gC mX0_lotsIn (d + 1) 0 0 [.ref 17, .int n] (SH b xs) hp Q := by
  refine g_enter okX0_lotsIn (plainFor_of_name rfl) rfl ?_
  refine g_run 4 rfl ?_
  exact lp_X0_lotsIn nE hn h1 13 0 0 (by decide) (by omega) (by omega)
theorem lp_X0_allGrams  (hs : 0 ≤ (hp.1 17 0).toInt ∧ (hp.1 17 0).toInt ≤ 60) (h1 : Q (some (.int (sumI (hp.1 18) (hp.1 17 0).toInt.toNat))) (SH b xs) hp) : ∀ (f k : Nat) (i : Int32), i.toInt = (k : Int) → (k : Int) ≤ (hp.1 17 0).toInt → (hp.1 17 0).toInt.toNat - k < f → gG mX0_allGrams d 0 0 (zQ 0 0 Q) 0 0 (4, [.ref 17, .int (sumI (hp.1 18) k), .int i], [], (SH b xs), hp) := by
  intro f
  induction f with
  | zero => intros; omega
  | succ f ih =>
    intro k i iE hk hf
    refine g_run 3 rfl ?_
    refine gj_ge (kx := (k : Int)) (kz := (hp.1 17 0).toInt) rfl iE rfl (fun k1 => ?_) (fun k1 => ?_)
    · refine g_run 1 rfl ?_
      have e : k = (hp.1 17 0).toInt.toNat := by omega
      subst e
      exact g_iret rfl rfl h1
    · refine g_run 4 rfl ?_
      refine g_iald (j := k) rfl rfl ((show _ = (k : Int) from iE).trans (by omega)) (by omega) ?_
      refine g_run 4 rfl ?_
      exact ih (k + 1) _ (inc1 iE (by omega)) (by omega) (by omega)
theorem c_X0_allGrams (hs : 0 ≤ (hp.1 17 0).toInt ∧ (hp.1 17 0).toInt ≤ 60) (h1 : Q (some (.int (sumI (hp.1 18) (hp.1 17 0).toInt.toNat))) (SH b xs) hp) : gC mX0_allGrams d 0 0 [.ref 17] (SH b xs) hp Q := by
  refine g_enter okX0_allGrams (plainFor_of_name rfl) rfl ?_
  refine g_run 4 rfl ?_
  exact lp_X0_allGrams hs h1 61 0 0 (by decide) (by omega) (by omega)
theorem lp_X0_gramsIn  (hs : 0 ≤ (hp.1 17 0).toInt ∧ (hp.1 17 0).toInt ≤ 60) {h l : Int32} {hI lI : Int} (hE : h.toInt = hI) (lE : l.toInt = lI) (hl : 0 ≤ lI ∧ lI < 12) (h1 : Q (some (.int (sumI (fun k => if (hp.1 20 k).toInt = hI then hp.1 22 (((k : Int) * 12) + lI).toNat else 0) (hp.1 17 0).toInt.toNat))) (SH b xs) hp) : ∀ (f k : Nat) (i : Int32), i.toInt = (k : Int) → (k : Int) ≤ (hp.1 17 0).toInt → (hp.1 17 0).toInt.toNat - k < f → gG mX0_gramsIn (d + 1) 0 0 (zQ 0 0 Q) 0 0 (5, [.ref 17, .int h, .int l, .int (sumI (fun k => if (hp.1 20 k).toInt = hI then hp.1 22 (((k : Int) * 12) + lI).toNat else 0) k), .int i], [], (SH b xs), hp) := by
  intro f
  induction f with
  | zero => intros; omega
  | succ f ih =>
    intro k i iE hk hf
    refine g_run 3 rfl ?_
    refine gj_ge (kx := (k : Int)) (kz := (hp.1 17 0).toInt) rfl iE rfl (fun k1 => ?_) (fun k1 => ?_)
    · refine g_run 1 rfl ?_
      have e : k = (hp.1 17 0).toInt.toNat := by omega
      subst e
      exact g_iret rfl rfl h1
    · refine g_run 3 rfl ?_
      refine g_iald (j := k) rfl rfl ((show _ = (k : Int) from iE).trans (by omega)) (by omega) ?_
      refine g_run 1 rfl ?_
      refine gj_ne (kx := (hp.1 20 k).toInt) (kz := hI) rfl rfl hE (fun k2 => ?_) (fun k2 => ?_)
      · refine g_run 2 rfl ?_
        rw [← sumI_f (k := k) (f := (fun k => if (hp.1 20 k).toInt = hI then hp.1 22 (((k : Int) * 12) + lI).toNat else 0)) (by simp [*])]
        exact ih (k + 1) _ (inc1 iE (by omega)) (by omega) (by omega)
      · refine g_run 4 rfl ?_
        refine g_callV0 rfl LX0_44 rfl rfl rfl rfl ?_
        refine c_X0_partOf (nI := (k : Int)) (mI := lI) iE lE (by omega) (by omega) ?_
        refine g_run 4 rfl ?_
        rw [← sumI_t (k := k) (f := (fun k => if (hp.1 20 k).toInt = hI then hp.1 22 (((k : Int) * 12) + lI).toNat else 0)) (v := hp.1 22 (((k : Int) * 12) + lI).toNat) (by simp [*])]
        exact ih (k + 1) _ (inc1 iE (by omega)) (by omega) (by omega)
theorem c_X0_gramsIn {h : Int32} {hI : Int} {l : Int32} {lI : Int} (hE : h.toInt = hI) (lE : l.toInt = lI) (hs : 0 ≤ (hp.1 17 0).toInt ∧ (hp.1 17 0).toInt ≤ 60) (hl : 0 ≤ lI ∧ lI < 12) (h1 : Q (some (.int (sumI (fun k => if (hp.1 20 k).toInt = hI then hp.1 22 (((k : Int) * 12) + lI).toNat else 0) (hp.1 17 0).toInt.toNat))) (SH b xs) hp) : gC mX0_gramsIn (d + 1) 0 0 [.ref 17, .int h, .int l] (SH b xs) hp Q := by
  refine g_enter okX0_gramsIn (plainFor_of_name rfl) rfl ?_
  refine g_run 4 rfl ?_
  exact lp_X0_gramsIn hs hE lE hl h1 61 0 0 (by decide) (by omega) (by omega)
theorem lp_X0_olderIn  (hs : 0 ≤ (hp.1 17 0).toInt ∧ (hp.1 17 0).toInt ≤ 60) {h dd : Int32} {hI dI : Int} (hE : h.toInt = hI) (dE : dd.toInt = dI) (h1 : Q (some (.int (cntI (fun k => decide ((hp.1 20 k).toInt = hI ∧ (hp.1 19 k).toInt < dI)) (hp.1 17 0).toInt.toNat))) (SH b xs) hp) : ∀ (f k : Nat) (i : Int32), i.toInt = (k : Int) → (k : Int) ≤ (hp.1 17 0).toInt → (hp.1 17 0).toInt.toNat - k < f → gG mX0_olderIn d 0 0 (zQ 0 0 Q) 0 0 (5, [.ref 17, .int h, .int dd, .int (cntI (fun k => decide ((hp.1 20 k).toInt = hI ∧ (hp.1 19 k).toInt < dI)) k), .int i], [], (SH b xs), hp) := by
  intro f
  induction f with
  | zero => intros; omega
  | succ f ih =>
    intro k i iE hk hf
    refine g_run 3 rfl ?_
    refine gj_ge (kx := (k : Int)) (kz := (hp.1 17 0).toInt) rfl iE rfl (fun k1 => ?_) (fun k1 => ?_)
    · refine g_run 1 rfl ?_
      have e : k = (hp.1 17 0).toInt.toNat := by omega
      subst e
      exact g_iret rfl rfl h1
    · refine g_run 3 rfl ?_
      refine g_iald (j := k) rfl rfl ((show _ = (k : Int) from iE).trans (by omega)) (by omega) ?_
      refine g_run 1 rfl ?_
      refine gj_ne (kx := (hp.1 20 k).toInt) (kz := hI) rfl rfl hE (fun k2 => ?_) (fun k2 => ?_)
      · refine g_run 2 rfl ?_
        rw [cntI_f (p := (fun k => decide ((hp.1 20 k).toInt = hI ∧ (hp.1 19 k).toInt < dI))) (k := k) (by simp; omega)]
        exact ih (k + 1) _ (inc1 iE (by omega)) (by omega) (by omega)
      · refine g_run 3 rfl ?_
        refine g_iald (j := k) rfl rfl ((show _ = (k : Int) from iE).trans (by omega)) (by omega) ?_
        refine g_run 1 rfl ?_
        refine gj_ge (kx := (hp.1 19 k).toInt) (kz := dI) rfl rfl dE (fun k3 => ?_) (fun k3 => ?_)
        · refine g_run 2 rfl ?_
          rw [cntI_f (p := (fun k => decide ((hp.1 20 k).toInt = hI ∧ (hp.1 19 k).toInt < dI))) (k := k) (by simp; omega)]
          exact ih (k + 1) _ (inc1 iE (by omega)) (by omega) (by omega)
        · refine g_run 3 rfl ?_
          rw [cntI_t (p := (fun k => decide ((hp.1 20 k).toInt = hI ∧ (hp.1 19 k).toInt < dI))) (k := k) (by simp; omega)]
          exact ih (k + 1) _ (inc1 iE (by omega)) (by omega) (by omega)
theorem c_X0_olderIn {h : Int32} {hI : Int} {dd : Int32} {ddI : Int} (hE : h.toInt = hI) (ddE : dd.toInt = ddI) (hs : 0 ≤ (hp.1 17 0).toInt ∧ (hp.1 17 0).toInt ≤ 60) (h1 : Q (some (.int (cntI (fun k => decide ((hp.1 20 k).toInt = hI ∧ (hp.1 19 k).toInt < ddI)) (hp.1 17 0).toInt.toNat))) (SH b xs) hp) : gC mX0_olderIn d 0 0 [.ref 17, .int h, .int dd] (SH b xs) hp Q := by
  refine g_enter okX0_olderIn (plainFor_of_name rfl) rfl ?_
  refine g_run 4 rfl ?_
  exact lp_X0_olderIn hs hE ddE h1 61 0 0 (by decide) (by omega) (by omega)
theorem lp_X0_bagWith  (hs : 0 ≤ (hp.1 17 0).toInt ∧ (hp.1 17 0).toInt ≤ 60) {l q : Int32} {lI : Int} (lE : l.toInt = lI) (hl : 0 ≤ lI ∧ lI < 12) (h1 : Q (some (.int (fndI (fun k => decide (0 < (hp.1 22 (((k : Int) * 12) + lI).toNat).toInt)) q (hp.1 17 0).toInt.toNat 0))) (SH b xs) hp) : ∀ (f k : Nat) (i : Int32), i.toInt = (k : Int) → (k : Int) ≤ (hp.1 17 0).toInt → (hp.1 17 0).toInt.toNat - k < f → fndI (fun k => decide (0 < (hp.1 22 (((k : Int) * 12) + lI).toNat).toInt)) q ((hp.1 17 0).toInt.toNat - k) k = fndI (fun k => decide (0 < (hp.1 22 (((k : Int) * 12) + lI).toNat).toInt)) q (hp.1 17 0).toInt.toNat 0 → gG mX0_bagWith (d + 1) 0 0 (zQ 0 0 Q) 0 0 (5, [.ref 17, .int l, .int q, .int (cntI (fun k => decide (0 < (hp.1 22 (((k : Int) * 12) + lI).toNat).toInt)) k), .int i], [], (SH b xs), hp) := by
  intro f
  induction f with
  | zero => intros; omega
  | succ f ih =>
    intro k i iE hk hf hg
    refine g_run 3 rfl ?_
    refine gj_ge (kx := (k : Int)) (kz := (hp.1 17 0).toInt) rfl iE rfl (fun k1 => ?_) (fun k1 => ?_)
    · refine g_run 1 rfl ?_
      have e : k = (hp.1 17 0).toInt.toNat := by omega
      rw [show (hp.1 17 0).toInt.toNat - k = 0 by omega] at hg
      rw [← hg] at h1
      exact g_iret rfl rfl h1
    · refine g_run 3 rfl ?_
      refine g_callV0 rfl LX0_44 rfl rfl rfl rfl ?_
      refine c_X0_partOf (nI := (k : Int)) (mI := lI) iE lE (by omega) (by omega) ?_
      refine gz_le (kx := (hp.1 22 (((k : Int) * 12) + lI).toNat).toInt) rfl rfl (fun k2 => ?_) (fun k2 => ?_)
      · refine g_run 2 rfl ?_
        have e1 : (hp.1 17 0).toInt.toNat - k = ((hp.1 17 0).toInt.toNat - (k + 1)) + 1 := by omega
        rw [cntI_f (p := (fun k => decide (0 < (hp.1 22 (((k : Int) * 12) + lI).toNat).toInt))) (k := k) (by simp; omega)]
        exact ih (k + 1) _ (inc1 iE (by omega)) (by omega) (by omega) (by rw [← hg, e1, fndI_p (by simp; omega)])
      · refine g_run 2 rfl ?_
        refine gj_ne (kx := (cntI (fun k => decide (0 < (hp.1 22 (((k : Int) * 12) + lI).toNat).toInt)) k).toInt) (kz := q.toInt) rfl rfl rfl (fun k3 => ?_) (fun k3 => ?_)
        · refine g_run 3 rfl ?_
          have e1 : (hp.1 17 0).toInt.toNat - k = ((hp.1 17 0).toInt.toNat - (k + 1)) + 1 := by omega
          rw [cntI_t (p := (fun k => decide (0 < (hp.1 22 (((k : Int) * 12) + lI).toNat).toInt))) (k := k) (by simp; omega)]
          exact ih (k + 1) _ (inc1 iE (by omega)) (by omega) (by omega) (by rw [← hg, e1, fndI_n (fun z => by simp only [ia_eq] at z; omega)])
        · refine g_run 1 rfl ?_
          have e1 : (hp.1 17 0).toInt.toNat - k = ((hp.1 17 0).toInt.toNat - (k + 1)) + 1 := by omega
          rw [e1, fndI_y (by simp; omega) (by rw [ia_eq]; omega)] at hg
          rw [← hg, ← eq_nI iE (by omega)] at h1
          exact g_iret rfl rfl h1
theorem c_X0_bagWith {l : Int32} {lI : Int} {q : Int32} {qI : Int} (lE : l.toInt = lI) (qE : q.toInt = qI) (hs : 0 ≤ (hp.1 17 0).toInt ∧ (hp.1 17 0).toInt ≤ 60) (hl : 0 ≤ lI ∧ lI < 12) (h1 : Q (some (.int (fndI (fun k => decide (0 < (hp.1 22 (((k : Int) * 12) + lI).toNat).toInt)) q (hp.1 17 0).toInt.toNat 0))) (SH b xs) hp) : gC mX0_bagWith (d + 1) 0 0 [.ref 17, .int l, .int q] (SH b xs) hp Q := by
  refine g_enter okX0_bagWith (plainFor_of_name rfl) rfl ?_
  refine g_run 4 rfl ?_
  exact lp_X0_bagWith hs lE hl h1 61 0 0 (by decide) (by omega) (by omega) rfl
end S14
