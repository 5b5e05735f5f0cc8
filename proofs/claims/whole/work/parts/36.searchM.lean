/-! the best blend in the reference: the search -/
section S36
variable {d : Nat} {sh : sh_T} {hp : hp_T} {Q : Option Value → sh_T → hp_T → Prop} {b : Bool} {xs : sh_T}
theorem lpi_X10_isInSpans  {M : Nat} (hM : (hp.1 43 57).toInt = (M : Int)) (hM6 : M ≤ 6) (hmb : ∀ i, i < M → 0 ≤ (hp.1 73 i).toInt ∧ (hp.1 73 i).toInt < 12) {gd : Int32} {t : Nat} {ti : Int32} (tE : ti.toInt = (t : Int)) (ht : t < 3) (kk : ∀ i4 : Int32, gG mX10_isInSpans d 0 0 (zQ 0 0 Q) 0 0 (56, [.ref 43, .int gd, .int ti, .int (sumI (fun i => hp.1 74 i * hp.1 62 ((3 * (hp.1 73 i).toInt) + (t : Int)).toNat) M), .int i4], [], (SH b xs), hp)) : ∀ (f k : Nat) (i : Int32), i.toInt = (k : Int) → k ≤ M → M - k < f → gG mX10_isInSpans d 0 0 (zQ 0 0 Q) 0 0 (14, [.ref 43, .int gd, .int ti, .int (sumI (fun i => hp.1 74 i * hp.1 62 ((3 * (hp.1 73 i).toInt) + (t : Int)).toNat) k), .int i], [], (SH b xs), hp) := by
  intro f
  induction f with
  | zero => intros; omega
  | succ f ih =>
    intro k i iE hk hf
    refine g_run 3 rfl ?_
    refine gj_ge (kx := (k : Int)) (kz := (M : Int)) rfl iE hM (fun k1 => ?_) (fun k1 => ?_)
    · obtain rfl : k = M := by omega
      exact kk _
    · have hmk := hmb k (by omega)
      refine g_run 4 rfl ?_
      refine g_iald (j := k) rfl rfl ((show _ = (k : Int) from iE).trans (by omega)) (by omega) ?_
      refine g_run 6 rfl ?_
      refine g_iald (j := k) rfl rfl ((show _ = (k : Int) from iE).trans (by omega)) (by omega) ?_
      refine g_run 3 rfl ?_
      refine g_iald (j := ((3 * (hp.1 73 k).toInt) + (t : Int)).toNat) rfl rfl ((show _ = ((3 * (hp.1 73 k).toInt) + (t : Int)) from (ia_add2 (ia_mul2 (by decide) rfl (by omega) (by omega)) tE (by omega) (by omega))).trans (by omega)) (by omega) ?_
      refine g_run 5 rfl ?_
      exact ih (k + 1) _ (inc1 iE (by omega)) (by omega) (by omega)
theorem lp_X10_isInSpans  {M : Nat} (hM : (hp.1 43 57).toInt = (M : Int)) (hM6 : M ≤ 6) (hmb : ∀ i, i < M → 0 ≤ (hp.1 73 i).toInt ∧ (hp.1 73 i).toInt < 12) (hsp : ∀ i, i < 3 → 0 ≤ (hp.1 71 i).toInt ∧ (hp.1 71 i).toInt ≤ 100 ∧ 0 ≤ (hp.1 72 i).toInt ∧ (hp.1 72 i).toInt ≤ 100) (h1 : (∀ t : Nat, t < 3 → (10 * (hp.1 71 t).toInt ≤ (sumI (fun i => hp.1 74 i * hp.1 62 ((3 * (hp.1 73 i).toInt) + (t : Int)).toNat) M).toInt ∧ (sumI (fun i => hp.1 74 i * hp.1 62 ((3 * (hp.1 73 i).toInt) + (t : Int)).toNat) M).toInt ≤ 10 * (hp.1 72 t).toInt)) → Q (some (.int 1)) (SH b xs) hp) (h0 : (∃ t : Nat, t < 3 ∧ ¬ (10 * (hp.1 71 t).toInt ≤ (sumI (fun i => hp.1 74 i * hp.1 62 ((3 * (hp.1 73 i).toInt) + (t : Int)).toNat) M).toInt ∧ (sumI (fun i => hp.1 74 i * hp.1 62 ((3 * (hp.1 73 i).toInt) + (t : Int)).toNat) M).toInt ≤ 10 * (hp.1 72 t).toInt)) → Q (some (.int 0)) (SH b xs) hp) : ∀ (f t : Nat) (ti gd : Int32) (w3 w4 : Value), ti.toInt = (t : Int) → t ≤ 3 → ((gd = 1 ∧ ∀ j : Nat, j < t → (10 * (hp.1 71 j).toInt ≤ (sumI (fun i => hp.1 74 i * hp.1 62 ((3 * (hp.1 73 i).toInt) + (j : Int)).toNat) M).toInt ∧ (sumI (fun i => hp.1 74 i * hp.1 62 ((3 * (hp.1 73 i).toInt) + (j : Int)).toNat) M).toInt ≤ 10 * (hp.1 72 j).toInt)) ∨ (gd = 0 ∧ ∃ j : Nat, j < t ∧ ¬ (10 * (hp.1 71 j).toInt ≤ (sumI (fun i => hp.1 74 i * hp.1 62 ((3 * (hp.1 73 i).toInt) + (j : Int)).toNat) M).toInt ∧ (sumI (fun i => hp.1 74 i * hp.1 62 ((3 * (hp.1 73 i).toInt) + (j : Int)).toNat) M).toInt ≤ 10 * (hp.1 72 j).toInt))) → 3 - t < f → gG mX10_isInSpans d 0 0 (zQ 0 0 Q) 0 0 (4, [.ref 43, .int gd, .int ti, w3, w4], [], (SH b xs), hp) := by
  intro f
  induction f with
  | zero => intros; omega
  | succ f ih =>
    intro t ti gd w3 w4 tE ht hG hf
    rcases hG with ⟨rfl, hA⟩ | ⟨rfl, hA⟩
    · skip
      refine g_run 2 rfl ?_
      refine gj_ge (kx := (t : Int)) (kz := 3) rfl tE (by decide) (fun k1 => ?_) (fun k1 => ?_)
      · refine g_run 1 rfl ?_
        exact g_zret rfl rfl (Or.inr rfl) (h1 (fun j hj => hA j (by omega)))
      · refine g_run 4 rfl ?_
        refine lpi_X10_isInSpans hM hM6 hmb tE (by omega) (fun i4 => ?_) 7 0 0 (by decide) (by omega) (by omega)
        have hst := hsp t (by omega)
        refine g_run 1 rfl ?_
        refine gz_eq (kx := 1) rfl (show (1 : Int32).toInt = 1 from by decide) (fun q => absurd q (by decide)) (fun _ => ?_)
        refine g_run 5 rfl ?_
        refine g_iald (j := t) rfl rfl ((show _ = (t : Int) from tE).trans (by omega)) (by omega) ?_
        refine g_run 1 rfl ?_
        refine gj_lt (kx := (sumI (fun i => hp.1 74 i * hp.1 62 ((3 * (hp.1 73 i).toInt) + (t : Int)).toNat) M).toInt) (kz := (10 * (hp.1 71 t).toInt)) rfl rfl (ia_mul2 (by decide) rfl (by omega) (by omega)) (fun k2 => ?_) (fun k2 => ?_)
        · refine g_run 4 rfl ?_
          exact ih (t + 1) _ _ _ _ (inc1 tE (by omega)) (by omega) (Or.inr ⟨rfl, t, by omega, by omega⟩) (by omega)
        · refine g_run 5 rfl ?_
          refine g_iald (j := t) rfl rfl ((show _ = (t : Int) from tE).trans (by omega)) (by omega) ?_
          refine g_run 1 rfl ?_
          refine gj_gt (kx := (sumI (fun i => hp.1 74 i * hp.1 62 ((3 * (hp.1 73 i).toInt) + (t : Int)).toNat) M).toInt) (kz := (10 * (hp.1 72 t).toInt)) rfl rfl (ia_mul2 (by decide) rfl (by omega) (by omega)) (fun k3 => ?_) (fun k3 => ?_)
          · refine g_run 4 rfl ?_
            exact ih (t + 1) _ _ _ _ (inc1 tE (by omega)) (by omega) (Or.inr ⟨rfl, t, by omega, by omega⟩) (by omega)
          · refine g_run 5 rfl ?_
            exact ih (t + 1) _ _ _ _ (inc1 tE (by omega)) (by omega) (Or.inl ⟨rfl, fun j hj => by have q : j < t ∨ j = t := (by omega); cases q with | inl q => exact hA j q | inr q => subst q; exact ⟨by omega, by omega⟩⟩) (by omega)
    · skip
      refine g_run 2 rfl ?_
      refine gj_ge (kx := (t : Int)) (kz := 3) rfl tE (by decide) (fun k1 => ?_) (fun k1 => ?_)
      · refine g_run 1 rfl ?_
        exact g_zret rfl rfl (Or.inl rfl) (h0 (hA.elim fun j hj => ⟨j, by omega, hj.2⟩))
      · refine g_run 4 rfl ?_
        refine lpi_X10_isInSpans hM hM6 hmb tE (by omega) (fun i4 => ?_) 7 0 0 (by decide) (by omega) (by omega)
        have hst := hsp t (by omega)
        refine g_run 1 rfl ?_
        refine gz_eq (kx := 0) rfl (show (0 : Int32).toInt = 0 from by decide) (fun _ => ?_) (fun q => absurd q (by decide))
        refine g_run 4 rfl ?_
        exact ih (t + 1) _ _ _ _ (inc1 tE (by omega)) (by omega) (Or.inr ⟨rfl, hA.elim fun j hj => ⟨j, by omega, hj.2⟩⟩) (by omega)
theorem c_X10_isInSpans {M : Nat} (hM : (hp.1 43 57).toInt = (M : Int)) (hM6 : M ≤ 6) (hmb : ∀ i, i < M → 0 ≤ (hp.1 73 i).toInt ∧ (hp.1 73 i).toInt < 12) (hsp : ∀ i, i < 3 → 0 ≤ (hp.1 71 i).toInt ∧ (hp.1 71 i).toInt ≤ 100 ∧ 0 ≤ (hp.1 72 i).toInt ∧ (hp.1 72 i).toInt ≤ 100) (h1 : (∀ t : Nat, t < 3 → (10 * (hp.1 71 t).toInt ≤ (sumI (fun i => hp.1 74 i * hp.1 62 ((3 * (hp.1 73 i).toInt) + (t : Int)).toNat) M).toInt ∧ (sumI (fun i => hp.1 74 i * hp.1 62 ((3 * (hp.1 73 i).toInt) + (t : Int)).toNat) M).toInt ≤ 10 * (hp.1 72 t).toInt)) → Q (some (.int 1)) (SH b xs) hp) (h0 : (∃ t : Nat, t < 3 ∧ ¬ (10 * (hp.1 71 t).toInt ≤ (sumI (fun i => hp.1 74 i * hp.1 62 ((3 * (hp.1 73 i).toInt) + (t : Int)).toNat) M).toInt ∧ (sumI (fun i => hp.1 74 i * hp.1 62 ((3 * (hp.1 73 i).toInt) + (t : Int)).toNat) M).toInt ≤ 10 * (hp.1 72 t).toInt)) → Q (some (.int 0)) (SH b xs) hp) : gC mX10_isInSpans d 0 0 [.ref 43] (SH b xs) hp Q := by
  refine g_enter okX10_isInSpans (plainFor_of_name rfl) rfl ?_
  refine g_run 4 rfl ?_
  exact lp_X10_isInSpans hM hM6 hmb hsp h1 h0 4 0 0 1 _ _ (by decide) (by omega) (Or.inl ⟨rfl, fun j hj => absurd hj (by omega)⟩) (by omega)
def BM (hp : hp_T) (tr w : Nat → Int32) (lc wb : Int32) : hp_T := sI (sI (sR (sR hp 74 tr) 75 w) 43 58 lc) 43 56 wb
theorem bm_lc {hp : hp_T} {tr w : Nat → Int32} {lc wb c : Int32} : sI (BM hp tr w lc wb) 43 58 c = BM hp tr w c wb := by
  refine two_ext (fun k i => ?_) rfl
  by_cases h1 : k = 43
  · subst h1; by_cases hi : i = 58
    · subst hi; simp [BM, sI, sR, va_up]
    · by_cases hj : i = 56 <;> simp [BM, sI, sR, va_up, hi, hj]
  · simp [BM, sI, sR, va_up, h1]
theorem bm_wb {hp : hp_T} {tr w : Nat → Int32} {lc wb c : Int32} : sI (BM hp tr w lc wb) 43 56 c = BM hp tr w lc c := by
  refine two_ext (fun k i => ?_) rfl
  by_cases h1 : k = 43
  · subst h1; by_cases hi : i = 56 <;> simp [BM, sI, sR, va_up, hi]
  · simp [BM, sI, sR, va_up, h1]
theorem bm_w {hp : hp_T} {tr w : Nat → Int32} {lc wb v : Int32} {j : Nat} : sI (BM hp tr w lc wb) 75 j v = BM hp tr (va_up w j v) lc wb := by
  refine two_ext (fun k i => ?_) rfl
  by_cases h1 : k = 43
  · subst h1; simp [BM, sI, sR, va_up]
  · by_cases h2 : k = 75
    · subst h2; simp [BM, sI, sR, va_up]
    · simp [BM, sI, sR, va_up, h1, h2]
theorem bm_tr {hp : hp_T} {tr w : Nat → Int32} {lc wb v : Int32} {j : Nat} : sI (BM hp tr w lc wb) 74 j v = BM hp (va_up tr j v) w lc wb := by
  refine two_ext (fun k i => ?_) rfl
  by_cases h1 : k = 43
  · subst h1; simp [BM, sI, sR, va_up]
  · by_cases h2 : k = 74
    · subst h2; simp [BM, sI, sR, va_up]
    · simp [BM, sI, sR, va_up, h1, h2]
theorem bm_id {hp : hp_T} {c : Int32} : BM hp (hp.1 74) (hp.1 75) c (hp.1 43 56) = sI hp 43 58 c := by
  refine two_ext (fun k i => ?_) rfl
  by_cases h1 : k = 43
  · subst h1; by_cases hi : i = 58
    · subst hi; simp [BM, sI, sR, va_up]
    · by_cases hj : i = 56
      · subst hj; simp [BM, sI, sR, va_up]
      · simp [BM, sI, sR, va_up, hi, hj]
  · by_cases h2 : k = 74
    · subst h2; simp [BM, sI, sR, va_up]
    · by_cases h3 : k = 75
      · subst h3; simp [BM, sI, sR, va_up]
      · simp [BM, sI, sR, va_up, h1, h2, h3]
theorem sumI_sC {tr pr p : Nat → Int32} {M : Nat} (hpr : ∀ i, i < M → 0 ≤ (pr i).toInt ∧ (pr i).toInt ≤ 10000) (he : ∀ i, i < M → p i = pr i) (hM6 : M ≤ 6) : ∀ n : Nat, n ≤ M → (∀ i, i < n → 0 ≤ (tr i).toInt ∧ (tr i).toInt ≤ 10) → (sumI (fun i => tr i * p i) n).toInt = sC tr pr n
  | 0, _, _ => by rw [sumI, sC]; decide
  | n + 1, hn, h => by
    have h1 := sC_bd hpr n (by omega) (fun i hi => h i (by omega))
    have h2 := h n (by omega)
    have h3 := hpr n (by omega)
    have h4 := Int.mul_nonneg h2.1 h3.1
    have h5 : (tr n).toInt * (pr n).toInt ≤ 10 * 10000 := Int.mul_le_mul h2.2 h3.2 h3.1 (by omega)
    rw [sumI, sC, he n (by omega)]
    exact ia_add2 (sumI_sC hpr he hM6 n (by omega) (fun i hi => h i (by omega))) (ia_mul2 rfl rfl (by omega) (by omega)) (by omega) (by omega)
/-- what the reference's search needs to know of the world -/
def okSM (hp : hp_T) (gt : Int) (pr : Nat → Int32) (al : Nat → Nat → Bool) (fit : (Nat → Int32) → Bool) (M : Nat) : Prop :=
  (hp.1 43 57).toInt = (M : Int) ∧ M ≤ 6 ∧ (∀ i, i < M → 0 ≤ (hp.1 73 i).toInt ∧ (hp.1 73 i).toInt < 12) ∧ (∀ i, i < 3 → 0 ≤ (hp.1 71 i).toInt ∧ (hp.1 71 i).toInt ≤ 100 ∧ 0 ≤ (hp.1 72 i).toInt ∧ (hp.1 72 i).toInt ≤ 100) ∧ (∀ i, i < M → 0 ≤ (pr i).toInt ∧ (pr i).toInt ≤ 10000 ∧ hp.1 61 (hp.1 73 i).toInt.toNat = pr i) ∧ (∀ i n : Nat, i < M → n ≤ 10 → (al i n = true ↔ (n : Int) * gt ≤ (hp.1 60 (hp.1 73 i).toInt.toNat).toInt)) ∧ (1 ≤ gt ∧ gt ≤ 10000) ∧ ∀ tr : Nat → Int32, fit tr = fitP (hp.1 71) (hp.1 72) (fun i t => hp.1 62 ((3 * (hp.1 73 i).toInt) + (t : Int)).toNat) M tr
/-- what stands in bestTenths and wasBest, by the best so far -/
def isB (hp : hp_T) (M : Nat) (w0 : Nat → Int32) (wb0 : Int32) (s : bs_T) (w : Nat → Int32) (wb : Int32) : Prop := (s.1 = -1 → w = w0 ∧ wb = wb0) ∧ (s.1 ≠ -1 → wb = 1 ∧ ∀ j, j < 12 → w j = latF (hp.1 73) s.2 M j)
theorem lp1_X10_asks  {M : Nat} {tr w : Nat → Int32} {lc wb left : Int32} (hM : (hp.1 43 57).toInt = (M : Int)) (hM6 : M ≤ 6) (hmb : ∀ i, i < M → 0 ≤ (hp.1 73 i).toInt ∧ (hp.1 73 i).toInt < 12) (kk : ∀ i3 : Int32, gG mX10_asks (d + 1) 0 0 (zQ 0 0 Q) 0 0 (39, [.ref 43, .int left, .int (sumI (fun i => tr i * hp.1 61 (hp.1 73 i).toInt.toNat) M), .int i3], [], (SH b xs), (BM hp tr w lc wb))) : ∀ (f k : Nat) (i : Int32), i.toInt = (k : Int) → k ≤ M → M - k < f → gG mX10_asks (d + 1) 0 0 (zQ 0 0 Q) 0 0 (4, [.ref 43, .int left, .int (sumI (fun i => tr i * hp.1 61 (hp.1 73 i).toInt.toNat) k), .int i], [], (SH b xs), (BM hp tr w lc wb)) := by
  intro f
  induction f with
  | zero => intros; omega
  | succ f ih =>
    intro k i iE hk hf
    refine g_run 3 rfl ?_
    refine gj_ge (kx := (k : Int)) (kz := (M : Int)) rfl iE hM (fun k1 => ?_) (fun k1 => ?_)
    · obtain rfl : k = M := by omega
      exact kk _
    · have hmk := hmb k (by omega)
      refine g_run 4 rfl ?_
      refine g_iald (j := k) rfl rfl ((show _ = (k : Int) from iE).trans (by omega)) (by omega) ?_
      refine g_run 5 rfl ?_
      refine g_iald (j := k) rfl rfl ((show _ = (k : Int) from iE).trans (by omega)) (by omega) ?_
      refine g_iald (j := ((hp.1 73 k).toInt).toNat) rfl rfl ((show _ = (hp.1 73 k).toInt from rfl).trans (by omega)) (by omega) ?_
      refine g_run 5 rfl ?_
      exact ih (k + 1) _ (inc1 iE (by omega)) (by omega) (by omega)
theorem lp3_X10_asks {M : Nat} {tr : Nat → Int32} {lc wb left sm : Int32} {F : Nat → (Nat → Int32)} (hF : ∀ k, F (k + 1) = va_up (F k) (hp.1 73 k).toInt.toNat (tr k)) (hM : (hp.1 43 57).toInt = (M : Int)) (hM6 : M ≤ 6) (hmb : ∀ i, i < M → 0 ≤ (hp.1 73 i).toInt ∧ (hp.1 73 i).toInt < 12) (h1 : Q none (SH b xs) (BM hp tr (F M) lc wb)) : ∀ (f k : Nat) (i : Int32), i.toInt = (k : Int) → k ≤ M → M - k < f → gG mX10_asks (d + 1) 0 0 (zQ 0 0 Q) 0 0 (99, [.ref 43, .int left, .int sm, .int i], [], (SH b xs), BM hp tr (F k) lc wb) := by
  intro f
  induction f with
  | zero => intros; omega
  | succ f ih =>
    intro k i iE hk hf
    refine g_run 3 rfl ?_
    refine gj_ge (kx := (k : Int)) (kz := (M : Int)) rfl iE hM (fun k1 => ?_) (fun k1 => ?_)
    · obtain rfl : k = M := by omega
      exact g_vret rfl rfl h1
    · have hmk := hmb k (by omega)
      refine g_run 5 rfl ?_
      refine g_iald (j := k) rfl rfl iE (by omega) ?_
      refine g_run 3 rfl ?_
      refine g_iald (j := k) rfl rfl iE (by omega) ?_
      refine g_iast (j := (hp.1 73 k).toInt.toNat) rfl rfl (show (hp.1 73 k).toInt = _ from by omega) (by omega) ?_
      refine g_run 2 rfl ?_
      refine gG_hp (h2 := BM hp tr (F (k + 1)) lc wb) (by rw [hF]; exact bm_w) ?_
      exact ih (k + 1) _ (inc1 iE (by omega)) (by omega) (by omega)
theorem lp2_X10_asks {tr w : Nat → Int32} {lc wb left sm : Int32} (kk : ∀ i3 : Int32, gG mX10_asks (d + 1) 0 0 (zQ 0 0 Q) 0 0 (97, [.ref 43, .int left, .int sm, .int i3], [], (SH b xs), BM hp tr (fT (fun _ => 0) 12 w) lc wb)) : ∀ (f k : Nat) (i : Int32), i.toInt = (k : Int) → k ≤ 12 → 12 - k < f → gG mX10_asks (d + 1) 0 0 (zQ 0 0 Q) 0 0 (78, [.ref 43, .int left, .int sm, .int i], [], (SH b xs), BM hp tr (fT (fun _ => 0) k w) lc wb) := by
  intro f
  induction f with
  | zero => intros; omega
  | succ f ih =>
    intro k i iE hk hf
    refine g_run 2 rfl ?_
    refine gj_ge (kx := (k : Int)) (kz := 12) rfl iE (by decide) (fun k1 => ?_) (fun k1 => ?_)
    · obtain rfl : k = 12 := by omega
      exact kk _
    · refine g_run 4 rfl ?_
      refine g_iast (j := k) rfl rfl iE (by omega) ?_
      refine g_run 2 rfl ?_
      refine gG_hp (h2 := BM hp tr (fT (fun _ => 0) (k + 1) w) lc wb) (by rw [bm_w]; exact congrArg (fun z => BM hp tr z lc wb) (fT_s (f := fun _ => 0))) ?_
      exact ih (k + 1) _ (inc1 iE (by omega)) (by omega) (by omega)
theorem c_X10_asks {gt : Int} {pr : Nat → Int32} {al : Nat → Nat → Bool} {fit : (Nat → Int32) → Bool} {M : Nat} (hO : okSM hp gt pr al fit M) {w0 : Nat → Int32} {wb0 : Int32} {tr w : Nat → Int32} {lc wb left : Int32} {s : bs_T} {lN : Nat} (lE : left.toInt = (lN : Int)) (ht : ∀ i, i < M → 0 ≤ (tr i).toInt ∧ (tr i).toInt ≤ 10) (qE : lc.toInt = s.1) (hs : s.1 = -1 ∨ 0 ≤ s.1) (hk : isB hp M w0 wb0 s w wb)
    (h1 : ∀ (tr' w' : Nat → Int32) (lc' wb' : Int32), (∀ i, i < M → tr' i = tr i) → lc'.toInt = (rfT al fit pr M 0 lN tr s).1 → isB hp M w0 wb0 (rfT al fit pr M 0 lN tr s) w' wb' → Q none (SH b xs) (BM hp tr' w' lc' wb')) : gC mX10_asks (d + 1) 0 0 [.ref 43, .int left] (SH b xs) (BM hp tr w lc wb) Q := by
  obtain ⟨hM, hM6, hmb, hsp, hpr, hal, hgt, hfit⟩ := hO
  have hnn : ∀ i, i < M → 0 ≤ (pr i).toInt ∧ (pr i).toInt ≤ 10000 := fun i hi => ⟨(hpr i hi).1, (hpr i hi).2.1⟩
  have hcb := sC_bd hnn M (Nat.le_refl _) ht
  have sE : (sumI (fun i => tr i * hp.1 61 (hp.1 73 i).toInt.toNat) M).toInt = sC tr pr M := sumI_sC hnn (fun i hi => (hpr i hi).2.2) hM6 M (Nat.le_refl _) ht
  have hR0 : (lN ≠ 0 ∨ (0 ≤ s.1 ∧ s.1 ≤ sC tr pr M) ∨ (∃ t : Nat, t < 3 ∧ ¬ (10 * ((BM hp tr w lc wb).1 71 t).toInt ≤ (sumI (fun i => (BM hp tr w lc wb).1 74 i * (BM hp tr w lc wb).1 62 ((3 * ((BM hp tr w lc wb).1 73 i).toInt) + (t : Int)).toNat) M).toInt ∧ (sumI (fun i => (BM hp tr w lc wb).1 74 i * (BM hp tr w lc wb).1 62 ((3 * ((BM hp tr w lc wb).1 73 i).toInt) + (t : Int)).toNat) M).toInt ≤ 10 * ((BM hp tr w lc wb).1 72 t).toInt))) → rfT al fit pr M 0 lN tr s = s := by
    intro q
    rw [rfT, if_neg]
    rintro ⟨q1, q4, q3⟩
    rcases q with q | q | ⟨t, q, q2⟩
    · exact q q1
    · exact q4 q
    · rw [hfit, fitP_cut, fitP, decide_eq_true_eq] at q3
      exact q2 (q3 t q)
  have hR1 : lN = 0 → ¬ (0 ≤ s.1 ∧ s.1 ≤ sC tr pr M) → (∀ t : Nat, t < 3 → (10 * ((BM hp tr w lc wb).1 71 t).toInt ≤ (sumI (fun i => (BM hp tr w lc wb).1 74 i * (BM hp tr w lc wb).1 62 ((3 * ((BM hp tr w lc wb).1 73 i).toInt) + (t : Int)).toNat) M).toInt ∧ (sumI (fun i => (BM hp tr w lc wb).1 74 i * (BM hp tr w lc wb).1 62 ((3 * ((BM hp tr w lc wb).1 73 i).toInt) + (t : Int)).toNat) M).toInt ≤ 10 * ((BM hp tr w lc wb).1 72 t).toInt)) → rfT al fit pr M 0 lN tr s = (sC tr pr M, cutM M tr) := by
    intro q1 hc q2
    rw [rfT, if_pos]
    refine ⟨q1, hc, ?_⟩
    rw [hfit, fitP_cut, fitP, decide_eq_true_eq]
    exact q2
  refine g_enter okX10_asks (plainFor_of_name rfl) rfl ?_
  refine g_run 4 rfl ?_
  refine lp1_X10_asks hM hM6 hmb (fun i3 => ?_) 7 0 0 (by decide) (by omega) (by omega)
  refine g_run 1 rfl ?_
  refine gz_gt (kx := (lN : Int)) rfl lE (fun k1 => ?_) (fun k1 => ?_)
  · exact g_vret rfl rfl (h1 _ _ _ _ (fun _ _ => rfl) (by rw [hR0 (by first | exact Or.inl (by omega) | exact Or.inr (Or.inl (by omega)) | exact Or.inr (Or.inr (by assumption)))]; exact qE) (by rw [hR0 (by first | exact Or.inl (by omega) | exact Or.inr (Or.inl (by omega)) | exact Or.inr (Or.inr (by assumption)))]; exact hk))
  · refine g_run 2 rfl ?_
    refine gz_lt (kx := s.1) rfl qE (fun k2 => ?_) (fun k2 => ?_)
    · refine g_run 1 rfl ?_
      refine g_callV0 rfl LX10_337 rfl rfl rfl rfl ?_
      refine c_X10_isInSpans (hp := BM hp tr w lc wb) (M := M) hM hM6 hmb hsp (fun kf => ?_) (fun kf => ?_)
      · refine gz_ne (kx := 1) rfl (show (1 : Int32).toInt = 1 from by decide) (fun _ => ?_) (fun q => absurd q (by decide))
        have e3 := hR1 (by omega) (by omega) (by assumption)
        refine g_run 3 rfl ?_
        refine gG_hp (h2 := BM hp tr w (sumI (fun i => tr i * hp.1 61 (hp.1 73 i).toInt.toNat) M) wb) bm_lc ?_
        refine g_run 2 rfl ?_
        refine g_putZ rfl rfl rfl rfl (by decide) ?_
        refine gG_hp (h2 := BM hp tr w (sumI (fun i => tr i * hp.1 61 (hp.1 73 i).toInt.toNat) M) 1) bm_wb ?_
        refine g_run 2 rfl ?_
        refine gG_hp (h2 := BM hp tr (fT (fun _ => 0) 0 w) (sumI (fun i => tr i * hp.1 61 (hp.1 73 i).toInt.toNat) M) 1) (by rw [show fT (fun _ => 0) 0 w = w from by funext i; simp [fT]]) ?_
        refine lp2_X10_asks (fun i5 => ?_) 13 0 0 (by decide) (by omega) (by omega)
        refine g_run 2 rfl ?_
        let F : Nat → Nat → Int32 := fun k => Nat.rec (fT (fun _ => 0) 12 w) (fun k g => va_up g (hp.1 73 k).toInt.toNat (tr k)) k
        have hFl : ∀ k j, k ≤ M → j < 12 → F k j = latF (hp.1 73) (cutM M tr) k j := by
          intro k j hk9 hj
          induction k with
          | zero => show fT (fun _ => 0) 12 w j = 0; simp [fT, hj]
          | succ k ih =>
            show va_up (F k) (hp.1 73 k).toInt.toNat (tr k) j = _
            rw [latF, va_up, va_up, ih (by omega)]
            simp [cutM, show k < M by omega]
        refine lp3_X10_asks (F := F) (fun k => rfl) hM hM6 hmb (h1 _ _ _ _ (fun _ _ => rfl) (by rw [e3]; exact sE) ?_) 7 0 0 (by decide) (by omega) (by omega)
        rw [e3]
        refine ⟨fun q => ?_, fun _ => ⟨rfl, fun j hj => hFl M j (Nat.le_refl _) hj⟩⟩
        dsimp only at q; omega
      · refine gz_ne (kx := 0) rfl (show (0 : Int32).toInt = 0 from by decide) (fun q => absurd q (by decide)) (fun _ => ?_)
        exact g_vret rfl rfl (h1 _ _ _ _ (fun _ _ => rfl) (by rw [hR0 (by first | exact Or.inl (by omega) | exact Or.inr (Or.inl (by omega)) | exact Or.inr (Or.inr (by assumption)))]; exact qE) (by rw [hR0 (by first | exact Or.inl (by omega) | exact Or.inr (Or.inl (by omega)) | exact Or.inr (Or.inr (by assumption)))]; exact hk))
    · refine g_run 3 rfl ?_
      refine gj_ge (kx := (sC tr pr M)) (kz := s.1) rfl sE qE (fun k3 => ?_) (fun k3 => ?_)
      · exact g_vret rfl rfl (h1 _ _ _ _ (fun _ _ => rfl) (by rw [hR0 (by first | exact Or.inl (by omega) | exact Or.inr (Or.inl (by omega)) | exact Or.inr (Or.inr (by assumption)))]; exact qE) (by rw [hR0 (by first | exact Or.inl (by omega) | exact Or.inr (Or.inl (by omega)) | exact Or.inr (Or.inr (by assumption)))]; exact hk))
      · refine g_run 1 rfl ?_
        refine g_callV0 rfl LX10_337 rfl rfl rfl rfl ?_
        refine c_X10_isInSpans (hp := BM hp tr w lc wb) (M := M) hM hM6 hmb hsp (fun kf => ?_) (fun kf => ?_)
        · refine gz_ne (kx := 1) rfl (show (1 : Int32).toInt = 1 from by decide) (fun _ => ?_) (fun q => absurd q (by decide))
          have e3 := hR1 (by omega) (by omega) (by assumption)
          refine g_run 3 rfl ?_
          refine gG_hp (h2 := BM hp tr w (sumI (fun i => tr i * hp.1 61 (hp.1 73 i).toInt.toNat) M) wb) bm_lc ?_
          refine g_run 2 rfl ?_
          refine g_putZ rfl rfl rfl rfl (by decide) ?_
          refine gG_hp (h2 := BM hp tr w (sumI (fun i => tr i * hp.1 61 (hp.1 73 i).toInt.toNat) M) 1) bm_wb ?_
          refine g_run 2 rfl ?_
          refine gG_hp (h2 := BM hp tr (fT (fun _ => 0) 0 w) (sumI (fun i => tr i * hp.1 61 (hp.1 73 i).toInt.toNat) M) 1) (by rw [show fT (fun _ => 0) 0 w = w from by funext i; simp [fT]]) ?_
          refine lp2_X10_asks (fun i5 => ?_) 13 0 0 (by decide) (by omega) (by omega)
          refine g_run 2 rfl ?_
          let F : Nat → Nat → Int32 := fun k => Nat.rec (fT (fun _ => 0) 12 w) (fun k g => va_up g (hp.1 73 k).toInt.toNat (tr k)) k
          have hFl : ∀ k j, k ≤ M → j < 12 → F k j = latF (hp.1 73) (cutM M tr) k j := by
            intro k j hk9 hj
            induction k with
            | zero => show fT (fun _ => 0) 12 w j = 0; simp [fT, hj]
            | succ k ih =>
              show va_up (F k) (hp.1 73 k).toInt.toNat (tr k) j = _
              rw [latF, va_up, va_up, ih (by omega)]
              simp [cutM, show k < M by omega]
          refine lp3_X10_asks (F := F) (fun k => rfl) hM hM6 hmb (h1 _ _ _ _ (fun _ _ => rfl) (by rw [e3]; exact sE) ?_) 7 0 0 (by decide) (by omega) (by omega)
          rw [e3]
          refine ⟨fun q => ?_, fun _ => ⟨rfl, fun j hj => hFl M j (Nat.le_refl _) hj⟩⟩
          dsimp only at q; omega
        · refine gz_ne (kx := 0) rfl (show (0 : Int32).toInt = 0 from by decide) (fun q => absurd q (by decide)) (fun _ => ?_)
          exact g_vret rfl rfl (h1 _ _ _ _ (fun _ _ => rfl) (by rw [hR0 (by first | exact Or.inl (by omega) | exact Or.inr (Or.inl (by omega)) | exact Or.inr (Or.inr (by assumption)))]; exact qE) (by rw [hR0 (by first | exact Or.inl (by omega) | exact Or.inr (Or.inl (by omega)) | exact Or.inr (Or.inr (by assumption)))]; exact hk))
def tmQ (d : Nat) (hp : hp_T) (b : Bool) (xs : sh_T) (gt : Int) (al : Nat → Nat → Bool) (fit : (Nat → Int32) → Bool) (pr : Nat → Int32) (M : Nat) (w0 : Nat → Int32) (wb0 g : Int32) (r : Nat) : Prop :=
  ∀ (Q : Option Value → sh_T → hp_T → Prop) (tr w : Nat → Int32) (lc wb at_ left : Int32) (s : bs_T) (lN : Nat), at_.toInt = ((M - r : Nat) : Int) → left.toInt = (lN : Int) → lN ≤ 10 → (∀ i, i < M - r → 0 ≤ (tr i).toInt ∧ (tr i).toInt ≤ 10) → lc.toInt = s.1 → (s.1 = -1 ∨ 0 ≤ s.1) → isB hp M w0 wb0 s w wb →
    (∀ (tr' w' : Nat → Int32) (lc' wb' : Int32), (∀ i, i < M - r → tr' i = tr i) → lc'.toInt = (rfT al fit pr M r lN tr s).1 → isB hp M w0 wb0 (rfT al fit pr M r lN tr s) w' wb' → Q none (SH b xs) (BM hp tr' w' lc' wb')) →
    gC mX10_tries (d + 2 + r) 0 0 [.ref 43, .int at_, .int left, .int g] (SH b xs) (BM hp tr w lc wb) Q
theorem tq_loop {gt : Int} {pr : Nat → Int32} {al : Nat → Nat → Bool} {fit : (Nat → Int32) → Bool} {M : Nat} {w0 : Nat → Int32} {wb0 g : Int32} {r : Nat} (hr : r + 1 ≤ M) (IH : tmQ d hp b xs gt al fit pr M w0 wb0 g r) (hO : okSM hp gt pr al fit M) (gE : (g / 10).toInt = gt) {tr : Nat → Int32} {at_ left : Int32} {s : bs_T} {lN : Nat} (aE : at_.toInt = ((M - (r + 1) : Nat) : Int)) (lE : left.toInt = (lN : Int)) (hl : lN ≤ 10) (ht : ∀ i, i < M - (r + 1) → 0 ≤ (tr i).toInt ∧ (tr i).toInt ≤ 10)
    (h1 : ∀ (tr' w' : Nat → Int32) (lc' wb' : Int32), (∀ i, i < M - (r + 1) → tr' i = tr i) → lc'.toInt = (rfT al fit pr M (r + 1) lN tr s).1 → isB hp M w0 wb0 (rfT al fit pr M (r + 1) lN tr s) w' wb' → Q none (SH b xs) (BM hp tr' w' lc' wb')) : ∀ (f c : Nat) (n lc2 wb2 : Int32) (tr2 w2 : Nat → Int32) (s2 : bs_T), n.toInt = (c : Int) - 1 → c ≤ lN + 1 → (∀ i, i < M - (r + 1) → tr2 i = tr i) → lc2.toInt = s2.1 → (s2.1 = -1 ∨ 0 ≤ s2.1) → isB hp M w0 wb0 s2 w2 wb2 → dnZ (fun n s => if al (M - (r + 1)) n = true then rfT al fit pr M r (lN - n) (va_up tr (M - (r + 1)) (nI n)) s else s) c s2 = rfT al fit pr M (r + 1) lN tr s → c < f → gG mX10_tries (d + 2 + (r + 1)) 0 0 (zQ 0 0 Q) 0 0 (17, [.ref 43, .int at_, .int left, .int g, .int n], [], (SH b xs), (BM hp tr2 w2 lc2 wb2)) := by
  obtain ⟨hM, hM6, hmb, hsp, hpr, hal, hgt, hfit⟩ := hO
  intro f
  induction f with
  | zero => intros; omega
  | succ f ih =>
    intro c n lc2 wb2 tr2 w2 s2 nE hcl htr lE2 hs2 hk2 hR hf
    have hnn : ∀ i, i < M → 0 ≤ (pr i).toInt ∧ (pr i).toInt ≤ 10000 := fun i hi => ⟨(hpr i hi).1, (hpr i hi).2.1⟩
    have hmk := hmb (M - (r + 1)) (by omega)
    refine g_run 1 rfl ?_
    refine gz_lt (kx := ((c : Int) - 1)) rfl nE (fun k1 => ?_) (fun k1 => ?_)
    · obtain rfl : c = 0 := by omega
      exact g_vret rfl rfl (h1 _ _ _ _ htr (by rw [← hR]; exact lE2) (by rw [← hR]; exact hk2))
    · obtain ⟨k, rfl⟩ : ∃ k, c = k + 1 := ⟨c - 1, by omega⟩
      have nK : n.toInt = (k : Int) := by omega
      obtain rfl : n = nI k := eq_nI nK (by omega)
      have hkb : (k : Int) * gt ≤ 10 * 10000 := Int.mul_le_mul (by omega) hgt.2 (by omega) (by omega)
      have hk0 := Int.mul_nonneg (Int.natCast_nonneg k) (show 0 ≤ gt by omega)
      have hst : (fun n s => if al (M - (r + 1)) n = true then rfT al fit pr M r (lN - n) (va_up tr (M - (r + 1)) (nI n)) s else s) k s2 = if al (M - (r + 1)) k = true then rfT al fit pr M r (lN - k) (va_up tr2 (M - (r + 1)) (nI k)) s2 else s2 := by
        show (if al (M - (r + 1)) k = true then _ else _) = _
        split
        · exact rfT_cg r _ _ _ _ (by omega) (fun i hi => by
            simp only [va_up]
            split
            · rfl
            · exact (htr i (by omega)).symm)
        · rfl
      have hal2 := hal (M - (r + 1)) k (by omega) (by omega)
      refine g_run 3 rfl ?_
      refine g_idiv rfl (by decide) ?_
      refine g_run 6 rfl ?_
      refine g_iald (j := M - (r + 1)) rfl rfl aE (by omega) ?_
      refine g_iald (j := (hp.1 73 (M - (r + 1))).toInt.toNat) rfl rfl (show (hp.1 73 (M - (r + 1))).toInt = _ from by omega) (by omega) ?_
      refine gj_gt (kx := (k : Int) * gt) (kz := (hp.1 60 (hp.1 73 (M - (r + 1))).toInt.toNat).toInt) rfl (ia_mul2 nK gE (by omega) (by omega)) rfl (fun k2 => ?_) (fun k2 => ?_)
      · refine g_run 2 rfl ?_
        refine ih k _ lc2 wb2 tr2 w2 s2 ((ia_add2 nK (by decide : (-1 : Int32).toInt = -1) (by omega) (by omega)).trans (by omega)) (by omega) htr lE2 hs2 hk2 ?_ (by omega)
        exact Eq.trans (congrArg (dnZ (fun n s => if al (M - (r + 1)) n = true then rfT al fit pr M r (lN - n) (va_up tr (M - (r + 1)) (nI n)) s else s) k) (hst.trans (if_neg (fun q => by have := hal2.mp q; omega)))).symm hR
      · refine g_run 4 rfl ?_
        refine g_iast (j := M - (r + 1)) rfl rfl aE (by omega) ?_
        refine gG_hp (h2 := BM hp (va_up tr2 (M - (r + 1)) (nI k)) w2 lc2 wb2) bm_tr ?_
        refine g_run 8 rfl ?_
        refine g_callV0 rfl LX10_331 rfl rfl rfl rfl ?_
        have hb2 : ∀ i, i < M - r → 0 ≤ (va_up tr2 (M - (r + 1)) (nI k) i).toInt ∧ (va_up tr2 (M - (r + 1)) (nI k) i).toInt ≤ 10 := by
          intro i hi
          simp only [va_up]
          split
          · rw [nK]; omega
          · rw [htr i (by omega)]; exact ht i (by omega)
        refine IH _ _ _ _ _ _ _ s2 (lN - k) (ia_add2 aE (by decide : (1 : Int32).toInt = 1) (by omega) (by omega) |>.trans (by omega)) ((ia_sub2 lE nK (by omega) (by omega)).trans (by omega)) (by omega) hb2 lE2 hs2 hk2 (fun tr3 w3 lc3 wb3 ht3 hl3 hk3 => ?_)
        refine g_run 2 rfl ?_
        refine ih k _ lc3 wb3 tr3 w3 _ ((ia_add2 nK (by decide : (-1 : Int32).toInt = -1) (by omega) (by omega)).trans (by omega)) (by omega) (fun i hi => ?_) hl3 (rfT_inv hnn r _ _ _ (by omega) (by omega) hb2 hs2) hk3 ?_ (by omega)
        · rw [ht3 i (by omega), ← htr i hi]
          simp [va_up, Nat.ne_of_lt hi]
        · exact Eq.trans (congrArg (dnZ (fun n s => if al (M - (r + 1)) n = true then rfT al fit pr M r (lN - n) (va_up tr (M - (r + 1)) (nI n)) s else s) k) (hst.trans (if_pos (hal2.mpr (by omega))))).symm hR
theorem c_X10_tries {gt : Int} {pr : Nat → Int32} {al : Nat → Nat → Bool} {fit : (Nat → Int32) → Bool} {M : Nat} {w0 : Nat → Int32} {wb0 g : Int32} (hO : okSM hp gt pr al fit M) (gE : (g / 10).toInt = gt) : ∀ r : Nat, r ≤ M → tmQ d hp b xs gt al fit pr M w0 wb0 g r := by
  intro r
  induction r with
  | zero =>
    intro hr Q tr w lc wb at_ left s lN aE lE hl ht qE hs hk h1
    refine g_enter okX10_tries (plainFor_of_name rfl) rfl ?_
    refine g_run 3 rfl ?_
    refine gj_ne (kx := (M : Int)) (kz := (M : Int)) rfl aE hO.1 (fun k1 => absurd rfl k1) (fun _ => ?_)
    refine g_run 2 rfl ?_
    refine g_callV0 rfl LX10_328 rfl rfl rfl rfl ?_
    refine c_X10_asks hO lE ht qE hs hk (fun tr' w' lc' wb' a1 a2 a3 => ?_)
    exact g_vret rfl rfl (h1 _ _ _ _ a1 a2 a3)
  | succ r ihr =>
    intro hr Q tr w lc wb at_ left s lN aE lE hl ht qE hs hk h1
    refine g_enter okX10_tries (plainFor_of_name rfl) rfl ?_
    refine g_run 3 rfl ?_
    refine gj_ne (kx := ((M - (r + 1) : Nat) : Int)) (kz := (M : Int)) rfl aE hO.1 (fun _ => ?_) (fun k1 => by exfalso; omega)
    refine g_run 2 rfl ?_
    exact tq_loop hr (ihr (by omega)) hO gE aE lE hl ht h1 (lN + 2) (lN + 1) _ _ _ _ _ _ (by omega) (by omega) (fun _ _ => rfl) qE hs hk (by rw [rfT]) (by omega)
/-- which lots are in the set, and how many, as the reference has it -/
def gmS (bt : Nat → Bool) (z : Nat → Int32) : Nat → Nat × (Nat → Int32)
  | 0 => (0, z)
  | k + 1 => if bt k = true then ((gmS bt z k).1 + 1, if (gmS bt z k).1 < 6 then va_up (gmS bt z k).2 (gmS bt z k).1 (nI k) else (gmS bt z k).2) else gmS bt z k
theorem gmS_le {bt : Nat → Bool} {z : Nat → Int32} : ∀ k : Nat, (gmS bt z k).1 ≤ k
  | 0 => by rw [gmS]; omega
  | k + 1 => by
    have := gmS_le (bt := bt) (z := z) k
    rw [gmS]
    split
    · dsimp only; omega
    · omega
def GM (hp : hp_T) (z : Nat × (Nat → Int32)) : hp_T := sI (sR (sI hp 43 0 0) 73 z.2) 43 57 (nI z.1)
theorem gm_0 {hp : hp_T} : GM hp (0, hp.1 73) = sI (sI hp 43 0 0) 43 57 0 := by
  refine two_ext (fun c i => ?_) rfl
  by_cases h1 : c = 43
  · subst h1
    by_cases hi : i = 57 <;> simp [GM, sI, sR, va_up, hi, nI_0]
  · by_cases h2 : c = 73
    · subst h2; simp [GM, sI, sR, va_up]
    · simp [GM, sI, sR, va_up, h1, h2]
theorem gm_p1 {hp : hp_T} {z : Nat × (Nat → Int32)} : sI (GM hp z) 43 57 (nI z.1 + 1) = GM hp (z.1 + 1, z.2) := by
  rw [nI_1]
  refine two_ext (fun c i => ?_) rfl
  by_cases h1 : c = 43
  · subst h1
    by_cases hi : i = 57 <;> simp [GM, sI, sR, va_up, hi]
  · simp [GM, sI, sR, va_up, h1]
theorem gm_p2 {hp : hp_T} {z : Nat × (Nat → Int32)} {j : Nat} {v : Int32} : sI (GM hp z) 73 j v = GM hp (z.1, va_up z.2 j v) := by
  refine two_ext (fun c i => ?_) rfl
  by_cases h1 : c = 43
  · subst h1; simp [GM, sI, sR, va_up]
  · by_cases h2 : c = 73
    · subst h2; simp [GM, sI, sR, va_up]
    · simp [GM, sI, sR, va_up, h1, h2]
theorem b64_X10 {pr : Nat → Int32} {al : Nat → Nat → Bool} {fit : (Nat → Int32) → Bool} {se g : Int32} {seI gI : Int} (seE : se.toInt = seI) (gE : g.toInt = gI) (hs1 : 0 ≤ (hp.1 43 26).toInt ∧ (hp.1 43 26).toInt ≤ 12) {kp0 : Nat → Int32} (hOk : 1 ≤ seI ∧ seI < (1 <<< ((hp.1 43 26) &&& 31) : Int32).toInt ∧ (gmS (btX se) (hp.1 73) (hp.1 43 26).toInt.toNat).1 ≤ 6 ∧ 10 ≤ gI ∧ gI ≤ 100000 ∧ (g - g / 10 * 10).toInt = 0 → okSM (GM hp (gmS (btX se) (hp.1 73) (hp.1 43 26).toInt.toNat)) (gI / 10) pr al fit (gmS (btX se) (hp.1 73) (hp.1 43 26).toInt.toNat).1) (h1 : 1 ≤ seI ∧ seI < (1 <<< ((hp.1 43 26) &&& 31) : Int32).toInt ∧ (gmS (btX se) (hp.1 73) (hp.1 43 26).toInt.toNat).1 ≤ 6 ∧ 10 ≤ gI ∧ gI ≤ 100000 ∧ (g - g / 10 * 10).toInt = 0 → ∀ (tr w : Nat → Int32) (lc wb : Int32), lc.toInt = (rfT al fit pr (gmS (btX se) (hp.1 73) (hp.1 43 26).toInt.toNat).1 (gmS (btX se) (hp.1 73) (hp.1 43 26).toInt.toNat).1 10 (hp.1 74) (-1, kp0)).1 → isB (GM hp (gmS (btX se) (hp.1 73) (hp.1 43 26).toInt.toNat)) (gmS (btX se) (hp.1 73) (hp.1 43 26).toInt.toNat).1 (hp.1 75) (hp.1 43 56) (rfT al fit pr (gmS (btX se) (hp.1 73) (hp.1 43 26).toInt.toNat).1 (gmS (btX se) (hp.1 73) (hp.1 43 26).toInt.toNat).1 10 (hp.1 74) (-1, kp0)) w wb → Q (some (.int lc)) (SH b xs) (BM (GM hp (gmS (btX se) (hp.1 73) (hp.1 43 26).toInt.toNat)) tr w lc wb)) (h0 : seI < 1 ∨ (1 <<< ((hp.1 43 26) &&& 31) : Int32).toInt ≤ seI ∨ 6 < (gmS (btX se) (hp.1 73) (hp.1 43 26).toInt.toNat).1 ∨ gI < 10 ∨ 100000 < gI ∨ (g - g / 10 * 10).toInt ≠ 0 → Q (some (.int (-1))) (SH b xs) (GM hp (gmS (btX se) (hp.1 73) (hp.1 43 26).toInt.toNat))) : ∀ i : Int32, gG mX10_best (d + 10) 0 0 (zQ 0 0 Q) 0 0 (64, [.ref 43, .int se, .int g, .int i], [], (SH b xs), (GM hp (gmS (btX se) (hp.1 73) (hp.1 43 26).toInt.toNat))) := by
  intro i
  have hz12 := gmS_le (bt := btX se) (z := hp.1 73) (hp.1 43 26).toInt.toNat
  refine g_run 2 rfl ?_
  refine gj_lt (kx := seI) (kz := 1) rfl seE (by decide) (fun k1 => ?_) (fun k1 => ?_)
  · refine g_run 1 rfl ?_
    exact g_iret rfl rfl (h0 (by omega))
  · refine g_run 5 rfl ?_
    refine gj_ge (kx := seI) (kz := (1 <<< ((hp.1 43 26) &&& 31)).toInt) rfl seE rfl (fun k2 => ?_) (fun k2 => ?_)
    · refine g_run 1 rfl ?_
      exact g_iret rfl rfl (h0 (by omega))
    · refine g_run 3 rfl ?_
      refine gj_gt (kx := (((gmS (btX se) (hp.1 73) (hp.1 43 26).toInt.toNat).1 : Nat) : Int)) (kz := 6) rfl (nI_toInt (by omega)) (by decide) (fun k3 => ?_) (fun k3 => ?_)
      · refine g_run 1 rfl ?_
        exact g_iret rfl rfl (h0 (by omega))
      · refine g_run 2 rfl ?_
        refine gj_lt (kx := gI) (kz := 10) rfl gE (by decide) (fun k4 => ?_) (fun k4 => ?_)
        · refine g_run 1 rfl ?_
          exact g_iret rfl rfl (h0 (by omega))
        · refine g_run 2 rfl ?_
          refine gj_gt (kx := gI) (kz := 100000) rfl gE (by decide) (fun k5 => ?_) (fun k5 => ?_)
          · refine g_run 1 rfl ?_
            exact g_iret rfl rfl (h0 (by omega))
          · refine g_run 2 rfl ?_
            refine g_irem rfl (by first | decide | (intro q; rw [ia_eq] at q; simp at q; omega)) ?_
            refine gz_eq (kx := (g - g / 10 * 10).toInt) rfl rfl (fun k6 => ?_) (fun k6 => ?_)
            · refine g_run 3 rfl ?_
              refine gG_hp bm_id.symm ?_
              refine g_run 4 rfl ?_
              refine g_callV0 rfl LX10_331 rfl rfl rfl rfl ?_
              have hO := hOk (by omega)
              have hd10 := div10 gE (by omega)
              refine gC_d (show d + 9 = d + 1 + (6 - (gmS (btX se) (hp.1 73) (hp.1 43 26).toInt.toNat).1) + 2 + (gmS (btX se) (hp.1 73) (hp.1 43 26).toInt.toNat).1 by omega) ?_
              refine c_X10_tries hO hd10 _ (Nat.le_refl _) _ _ _ _ _ _ _ (-1, kp0) 10 (by rw [Nat.sub_self]; decide) (by decide) (by omega) (fun i hi => by omega) (show ((-1 : Int32)).toInt = -1 from by decide) (Or.inl rfl) ⟨fun _ => ⟨rfl, rfl⟩, fun q => absurd rfl q⟩ (fun tr w lc wb _ q2 q3 => ?_)
              refine g_run 2 rfl ?_
              exact g_iret rfl rfl (h1 (by omega) tr w lc wb q2 q3)
            · refine g_run 1 rfl ?_
              exact g_iret rfl rfl (h0 (by omega))
theorem lp_X10_best  {se g : Int32} (hs1 : 0 ≤ (hp.1 43 26).toInt ∧ (hp.1 43 26).toInt ≤ 12) (kk : ∀ i : Int32, gG mX10_best (d + 10) 0 0 (zQ 0 0 Q) 0 0 (64, [.ref 43, .int se, .int g, .int i], [], (SH b xs), (GM hp (gmS (btX se) (hp.1 73) (hp.1 43 26).toInt.toNat)))) : ∀ (f k : Nat) (i : Int32), i.toInt = (k : Int) → (k : Int) ≤ (hp.1 43 26).toInt → (hp.1 43 26).toInt.toNat - k < f → gG mX10_best (d + 10) 0 0 (zQ 0 0 Q) 0 0 (12, [.ref 43, .int se, .int g, .int i], [], (SH b xs), (GM hp (gmS (btX se) (hp.1 73) k))) := by
  intro f
  induction f with
  | zero => intros; omega
  | succ f ih =>
    intro k i iE hk hf
    obtain rfl : i = nI k := eq_nI iE (by omega)
    have hz12 := gmS_le (bt := btX se) (z := hp.1 73) k
    refine g_run 3 rfl ?_
    refine gj_ge (kx := (k : Int)) (kz := (hp.1 43 26).toInt) rfl iE rfl (fun k1 => ?_) (fun k1 => ?_)
    · have e9 : k = (hp.1 43 26).toInt.toNat := by omega
      rw [← e9] at kk
      exact kk _
    · refine g_run 6 rfl ?_
      refine gj_ne (kx := ((se >>> ((nI k) &&& 31)) &&& 1).toInt) (kz := 1) rfl rfl (by decide) (fun k2 => ?_) (fun k2 => ?_)
      · refine g_run 2 rfl ?_
        first | (refine gG_hp (h2 := GM hp (gmS (btX se) (hp.1 73) (k + 1))) (by rw [gmS, if_neg (by simp only [btX, decide_eq_true_eq]; omega)]) ?_; exact ih (k + 1) _ (inc1 iE (by omega)) (by omega) (by omega)) | (refine gG_hp (h2 := GM hp (gmS (btX se) (hp.1 73) (k + 1))) (by rw [gmS, if_pos (by simp only [btX, decide_eq_true_eq]; assumption), if_pos (by omega)]; exact (congrArg (fun z => sI z 43 57 (nI (gmS (btX se) (hp.1 73) k).1 + 1)) gm_p2).trans gm_p1) ?_; exact ih (k + 1) _ (inc1 iE (by omega)) (by omega) (by omega)) | (refine gG_hp (h2 := GM hp (gmS (btX se) (hp.1 73) (k + 1))) (by rw [gmS, if_pos (by simp only [btX, decide_eq_true_eq]; assumption), if_neg (by omega)]; exact gm_p1) ?_; exact ih (k + 1) _ (inc1 iE (by omega)) (by omega) (by omega))
      · refine g_run 3 rfl ?_
        refine gj_ge (kx := (((gmS (btX se) (hp.1 73) k).1 : Nat) : Int)) (kz := 6) rfl (nI_toInt (by omega)) (by decide) (fun k3 => ?_) (fun k3 => ?_)
        · refine g_run 8 rfl ?_
          first | (refine gG_hp (h2 := GM hp (gmS (btX se) (hp.1 73) (k + 1))) (by rw [gmS, if_neg (by simp only [btX, decide_eq_true_eq]; omega)]) ?_; exact ih (k + 1) _ (inc1 iE (by omega)) (by omega) (by omega)) | (refine gG_hp (h2 := GM hp (gmS (btX se) (hp.1 73) (k + 1))) (by rw [gmS, if_pos (by simp only [btX, decide_eq_true_eq]; assumption), if_pos (by omega)]; exact (congrArg (fun z => sI z 43 57 (nI (gmS (btX se) (hp.1 73) k).1 + 1)) gm_p2).trans gm_p1) ?_; exact ih (k + 1) _ (inc1 iE (by omega)) (by omega) (by omega)) | (refine gG_hp (h2 := GM hp (gmS (btX se) (hp.1 73) (k + 1))) (by rw [gmS, if_pos (by simp only [btX, decide_eq_true_eq]; assumption), if_neg (by omega)]; exact gm_p1) ?_; exact ih (k + 1) _ (inc1 iE (by omega)) (by omega) (by omega))
        · refine g_run 5 rfl ?_
          refine g_iast (j := (((gmS (btX se) (hp.1 73) k).1 : Nat) : Int).toNat) rfl rfl ((show _ = (((gmS (btX se) (hp.1 73) k).1 : Nat) : Int) from (nI_toInt (by omega))).trans (by omega)) (by omega) ?_
          refine g_run 8 rfl ?_
          first | (refine gG_hp (h2 := GM hp (gmS (btX se) (hp.1 73) (k + 1))) (by rw [gmS, if_neg (by simp only [btX, decide_eq_true_eq]; omega)]) ?_; exact ih (k + 1) _ (inc1 iE (by omega)) (by omega) (by omega)) | (refine gG_hp (h2 := GM hp (gmS (btX se) (hp.1 73) (k + 1))) (by rw [gmS, if_pos (by simp only [btX, decide_eq_true_eq]; assumption), if_pos (by omega)]; exact (congrArg (fun z => sI z 43 57 (nI (gmS (btX se) (hp.1 73) k).1 + 1)) gm_p2).trans gm_p1) ?_; exact ih (k + 1) _ (inc1 iE (by omega)) (by omega) (by omega)) | (refine gG_hp (h2 := GM hp (gmS (btX se) (hp.1 73) (k + 1))) (by rw [gmS, if_pos (by simp only [btX, decide_eq_true_eq]; assumption), if_neg (by omega)]; exact gm_p1) ?_; exact ih (k + 1) _ (inc1 iE (by omega)) (by omega) (by omega))
theorem c_X10_best {pr : Nat → Int32} {al : Nat → Nat → Bool} {fit : (Nat → Int32) → Bool} {se g : Int32} {seI gI : Int} (seE : se.toInt = seI) (gE : g.toInt = gI) (hs1 : 0 ≤ (hp.1 43 26).toInt ∧ (hp.1 43 26).toInt ≤ 12) {kp0 : Nat → Int32} (hOk : 1 ≤ seI ∧ seI < (1 <<< ((hp.1 43 26) &&& 31) : Int32).toInt ∧ (gmS (btX se) (hp.1 73) (hp.1 43 26).toInt.toNat).1 ≤ 6 ∧ 10 ≤ gI ∧ gI ≤ 100000 ∧ (g - g / 10 * 10).toInt = 0 → okSM (GM hp (gmS (btX se) (hp.1 73) (hp.1 43 26).toInt.toNat)) (gI / 10) pr al fit (gmS (btX se) (hp.1 73) (hp.1 43 26).toInt.toNat).1) (h1 : 1 ≤ seI ∧ seI < (1 <<< ((hp.1 43 26) &&& 31) : Int32).toInt ∧ (gmS (btX se) (hp.1 73) (hp.1 43 26).toInt.toNat).1 ≤ 6 ∧ 10 ≤ gI ∧ gI ≤ 100000 ∧ (g - g / 10 * 10).toInt = 0 → ∀ (tr w : Nat → Int32) (lc wb : Int32), lc.toInt = (rfT al fit pr (gmS (btX se) (hp.1 73) (hp.1 43 26).toInt.toNat).1 (gmS (btX se) (hp.1 73) (hp.1 43 26).toInt.toNat).1 10 (hp.1 74) (-1, kp0)).1 → isB (GM hp (gmS (btX se) (hp.1 73) (hp.1 43 26).toInt.toNat)) (gmS (btX se) (hp.1 73) (hp.1 43 26).toInt.toNat).1 (hp.1 75) (hp.1 43 56) (rfT al fit pr (gmS (btX se) (hp.1 73) (hp.1 43 26).toInt.toNat).1 (gmS (btX se) (hp.1 73) (hp.1 43 26).toInt.toNat).1 10 (hp.1 74) (-1, kp0)) w wb → Q (some (.int lc)) (SH b xs) (BM (GM hp (gmS (btX se) (hp.1 73) (hp.1 43 26).toInt.toNat)) tr w lc wb)) (h0 : seI < 1 ∨ (1 <<< ((hp.1 43 26) &&& 31) : Int32).toInt ≤ seI ∨ 6 < (gmS (btX se) (hp.1 73) (hp.1 43 26).toInt.toNat).1 ∨ gI < 10 ∨ 100000 < gI ∨ (g - g / 10 * 10).toInt ≠ 0 → Q (some (.int (-1))) (SH b xs) (GM hp (gmS (btX se) (hp.1 73) (hp.1 43 26).toInt.toNat))) : gC mX10_best (d + 10) 0 0 [.ref 43, .int se, .int g] (SH b xs) hp Q := by
  refine g_enter okX10_best (plainFor_of_name rfl) rfl ?_
  refine g_run 8 rfl ?_
  refine gG_hp gm_0.symm ?_
  exact lp_X10_best hs1 (b64_X10 seE gE hs1 hOk h1 h0) 13 0 0 (by decide) (by omega) (by omega)
end S36
