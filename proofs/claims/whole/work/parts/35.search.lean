/-! the best blend in the class: the search -/
abbrev bs_T : Type := Int × (Nat → Int32)
def sC (tr pr : Nat → Int32) : Nat → Int
  | 0 => 0
  | n + 1 => sC tr pr n + (tr n).toInt * (pr n).toInt
def dnZ (st : Nat → bs_T → bs_T) : Nat → bs_T → bs_T
  | 0, s => s
  | c + 1, s => dnZ st c (st c s)
def cutM (M : Nat) (tr : Nat → Int32) : Nat → Int32 := fun i => if i < M then tr i else 0
/-- the search: of what is left, the most tenths of the next member first; at the end, is it better -/
def rfT (al : Nat → Nat → Bool) (fit : (Nat → Int32) → Bool) (pr : Nat → Int32) (M : Nat) : Nat → Nat → (Nat → Int32) → bs_T → bs_T
  | 0, left, tr, s => if left = 0 ∧ ¬ (0 ≤ s.1 ∧ s.1 ≤ sC tr pr M) ∧ fit (cutM M tr) = true then (sC tr pr M, cutM M tr) else s
  | r + 1, left, tr, s => dnZ (fun n s => if al (M - (r + 1)) n = true then rfT al fit pr M r (left - n) (va_up tr (M - (r + 1)) (nI n)) s else s) (left + 1) s
theorem sC_cg {t1 t2 pr : Nat → Int32} : ∀ n : Nat, (∀ i, i < n → t1 i = t2 i) → sC t1 pr n = sC t2 pr n
  | 0, _ => rfl
  | n + 1, h => by rw [sC, sC, sC_cg n (fun i hi => h i (by omega)), h n (by omega)]
theorem sC_s {tr pr : Nat → Int32} {k : Nat} {v : Int32} : sC (va_up tr k v) pr (k + 1) = sC tr pr k + v.toInt * (pr k).toInt := by
  rw [sC, sC_cg (t2 := tr) k (fun i hi => by simp [va_up, Nat.ne_of_lt hi])]
  simp [va_up]
theorem cutM_cg {M : Nat} {t1 t2 : Nat → Int32} (h : ∀ i, i < M → t1 i = t2 i) : cutM M t1 = cutM M t2 := by
  funext i
  simp only [cutM]
  split
  · next hi => exact h i hi
  · rfl
theorem dnZ_id {st : Nat → bs_T → bs_T} {s : bs_T} : ∀ c : Nat, (∀ n, n < c → st n s = s) → dnZ st c s = s
  | 0, _ => rfl
  | c + 1, h => by rw [dnZ, h c (by omega)]; exact dnZ_id c (fun n hn => h n (by omega))
theorem dnZ_skip {st : Nat → bs_T → bs_T} {m : Nat} {s : bs_T} : ∀ c : Nat, m ≤ c → (∀ n, m ≤ n → n < c → st n s = s) → dnZ st c s = dnZ st m s
  | 0, h, _ => by obtain rfl : m = 0 := by omega
                  rfl
  | c + 1, h, h2 => by
    by_cases e : m = c + 1
    · rw [e]
    · rw [dnZ, h2 c (by omega) (by omega)]
      exact dnZ_skip c (by omega) (fun n a b => h2 n a (by omega))
theorem dnZ_inv {st : Nat → bs_T → bs_T} {P : bs_T → Prop} : ∀ (c : Nat) (s : bs_T), (∀ n s, n < c → P s → P (st n s)) → P s → P (dnZ st c s)
  | 0, _, _, h => h
  | c + 1, s, h2, h => by
    rw [dnZ]
    exact dnZ_inv c _ (fun n s hn => h2 n s (by omega)) (h2 c s (by omega) h)
section RF
variable {al : Nat → Nat → Bool} {fit : (Nat → Int32) → Bool} {pr : Nat → Int32} {M : Nat}
theorem rfT_cg : ∀ (r left : Nat) (t1 t2 : Nat → Int32) (s : bs_T), r ≤ M → (∀ i, i < M - r → t1 i = t2 i) → rfT al fit pr M r left t1 s = rfT al fit pr M r left t2 s
  | 0, left, t1, t2, s, _, h => by rw [rfT, rfT, sC_cg (t2 := t2) M h, cutM_cg (M := M) (t2 := t2) h]
  | r + 1, left, t1, t2, s, hr, h => by
    rw [rfT, rfT]
    congr 1
    funext n s
    split
    · exact rfT_cg r _ _ _ _ (by omega) (fun i hi => by
        simp only [va_up]
        split
        · rfl
        · exact h i (by omega))
    · rfl
theorem rfT_A (hpr : ∀ i, i < M → 0 ≤ (pr i).toInt) : ∀ (r left : Nat) (tr : Nat → Int32) (s : bs_T), r ≤ M → left ≤ 10 → 0 ≤ s.1 → s.1 ≤ sC tr pr (M - r) → rfT al fit pr M r left tr s = s
  | 0, left, tr, s, _, _, h0, h1 => by rw [rfT, if_neg (fun q => q.2.1 ⟨h0, h1⟩)]
  | r + 1, left, tr, s, hr, hl, h0, h1 => by
    rw [rfT]
    refine dnZ_id _ (fun n hn => ?_)
    split
    · refine rfT_A hpr r _ _ _ (by omega) (by omega) h0 ?_
      rw [show M - r = (M - (r + 1)) + 1 by omega, sC_s, nI_toInt (by omega)]
      have := Int.mul_nonneg (Int.natCast_nonneg n) (hpr (M - (r + 1)) (by omega))
      omega
    · rfl
theorem rfT_B {left n : Nat} {tr : Nat → Int32} {s : bs_T} (h : n < left) : rfT al fit pr M 0 (left - n) tr s = s := by
  rw [rfT, if_neg (by omega)]
theorem sC_bd (hpr : ∀ i, i < M → 0 ≤ (pr i).toInt ∧ (pr i).toInt ≤ 10000) {tr : Nat → Int32} : ∀ n : Nat, n ≤ M → (∀ i, i < n → 0 ≤ (tr i).toInt ∧ (tr i).toInt ≤ 10) → 0 ≤ sC tr pr n ∧ sC tr pr n ≤ 100000 * (n : Int)
  | 0, _, _ => by rw [sC]; omega
  | n + 1, hn, h => by
    have h1 := sC_bd hpr n (by omega) (fun i hi => h i (by omega))
    have h2 := h n (by omega)
    have h3 := hpr n (by omega)
    have h4 := Int.mul_nonneg h2.1 h3.1
    have h5 : (tr n).toInt * (pr n).toInt ≤ 10 * 10000 := Int.mul_le_mul h2.2 h3.2 h3.1 (by omega)
    rw [sC]
    omega
theorem rfT_inv (hpr : ∀ i, i < M → 0 ≤ (pr i).toInt ∧ (pr i).toInt ≤ 10000) : ∀ (r left : Nat) (tr : Nat → Int32) (s : bs_T), r ≤ M → left ≤ 10 → (∀ i, i < M - r → 0 ≤ (tr i).toInt ∧ (tr i).toInt ≤ 10) → (s.1 = -1 ∨ 0 ≤ s.1) → ((rfT al fit pr M r left tr s).1 = -1 ∨ 0 ≤ (rfT al fit pr M r left tr s).1)
  | 0, left, tr, s, _, _, ht, h => by
    rw [rfT]
    split
    · exact Or.inr (sC_bd hpr M (by omega) ht).1
    · exact h
  | r + 1, left, tr, s, hr, hl, ht, h => by
    rw [rfT]
    refine dnZ_inv (P := fun s => s.1 = -1 ∨ 0 ≤ s.1) _ _ (fun n s hn hs => ?_) h
    split
    · refine rfT_inv hpr r _ _ _ (by omega) (by omega) (fun i hi => ?_) hs
      simp only [va_up]
      split
      · rw [nI_toInt (by omega)]; omega
      · exact ht i (by omega)
    · exact hs
end RF
def BX (hp : hp_T) (tr kp : Nat → Int32) (lc : Int32) : hp_T := sI (sR (sR hp 34 tr) 35 kp) 28 9 lc
theorem bx_lc {hp : hp_T} {tr kp : Nat → Int32} {lc c : Int32} : sI (BX hp tr kp lc) 28 9 c = BX hp tr kp c := by
  refine two_ext (fun k i => ?_) rfl
  by_cases h1 : k = 28
  · subst h1; by_cases hi : i = 9 <;> simp [BX, sI, sR, va_up, hi]
  · simp [BX, sI, sR, va_up, h1]
theorem bx_kp {hp : hp_T} {tr kp k2 : Nat → Int32} {lc : Int32} : sR (BX hp tr kp lc) 35 k2 = BX hp tr k2 lc := by
  refine two_ext (fun k i => ?_) rfl
  by_cases h1 : k = 28
  · subst h1; simp [BX, sI, sR, va_up]
  · by_cases h2 : k = 35 <;> simp [BX, sI, sR, va_up, h1, h2]
theorem bx_tr {hp : hp_T} {tr kp : Nat → Int32} {lc v : Int32} {j : Nat} : sI (BX hp tr kp lc) 34 j v = BX hp (va_up tr j v) kp lc := by
  refine two_ext (fun k i => ?_) rfl
  by_cases h1 : k = 28
  · subst h1; simp [BX, sI, sR, va_up]
  · by_cases h2 : k = 34
    · subst h2; simp [BX, sI, sR, va_up]
    · simp [BX, sI, sR, va_up, h1, h2]
theorem bx_id {hp : hp_T} {c : Int32} : BX hp (hp.1 34) (hp.1 35) c = sI hp 28 9 c := by
  refine two_ext (fun k i => ?_) rfl
  by_cases h1 : k = 28
  · subst h1; by_cases hi : i = 9 <;> simp [BX, sI, sR, va_up, hi]
  · by_cases h2 : k = 34
    · subst h2; simp [BX, sI, sR, va_up]
    · by_cases h3 : k = 35
      · subst h3; simp [BX, sI, sR, va_up]
      · simp [BX, sI, sR, va_up, h1, h2, h3]
def fitP (fr to : Nat → Int32) (ta : Nat → Nat → Int32) (M : Nat) (tr : Nat → Int32) : Bool := decide (∀ t : Nat, t < 3 → 10 * (fr t).toInt ≤ (sumI (fun i => tr i * ta i t) M).toInt ∧ (sumI (fun i => tr i * ta i t) M).toInt ≤ 10 * (to t).toInt)
theorem sumI_cg {f g : Nat → Int32} : ∀ n : Nat, (∀ i, i < n → f i = g i) → sumI f n = sumI g n
  | 0, _ => rfl
  | n + 1, h => by rw [sumI, sumI, sumI_cg n (fun i hi => h i (by omega)), h n (by omega)]
theorem fitP_cut {fr to : Nat → Int32} {ta : Nat → Nat → Int32} {M : Nat} {tr : Nat → Int32} : fitP fr to ta M (cutM M tr) = fitP fr to ta M tr := by
  simp only [fitP]
  congr 1
  have : ∀ t : Nat, sumI (fun i => cutM M tr i * ta i t) M = sumI (fun i => tr i * ta i t) M := fun t => sumI_cg M (fun i hi => by simp [cutM, hi])
  simp only [this]
/-- what the search needs to know of the world -/
def okS (hp : hp_T) (pr : Nat → Int32) (al : Nat → Nat → Bool) (fit : (Nat → Int32) → Bool) (M : Nat) : Prop :=
  (hp.1 28 4).toInt = (M : Int) ∧ M ≤ 6 ∧ (∀ i, i < M → 0 ≤ (hp.1 32 i).toInt ∧ (hp.1 32 i).toInt < 12) ∧ (∀ i, i < 3 → 0 ≤ (hp.1 30 i).toInt ∧ (hp.1 30 i).toInt ≤ 100 ∧ 0 ≤ (hp.1 31 i).toInt ∧ (hp.1 31 i).toInt ≤ 100) ∧ (∀ i, i < M → 0 ≤ (pr i).toInt ∧ (pr i).toInt ≤ 10000 ∧ pr i = hp.1 3 (hp.1 32 i).toInt.toNat) ∧ (∀ i n : Nat, i < M → n ≤ 10 → (al i n = true ↔ (n : Int) ≤ (hp.1 33 i).toInt)) ∧ (∀ i, i < M → 0 ≤ (hp.1 33 i).toInt) ∧ ∀ tr : Nat → Int32, fit tr = fitP (hp.1 30) (hp.1 31) (fun i t => hp.1 4 (((hp.1 32 i).toInt * 3) + (t : Int)).toNat) M tr
section S35
variable {d : Nat} {sh : sh_T} {hp : hp_T} {b : Bool} {xs : sh_T} {al : Nat → Nat → Bool} {fit : (Nat → Int32) → Bool} {pr : Nat → Int32} {M : Nat}
def tmP (d : Nat) (hp : hp_T) (b : Bool) (xs : sh_T) (al : Nat → Nat → Bool) (fit : (Nat → Int32) → Bool) (pr : Nat → Int32) (M r : Nat) : Prop :=
  ∀ (Q : Option Value → sh_T → hp_T → Prop) (tr kp : Nat → Int32) (lc at_ left cost : Int32) (s : bs_T) (lN : Nat), at_.toInt = ((M - r : Nat) : Int) → left.toInt = (lN : Int) → lN ≤ 10 → cost.toInt = sC tr pr (M - r) → (∀ i, i < M - r → 0 ≤ (tr i).toInt ∧ (tr i).toInt ≤ 10) → lc.toInt = s.1 → (s.1 = -1 ∨ 0 ≤ s.1) → (∀ i, i < M → kp i = s.2 i) →
    (∀ (tr' kp' : Nat → Int32) (lc' : Int32), (∀ i, i < M - r → tr' i = tr i) → lc'.toInt = (rfT al fit pr M r lN tr s).1 → (∀ i, i < M → kp' i = (rfT al fit pr M r lN tr s).2 i) → Q none (SH b xs) (BX hp tr' kp' lc')) →
    gC mX1_tryMember (d + 2 + r) 0 0 [.ref 28, .ref 1, .int at_, .int left, .int cost] (SH b xs) (BX hp tr kp lc) Q
theorem tm_leaf
    (hO : okS hp pr al fit M) {Q : Option Value → sh_T → hp_T → Prop} {tr kp : Nat → Int32} {lc at_ left cost : Int32} {s : bs_T} {lN : Nat} (aE : at_.toInt = (M : Int)) (lE : left.toInt = (lN : Int)) (hl : lN ≤ 10) (cE : cost.toInt = sC tr pr M) (ht : ∀ i, i < M → 0 ≤ (tr i).toInt ∧ (tr i).toInt ≤ 10) (qE : lc.toInt = s.1) (hs : s.1 = -1 ∨ 0 ≤ s.1) (hk : ∀ i, i < M → kp i = s.2 i)
    (h1 : ∀ (tr' kp' : Nat → Int32) (lc' : Int32), (∀ i, i < M → tr' i = tr i) → lc'.toInt = (rfT al fit pr M 0 lN tr s).1 → (∀ i, i < M → kp' i = (rfT al fit pr M 0 lN tr s).2 i) → Q none (SH b xs) (BX hp tr' kp' lc'))
    (hc : ¬ (0 ≤ s.1 ∧ s.1 ≤ sC tr pr M)) : gG mX1_tryMember (d + 2) 0 0 (zQ 0 0 Q) 0 0 (18, [.ref 28, .ref 1, .int at_, .int left, .int cost, .retAddr 0, .retAddr 0], [], (SH b xs), (BX hp tr kp lc)) := by
  obtain ⟨hM, hM6, hmb, hsp, hpr, hal, hmo, hfit⟩ := hO
  have hR0 : (lN ≠ 0 ∨ (∃ t : Nat, t < 3 ∧ ¬ (10 * ((BX hp tr kp lc).1 30 t).toInt ≤ (sumI (fun i => (BX hp tr kp lc).1 34 i * (BX hp tr kp lc).1 4 ((((BX hp tr kp lc).1 32 i).toInt * 3) + (t : Int)).toNat) M).toInt ∧ (sumI (fun i => (BX hp tr kp lc).1 34 i * (BX hp tr kp lc).1 4 ((((BX hp tr kp lc).1 32 i).toInt * 3) + (t : Int)).toNat) M).toInt ≤ 10 * ((BX hp tr kp lc).1 31 t).toInt))) → rfT al fit pr M 0 lN tr s = s := by
    intro q
    rw [rfT, if_neg]
    rintro ⟨q1, -, q3⟩
    rcases q with q | ⟨t, q, q2⟩
    · exact q q1
    · rw [hfit, fitP_cut, fitP, decide_eq_true_eq] at q3
      exact q2 (q3 t q)
  have hR1 : lN = 0 → (∀ t : Nat, t < 3 → (10 * ((BX hp tr kp lc).1 30 t).toInt ≤ (sumI (fun i => (BX hp tr kp lc).1 34 i * (BX hp tr kp lc).1 4 ((((BX hp tr kp lc).1 32 i).toInt * 3) + (t : Int)).toNat) M).toInt ∧ (sumI (fun i => (BX hp tr kp lc).1 34 i * (BX hp tr kp lc).1 4 ((((BX hp tr kp lc).1 32 i).toInt * 3) + (t : Int)).toNat) M).toInt ≤ 10 * ((BX hp tr kp lc).1 31 t).toInt)) → rfT al fit pr M 0 lN tr s = (sC tr pr M, cutM M tr) := by
    intro q1 q2
    rw [rfT, if_pos]
    refine ⟨q1, hc, ?_⟩
    rw [hfit, fitP_cut, fitP, decide_eq_true_eq]
    exact q2
  refine g_run 3 rfl ?_
  refine gj_lt (kx := (M : Int)) (kz := (M : Int)) rfl aE hM (fun k1 => ?_) (fun k1 => ?_)
  · exfalso; omega
  · refine g_run 1 rfl ?_
    refine gz_ne (kx := (lN : Int)) rfl lE (fun k2 => ?_) (fun k2 => ?_)
    · exact g_vret rfl rfl (h1 _ _ _ (fun _ _ => rfl) (by rw [hR0 (by first | exact Or.inl (by omega) | exact Or.inr (by assumption))]; exact qE) (fun i hi => by rw [hR0 (by first | exact Or.inl (by omega) | exact Or.inr (by assumption))]; exact hk i hi))
    · refine g_run 2 rfl ?_
      refine g_callV0 rfl LX1_86 rfl rfl rfl rfl ?_
      refine c_X1_tastesFit (hp := BX hp tr kp lc) (M := M) hM hM6 hmb hsp (fun kf => ?_) (fun kf => ?_)
      · refine gz_eq (kx := 1) rfl (show (1 : Int32).toInt = 1 from by decide) (fun q => absurd q (by decide)) (fun _ => ?_)
        have hz0 : lN = 0 := by omega
        refine g_run 5 rfl ?_
        refine g_run 5 rfl ?_
        refine g_acopy (N := 6) rfl kcopyL rfl rfl (by decide) (by omega) (by omega) ?_
        refine gG_hp (h2 := BX hp tr (va_cpy tr kp 0 0 6) cost) (by rw [bx_lc]; exact bx_kp) ?_
        exact g_vret rfl rfl (h1 _ _ _ (fun _ _ => rfl) (by rw [hR1 (by assumption) (by assumption)]; exact cE) (fun i hi => by rw [hR1 (by assumption) (by assumption)]; simp [va_cpy, cutM, hi, show i < 6 by omega, sI, BX, sR, va_up]))
      · refine gz_eq (kx := 0) rfl (show (0 : Int32).toInt = 0 from by decide) (fun _ => ?_) (fun q => absurd q (by decide))
        exact g_vret rfl rfl (h1 _ _ _ (fun _ _ => rfl) (by rw [hR0 (by first | exact Or.inl (by omega) | exact Or.inr (by assumption))]; exact qE) (fun i hi => by rw [hR0 (by first | exact Or.inl (by omega) | exact Or.inr (by assumption))]; exact hk i hi))
theorem tm_loop {r : Nat} (hr : r + 1 ≤ M) (IH : tmP d hp b xs al fit pr M r)
    (hO : okS hp pr al fit M) {Q : Option Value → sh_T → hp_T → Prop} {tr kp : Nat → Int32} {lc at_ left cost : Int32} {s : bs_T} {lN : Nat} (aE : at_.toInt = ((M - (r + 1) : Nat) : Int)) (lE : left.toInt = (lN : Int)) (hl : lN ≤ 10) (cE : cost.toInt = sC tr pr (M - (r + 1))) (ht : ∀ i, i < M - (r + 1) → 0 ≤ (tr i).toInt ∧ (tr i).toInt ≤ 10) (qE : lc.toInt = s.1) (hs : s.1 = -1 ∨ 0 ≤ s.1) (hk : ∀ i, i < M → kp i = s.2 i)
    (h1 : ∀ (tr' kp' : Nat → Int32) (lc' : Int32), (∀ i, i < M - (r + 1) → tr' i = tr i) → lc'.toInt = (rfT al fit pr M (r + 1) lN tr s).1 → (∀ i, i < M → kp' i = (rfT al fit pr M (r + 1) lN tr s).2 i) → Q none (SH b xs) (BX hp tr' kp' lc'))
    {le : Int32} {eI : Int} (eE : le.toInt = eI) (he : eI = 0 ∨ (eI = (lN : Int) ∧ r = 0)) : ∀ (f c : Nat) (n lc2 : Int32) (tr2 kp2 : Nat → Int32) (s2 : bs_T), n.toInt = (c : Int) - 1 → c ≤ lN + 1 → (c : Int) - 1 ≤ (hp.1 33 (M - (r + 1))).toInt → (∀ i, i < M - (r + 1) → tr2 i = tr i) → lc2.toInt = s2.1 → (s2.1 = -1 ∨ 0 ≤ s2.1) → (∀ i, i < M → kp2 i = s2.2 i) → dnZ (fun n s => if al (M - (r + 1)) n = true then rfT al fit pr M r (lN - n) (va_up tr (M - (r + 1)) (nI n)) s else s) c s2 = rfT al fit pr M (r + 1) lN tr s → c < f → gG mX1_tryMember (d + 2 + (r + 1)) 0 0 (zQ 0 0 Q) 0 0 (89, [.ref 28, .ref 1, .int at_, .int left, .int cost, .int le, .int n], [], (SH b xs), (BX hp tr2 kp2 lc2)) := by
  obtain ⟨hM, hM6, hmb, hsp, hpr, hal, hmo, hfit⟩ := hO
  intro f
  induction f with
  | zero => intros; omega
  | succ f ih =>
    intro c n lc2 tr2 kp2 s2 nE hcl hcm htr lE2 hs2 hk2 hR hf
    have hnn : ∀ i, i < M → 0 ≤ (pr i).toInt ∧ (pr i).toInt ≤ 10000 := fun i hi => ⟨(hpr i hi).1, (hpr i hi).2.1⟩
    have hmk := hmb (M - (r + 1)) (by omega)
    have hpk := hpr (M - (r + 1)) (by omega)
    have hcb := sC_bd hnn (M - (r + 1)) (by omega) ht
    refine g_run 2 rfl ?_
    refine gj_lt (kx := ((c : Int) - 1)) (kz := eI) rfl nE eE (fun k1 => ?_) (fun k1 => ?_)
    · have e3 : rfT al fit pr M (r + 1) lN tr s = s2 := by
        rw [← hR]
        rcases he with he | ⟨he, hr0⟩
        · obtain rfl : c = 0 := by omega
          rfl
        · subst hr0
          refine dnZ_id _ (fun k hk9 => ?_)
          show (if al (M - (0 + 1)) k = true then _ else _) = _
          split
          · exact rfT_B (by omega)
          · rfl
      exact g_vret rfl rfl (h1 _ _ _ htr (by rw [e3]; exact lE2) (fun i hi => by rw [e3]; exact hk2 i hi))
    · obtain ⟨k, rfl⟩ : ∃ k, c = k + 1 := ⟨c - 1, by omega⟩
      have nK : n.toInt = (k : Int) := by omega
      obtain rfl : n = nI k := eq_nI nK (by omega)
      have hkb : (k : Int) * (pr (M - (r + 1))).toInt ≤ 10 * 10000 := Int.mul_le_mul (by omega) hpk.2.1 hpk.1 (by omega)
      have hk0 := Int.mul_nonneg (Int.natCast_nonneg k) hpk.1
      refine g_run 4 rfl ?_
      refine g_iast (j := M - (r + 1)) rfl rfl aE (by omega) ?_
      refine gG_hp (h2 := BX hp (va_up tr2 (M - (r + 1)) (nI k)) kp2 lc2) bx_tr ?_
      refine g_run 15 rfl ?_
      refine g_iald (j := M - (r + 1)) rfl rfl aE (by omega) ?_
      refine g_iald (j := (hp.1 32 (M - (r + 1))).toInt.toNat) rfl rfl (show (hp.1 32 (M - (r + 1))).toInt = _ from by omega) (by omega) ?_
      refine g_run 2 rfl ?_
      refine g_callV0 rfl LX1_70 rfl rfl rfl rfl ?_
      have e2 : sC (va_up tr2 (M - (r + 1)) (nI k)) pr (M - r) = sC tr pr (M - (r + 1)) + (k : Int) * (pr (M - (r + 1))).toInt := by
        rw [show M - r = (M - (r + 1)) + 1 by omega, sC_s, sC_cg (t2 := tr) _ htr, nK]
      have hst : (fun n s => if al (M - (r + 1)) n = true then rfT al fit pr M r (lN - n) (va_up tr (M - (r + 1)) (nI n)) s else s) k s2 = rfT al fit pr M r (lN - k) (va_up tr2 (M - (r + 1)) (nI k)) s2 := by
        show (if al (M - (r + 1)) k = true then _ else _) = _
        rw [if_pos ((hal _ k (by omega) (by omega)).mpr (by omega))]
        exact rfT_cg r _ _ _ _ (by omega) (fun i hi => by
          simp only [va_up]
          split
          · rfl
          · exact (htr i (by omega)).symm)
      have hb2 : ∀ i, i < M - r → 0 ≤ (va_up tr2 (M - (r + 1)) (nI k) i).toInt ∧ (va_up tr2 (M - (r + 1)) (nI k) i).toInt ≤ 10 := by
        intro i hi
        simp only [va_up]
        split
        · rw [nK]; omega
        · rw [htr i (by omega)]; exact ht i (by omega)
      refine IH _ _ _ _ _ _ _ s2 (lN - k) (ia_add2 aE (by decide : (1 : Int32).toInt = 1) (by omega) (by omega) |>.trans (by omega)) ((ia_sub2 lE nK (by omega) (by omega)).trans (by omega)) (by omega) ?_ hb2 lE2 hs2 hk2 (fun tr3 kp3 lc3 ht3 hl3 hk3 => ?_)
      · refine (ia_add2 cE (ia_mul2 nK (show _ = (pr (M - (r + 1))).toInt from by rw [hpk.2.2]; rfl) (by omega) (by omega)) (by omega) (by omega)).trans e2.symm
      · refine g_run 2 rfl ?_
        refine ih k _ lc3 tr3 kp3 _ ((ia_add2 nK (by decide : (-1 : Int32).toInt = -1) (by omega) (by omega)).trans (by omega)) (by omega) (by omega) (fun i hi => ?_) hl3 (rfT_inv hnn r _ _ _ (by omega) (by omega) hb2 hs2) hk3 (by rw [← hst]; exact hR) (by omega)
        rw [ht3 i (by omega), ← htr i hi]
        simp [va_up, Nat.ne_of_lt hi]
theorem c_X1_tryMember (hO : okS hp pr al fit M) : ∀ r : Nat, r ≤ M → tmP d hp b xs al fit pr M r := by
  intro r
  induction r with
  | zero =>
    intro hr Q tr kp lc at_ left cost s lN aE lE hl cE ht qE hs hk h1
    refine g_enter okX1_tryMember (plainFor_of_name rfl) rfl ?_
    have hM := hO.1
    refine g_run 3 rfl ?_
    refine gj_eq (kx := s.1) (kz := (-1)) rfl qE (by decide) (fun k1 => ?_) (fun k1 => ?_)
    · exact tm_leaf hO aE lE hl cE ht qE hs hk h1 (show ¬ (0 ≤ s.1 ∧ s.1 ≤ sC tr pr (M - 0)) from by omega)
    · refine g_run 3 rfl ?_
      refine gj_lt (kx := (sC tr pr (M - 0))) (kz := s.1) rfl cE qE (fun k2 => ?_) (fun k2 => ?_)
      · exact tm_leaf hO aE lE hl cE ht qE hs hk h1 (show ¬ (0 ≤ s.1 ∧ s.1 ≤ sC tr pr (M - 0)) from by omega)
      · have e3 := rfT_A (al := al) (fit := fit) (pr := pr) (M := M) (fun i hi => (hO.2.2.2.2.1 i hi).1) 0 lN tr s (by omega) hl (by omega) (by omega)
        exact g_vret rfl rfl (h1 _ _ _ (fun _ _ => rfl) (by rw [e3]; exact qE) (fun i hi => by rw [e3]; exact hk i hi))
  | succ r ihr =>
    intro hr Q tr kp lc at_ left cost s lN aE lE hl cE ht qE hs hk h1
    refine g_enter okX1_tryMember (plainFor_of_name rfl) rfl ?_
    obtain ⟨hM, hM6, hmb, hsp, hpr, hal, hmo, hfit⟩ := id hO
    have hmo1 := hmo (M - (r + 1)) (by omega)
    have k18 : ¬ (0 ≤ s.1 ∧ s.1 ≤ sC tr pr (M - (r + 1))) → gG mX1_tryMember (d + 2 + (r + 1)) 0 0 (zQ 0 0 Q) 0 0 (18, [.ref 28, .ref 1, .int at_, .int left, .int cost, .retAddr 0, .retAddr 0], [], (SH b xs), (BX hp tr kp lc)) := by
      intro hc
      refine g_run 3 rfl ?_
      refine gj_lt (kx := ((M - (r + 1) : Nat) : Int)) (kz := (M : Int)) rfl aE hM (fun k1 => ?_) (fun k1 => ?_)
      · refine g_run 5 rfl ?_
        refine gj_ne (kx := ((M - (r + 1) : Nat) : Int)) (kz := ((M : Int) - 1)) rfl aE (ia_sub2 hM (by decide) (by omega) (by omega)) (fun k2 => ?_) (fun k2 => ?_)
        · refine g_run 6 rfl ?_
          refine g_iald (j := ((M - (r + 1) : Nat) : Int).toNat) rfl rfl ((show _ = ((M - (r + 1) : Nat) : Int) from aE).trans (by omega)) (by omega) ?_
          refine g_callS0 rfl LX1_80 rfl rfl ?_
          refine c_min ?_
          refine g_run 1 rfl ?_
          have hmi : ((minI left (hp.1 33 (M - (r + 1)))).toInt = (lN : Int) ∧ (lN : Int) ≤ (hp.1 33 (M - (r + 1))).toInt) ∨ ((minI left (hp.1 33 (M - (r + 1)))).toInt = (hp.1 33 (M - (r + 1))).toInt ∧ (hp.1 33 (M - (r + 1))).toInt < (lN : Int)) := by
            rw [minI, lE]
            split
            · next q => exact Or.inl ⟨lE, q⟩
            · next q => exact Or.inr ⟨rfl, by omega⟩
          refine tm_loop hr (ihr (by omega)) hO aE lE hl cE ht qE hs hk h1 (eI := 0) (by decide) (Or.inl rfl) ((minI left (hp.1 33 (M - (r + 1)))).toInt.toNat + 2) ((minI left (hp.1 33 (M - (r + 1)))).toInt.toNat + 1) _ _ _ _ _ (show (minI left (hp.1 33 (M - (r + 1)))).toInt = _ from by omega) (by omega) (by omega) (fun _ _ => rfl) qE hs hk ?_ (by omega)
          rw [rfT]
          refine (dnZ_skip _ (by omega) (fun n a b => ?_)).symm
          show (if al (M - (r + 1)) n = true then _ else _) = _
          rw [if_neg (fun q => by have := (hal _ n (by omega) (by omega)).mp q; omega)]
        · refine g_run 7 rfl ?_
          refine g_iald (j := ((M - (r + 1) : Nat) : Int).toNat) rfl rfl ((show _ = ((M - (r + 1) : Nat) : Int) from aE).trans (by omega)) (by omega) ?_
          refine g_callS0 rfl LX1_80 rfl rfl ?_
          refine c_min ?_
          refine g_run 1 rfl ?_
          have hmi : ((minI left (hp.1 33 (M - (r + 1)))).toInt = (lN : Int) ∧ (lN : Int) ≤ (hp.1 33 (M - (r + 1))).toInt) ∨ ((minI left (hp.1 33 (M - (r + 1)))).toInt = (hp.1 33 (M - (r + 1))).toInt ∧ (hp.1 33 (M - (r + 1))).toInt < (lN : Int)) := by
            rw [minI, lE]
            split
            · next q => exact Or.inl ⟨lE, q⟩
            · next q => exact Or.inr ⟨rfl, by omega⟩
          refine tm_loop hr (ihr (by omega)) hO aE lE hl cE ht qE hs hk h1 (eI := (lN : Int)) lE (Or.inr ⟨rfl, by omega⟩) ((minI left (hp.1 33 (M - (r + 1)))).toInt.toNat + 2) ((minI left (hp.1 33 (M - (r + 1)))).toInt.toNat + 1) _ _ _ _ _ (show (minI left (hp.1 33 (M - (r + 1)))).toInt = _ from by omega) (by omega) (by omega) (fun _ _ => rfl) qE hs hk ?_ (by omega)
          rw [rfT]
          refine (dnZ_skip _ (by omega) (fun n a b => ?_)).symm
          show (if al (M - (r + 1)) n = true then _ else _) = _
          rw [if_neg (fun q => by have := (hal _ n (by omega) (by omega)).mp q; omega)]
      · exfalso; omega
    refine g_run 3 rfl ?_
    refine gj_eq (kx := s.1) (kz := (-1)) rfl qE (by decide) (fun k1 => ?_) (fun k1 => ?_)
    · exact k18 (by omega)
    · refine g_run 3 rfl ?_
      refine gj_lt (kx := (sC tr pr (M - (r + 1)))) (kz := s.1) rfl cE qE (fun k2 => ?_) (fun k2 => ?_)
      · exact k18 (by omega)
      · have e3 := rfT_A (al := al) (fit := fit) (pr := pr) (M := M) (fun i hi => (hO.2.2.2.2.1 i hi).1) (r + 1) lN tr s (by omega) hl (by omega) (by omega)
        exact g_vret rfl rfl (h1 _ _ _ (fun _ _ => rfl) (by rw [e3]; exact qE) (fun i hi => by rw [e3]; exact hk i hi))
/-- the tenths by lots -/
def latF (mb kp : Nat → Int32) : Nat → (Nat → Int32)
  | 0 => fun _ => 0
  | k + 1 => va_up (latF mb kp k) (mb k).toInt.toNat (kp k)
theorem lp_X1_keep {Q : Option Value → sh_T → hp_T → Prop} {L0 : Nat → Int32} {F : Nat → (Nat → Int32)} (hF : ∀ k, F (k + 1) = va_up (F k) (hp.1 32 k).toInt.toNat (hp.1 35 k)) (hM : (hp.1 28 4).toInt = (M : Int)) (hM6 : M ≤ 6) (hmb : ∀ i, i < M → 0 ≤ (hp.1 32 i).toInt ∧ (hp.1 32 i).toInt < 12) (h1 : Q none (SH b xs) (sR hp 29 (F M))) : ∀ (f k : Nat) (i : Int32), i.toInt = (k : Int) → k ≤ M → M - k < f → gG mX1_keepAsLatest (d + 1) 0 0 (zQ 0 0 Q) 0 0 (15, [.ref 28, .int i], [], (SH b xs), sR hp 29 (F k)) := by
  intro f
  induction f with
  | zero => intros; omega
  | succ f ih =>
    intro k i iE hk hf
    refine g_run 3 rfl ?_
    refine gj_ge (kx := (k : Int)) (kz := (M : Int)) rfl iE hM (fun k1 => ?_) (fun k1 => ?_)
    · obtain rfl : k = M := by omega
      exact g_vret rfl rfl h1
    · have hmk := hmb k (by omega)
      refine g_run 5 rfl ?_
      refine g_iald (j := k) rfl rfl iE (by omega) ?_
      refine g_run 3 rfl ?_
      refine g_iald (j := k) rfl rfl iE (by omega) ?_
      refine g_iast (j := (hp.1 32 k).toInt.toNat) rfl rfl (show (hp.1 32 k).toInt = _ from by omega) (by omega) ?_
      refine g_run 2 rfl ?_
      refine gG_hp (h2 := sR hp 29 (F (k + 1))) (by rw [hF, ← sR_put]; rfl) ?_
      exact ih (k + 1) _ (inc1 iE (by omega)) (by omega) (by omega)
theorem latF_n {mb kp : Nat → Int32} {j : Nat} : ∀ k : Nat, (∀ i, i < k → 0 ≤ (mb i).toInt ∧ (mb i).toInt < 12) → 12 ≤ j → latF mb kp k j = 0
  | 0, _, _ => rfl
  | k + 1, h, hj => by
    rw [latF, va_up, if_neg (by have := h k (by omega); omega)]
    exact latF_n k (fun i hi => h i (by omega)) hj
theorem latF_cg {mb m2 kp k2 : Nat → Int32} {j : Nat} : ∀ k : Nat, (∀ i, i < k → mb i = m2 i ∧ kp i = k2 i) → latF mb kp k j = latF m2 k2 k j
  | 0, _ => rfl
  | k + 1, h => by
    rw [latF, latF, va_up, va_up, latF_cg k (fun i hi => h i (by omega)), (h k (by omega)).1, (h k (by omega)).2]
theorem c_X1_keepAsLatest {Q : Option Value → sh_T → hp_T → Prop} (hM : (hp.1 28 4).toInt = (M : Int)) (hM6 : M ≤ 6) (hmb : ∀ i, i < M → 0 ≤ (hp.1 32 i).toInt ∧ (hp.1 32 i).toInt < 12) (h1 : ∀ L : Nat → Int32, (∀ j, j < 12 → L j = latF (hp.1 32) (hp.1 35) M j) → Q none (SH b xs) (sR (sI hp 28 0 1) 29 L)) : gC mX1_keepAsLatest (d + 1) 0 0 [.ref 28] (SH b xs) hp Q := by
  refine g_enter okX1_keepAsLatest (plainFor_of_name rfl) rfl ?_
  refine g_run 2 rfl ?_
  refine g_putZ rfl rfl rfl rfl (by decide) ?_
  refine g_run 3 rfl ?_
  refine g_callS0 rfl LX1_25 rfl rfl ?_
  refine c_fill (n := 12) rfl (by omega) ?_
  refine g_run 2 rfl ?_
  have hF : ∀ k : Nat, (fun k : Nat => fun j : Nat => if j < 12 then latF (hp.1 32) (hp.1 35) k j else hp.1 29 j) k = fun j => if j < 12 then latF (hp.1 32) (hp.1 35) k j else hp.1 29 j := fun k => rfl
  let F : Nat → Nat → Int32 := fun k => Nat.rec (fT (fun _ => 0) 12 (hp.1 29)) (fun k g => va_up g (hp.1 32 k).toInt.toNat (hp.1 35 k)) k
  have hFl : ∀ k j, j < 12 → F k j = latF (hp.1 32) (hp.1 35) k j := by
    intro k j hj
    induction k with
    | zero => show fT (fun _ => 0) 12 (hp.1 29) j = 0; simp [fT, hj]
    | succ k ih =>
      show va_up (F k) (hp.1 32 k).toInt.toNat (hp.1 35 k) j = _
      rw [latF, va_up, va_up, ih]
  exact lp_X1_keep (hp := sI hp 28 0 1) (L0 := hp.1 29) (F := F) (fun k => rfl) hM hM6 hmb (h1 (F M) (hFl M)) 7 0 0 (by decide) (by omega) (by omega)
theorem gC_d {y : mt_T} {d d2 mc ms : Nat} {as : List Value} {sh : sh_T} {h1 : hp_T} {Q : Option Value → sh_T → hp_T → Prop} (e : d = d2) (k : gC y d2 mc ms as sh h1 Q) : gC y d mc ms as sh h1 Q := e ▸ k
theorem div10 {g : Int32} {gI : Int} (gE : g.toInt = gI) (h : 0 ≤ gI) : (g / 10).toInt = gI / 10 := by
  have hb := ia_bd g
  rw [Int32.toInt_div, gE, show (10 : Int32).toInt = 10 from by decide, Int.tdiv_eq_ediv_of_nonneg h]
  exact Int.bmod_eq_of_le (by omega) (by omega)
theorem c_X1_search {Q : Option Value → sh_T → hp_T → Prop} {se : Int32} {seI : Int} {g : Int32} {gI : Int} (seE : se.toInt = seI) (gE : g.toInt = gI) (hs1 : 0 ≤ (hp.1 1 0).toInt ∧ (hp.1 1 0).toInt ≤ 12) (hOk : 0 < seI ∧ (se >>> ((hp.1 1 0) &&& 31)).toInt = 0 ∧ (popX se).toInt ≤ 6 ∧ 10 ≤ gI ∧ gI ≤ 100000 ∧ (g - g / 10 * 10).toInt = 0 → okS (GX hp (gaS (btX se) (moX (hp.1 2) (g / 10)) (hp.1 32, hp.1 33) (hp.1 1 0).toInt.toNat)) pr al fit (gaS (btX se) (moX (hp.1 2) (g / 10)) (hp.1 32, hp.1 33) (hp.1 1 0).toInt.toNat).1) (h1 : 0 < seI ∧ (se >>> ((hp.1 1 0) &&& 31)).toInt = 0 ∧ (popX se).toInt ≤ 6 ∧ 10 ≤ gI ∧ gI ≤ 100000 ∧ (g - g / 10 * 10).toInt = 0 → ∀ (tr kp : Nat → Int32) (lc : Int32), lc.toInt = (rfT al fit pr (gaS (btX se) (moX (hp.1 2) (g / 10)) (hp.1 32, hp.1 33) (hp.1 1 0).toInt.toNat).1 (gaS (btX se) (moX (hp.1 2) (g / 10)) (hp.1 32, hp.1 33) (hp.1 1 0).toInt.toNat).1 10 (hp.1 34) (-1, hp.1 35)).1 → (∀ i, i < (gaS (btX se) (moX (hp.1 2) (g / 10)) (hp.1 32, hp.1 33) (hp.1 1 0).toInt.toNat).1 → kp i = (rfT al fit pr (gaS (btX se) (moX (hp.1 2) (g / 10)) (hp.1 32, hp.1 33) (hp.1 1 0).toInt.toNat).1 (gaS (btX se) (moX (hp.1 2) (g / 10)) (hp.1 32, hp.1 33) (hp.1 1 0).toInt.toNat).1 10 (hp.1 34) (-1, hp.1 35)).2 i) → ((rfT al fit pr (gaS (btX se) (moX (hp.1 2) (g / 10)) (hp.1 32, hp.1 33) (hp.1 1 0).toInt.toNat).1 (gaS (btX se) (moX (hp.1 2) (g / 10)) (hp.1 32, hp.1 33) (hp.1 1 0).toInt.toNat).1 10 (hp.1 34) (-1, hp.1 35)).1 = -1 → Q (some (.int lc)) (SH b xs) (BX (GX hp (gaS (btX se) (moX (hp.1 2) (g / 10)) (hp.1 32, hp.1 33) (hp.1 1 0).toInt.toNat)) tr kp lc)) ∧ ((rfT al fit pr (gaS (btX se) (moX (hp.1 2) (g / 10)) (hp.1 32, hp.1 33) (hp.1 1 0).toInt.toNat).1 (gaS (btX se) (moX (hp.1 2) (g / 10)) (hp.1 32, hp.1 33) (hp.1 1 0).toInt.toNat).1 10 (hp.1 34) (-1, hp.1 35)).1 ≠ -1 → ∀ L : Nat → Int32, (∀ j, j < 12 → L j = latF (gaS (btX se) (moX (hp.1 2) (g / 10)) (hp.1 32, hp.1 33) (hp.1 1 0).toInt.toNat).2.1 kp (gaS (btX se) (moX (hp.1 2) (g / 10)) (hp.1 32, hp.1 33) (hp.1 1 0).toInt.toNat).1 j) → Q (some (.int lc)) (SH b xs) (sR (sI (BX (GX hp (gaS (btX se) (moX (hp.1 2) (g / 10)) (hp.1 32, hp.1 33) (hp.1 1 0).toInt.toNat)) tr kp lc) 28 0 1) 29 L))) (h0 : seI ≤ 0 ∨ (se >>> ((hp.1 1 0) &&& 31)).toInt ≠ 0 ∨ 6 < (popX se).toInt ∨ gI < 10 ∨ 100000 < gI ∨ (g - g / 10 * 10).toInt ≠ 0 → Q (some (.int (-1))) (SH b xs) hp) : gC mX1_search (d + 9) 0 0 [.ref 28, .ref 1, .int se, .int g] (SH b xs) hp Q := by
  refine g_enter okX1_search (plainFor_of_name rfl) rfl ?_
  refine g_run 1 rfl ?_
  refine gz_le (kx := seI) rfl seE (fun k1 => ?_) (fun k1 => ?_)
  · refine g_run 3 rfl ?_
    refine gz_ne (kx := 0) rfl (show (0 : Int32).toInt = 0 from by decide) (fun q => absurd q (by decide)) (fun _ => ?_)
    refine g_run 1 rfl ?_
    exact g_iret rfl rfl (by first | exact h1 (by omega) | exact h0 (by omega))
  · refine g_run 4 rfl ?_
    refine gz_ne (kx := (se >>> ((hp.1 1 0) &&& 31)).toInt) rfl rfl (fun k2 => ?_) (fun k2 => ?_)
    · refine g_run 3 rfl ?_
      refine gz_ne (kx := 0) rfl (show (0 : Int32).toInt = 0 from by decide) (fun q => absurd q (by decide)) (fun _ => ?_)
      refine g_run 1 rfl ?_
      exact g_iret rfl rfl (by first | exact h1 (by omega) | exact h0 (by omega))
    · refine g_run 1 rfl ?_
      refine g_callS0 rfl LX1_59 rfl rfl ?_
      refine c_J6_bitCount_0f7a4 rfl ?_
      refine g_run 1 rfl ?_
      refine gj_gt (kx := (popX se).toInt) (kz := 6) rfl rfl (by decide) (fun k3 => ?_) (fun k3 => ?_)
      · refine g_run 3 rfl ?_
        refine gz_ne (kx := 0) rfl (show (0 : Int32).toInt = 0 from by decide) (fun q => absurd q (by decide)) (fun _ => ?_)
        refine g_run 1 rfl ?_
        exact g_iret rfl rfl (by first | exact h1 (by omega) | exact h0 (by omega))
      · refine g_run 3 rfl ?_
        refine g_callS0 rfl LX1_50 rfl rfl ?_
        refine c_X9_within (nI := gI) (lI := 10) (uI := 100000) gE (by decide) (by decide) (fun k4 => ?_) (fun k5 => ?_)
        · refine gz_eq (kx := 1) rfl (show (1 : Int32).toInt = 1 from by decide) (fun q => absurd q (by decide)) (fun _ => ?_)
          refine g_run 2 rfl ?_
          refine g_irem rfl (by first | decide | (intro q; rw [ia_eq] at q; simp at q; omega)) ?_
          refine gz_ne (kx := (g - g / 10 * 10).toInt) rfl rfl (fun k6 => ?_) (fun k6 => ?_)
          · refine g_run 3 rfl ?_
            refine gz_ne (kx := 0) rfl (show (0 : Int32).toInt = 0 from by decide) (fun q => absurd q (by decide)) (fun _ => ?_)
            refine g_run 1 rfl ?_
            exact g_iret rfl rfl (by first | exact h1 (by omega) | exact h0 (by omega))
          · refine g_run 4 rfl ?_
            refine gz_ne (kx := 1) rfl (show (1 : Int32).toInt = 1 from by decide) (fun _ => ?_) (fun q => absurd q (by decide))
            refine g_run 5 rfl ?_
            refine g_idiv rfl (by first | decide | (intro q; rw [ia_eq] at q; simp at q; omega)) ?_
            refine g_callV0 rfl LX1_66 rfl rfl rfl rfl ?_
            have hd10 := div10 gE (by omega)
            refine c_X1_gather hs1 hd10 (by omega) ?_
            refine g_run 3 rfl ?_
            refine gG_hp bx_id.symm ?_
            refine g_run 5 rfl ?_
            refine g_callV0 rfl LX1_70 rfl rfl rfl rfl ?_
            have hO := hOk (by omega)
            have hM6 := hO.2.1
            refine gC_d (show d + 8 = d + (6 - (gaS (btX se) (moX (hp.1 2) (g / 10)) (hp.1 32, hp.1 33) (hp.1 1 0).toInt.toNat).1) + 2 + (gaS (btX se) (moX (hp.1 2) (g / 10)) (hp.1 32, hp.1 33) (hp.1 1 0).toInt.toNat).1 by omega) ?_
            refine c_X1_tryMember hO _ (Nat.le_refl _) _ _ _ _ _ _ _ (-1, hp.1 35) 10 (by rw [Nat.sub_self]; decide) (by decide) (by omega) (by rw [Nat.sub_self]; rfl) (fun i hi => by omega) (show ((-1 : Int32)).toInt = -1 from by decide) (Or.inl rfl) (fun _ _ => rfl) (fun tr kp lc _ q2 q3 => ?_)
            obtain ⟨z1, z2⟩ := h1 (by omega) tr kp lc q2 q3
            refine g_run 3 rfl ?_
            refine gj_eq (kx := (rfT al fit pr (gaS (btX se) (moX (hp.1 2) (g / 10)) (hp.1 32, hp.1 33) (hp.1 1 0).toInt.toNat).1 (gaS (btX se) (moX (hp.1 2) (g / 10)) (hp.1 32, hp.1 33) (hp.1 1 0).toInt.toNat).1 10 (hp.1 34) (-1, hp.1 35)).1) (kz := -1) rfl q2 (by decide) (fun k9 => ?_) (fun k9 => ?_)
            · refine g_run 2 rfl ?_
              exact g_iret rfl rfl (z1 k9)
            · refine g_run 1 rfl ?_
              refine g_callV0 rfl LX1_74 rfl rfl rfl rfl ?_
              refine gC_d (show d + 8 = d + 7 + 1 by omega) ?_
              refine c_X1_keepAsLatest (M := (gaS (btX se) (moX (hp.1 2) (g / 10)) (hp.1 32, hp.1 33) (hp.1 1 0).toInt.toNat).1) hO.1 hO.2.1 hO.2.2.1 (fun L hL => ?_)
              refine g_run 2 rfl ?_
              exact g_iret rfl rfl (z2 k9 L hL)
        · refine gz_eq (kx := 0) rfl (show (0 : Int32).toInt = 0 from by decide) (fun _ => ?_) (fun q => absurd q (by decide))
          refine g_run 3 rfl ?_
          refine gz_ne (kx := 0) rfl (show (0 : Int32).toInt = 0 from by decide) (fun q => absurd q (by decide)) (fun _ => ?_)
          refine g_run 1 rfl ?_
          exact g_iret rfl rfl (by first | exact h1 (by omega) | exact h0 (by omega))
theorem c_X9_best {Q : Option Value → sh_T → hp_T → Prop} {se : Int32} {seI : Int} {g : Int32} {gI : Int} (seE : se.toInt = seI) (gE : g.toInt = gI) (hs1 : 0 ≤ (hp.1 1 0).toInt ∧ (hp.1 1 0).toInt ≤ 12) (hOk : 0 < seI ∧ (se >>> ((hp.1 1 0) &&& 31)).toInt = 0 ∧ (popX se).toInt ≤ 6 ∧ 10 ≤ gI ∧ gI ≤ 100000 ∧ (g - g / 10 * 10).toInt = 0 → okS (GX hp (gaS (btX se) (moX (hp.1 2) (g / 10)) (hp.1 32, hp.1 33) (hp.1 1 0).toInt.toNat)) pr al fit (gaS (btX se) (moX (hp.1 2) (g / 10)) (hp.1 32, hp.1 33) (hp.1 1 0).toInt.toNat).1) (h1 : 0 < seI ∧ (se >>> ((hp.1 1 0) &&& 31)).toInt = 0 ∧ (popX se).toInt ≤ 6 ∧ 10 ≤ gI ∧ gI ≤ 100000 ∧ (g - g / 10 * 10).toInt = 0 → ∀ (tr kp : Nat → Int32) (lc : Int32), lc.toInt = (rfT al fit pr (gaS (btX se) (moX (hp.1 2) (g / 10)) (hp.1 32, hp.1 33) (hp.1 1 0).toInt.toNat).1 (gaS (btX se) (moX (hp.1 2) (g / 10)) (hp.1 32, hp.1 33) (hp.1 1 0).toInt.toNat).1 10 (hp.1 34) (-1, hp.1 35)).1 → (∀ i, i < (gaS (btX se) (moX (hp.1 2) (g / 10)) (hp.1 32, hp.1 33) (hp.1 1 0).toInt.toNat).1 → kp i = (rfT al fit pr (gaS (btX se) (moX (hp.1 2) (g / 10)) (hp.1 32, hp.1 33) (hp.1 1 0).toInt.toNat).1 (gaS (btX se) (moX (hp.1 2) (g / 10)) (hp.1 32, hp.1 33) (hp.1 1 0).toInt.toNat).1 10 (hp.1 34) (-1, hp.1 35)).2 i) → ((rfT al fit pr (gaS (btX se) (moX (hp.1 2) (g / 10)) (hp.1 32, hp.1 33) (hp.1 1 0).toInt.toNat).1 (gaS (btX se) (moX (hp.1 2) (g / 10)) (hp.1 32, hp.1 33) (hp.1 1 0).toInt.toNat).1 10 (hp.1 34) (-1, hp.1 35)).1 = -1 → Q (some (.int lc)) (SH b xs) (BX (GX hp (gaS (btX se) (moX (hp.1 2) (g / 10)) (hp.1 32, hp.1 33) (hp.1 1 0).toInt.toNat)) tr kp lc)) ∧ ((rfT al fit pr (gaS (btX se) (moX (hp.1 2) (g / 10)) (hp.1 32, hp.1 33) (hp.1 1 0).toInt.toNat).1 (gaS (btX se) (moX (hp.1 2) (g / 10)) (hp.1 32, hp.1 33) (hp.1 1 0).toInt.toNat).1 10 (hp.1 34) (-1, hp.1 35)).1 ≠ -1 → ∀ L : Nat → Int32, (∀ j, j < 12 → L j = latF (gaS (btX se) (moX (hp.1 2) (g / 10)) (hp.1 32, hp.1 33) (hp.1 1 0).toInt.toNat).2.1 kp (gaS (btX se) (moX (hp.1 2) (g / 10)) (hp.1 32, hp.1 33) (hp.1 1 0).toInt.toNat).1 j) → Q (some (.int lc)) (SH b xs) (sR (sI (BX (GX hp (gaS (btX se) (moX (hp.1 2) (g / 10)) (hp.1 32, hp.1 33) (hp.1 1 0).toInt.toNat)) tr kp lc) 28 0 1) 29 L))) (h0 : seI ≤ 0 ∨ (se >>> ((hp.1 1 0) &&& 31)).toInt ≠ 0 ∨ 6 < (popX se).toInt ∨ gI < 10 ∨ 100000 < gI ∨ (g - g / 10 * 10).toInt ≠ 0 → Q (some (.int (-1))) (SH b xs) hp) : gC mX9_best (d + 10) 0 0 [.ref 0, .int se, .int g] (SH b xs) hp Q := by
  refine g_enter okX9_best (plainFor_of_name rfl) rfl ?_
  refine g_run 6 rfl ?_
  refine g_callV0 rfl LX9_181 rfl rfl rfl rfl ?_
  refine c_X1_search seE gE hs1 hOk (fun q tr kp lc a1 a2 => ⟨fun q2 => ?_, fun q2 L q3 => ?_⟩) (fun q => ?_)
  · exact g_iret rfl rfl ((h1 q tr kp lc a1 a2).1 q2)
  · exact g_iret rfl rfl ((h1 q tr kp lc a1 a2).2 q2 L q3)
  · exact g_iret rfl rfl (h0 q)
end S35
