/-! TOKENS: what the tape t of n signs says, as numbers -/
def spn (P : Int → Bool) (t : Nat → Int32) (n : Nat) : Nat → Nat → Nat
  | 0, p => p
  | f + 1, p => if p < n ∧ P (t p).toInt = true then spn P t n f (p + 1) else p
/-- where a span of such signs ends that begins at p -/
def spE (P : Int → Bool) (t : Nat → Int32) (n p : Nat) : Nat := spn P t n (n - p) p
theorem spE_y {P : Int → Bool} {t : Nat → Int32} {n p : Nat} (h : p < n) (h2 : P (t p).toInt = true) : spE P t n p = spE P t n (p + 1) := by
  rw [spE, spE, show n - p = (n - (p + 1)) + 1 by omega, spn, if_pos ⟨h, h2⟩]
theorem spE_n {P : Int → Bool} {t : Nat → Int32} {n p : Nat} (h : n ≤ p ∨ P (t p).toInt = false) : spE P t n p = p := by
  rw [spE]
  cases hf : n - p with
  | zero => rfl
  | succ f =>
    rw [spn, if_neg]
    rintro ⟨q1, q2⟩
    rcases h with h | h
    · omega
    · rw [h] at q2; cases q2
theorem spn_le {P : Int → Bool} {t : Nat → Int32} {n : Nat} : ∀ f p : Nat, p ≤ spn P t n f p ∧ (p ≤ n → spn P t n f p ≤ n)
  | 0, p => ⟨Nat.le_refl _, id⟩
  | f + 1, p => by
    rw [spn]
    split
    · next h =>
      have := spn_le (P := P) (t := t) (n := n) f (p + 1)
      exact ⟨by omega, fun _ => this.2 (by omega)⟩
    · exact ⟨Nat.le_refl _, id⟩
theorem spE_ge {P : Int → Bool} {t : Nat → Int32} {n p : Nat} : p ≤ spE P t n p := (spn_le _ _).1
theorem spE_le {P : Int → Bool} {t : Nat → Int32} {n p : Nat} (h : p ≤ n) : spE P t n p ≤ n := (spn_le _ _).2 h
theorem spn_all {P : Int → Bool} {t : Nat → Int32} {n : Nat} : ∀ f p k : Nat, p ≤ k → k < spn P t n f p → P (t k).toInt = true
  | 0, p, k, h1, h2 => by rw [spn] at h2; omega
  | f + 1, p, k, h1, h2 => by
    rw [spn] at h2
    split at h2
    · next h =>
      by_cases e : k = p
      · rw [e]; exact h.2
      · exact spn_all f (p + 1) k (by omega) h2
    · omega
theorem spE_all {P : Int → Bool} {t : Nat → Int32} {n p k : Nat} (h1 : p ≤ k) (h2 : k < spE P t n p) : P (t k).toInt = true := spn_all _ p k h1 h2
def isBl (c : Int) : Bool := decide (c = 10 ∨ c = 32)
def isLe (c : Int) : Bool := decide (97 ≤ c ∧ c ≤ 122)
def isDg (c : Int) : Bool := decide (48 ≤ c ∧ c ≤ 57)
/-- a number's value, by its first four digits -/
def nz (t : Nat → Int32) (p : Nat) : Nat → Int
  | 0 => 0
  | k + 1 => if k < 4 then nz t p k * 10 + (t (p + k)).toInt - 48 else nz t p k
theorem nz_bd {t : Nat → Int32} {p : Nat} : ∀ k : Nat, (∀ j, j < k → isDg (t (p + j)).toInt = true) → 0 ≤ nz t p k ∧ nz t p k ≤ 9999 ∧ (k ≤ 3 → nz t p k ≤ 999) ∧ (k ≤ 2 → nz t p k ≤ 99) ∧ (k ≤ 1 → nz t p k ≤ 9) ∧ (k = 0 → nz t p k = 0)
  | 0, _ => by rw [nz]; omega
  | k + 1, h => by
    have h1 := nz_bd (t := t) (p := p) k (fun j hj => h j (by omega))
    have h2 := h k (by omega)
    simp only [isDg, decide_eq_true_eq] at h2
    rw [nz]
    split
    · omega
    · omega
def ksn (c : Int) : Int := if c = 40 then 13 else if c = 41 then 14 else if c = 60 then 15 else if c = 61 then 16 else if c = 43 then 17 else if c = 45 then 18 else if c = 59 then 19 else 1
/-- the word of L letters at p is the i-th of the text's own -/
def eqw (t : Nat → Int32) (p L i : Nat) : Bool := decide (L = slen.getD i 0 ∧ ∀ j, j < slen.getD i 0 → t (p + j) = chS i j)
def kwd (t : Nat → Int32) (p L : Nat) : Int := if eqw t p L 0 = true then 7 else if eqw t p L 1 = true then 4 else if eqw t p L 2 = true then 5 else if eqw t p L 3 = true then 3 else if eqw t p L 4 = true then 12 else if eqw t p L 5 = true then 8 else if eqw t p L 6 = true then 11 else if eqw t p L 7 = true then 10 else if eqw t p L 8 = true then 6 else if eqw t p L 9 = true then 9 else 1
theorem eqw_0 {t : Nat → Int32} {p L i : Nat} (hi : i < 10) (h : eqw t p L i = true) : t p = chS i 0 := by
  simp only [eqw, decide_eq_true_eq] at h
  exact h.2 0 (by have := slen_ok i hi; omega)
theorem eqw_f {t : Nat → Int32} {p L : Nat} (i : Nat) (hi : i < 10) {c : Int} (hc : (t p).toInt = c) (h : c ≠ (chS i 0).toInt) : ¬ eqw t p L i = true := fun q => h (by rw [← hc, eqw_0 hi q])
section KW
variable {t : Nat → Int32} {p L : Nat}
theorem kw_a (h : (t p).toInt = 97) : kwd t p L = if eqw t p L 0 = true then 7 else 1 := by
  rw [kwd, if_neg (eqw_f 1 (by decide) h (by decide)), if_neg (eqw_f 2 (by decide) h (by decide)), if_neg (eqw_f 3 (by decide) h (by decide)), if_neg (eqw_f 4 (by decide) h (by decide)), if_neg (eqw_f 5 (by decide) h (by decide)), if_neg (eqw_f 6 (by decide) h (by decide)), if_neg (eqw_f 7 (by decide) h (by decide)), if_neg (eqw_f 8 (by decide) h (by decide)), if_neg (eqw_f 9 (by decide) h (by decide))]
theorem kw_d (h : (t p).toInt = 100) : kwd t p L = if eqw t p L 1 = true then 4 else if eqw t p L 2 = true then 5 else 1 := by
  rw [kwd, if_neg (eqw_f 0 (by decide) h (by decide)), if_neg (eqw_f 3 (by decide) h (by decide)), if_neg (eqw_f 4 (by decide) h (by decide)), if_neg (eqw_f 5 (by decide) h (by decide)), if_neg (eqw_f 6 (by decide) h (by decide)), if_neg (eqw_f 7 (by decide) h (by decide)), if_neg (eqw_f 8 (by decide) h (by decide)), if_neg (eqw_f 9 (by decide) h (by decide))]
theorem kw_f (h : (t p).toInt = 102) : kwd t p L = if eqw t p L 3 = true then 3 else 1 := by
  rw [kwd, if_neg (eqw_f 0 (by decide) h (by decide)), if_neg (eqw_f 1 (by decide) h (by decide)), if_neg (eqw_f 2 (by decide) h (by decide)), if_neg (eqw_f 4 (by decide) h (by decide)), if_neg (eqw_f 5 (by decide) h (by decide)), if_neg (eqw_f 6 (by decide) h (by decide)), if_neg (eqw_f 7 (by decide) h (by decide)), if_neg (eqw_f 8 (by decide) h (by decide)), if_neg (eqw_f 9 (by decide) h (by decide))]
theorem kw_g (h : (t p).toInt = 103) : kwd t p L = if eqw t p L 4 = true then 12 else 1 := by
  rw [kwd, if_neg (eqw_f 0 (by decide) h (by decide)), if_neg (eqw_f 1 (by decide) h (by decide)), if_neg (eqw_f 2 (by decide) h (by decide)), if_neg (eqw_f 3 (by decide) h (by decide)), if_neg (eqw_f 5 (by decide) h (by decide)), if_neg (eqw_f 6 (by decide) h (by decide)), if_neg (eqw_f 7 (by decide) h (by decide)), if_neg (eqw_f 8 (by decide) h (by decide)), if_neg (eqw_f 9 (by decide) h (by decide))]
theorem kw_m (h : (t p).toInt = 109) : kwd t p L = if eqw t p L 5 = true then 8 else 1 := by
  rw [kwd, if_neg (eqw_f 0 (by decide) h (by decide)), if_neg (eqw_f 1 (by decide) h (by decide)), if_neg (eqw_f 2 (by decide) h (by decide)), if_neg (eqw_f 3 (by decide) h (by decide)), if_neg (eqw_f 4 (by decide) h (by decide)), if_neg (eqw_f 6 (by decide) h (by decide)), if_neg (eqw_f 7 (by decide) h (by decide)), if_neg (eqw_f 8 (by decide) h (by decide)), if_neg (eqw_f 9 (by decide) h (by decide))]
theorem kw_r (h : (t p).toInt = 114) : kwd t p L = if eqw t p L 6 = true then 11 else 1 := by
  rw [kwd, if_neg (eqw_f 0 (by decide) h (by decide)), if_neg (eqw_f 1 (by decide) h (by decide)), if_neg (eqw_f 2 (by decide) h (by decide)), if_neg (eqw_f 3 (by decide) h (by decide)), if_neg (eqw_f 4 (by decide) h (by decide)), if_neg (eqw_f 5 (by decide) h (by decide)), if_neg (eqw_f 7 (by decide) h (by decide)), if_neg (eqw_f 8 (by decide) h (by decide)), if_neg (eqw_f 9 (by decide) h (by decide))]
theorem kw_t (h : (t p).toInt = 116) : kwd t p L = if eqw t p L 7 = true then 10 else 1 := by
  rw [kwd, if_neg (eqw_f 0 (by decide) h (by decide)), if_neg (eqw_f 1 (by decide) h (by decide)), if_neg (eqw_f 2 (by decide) h (by decide)), if_neg (eqw_f 3 (by decide) h (by decide)), if_neg (eqw_f 4 (by decide) h (by decide)), if_neg (eqw_f 5 (by decide) h (by decide)), if_neg (eqw_f 6 (by decide) h (by decide)), if_neg (eqw_f 8 (by decide) h (by decide)), if_neg (eqw_f 9 (by decide) h (by decide))]
theorem kw_w (h : (t p).toInt = 119) : kwd t p L = if eqw t p L 8 = true then 6 else if eqw t p L 9 = true then 9 else 1 := by
  rw [kwd, if_neg (eqw_f 0 (by decide) h (by decide)), if_neg (eqw_f 1 (by decide) h (by decide)), if_neg (eqw_f 2 (by decide) h (by decide)), if_neg (eqw_f 3 (by decide) h (by decide)), if_neg (eqw_f 4 (by decide) h (by decide)), if_neg (eqw_f 5 (by decide) h (by decide)), if_neg (eqw_f 6 (by decide) h (by decide)), if_neg (eqw_f 7 (by decide) h (by decide))]
theorem kw_o {c : Int} (h : (t p).toInt = c) (hc : c ≠ 97 ∧ c ≠ 100 ∧ c ≠ 102 ∧ c ≠ 103 ∧ c ≠ 109 ∧ c ≠ 114 ∧ c ≠ 116 ∧ c ≠ 119) : kwd t p L = 1 := by
  have e : ∀ i, i < 10 → (chS i 0).toInt = 97 ∨ (chS i 0).toInt = 100 ∨ (chS i 0).toInt = 102 ∨ (chS i 0).toInt = 103 ∨ (chS i 0).toInt = 109 ∨ (chS i 0).toInt = 114 ∨ (chS i 0).toInt = 116 ∨ (chS i 0).toInt = 119 := by decide
  have z : ∀ i, i < 10 → ¬ eqw t p L i = true := fun i hi => eqw_f i hi h (by have := e i hi; omega)
  rw [kwd, if_neg (z 0 (by decide)), if_neg (z 1 (by decide)), if_neg (z 2 (by decide)), if_neg (z 3 (by decide)), if_neg (z 4 (by decide)), if_neg (z 5 (by decide)), if_neg (z 6 (by decide)), if_neg (z 7 (by decide)), if_neg (z 8 (by decide)), if_neg (z 9 (by decide))]
end KW
/-- the token behind place b: its kind (as the class numbers them), its place, what lies behind it -/
def tok (t : Nat → Int32) (n b : Nat) : Int × Nat × Nat :=
  if n ≤ spE isBl t n b then (0, spE isBl t n b, spE isBl t n b)
  else if isLe (t (spE isBl t n b)).toInt = true then (kwd t (spE isBl t n b) (spE isLe t n (spE isBl t n b) - spE isBl t n b), spE isBl t n b, spE isLe t n (spE isBl t n b))
  else if isDg (t (spE isBl t n b)).toInt = true then (if 4 < spE isDg t n (spE isBl t n b) - spE isBl t n b then 1 else 2, spE isBl t n b, spE isDg t n (spE isBl t n b))
  else (ksn (t (spE isBl t n b)).toInt, spE isBl t n b, spE isBl t n b + 1)
section TK
variable {t : Nat → Int32} {n b P e : Nat} (hP : spE isBl t n b = P)
theorem tok_0 (hP : spE isBl t n b = P) (h : n ≤ P) : tok t n b = (0, P, P) := by rw [tok, hP, if_pos h]
theorem tok_w (hP : spE isBl t n b = P) (h : P < n) (h2 : isLe (t P).toInt = true) (he : spE isLe t n P = e) : tok t n b = (kwd t P (e - P), P, e) := by rw [tok, hP, if_neg (by omega), if_pos h2, he]
theorem tok_d (hP : spE isBl t n b = P) (h : P < n) (h2 : isDg (t P).toInt = true) (he : spE isDg t n P = e) : tok t n b = (if 4 < e - P then 1 else 2, P, e) := by
  have h1 : ¬ isLe (t P).toInt = true := by
    simp only [isLe, isDg, decide_eq_true_eq] at h2 ⊢
    omega
  rw [tok, hP, if_neg (by omega), if_neg h1, if_pos h2, he]
theorem tok_s (hP : spE isBl t n b = P) (h : P < n) (h1 : isLe (t P).toInt = false) (h2 : isDg (t P).toInt = false) : tok t n b = (ksn (t P).toInt, P, P + 1) := by rw [tok, hP, if_neg (by omega), if_neg (by rw [h1]; decide), if_neg (by rw [h2]; decide)]
end TK
/-- the tokens one behind another -/
def bh (t : Nat → Int32) (n : Nat) : Nat → Nat
  | 0 => 0
  | i + 1 => (tok t n (bh t n i)).2.2
def kd (t : Nat → Int32) (n i : Nat) : Int := (tok t n (bh t n i)).1
def pl (t : Nat → Int32) (n i : Nat) : Nat := (tok t n (bh t n i)).2.1
def nv (t : Nat → Int32) (n i : Nat) : Int := nz t (pl t n i) (bh t n (i + 1) - pl t n i)
theorem tok_le {t : Nat → Int32} {n b : Nat} (hb : b ≤ n) : b ≤ (tok t n b).2.1 ∧ (tok t n b).2.1 ≤ (tok t n b).2.2 ∧ (tok t n b).2.2 ≤ n ∧ (n ≤ (tok t n b).2.1 → (tok t n b).1 = 0) ∧ ((tok t n b).2.1 < n → (tok t n b).2.1 < (tok t n b).2.2) := by
  have h1 : b ≤ spE isBl t n b := spE_ge
  have h2 : spE isBl t n b ≤ n := spE_le hb
  generalize hP : spE isBl t n b = P at *
  by_cases c0 : n ≤ P
  · rw [tok_0 hP c0]; dsimp only; omega
  · by_cases c1 : isLe (t P).toInt = true
    · rw [tok_w hP (by omega) c1 rfl]
      have h3 : P + 1 ≤ spE isLe t n (P + 1) := spE_ge
      have h4 : spE isLe t n P = spE isLe t n (P + 1) := spE_y (by omega) c1
      have h5 : spE isLe t n P ≤ n := spE_le (by omega)
      dsimp only
      omega
    · by_cases c2 : isDg (t P).toInt = true
      · rw [tok_d hP (by omega) c2 rfl]
        have h3 : P + 1 ≤ spE isDg t n (P + 1) := spE_ge
        have h4 : spE isDg t n P = spE isDg t n (P + 1) := spE_y (by omega) c2
        have h5 : spE isDg t n P ≤ n := spE_le (by omega)
        dsimp only
        omega
      · rw [tok_s hP (by omega) (by simpa using c1) (by simpa using c2)]
        dsimp only
        omega
theorem ksn_ne (c : Int) : ksn c ≠ 0 := by
  unfold ksn
  repeat' split
  all_goals decide
theorem kwd_ne (t : Nat → Int32) (p L : Nat) : kwd t p L ≠ 0 := by
  unfold kwd
  repeat' split
  all_goals decide
theorem tok_ne {t : Nat → Int32} {n b : Nat} (h : (tok t n b).2.1 < n) : (tok t n b).1 ≠ 0 := by
  generalize hP : spE isBl t n b = P at *
  by_cases c0 : n ≤ P
  · rw [tok_0 hP c0] at h; dsimp only at h; omega
  · by_cases c1 : isLe (t P).toInt = true
    · rw [tok_w hP (by omega) c1 rfl]; exact kwd_ne _ _ _
    · by_cases c2 : isDg (t P).toInt = true
      · rw [tok_d hP (by omega) c2 rfl]; dsimp only; split <;> decide
      · rw [tok_s hP (by omega) (by simpa using c1) (by simpa using c2)]; exact ksn_ne _
theorem bh_le {t : Nat → Int32} {n : Nat} : ∀ i : Nat, bh t n i ≤ n
  | 0 => Nat.zero_le _
  | i + 1 => (tok_le (bh_le i)).2.2.1
theorem kd_0 {t : Nat → Int32} {n i : Nat} : kd t n i = 0 ↔ n ≤ pl t n i := ⟨fun h => Nat.not_lt.mp fun q => tok_ne q h, (tok_le (bh_le i)).2.2.2.1⟩
theorem pl_end {t : Nat → Int32} {n i : Nat} (h : kd t n i = 0) : pl t n i = n := by
  have h1 := tok_le (t := t) (n := n) (bh_le (t := t) i)
  have h2 := kd_0.mp h
  simp only [pl] at h2 ⊢
  omega
theorem bh_step {t : Nat → Int32} {n i : Nat} (h : kd t n i ≠ 0) : bh t n i < bh t n (i + 1) := by
  have h1 := tok_le (t := t) (n := n) (bh_le (t := t) i)
  have h2 : pl t n i < n := Nat.not_le.mp (fun q => h (kd_0.mpr q))
  simp only [pl] at h2
  rw [bh]
  omega
theorem bh_ge {t : Nat → Int32} {n : Nat} : ∀ i : Nat, (∀ j, j < i → kd t n j ≠ 0) → i ≤ bh t n i
  | 0, _ => Nat.zero_le _
  | i + 1, h => by
    have h1 := bh_ge i (fun j hj => h j (by omega))
    have h2 := bh_step (h i (by omega))
    omega
/-- a number has one digit at least, all its signs are digits -/
theorem num_dg {t : Nat → Int32} {n i : Nat} (h : kd t n i = 2) : (∀ j, j < bh t n (i + 1) - pl t n i → isDg (t (pl t n i + j)).toInt = true) ∧ bh t n (i + 1) - pl t n i ≤ 4 := by
  have hb : bh t n i ≤ n := bh_le i
  have ep : pl t n i = (tok t n (bh t n i)).2.1 := rfl
  have eb : bh t n (i + 1) = (tok t n (bh t n i)).2.2 := rfl
  have ek : (tok t n (bh t n i)).1 = 2 := h
  rw [ep, eb]
  generalize bh t n i = b at *
  generalize hP : spE isBl t n b = P at *
  by_cases c0 : n ≤ P
  · rw [tok_0 hP c0] at ek; cases ek
  · by_cases c1 : isLe (t P).toInt = true
    · rw [tok_w hP (by omega) c1 rfl] at ek
      exfalso
      dsimp only at ek
      revert ek
      unfold kwd
      repeat' split
      all_goals decide
    · by_cases c2 : isDg (t P).toInt = true
      · rw [tok_d hP (by omega) c2 rfl] at ek ⊢
        dsimp only at ek ⊢
        refine ⟨fun j hj => spE_all (p := P) (n := n) (by omega) (by omega), ?_⟩
        split at ek
        · cases ek
        · omega
      · rw [tok_s hP (by omega) (by simpa using c1) (by simpa using c2)] at ek
        exfalso
        dsimp only at ek
        revert ek
        unfold ksn
        repeat' split
        all_goals decide
theorem nv_bd {t : Nat → Int32} {n i : Nat} (h : kd t n i = 2) : 0 ≤ nv t n i ∧ nv t n i ≤ 9999 := by
  have := nz_bd _ (num_dg h).1
  exact ⟨this.1, this.2.1⟩
