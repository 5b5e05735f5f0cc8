/-! THE TEXT, read from the tokens K (kinds), L (places), V (numbers): fault, next token, steps -/
abbrev pr_T : Type := Int × Nat × List Int32
def isPt (k : Int) : Bool := decide (k = 2 ∨ k = 13 ∨ k = 3 ∨ k = 4 ∨ (8 ≤ k ∧ k ≤ 12))
def sumL (K : Nat → Int) (part : Nat → pr_T) : Nat → Nat → List Int32 → pr_T
  | 0, i, c => (0, i, c)
  | f + 1, i, c => if K i = 17 ∨ K i = 18 then (if (part (i + 1)).1 = 0 then sumL K part f (part (i + 1)).2.1 (c ++ ((part (i + 1)).2.2 ++ [Int32.ofInt (-K i)])) else part (i + 1)) else (0, i, c)
def sumP (K : Nat → Int) (part : Nat → pr_T) (i : Nat) : pr_T := if (part i).1 = 0 then sumL K part 600 (part i).2.1 (part i).2.2 else part i
def ts2 (K : Nat → Int) (sm : Nat → pr_T) (j : Nat) (c : List Int32) : pr_T := if K j = 15 ∨ K j = 16 then (if (sm (j + 1)).1 = 0 then (0, (sm (j + 1)).2.1, c ++ ((sm (j + 1)).2.2 ++ [Int32.ofInt (-K j)])) else sm (j + 1)) else (0, j, c)
def tstP (K : Nat → Int) (sm : Nat → pr_T) (i : Nat) : pr_T := if (sm i).1 = 0 then ts2 K sm (sm i).2.1 (sm i).2.2 else sm i
def andL (K : Nat → Int) (tst : Nat → pr_T) : Nat → Nat → List Int32 → pr_T
  | 0, i, c => (0, i, c)
  | f + 1, i, c => if K i = 7 then (if (tst (i + 1)).1 = 0 then andL K tst f (tst (i + 1)).2.1 (c ++ ((tst (i + 1)).2.2 ++ [Int32.ofInt (-7)])) else tst (i + 1)) else (0, i, c)
def andP (K : Nat → Int) (tst : Nat → pr_T) (i : Nat) : pr_T := if (tst i).1 = 0 then andL K tst 600 (tst i).2.1 (tst i).2.2 else tst i
def tssP (K : Nat → Int) (part : Nat → pr_T) : Nat → pr_T := andP K (tstP K (sumP K part))
def cls2 (K : Nat → Int) (L : Nat → Nat) (r : pr_T) : pr_T := if r.1 = 0 then (if K r.2.1 = 14 then (0, r.2.1 + 1, r.2.2) else (1 + 16 * (L r.2.1 : Int), 0, [])) else r
def parE (K : Nat → Int) (L : Nat → Nat) (V : Nat → Int) (tss : Nat → pr_T) (i : Nat) : pr_T := if isPt (K i) = true then (if K i = 13 then cls2 K L (tss (i + 1)) else if K i = 2 then (0, i + 1, [Int32.ofInt (V i)]) else (0, i + 1, [Int32.ofInt (-K i)])) else (1 + 16 * (L i : Int), 0, [])
/-- a PART, where e more may stand within one another -/
def parD (K : Nat → Int) (L : Nat → Nat) (V : Nat → Int) : Nat → Nat → pr_T
  | 0 => fun i => if isPt (K i) = true then (5 + 16 * (L i : Int), 0, []) else (1 + 16 * (L i : Int), 0, [])
  | e + 1 => parE K L V (tssP K (parD K L V e))
/-- what is read: it goes ahead, not beyond the end, a token makes at most one step -/
def okR (N : Nat) (R : Nat → pr_T) : Prop := ∀ i, i ≤ N → (R i).1 = 0 → i < (R i).2.1 ∧ (R i).2.1 ≤ N ∧ (R i).2.2.length ≤ (R i).2.1 - i
section OKR
variable {K : Nat → Int} {L : Nat → Nat} {V : Nat → Int} {N : Nat}
theorem okR_sumL {part : Nat → pr_T} (hE : ∀ j, j ≤ N → K j ≠ 0 → j < N) (hp : okR N part) {i0 : Nat} : ∀ (f j : Nat) (l : List Int32), j ≤ N → i0 < j → l.length ≤ j - i0 → (sumL K part f j l).1 = 0 → i0 < (sumL K part f j l).2.1 ∧ (sumL K part f j l).2.1 ≤ N ∧ (sumL K part f j l).2.2.length ≤ (sumL K part f j l).2.1 - i0
  | 0, j, l, h1, h2, h3, _ => ⟨h2, h1, h3⟩
  | f + 1, j, l, h1, h2, h3, h4 => by
    rw [sumL] at h4 ⊢
    by_cases c1 : K j = 17 ∨ K j = 18
    · rw [if_pos c1] at h4 ⊢
      have hj := hE j h1 (by omega)
      by_cases c2 : (part (j + 1)).1 = 0
      · rw [if_pos c2] at h4 ⊢
        obtain ⟨a1, a2, a3⟩ := hp (j + 1) (by omega) c2
        exact okR_sumL hE hp f _ _ a2 (by omega) (by simp only [List.length_append, List.length_cons, List.length_nil]; omega) h4
      · rw [if_neg c2] at h4; exact absurd h4 c2
    · rw [if_neg c1] at h4 ⊢; exact ⟨h2, h1, h3⟩
theorem okR_sum {part : Nat → pr_T} (hE : ∀ j, j ≤ N → K j ≠ 0 → j < N) (hp : okR N part) : okR N (sumP K part) := by
  intro i hi h
  rw [sumP] at h ⊢
  by_cases c2 : (part i).1 = 0
  · rw [if_pos c2] at h ⊢
    obtain ⟨a1, a2, a3⟩ := hp i hi c2
    exact okR_sumL hE hp 600 _ _ a2 a1 a3 h
  · rw [if_neg c2] at h; exact absurd h c2
theorem okR_tst {sm : Nat → pr_T} (hE : ∀ j, j ≤ N → K j ≠ 0 → j < N) (hp : okR N sm) : okR N (tstP K sm) := by
  intro i hi h
  rw [tstP] at h ⊢
  by_cases c2 : (sm i).1 = 0
  · rw [if_pos c2] at h ⊢
    obtain ⟨a1, a2, a3⟩ := hp i hi c2
    rw [ts2] at h ⊢
    by_cases c1 : K (sm i).2.1 = 15 ∨ K (sm i).2.1 = 16
    · rw [if_pos c1] at h ⊢
      have hj := hE _ a2 (by omega)
      by_cases c3 : (sm ((sm i).2.1 + 1)).1 = 0
      · rw [if_pos c3]
        obtain ⟨b1, b2, b3⟩ := hp _ (by omega) c3
        refine ⟨by dsimp only; omega, b2, ?_⟩
        simp only [List.length_append, List.length_cons, List.length_nil]
        omega
      · rw [if_neg c3] at h; exact absurd h c3
    · rw [if_neg c1]; exact ⟨a1, a2, a3⟩
  · rw [if_neg c2] at h; exact absurd h c2
theorem okR_andL {tst : Nat → pr_T} (hE : ∀ j, j ≤ N → K j ≠ 0 → j < N) (hp : okR N tst) {i0 : Nat} : ∀ (f j : Nat) (l : List Int32), j ≤ N → i0 < j → l.length ≤ j - i0 → (andL K tst f j l).1 = 0 → i0 < (andL K tst f j l).2.1 ∧ (andL K tst f j l).2.1 ≤ N ∧ (andL K tst f j l).2.2.length ≤ (andL K tst f j l).2.1 - i0
  | 0, j, l, h1, h2, h3, _ => ⟨h2, h1, h3⟩
  | f + 1, j, l, h1, h2, h3, h4 => by
    rw [andL] at h4 ⊢
    by_cases c1 : K j = 7
    · rw [if_pos c1] at h4 ⊢
      have hj := hE j h1 (by omega)
      by_cases c2 : (tst (j + 1)).1 = 0
      · rw [if_pos c2] at h4 ⊢
        obtain ⟨a1, a2, a3⟩ := hp (j + 1) (by omega) c2
        exact okR_andL hE hp f _ _ a2 (by omega) (by simp only [List.length_append, List.length_cons, List.length_nil]; omega) h4
      · rw [if_neg c2] at h4; exact absurd h4 c2
    · rw [if_neg c1] at h4 ⊢; exact ⟨h2, h1, h3⟩
theorem okR_and {tst : Nat → pr_T} (hE : ∀ j, j ≤ N → K j ≠ 0 → j < N) (hp : okR N tst) : okR N (andP K tst) := by
  intro i hi h
  rw [andP] at h ⊢
  by_cases c2 : (tst i).1 = 0
  · rw [if_pos c2] at h ⊢
    obtain ⟨a1, a2, a3⟩ := hp i hi c2
    exact okR_andL hE hp 600 _ _ a2 a1 a3 h
  · rw [if_neg c2] at h; exact absurd h c2
theorem okR_tss {part : Nat → pr_T} (hE : ∀ j, j ≤ N → K j ≠ 0 → j < N) (hp : okR N part) : okR N (tssP K part) := okR_and hE (okR_tst hE (okR_sum hE hp))
theorem okR_parE {tss : Nat → pr_T} (hE : ∀ j, j ≤ N → K j ≠ 0 → j < N) (hp : okR N tss) : okR N (parE K L V tss) := by
  intro i hi h
  rw [parE] at h ⊢
  by_cases c0 : isPt (K i) = true
  · rw [if_pos c0] at h ⊢
    have hj := hE i hi (by simp only [isPt, decide_eq_true_eq] at c0; omega)
    by_cases c1 : K i = 13
    · rw [if_pos c1] at h ⊢
      rw [cls2] at h ⊢
      by_cases c2 : (tss (i + 1)).1 = 0
      · rw [if_pos c2] at h ⊢
        obtain ⟨a1, a2, a3⟩ := hp _ (by omega) c2
        by_cases c3 : K (tss (i + 1)).2.1 = 14
        · rw [if_pos c3]
          have hj2 := hE _ a2 (by omega)
          dsimp only
          omega
        · rw [if_neg c3] at h; dsimp only at h; omega
      · rw [if_neg c2] at h; exact absurd h c2
    · rw [if_neg c1]
      split <;> (dsimp only [List.length_cons, List.length_nil]; omega)
  · rw [if_neg c0] at h; dsimp only at h; omega
theorem okR_parD (hE : ∀ j, j ≤ N → K j ≠ 0 → j < N) : ∀ e : Nat, okR N (parD K L V e)
  | 0 => by
    intro i hi h
    rw [parD] at h
    dsimp only at h
    split at h <;> (dsimp only at h; omega)
  | e + 1 => by
    rw [parD]
    exact okR_parE hE (okR_tss hE (okR_parD hE e))
end OKR
/-- steps laid into a row from place c on -/
def apL (sp : Nat → Int32) : Nat → List Int32 → (Nat → Int32)
  | _, [] => sp
  | c, v :: r => apL (va_up sp c v) (c + 1) r
theorem apL_app : ∀ (l : List Int32) (c : Nat) (l2 : List Int32) (sp : Nat → Int32), apL sp c (l ++ l2) = apL (apL sp c l) (c + l.length) l2
  | [], c, l2, sp => rfl
  | v :: r, c, l2, sp => by
    show apL (va_up sp c v) (c + 1) (r ++ l2) = apL (apL (va_up sp c v) (c + 1) r) (c + (r.length + 1)) l2
    rw [apL_app r (c + 1) l2, show c + 1 + r.length = c + (r.length + 1) by omega]
theorem apL_3 {sp : Nat → Int32} {c : Nat} {l l2 : List Int32} {v : Int32} : va_up (apL (apL sp c l) (c + l.length) l2) (c + l.length + l2.length) v = apL sp c (l ++ (l2 ++ [v])) := by
  rw [apL_app, apL_app]
  rfl
theorem len_3 {c : Nat} {l l2 : List Int32} {v : Int32} : c + l.length + l2.length + 1 = c + (l ++ (l2 ++ [v])).length := by
  simp only [List.length_append, List.length_cons, List.length_nil]
  omega
