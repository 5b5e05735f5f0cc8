/-! a roast in the class: its minutes -/
theorem gC_hp {y : mt_T} {d mc ms : Nat} {as : List Value} {sh : sh_T} {h1 h2 : hp_T} {Q : Option Value → sh_T → hp_T → Prop} (e : h1 = h2) (k : gC y d mc ms as sh h2 Q) : gC y d mc ms as sh h1 Q := e ▸ k
abbrev q3 : Type := Int32 × Int32 × Int32
/-- warmth, rise, minutes gone, farthest, (fire, drum, dropped) -/
abbrev s6 : Type := Int32 × Int32 × Int32 × Int32 × q3
def absI (x : Int32) : Int32 := if 0 ≤ x.toInt then x else -x
def maxI (x z : Int32) : Int32 := if z.toInt ≤ x.toInt then x else z
def minI (x z : Int32) : Int32 := if x.toInt ≤ z.toInt then x else z
def vnP (tw : Nat → Int32) (m w r g : Int32) (q : q3) (k : Int) : Int32 := if k = 3 then q.1 else if k = 4 then q.2.1 else if k = 8 then m else if k = 9 then w else if k = 10 then tw m.toInt.toNat else if k = 11 then r else g
def lnP (ac am : Nat → Int32) (vl : Nat → q3 → Int32) : Nat → Nat → q3 → q3
  | 0, _, q => q
  | f + 1, k, q => if q.2.2.toInt = 0 then lnP ac am vl f (k + 1) (if (vl k q).toInt ≠ 0 then (if (ac k).toInt = 3 then (am k, q.2) else if (ac k).toInt = 4 then (q.1, am k, q.2.2) else (q.1, q.2.1, 1)) else q) else q
def mnP (G : Int32 → Int32 → Int32 → q3 → q3) (tw : Nat → Int32) : Nat → Nat → s6 → s6
  | 0, _, s => s
  | f + 1, k, s => if s.2.2.2.2.2.2.toInt ≠ 0 then s else mnP G tw f (k + 1) (if (G (nI k) s.1 s.2.1 s.2.2.2.2).2.2.toInt = 0 then (clmp (s.1 + 4 * (G (nI k) s.1 s.2.1 s.2.2.2.2).1 - (s.1 - 20) / 20 - (G (nI k) s.1 s.2.1 s.2.2.2.2).2.1), clmp (s.1 + 4 * (G (nI k) s.1 s.2.1 s.2.2.2.2).1 - (s.1 - 20) / 20 - (G (nI k) s.1 s.2.1 s.2.2.2.2).2.1) - s.1, s.2.2.1 + 1, maxI s.2.2.2.1 (absI (s.1 - tw k)), G (nI k) s.1 s.2.1 s.2.2.2.2) else (s.1, s.2.1, s.2.2.1, maxI s.2.2.2.1 (absI (s.1 - tw k)), G (nI k) s.1 s.2.1 s.2.2.2.2))
def lossX (s : s6) : Int32 := minI 600 (s.1 / 4 + 3 * s.2.2.1)
def s_0 : s6 := (200, 0, 0, 0, 5, 5, 0)
/-- what the lines of the rules rc make of fire, drum, dropped in minute m at warmth w, rise r -/
def gX (hp : hp_T) (rc : Nat) (g m w r : Int32) (q : q3) : q3 := lnP (hp.1 (rc + 1)) (hp.1 (rc + 2)) (fun k q => valX (vnP (hp.1 16) m w r g q) (hp.1 (rc + 4)) ((hp.1 (rc + 3) k).toInt - frX hp rc (k : Int)).toNat (frX hp rc (k : Int)).toNat) (hp.1 rc 0).toInt.toNat 0 q
theorem gtX_ln {hp : hp_T} {rc : Nat} : ∀ {f k : Nat} {q : q3}, gtX hp rc f k q = lnP (hp.1 (rc + 1)) (hp.1 (rc + 2)) (fun k q => valX (vnP (hp.1 16) (hp.1 15 4) (hp.1 15 5) (hp.1 15 8) (hp.1 15 3) q) (hp.1 (rc + 4)) ((hp.1 (rc + 3) k).toInt - frX hp rc (k : Int)).toNat (frX hp rc (k : Int)).toNat) f k q
  | 0, _, _ => rfl
  | f + 1, k, q => by
    rw [gtX, lnP]
    split
    · rw [gtX_ln]
      rfl
    · rfl
/-- the roaster's row -/
def RO (R : Nat → Int32) (l g mi : Int32) (s : s6) (i : Nat) : Int32 := if i = 0 then l else if i = 2 then 1 else if i = 3 then g else if i = 4 then mi else if i = 5 then s.1 else if i = 6 then s.2.2.2.2.1 else if i = 7 then s.2.2.2.2.2.1 else if i = 8 then s.2.1 else if i = 9 then s.2.2.1 else if i = 10 then s.2.2.2.2.2.2 else if i = 11 then s.2.2.2.1 else R i
theorem ro_cases {P : Nat → Prop} (h : ∀ i, i ∈ [0, 2, 3, 4, 5, 6, 7, 8, 9, 10, 11] → P i) (h2 : ∀ i, i ≠ 0 → i ≠ 2 → i ≠ 3 → i ≠ 4 → i ≠ 5 → i ≠ 6 → i ≠ 7 → i ≠ 8 → i ≠ 9 → i ≠ 10 → i ≠ 11 → P i) (i : Nat) : P i := by
  by_cases hi : i ∈ [0, 2, 3, 4, 5, 6, 7, 8, 9, 10, 11]
  · exact h i hi
  · simp only [List.mem_cons, List.not_mem_nil, or_false, not_or] at hi
    obtain ⟨a, b, c, d, e, f, g, j, k, l, m⟩ := hi
    exact h2 i a b c d e f g j k l m
theorem ro_far9 {hp : hp_T} {z : (Nat → Int32) × Nat} {R : Nat → Int32} {l g mi i v : Int32} {s : s6} : sI (sI (WX (sR hp 15 (RO R l g mi s)) 9 z) 15 4 i) 15 11 v = WX (FQ (sR hp 15 (RO R l g i (s.1, s.2.1, s.2.2.1, v, s.2.2.2.2))) s.2.2.2.2) 9 z := by
  refine two_ext (fun c => ?_) rfl
  by_cases h1 : c = 15
  · subst h1
    refine ro_cases (fun i hi => ?_) (fun i a0 a2 a3 a4 a5 a6 a7 a8 a9 a10 a11 => ?_)
    · simp only [List.mem_cons, List.not_mem_nil, or_false] at hi
      rcases hi with rfl | rfl | rfl | rfl | rfl | rfl | rfl | rfl | rfl | rfl | rfl <;> rfl
    · simp [WX, FQ, sI, sR, va_up, RO, a0, a2, a3, a4, a5, a6, a7, a8, a9, a10, a11]
  · by_cases h2 : c = 9
    · subst h2
      intro i
      rfl
    · by_cases h3 : c = 14
      · subst h3
        intro i
        rfl
      · intro i
        simp [WX, FQ, sI, sR, va_up, h1, h2, h3]
theorem ro_q9 {hp : hp_T} {z : (Nat → Int32) × Nat} {R : Nat → Int32} {l g mi a bb c v : Int32} {q q0 : q3} : WX (FQ (sR hp 15 (RO R l g mi (a, bb, c, v, q0))) q) 9 z = WX (sR hp 15 (RO R l g mi (a, bb, c, v, q))) 9 z := by
  refine two_ext (fun c => ?_) rfl
  by_cases h1 : c = 15
  · subst h1
    refine ro_cases (fun i hi => ?_) (fun i a0 a2 a3 a4 a5 a6 a7 a8 a9 a10 a11 => ?_)
    · simp only [List.mem_cons, List.not_mem_nil, or_false] at hi
      rcases hi with rfl | rfl | rfl | rfl | rfl | rfl | rfl | rfl | rfl | rfl | rfl <;> rfl
    · simp [WX, FQ, sI, sR, va_up, RO, a0, a2, a3, a4, a5, a6, a7, a8, a9, a10, a11]
  · by_cases h2 : c = 9
    · subst h2
      intro i
      rfl
    · by_cases h3 : c = 14
      · subst h3
        intro i
        rfl
      · intro i
        simp [WX, FQ, sI, sR, va_up, h1, h2, h3]
theorem ro_grow9 {hp : hp_T} {z : (Nat → Int32) × Nat} {R : Nat → Int32} {l g mi a bb c : Int32} {s : s6} : sI (sI (sI (WX (sR hp 15 (RO R l g mi s)) 9 z) 15 8 bb) 15 5 a) 15 9 c = WX (sR hp 15 (RO R l g mi (a, bb, c, s.2.2.2.1, s.2.2.2.2))) 9 z := by
  refine two_ext (fun c => ?_) rfl
  by_cases h1 : c = 15
  · subst h1
    refine ro_cases (fun i hi => ?_) (fun i a0 a2 a3 a4 a5 a6 a7 a8 a9 a10 a11 => ?_)
    · simp only [List.mem_cons, List.not_mem_nil, or_false] at hi
      rcases hi with rfl | rfl | rfl | rfl | rfl | rfl | rfl | rfl | rfl | rfl | rfl <;> rfl
    · simp [WX, FQ, sI, sR, va_up, RO, a0, a2, a3, a4, a5, a6, a7, a8, a9, a10, a11]
  · by_cases h2 : c = 9
    · subst h2
      intro i
      rfl
    · by_cases h3 : c = 14
      · subst h3
        intro i
        rfl
      · intro i
        simp [WX, FQ, sI, sR, va_up, h1, h2, h3]
theorem ro_loss9 {hp : hp_T} {z : (Nat → Int32) × Nat} {R : Nat → Int32} {l g mi a : Int32} {s : s6} : WX (sR hp 15 (RO R a g mi s)) 9 z = sI (WX (sR hp 15 (RO R l g mi s)) 9 z) 15 0 a := by
  refine two_ext (fun c => ?_) rfl
  by_cases h1 : c = 15
  · subst h1
    refine ro_cases (fun i hi => ?_) (fun i a0 a2 a3 a4 a5 a6 a7 a8 a9 a10 a11 => ?_)
    · simp only [List.mem_cons, List.not_mem_nil, or_false] at hi
      rcases hi with rfl | rfl | rfl | rfl | rfl | rfl | rfl | rfl | rfl | rfl | rfl <;> rfl
    · simp [WX, FQ, sI, sR, va_up, RO, a0, a2, a3, a4, a5, a6, a7, a8, a9, a10, a11]
  · by_cases h2 : c = 9
    · subst h2
      intro i
      rfl
    · by_cases h3 : c = 14
      · subst h3
        intro i
        rfl
      · intro i
        simp [WX, FQ, sI, sR, va_up, h1, h2, h3]
theorem ro_start9 {hp : hp_T} {g : Int32} (h : 0 ≤ (hp.1 9 7).toInt) : sI (sI (sI (sI (sI (sI (sI (sI (sI (sI (sI hp 15 3 g) 15 4 0) 15 5 200) 15 6 5) 15 7 5) 15 8 0) 15 9 0) 15 10 0) 15 11 0) 15 0 0) 15 2 1 = WX (sR hp 15 (RO (hp.1 15) 0 g 0 s_0)) 9 (hp.1 14, (hp.1 9 7).toInt.toNat) := by
  refine two_ext (fun c => ?_) rfl
  by_cases h1 : c = 15
  · subst h1
    refine ro_cases (fun i hi => ?_) (fun i a0 a2 a3 a4 a5 a6 a7 a8 a9 a10 a11 => ?_)
    · simp only [List.mem_cons, List.not_mem_nil, or_false] at hi
      rcases hi with rfl | rfl | rfl | rfl | rfl | rfl | rfl | rfl | rfl | rfl | rfl <;> rfl
    · simp [WX, FQ, sI, sR, va_up, RO, a0, a2, a3, a4, a5, a6, a7, a8, a9, a10, a11]
  · by_cases h2 : c = 9
    · subst h2
      intro i
      by_cases hi : i = 7
      · subst hi
        exact eq_nI (show (hp.1 9 7).toInt = _ from by omega) (by have := ia_bd (hp.1 9 7); omega)
      · simp [WX, sI, sR, va_up, hi]
    · by_cases h3 : c = 14
      · subst h3
        intro i
        rfl
      · intro i
        simp [WX, FQ, sI, sR, va_up, h1, h2, h3]
theorem ro_far37 {hp : hp_T} {z : (Nat → Int32) × Nat} {R : Nat → Int32} {l g mi i v : Int32} {s : s6} : sI (sI (WX (sR hp 15 (RO R l g mi s)) 37 z) 15 4 i) 15 11 v = WX (FQ (sR hp 15 (RO R l g i (s.1, s.2.1, s.2.2.1, v, s.2.2.2.2))) s.2.2.2.2) 37 z := by
  refine two_ext (fun c => ?_) rfl
  by_cases h1 : c = 15
  · subst h1
    refine ro_cases (fun i hi => ?_) (fun i a0 a2 a3 a4 a5 a6 a7 a8 a9 a10 a11 => ?_)
    · simp only [List.mem_cons, List.not_mem_nil, or_false] at hi
      rcases hi with rfl | rfl | rfl | rfl | rfl | rfl | rfl | rfl | rfl | rfl | rfl <;> rfl
    · simp [WX, FQ, sI, sR, va_up, RO, a0, a2, a3, a4, a5, a6, a7, a8, a9, a10, a11]
  · by_cases h2 : c = 37
    · subst h2
      intro i
      rfl
    · by_cases h3 : c = 42
      · subst h3
        intro i
        rfl
      · intro i
        simp [WX, FQ, sI, sR, va_up, h1, h2, h3]
theorem ro_q37 {hp : hp_T} {z : (Nat → Int32) × Nat} {R : Nat → Int32} {l g mi a bb c v : Int32} {q q0 : q3} : WX (FQ (sR hp 15 (RO R l g mi (a, bb, c, v, q0))) q) 37 z = WX (sR hp 15 (RO R l g mi (a, bb, c, v, q))) 37 z := by
  refine two_ext (fun c => ?_) rfl
  by_cases h1 : c = 15
  · subst h1
    refine ro_cases (fun i hi => ?_) (fun i a0 a2 a3 a4 a5 a6 a7 a8 a9 a10 a11 => ?_)
    · simp only [List.mem_cons, List.not_mem_nil, or_false] at hi
      rcases hi with rfl | rfl | rfl | rfl | rfl | rfl | rfl | rfl | rfl | rfl | rfl <;> rfl
    · simp [WX, FQ, sI, sR, va_up, RO, a0, a2, a3, a4, a5, a6, a7, a8, a9, a10, a11]
  · by_cases h2 : c = 37
    · subst h2
      intro i
      rfl
    · by_cases h3 : c = 42
      · subst h3
        intro i
        rfl
      · intro i
        simp [WX, FQ, sI, sR, va_up, h1, h2, h3]
theorem ro_grow37 {hp : hp_T} {z : (Nat → Int32) × Nat} {R : Nat → Int32} {l g mi a bb c : Int32} {s : s6} : sI (sI (sI (WX (sR hp 15 (RO R l g mi s)) 37 z) 15 8 bb) 15 5 a) 15 9 c = WX (sR hp 15 (RO R l g mi (a, bb, c, s.2.2.2.1, s.2.2.2.2))) 37 z := by
  refine two_ext (fun c => ?_) rfl
  by_cases h1 : c = 15
  · subst h1
    refine ro_cases (fun i hi => ?_) (fun i a0 a2 a3 a4 a5 a6 a7 a8 a9 a10 a11 => ?_)
    · simp only [List.mem_cons, List.not_mem_nil, or_false] at hi
      rcases hi with rfl | rfl | rfl | rfl | rfl | rfl | rfl | rfl | rfl | rfl | rfl <;> rfl
    · simp [WX, FQ, sI, sR, va_up, RO, a0, a2, a3, a4, a5, a6, a7, a8, a9, a10, a11]
  · by_cases h2 : c = 37
    · subst h2
      intro i
      rfl
    · by_cases h3 : c = 42
      · subst h3
        intro i
        rfl
      · intro i
        simp [WX, FQ, sI, sR, va_up, h1, h2, h3]
theorem ro_loss37 {hp : hp_T} {z : (Nat → Int32) × Nat} {R : Nat → Int32} {l g mi a : Int32} {s : s6} : WX (sR hp 15 (RO R a g mi s)) 37 z = sI (WX (sR hp 15 (RO R l g mi s)) 37 z) 15 0 a := by
  refine two_ext (fun c => ?_) rfl
  by_cases h1 : c = 15
  · subst h1
    refine ro_cases (fun i hi => ?_) (fun i a0 a2 a3 a4 a5 a6 a7 a8 a9 a10 a11 => ?_)
    · simp only [List.mem_cons, List.not_mem_nil, or_false] at hi
      rcases hi with rfl | rfl | rfl | rfl | rfl | rfl | rfl | rfl | rfl | rfl | rfl <;> rfl
    · simp [WX, FQ, sI, sR, va_up, RO, a0, a2, a3, a4, a5, a6, a7, a8, a9, a10, a11]
  · by_cases h2 : c = 37
    · subst h2
      intro i
      rfl
    · by_cases h3 : c = 42
      · subst h3
        intro i
        rfl
      · intro i
        simp [WX, FQ, sI, sR, va_up, h1, h2, h3]
theorem ro_start37 {hp : hp_T} {g : Int32} (h : 0 ≤ (hp.1 37 7).toInt) : sI (sI (sI (sI (sI (sI (sI (sI (sI (sI (sI hp 15 3 g) 15 4 0) 15 5 200) 15 6 5) 15 7 5) 15 8 0) 15 9 0) 15 10 0) 15 11 0) 15 0 0) 15 2 1 = WX (sR hp 15 (RO (hp.1 15) 0 g 0 s_0)) 37 (hp.1 42, (hp.1 37 7).toInt.toNat) := by
  refine two_ext (fun c => ?_) rfl
  by_cases h1 : c = 15
  · subst h1
    refine ro_cases (fun i hi => ?_) (fun i a0 a2 a3 a4 a5 a6 a7 a8 a9 a10 a11 => ?_)
    · simp only [List.mem_cons, List.not_mem_nil, or_false] at hi
      rcases hi with rfl | rfl | rfl | rfl | rfl | rfl | rfl | rfl | rfl | rfl | rfl <;> rfl
    · simp [WX, FQ, sI, sR, va_up, RO, a0, a2, a3, a4, a5, a6, a7, a8, a9, a10, a11]
  · by_cases h2 : c = 37
    · subst h2
      intro i
      by_cases hi : i = 7
      · subst hi
        exact eq_nI (show (hp.1 37 7).toInt = _ from by omega) (by have := ia_bd (hp.1 37 7); omega)
      · simp [WX, sI, sR, va_up, hi]
    · by_cases h3 : c = 42
      · subst h3
        intro i
        rfl
      · intro i
        simp [WX, FQ, sI, sR, va_up, h1, h2, h3]
section S27
variable {d : Nat} {sh : sh_T} {hp : hp_T} {Q : Option Value → sh_T → hp_T → Prop} {b : Bool} {xs : sh_T}
theorem c_abs {x : Int32} (h : Q (some (.int (absI x))) sh hp) : gC mJ9_abs_0f7a4 d 0 0 [.int x] sh hp Q := by
  refine c_J9_abs_0f7a4 (xI := _) rfl (fun q => ?_) (fun q => ?_)
  · rw [absI, if_pos q] at h; exact h
  · rw [absI, if_neg (by omega)] at h; exact h
theorem c_max {x z : Int32} (h : Q (some (.int (maxI x z))) sh hp) : gC mJ9_max_7cf53 d 0 0 [.int x, .int z] sh hp Q := by
  refine c_J9_max_7cf53 (xI := _) (zI := _) rfl rfl (fun q => ?_) (fun q => ?_)
  · rw [maxI, if_pos q] at h; exact h
  · rw [maxI, if_neg (by omega)] at h; exact h
theorem c_min {x z : Int32} (h : Q (some (.int (minI x z))) sh hp) : gC mJ9_min_7cf53 d 0 0 [.int x, .int z] sh hp Q := by
  refine c_J9_min_7cf53 (xI := _) (zI := _) rfl rfl (fun q => ?_) (fun q => ?_)
  · rw [minI, if_pos q] at h; exact h
  · rw [minI, if_neg (by omega)] at h; exact h
theorem lp_X4_run_9  {T : Nat} (hsp : T ≤ 600 ∧ ∀ i, i < T → -20 ≤ (hp.1 13 i).toInt) (hn : 0 ≤ (hp.1 9 0).toInt ∧ (hp.1 9 0).toInt ≤ 16) (hse : ∀ k : Nat, (k : Int) < (hp.1 9 0).toInt → 0 ≤ frX hp 9 (k : Int) ∧ frX hp 9 (k : Int) ≤ (hp.1 12 k).toInt ∧ (hp.1 12 k).toInt ≤ (T : Int)) {g : Int32} {s0 : s6} (h1 : (∀ (mi : Int32) (z : (Nat → Int32) × Nat), z.2 ≤ 16 → Q none (SH b xs) (WX (sR hp 15 (RO (hp.1 15) (lossX s0) g mi s0)) 9 z))) : ∀ (f k : Nat) (i mi : Int32) (s : s6) (z : (Nat → Int32) × Nat), i.toInt = (k : Int) → k ≤ 20 → z.2 ≤ 16 → mnP (gX hp 9 g) (hp.1 16) (20 - k) k s = s0 → 20 - k < f → gG mX4_run (d + 4) 0 0 (zQ 0 0 Q) 0 0 (12, [.ref 15, .int g, .ref 9, .int i], [], (SH b xs), (WX (sR hp 15 (RO (hp.1 15) 0 g mi s)) 9 z)) := by
  intro f
  induction f with
  | zero => intros; omega
  | succ f ih =>
    intro k i mi s z iE hk hz hE hf
    refine g_run 2 rfl ?_
    refine gj_ge (kx := (k : Int)) (kz := 20) rfl iE (by decide) (fun k1 => ?_) (fun k1 => ?_)
    · refine g_run 5 rfl ?_
      refine g_idiv rfl (by first | decide | (intro q; rw [ia_eq] at q; simp at q; omega)) ?_
      refine g_run 5 rfl ?_
      refine g_callS0 rfl LX4_81 rfl rfl ?_
      refine c_min ?_
      refine g_run 1 rfl ?_
      first | (rw [show 20 - k = 0 by omega, mnP] at hE; subst hE; exact g_vret rfl rfl (ro_loss9 ▸ h1 _ _ hz)) | (rw [show 20 - k = (20 - (k + 1)) + 1 by omega, mnP, if_pos (by omega)] at hE; subst hE; exact g_vret rfl rfl (ro_loss9 ▸ h1 _ _ hz))
    · refine g_run 2 rfl ?_
      refine gz_ne (kx := s.2.2.2.2.2.2.toInt) rfl rfl (fun k2 => ?_) (fun k2 => ?_)
      · refine g_run 5 rfl ?_
        refine g_idiv rfl (by first | decide | (intro q; rw [ia_eq] at q; simp at q; omega)) ?_
        refine g_run 5 rfl ?_
        refine g_callS0 rfl LX4_81 rfl rfl ?_
        refine c_min ?_
        refine g_run 1 rfl ?_
        first | (rw [show 20 - k = 0 by omega, mnP] at hE; subst hE; exact g_vret rfl rfl (ro_loss9 ▸ h1 _ _ hz)) | (rw [show 20 - k = (20 - (k + 1)) + 1 by omega, mnP, if_pos (by omega)] at hE; subst hE; exact g_vret rfl rfl (ro_loss9 ▸ h1 _ _ hz))
      · refine g_run 11 rfl ?_
        refine g_iald (j := k) rfl rfl ((show _ = (k : Int) from iE).trans (by omega)) (by omega) ?_
        refine g_run 1 rfl ?_
        refine g_callS0 rfl LX4_64 rfl rfl ?_
        refine c_abs ?_
        refine g_callS0 rfl LX4_70 rfl rfl ?_
        refine c_max ?_
        refine g_run 3 rfl ?_
        refine g_callV0 rfl LX4_74 rfl rfl rfl rfl ?_
        refine gC_hp (ro_far9) ?_
        refine c_X4_goThrough_9 (hp := (sR hp 15 (RO (hp.1 15) 0 g i (s.1, s.2.1, s.2.2.1, (maxI s.2.2.2.1 (absI (s.1 - hp.1 16 k))), s.2.2.2.2)))) (q := s.2.2.2.2) (z := z) (show 0 ≤ i.toInt ∧ i.toInt < 20 from by omega) hsp hn hse hz (fun z1 hz1 => ?_)
        have ei : i = nI k := eq_nI iE (by omega)
        rw [show gtX (sR hp 15 (RO (hp.1 15) 0 g i (s.1, s.2.1, s.2.2.1, (maxI s.2.2.2.1 (absI (s.1 - hp.1 16 k))), s.2.2.2.2))) 9 (((sR hp 15 (RO (hp.1 15) 0 g i (s.1, s.2.1, s.2.2.1, (maxI s.2.2.2.1 (absI (s.1 - hp.1 16 k))), s.2.2.2.2)))).1 9 0).toInt.toNat 0 s.2.2.2.2 = ((gX hp 9 g) (nI k) s.1 s.2.1 s.2.2.2.2) from by rw [gtX_ln]; subst ei; rfl]
        refine gG_hp (ro_q9 (z := z1)) ?_
        refine g_run 2 rfl ?_
        refine gz_ne (kx := (((gX hp 9 g) (nI k) s.1 s.2.1 s.2.2.2.2).2.2).toInt) rfl rfl (fun k3 => ?_) (fun k3 => ?_)
        · refine g_run 2 rfl ?_
          rw [show 20 - k = (20 - (k + 1)) + 1 by omega, mnP, if_neg (by omega)] at hE
          rw [if_neg (by assumption)] at hE
          exact ih (k + 1) _ _ _ _ (inc1 iE (by omega)) (by omega) hz1 hE (by omega)
        · refine g_run 1 rfl ?_
          refine g_callV0 rfl LX4_78 rfl rfl rfl rfl ?_
          refine c_X4_grow ?_
          refine gG_hp (ro_grow9 (z := z1) (s := (s.1, s.2.1, s.2.2.1, (maxI s.2.2.2.1 (absI (s.1 - hp.1 16 k))), ((gX hp 9 g) (nI k) s.1 s.2.1 s.2.2.2.2)))) ?_
          refine g_run 2 rfl ?_
          rw [show 20 - k = (20 - (k + 1)) + 1 by omega, mnP, if_neg (by omega)] at hE
          rw [if_pos (by assumption)] at hE
          exact ih (k + 1) _ _ _ _ (inc1 iE (by omega)) (by omega) hz1 hE (by omega)
theorem c_X4_run_9 {T : Nat} (hsp : T ≤ 600 ∧ ∀ i, i < T → -20 ≤ (hp.1 13 i).toInt) (hn : 0 ≤ (hp.1 9 0).toInt ∧ (hp.1 9 0).toInt ≤ 16) (hse : ∀ k : Nat, (k : Int) < (hp.1 9 0).toInt → 0 ≤ frX hp 9 (k : Int) ∧ frX hp 9 (k : Int) ≤ (hp.1 12 k).toInt ∧ (hp.1 12 k).toInt ≤ (T : Int)) {g : Int32} (hw : 0 ≤ (hp.1 9 7).toInt ∧ (hp.1 9 7).toInt ≤ 16) (h1 : ∀ (mi : Int32) (z : (Nat → Int32) × Nat), z.2 ≤ 16 → Q none (SH b xs) (WX (sR hp 15 (RO (hp.1 15) (lossX (mnP (gX hp 9 g) (hp.1 16) 20 0 s_0)) g mi (mnP (gX hp 9 g) (hp.1 16) 20 0 s_0))) 9 z)) : gC mX4_run (d + 4) 0 0 [.ref 15, .int g, .ref 9] (SH b xs) hp Q := by
  refine g_enter okX4_run (plainFor_of_name rfl) rfl ?_
  refine g_run 2 rfl ?_
  refine g_callV0 rfl LX4_25 rfl rfl rfl rfl ?_
  refine c_X4_start (gI := _) rfl ?_
  refine g_run 2 rfl ?_
  refine g_putZ rfl rfl rfl rfl (by decide) ?_
  refine g_run 2 rfl ?_
  refine gG_hp (ro_start9 hw.1) ?_
  exact lp_X4_run_9 hsp hn hse h1 21 0 0 0 _ _ (by decide) (by omega) (show (hp.1 9 7).toInt.toNat ≤ 16 from by omega) rfl (by omega)
theorem lp_X4_run_37  {T : Nat} (hsp : T ≤ 600 ∧ ∀ i, i < T → -20 ≤ (hp.1 41 i).toInt) (hn : 0 ≤ (hp.1 37 0).toInt ∧ (hp.1 37 0).toInt ≤ 16) (hse : ∀ k : Nat, (k : Int) < (hp.1 37 0).toInt → 0 ≤ frX hp 37 (k : Int) ∧ frX hp 37 (k : Int) ≤ (hp.1 40 k).toInt ∧ (hp.1 40 k).toInt ≤ (T : Int)) {g : Int32} {s0 : s6} (h1 : (∀ (mi : Int32) (z : (Nat → Int32) × Nat), z.2 ≤ 16 → Q none (SH b xs) (WX (sR hp 15 (RO (hp.1 15) (lossX s0) g mi s0)) 37 z))) : ∀ (f k : Nat) (i mi : Int32) (s : s6) (z : (Nat → Int32) × Nat), i.toInt = (k : Int) → k ≤ 20 → z.2 ≤ 16 → mnP (gX hp 37 g) (hp.1 16) (20 - k) k s = s0 → 20 - k < f → gG mX4_run (d + 4) 0 0 (zQ 0 0 Q) 0 0 (12, [.ref 15, .int g, .ref 37, .int i], [], (SH b xs), (WX (sR hp 15 (RO (hp.1 15) 0 g mi s)) 37 z)) := by
  intro f
  induction f with
  | zero => intros; omega
  | succ f ih =>
    intro k i mi s z iE hk hz hE hf
    refine g_run 2 rfl ?_
    refine gj_ge (kx := (k : Int)) (kz := 20) rfl iE (by decide) (fun k1 => ?_) (fun k1 => ?_)
    · refine g_run 5 rfl ?_
      refine g_idiv rfl (by first | decide | (intro q; rw [ia_eq] at q; simp at q; omega)) ?_
      refine g_run 5 rfl ?_
      refine g_callS0 rfl LX4_81 rfl rfl ?_
      refine c_min ?_
      refine g_run 1 rfl ?_
      first | (rw [show 20 - k = 0 by omega, mnP] at hE; subst hE; exact g_vret rfl rfl (ro_loss37 ▸ h1 _ _ hz)) | (rw [show 20 - k = (20 - (k + 1)) + 1 by omega, mnP, if_pos (by omega)] at hE; subst hE; exact g_vret rfl rfl (ro_loss37 ▸ h1 _ _ hz))
    · refine g_run 2 rfl ?_
      refine gz_ne (kx := s.2.2.2.2.2.2.toInt) rfl rfl (fun k2 => ?_) (fun k2 => ?_)
      · refine g_run 5 rfl ?_
        refine g_idiv rfl (by first | decide | (intro q; rw [ia_eq] at q; simp at q; omega)) ?_
        refine g_run 5 rfl ?_
        refine g_callS0 rfl LX4_81 rfl rfl ?_
        refine c_min ?_
        refine g_run 1 rfl ?_
        first | (rw [show 20 - k = 0 by omega, mnP] at hE; subst hE; exact g_vret rfl rfl (ro_loss37 ▸ h1 _ _ hz)) | (rw [show 20 - k = (20 - (k + 1)) + 1 by omega, mnP, if_pos (by omega)] at hE; subst hE; exact g_vret rfl rfl (ro_loss37 ▸ h1 _ _ hz))
      · refine g_run 11 rfl ?_
        refine g_iald (j := k) rfl rfl ((show _ = (k : Int) from iE).trans (by omega)) (by omega) ?_
        refine g_run 1 rfl ?_
        refine g_callS0 rfl LX4_64 rfl rfl ?_
        refine c_abs ?_
        refine g_callS0 rfl LX4_70 rfl rfl ?_
        refine c_max ?_
        refine g_run 3 rfl ?_
        refine g_callV0 rfl LX4_74 rfl rfl rfl rfl ?_
        refine gC_hp (ro_far37) ?_
        refine c_X4_goThrough_37 (hp := (sR hp 15 (RO (hp.1 15) 0 g i (s.1, s.2.1, s.2.2.1, (maxI s.2.2.2.1 (absI (s.1 - hp.1 16 k))), s.2.2.2.2)))) (q := s.2.2.2.2) (z := z) (show 0 ≤ i.toInt ∧ i.toInt < 20 from by omega) hsp hn hse hz (fun z1 hz1 => ?_)
        have ei : i = nI k := eq_nI iE (by omega)
        rw [show gtX (sR hp 15 (RO (hp.1 15) 0 g i (s.1, s.2.1, s.2.2.1, (maxI s.2.2.2.1 (absI (s.1 - hp.1 16 k))), s.2.2.2.2))) 37 (((sR hp 15 (RO (hp.1 15) 0 g i (s.1, s.2.1, s.2.2.1, (maxI s.2.2.2.1 (absI (s.1 - hp.1 16 k))), s.2.2.2.2)))).1 37 0).toInt.toNat 0 s.2.2.2.2 = ((gX hp 37 g) (nI k) s.1 s.2.1 s.2.2.2.2) from by rw [gtX_ln]; subst ei; rfl]
        refine gG_hp (ro_q37 (z := z1)) ?_
        refine g_run 2 rfl ?_
        refine gz_ne (kx := (((gX hp 37 g) (nI k) s.1 s.2.1 s.2.2.2.2).2.2).toInt) rfl rfl (fun k3 => ?_) (fun k3 => ?_)
        · refine g_run 2 rfl ?_
          rw [show 20 - k = (20 - (k + 1)) + 1 by omega, mnP, if_neg (by omega)] at hE
          rw [if_neg (by assumption)] at hE
          exact ih (k + 1) _ _ _ _ (inc1 iE (by omega)) (by omega) hz1 hE (by omega)
        · refine g_run 1 rfl ?_
          refine g_callV0 rfl LX4_78 rfl rfl rfl rfl ?_
          refine c_X4_grow ?_
          refine gG_hp (ro_grow37 (z := z1) (s := (s.1, s.2.1, s.2.2.1, (maxI s.2.2.2.1 (absI (s.1 - hp.1 16 k))), ((gX hp 37 g) (nI k) s.1 s.2.1 s.2.2.2.2)))) ?_
          refine g_run 2 rfl ?_
          rw [show 20 - k = (20 - (k + 1)) + 1 by omega, mnP, if_neg (by omega)] at hE
          rw [if_pos (by assumption)] at hE
          exact ih (k + 1) _ _ _ _ (inc1 iE (by omega)) (by omega) hz1 hE (by omega)
theorem c_X4_run_37 {T : Nat} (hsp : T ≤ 600 ∧ ∀ i, i < T → -20 ≤ (hp.1 41 i).toInt) (hn : 0 ≤ (hp.1 37 0).toInt ∧ (hp.1 37 0).toInt ≤ 16) (hse : ∀ k : Nat, (k : Int) < (hp.1 37 0).toInt → 0 ≤ frX hp 37 (k : Int) ∧ frX hp 37 (k : Int) ≤ (hp.1 40 k).toInt ∧ (hp.1 40 k).toInt ≤ (T : Int)) {g : Int32} (hw : 0 ≤ (hp.1 37 7).toInt ∧ (hp.1 37 7).toInt ≤ 16) (h1 : ∀ (mi : Int32) (z : (Nat → Int32) × Nat), z.2 ≤ 16 → Q none (SH b xs) (WX (sR hp 15 (RO (hp.1 15) (lossX (mnP (gX hp 37 g) (hp.1 16) 20 0 s_0)) g mi (mnP (gX hp 37 g) (hp.1 16) 20 0 s_0))) 37 z)) : gC mX4_run (d + 4) 0 0 [.ref 15, .int g, .ref 37] (SH b xs) hp Q := by
  refine g_enter okX4_run (plainFor_of_name rfl) rfl ?_
  refine g_run 2 rfl ?_
  refine g_callV0 rfl LX4_25 rfl rfl rfl rfl ?_
  refine c_X4_start (gI := _) rfl ?_
  refine g_run 2 rfl ?_
  refine g_putZ rfl rfl rfl rfl (by decide) ?_
  refine g_run 2 rfl ?_
  refine gG_hp (ro_start37 hw.1) ?_
  exact lp_X4_run_37 hsp hn hse h1 21 0 0 0 _ _ (by decide) (by omega) (show (hp.1 37 7).toInt.toNat ≤ 16 from by omega) rfl (by omega)
end S27
