/-! a roast in the reference: its lines -/
def knP (m w t r g : Int32) (q : q3) (j : Nat) : Int32 := if j = 0 then m else if j = 1 then w else if j = 2 then t else if j = 3 then r else if j = 4 then g else if j = 5 then q.1 else q.2.1
theorem evMS_kn {kn kn2 op one : Nat → Int32} : ∀ {n i h : Nat} {l : List Int32}, okM op one n i h → (∀ j, j < 7 → kn j = kn2 j) → evMS kn op one n i l = evMS kn2 op one n i l
  | 0, _, _, _, _, _ => rfl
  | n + 1, i, h, l, hO, hk => by
    rw [evMS, evMS]
    have e : evM1 kn op one i l = evM1 kn2 op one i l := by
      unfold evM1
      split
      · next h12 =>
        split
        · rfl
        · next h1 =>
          have h2 := okM_k (by omega) hO
          rw [hk _ (by omega)]
      · rfl
    rw [e]
    rcases hO with hO | hO
    · exact evMS_kn hO.2.2 hk
    · exact evMS_kn hO.2.2.2 hk
theorem kn_eq {kn : Nat → Int32} {m w t r g : Int32} {q : q3} {j : Nat} (h : j < 7) : va_up (va_up (va_up (va_up (va_up (va_up (va_up kn 0 m) 1 w) 2 t) 3 r) 4 g) 5 q.1) 6 q.2.1 j = knP m w t r g q j := by
  rcases (show j = 0 ∨ j = 1 ∨ j = 2 ∨ j = 3 ∨ j = 4 ∨ j = 5 ∨ j = 6 by omega) with rfl | rfl | rfl | rfl | rfl | rfl | rfl <;> rfl
/-- line k of the text that holds: what it does is 0, 1 or 2; its codes -/
def okL (hp : hp_T) (ho ln k : Nat) : Prop := (0 ≤ (hp.1 50 (16 * ho + k)).toInt ∧ (hp.1 50 (16 * ho + k)).toInt ≤ 2) ∧ (hp.1 52 (16 * ho + k)).toInt = ((hp.1 52 (16 * ho + k)).toInt.toNat : Int) ∧ (hp.1 52 (16 * ho + k)).toInt.toNat + ln < 1320 ∧ okM (hp.1 53) (hp.1 54) ln (hp.1 52 (16 * ho + k)).toInt.toNat 0
def vlM (hp : hp_T) (ho : Nat) (ln : Nat → Nat) (g m w r : Int32) (k : Nat) (q : q3) : Int32 := (evMS (knP m w (hp.1 66 m.toInt.toNat) r g q) (hp.1 53) (hp.1 54) (ln k) (hp.1 52 (16 * ho + k)).toInt.toNat []).headD 0
def acM (x : Int32) : Int32 := if x.toInt = 1 then 3 else if x.toInt = 2 then 4 else 5
theorem acM1 {x : Int32} (h : x.toInt = 1) : acM x = 3 := by rw [acM, if_pos h]
theorem acM2 {x : Int32} (h : x.toInt = 2) : acM x = 4 := by rw [acM, if_neg (by omega), if_pos h]
theorem acM0 {x : Int32} (h : x.toInt = 0) : acM x = 5 := by rw [acM, if_neg (by omega), if_neg (by omega)]
def lnM (hp : hp_T) (ho : Nat) (ln : Nat → Nat) (g m w r : Int32) : Nat → Nat → q3 → q3 := lnP (fun k => acM (hp.1 50 (16 * ho + k))) (fun k => hp.1 51 (16 * ho + k)) (vlM hp ho ln g m w r)
def stM (hp : hp_T) (ho : Nat) (ln : Nat → Nat) (g m w r : Int32) (k : Nat) (q : q3) : q3 := if (vlM hp ho ln g m w r k q).toInt ≠ 0 then (if (acM (hp.1 50 (16 * ho + k))).toInt = 3 then (hp.1 51 (16 * ho + k), q.2) else if (acM (hp.1 50 (16 * ho + k))).toInt = 4 then (q.1, hp.1 51 (16 * ho + k), q.2.2) else (q.1, q.2.1, 1)) else q
theorem lnM_s {hp : hp_T} {ho : Nat} {ln : Nat → Nat} {g m w r : Int32} {f k : Nat} {q : q3} (h : q.2.2.toInt = 0) : lnM hp ho ln g m w r (f + 1) k q = lnM hp ho ln g m w r f (k + 1) (stM hp ho ln g m w r k q) := by
  rw [lnM, lnP, if_pos h]
  rfl
theorem lnM_e {hp : hp_T} {ho : Nat} {ln : Nat → Nat} {g m w r : Int32} {f k : Nat} {q : q3} (h : q.2.2.toInt ≠ 0) : lnM hp ho ln g m w r (f + 1) k q = q := by
  rw [lnM, lnP, if_neg h]
theorem lnM_n {hp : hp_T} {ho : Nat} {ln : Nat → Nat} {g m w r : Int32} {k : Nat} {q : q3} (h : (vlM hp ho ln g m w r k q).toInt = 0) : stM hp ho ln g m w r k q = q := by
  rw [stM, if_neg (by omega)]
theorem lnM_a {hp : hp_T} {ho : Nat} {ln : Nat → Nat} {g m w r : Int32} {k : Nat} {q : q3} (h : (vlM hp ho ln g m w r k q).toInt ≠ 0) (h0 : q.2.2.toInt = 0) : stM hp ho ln g m w r k q = if (hp.1 50 (16 * ho + k)).toInt = 1 then (hp.1 51 (16 * ho + k), q.2.1, 0) else if (hp.1 50 (16 * ho + k)).toInt = 2 then (q.1, hp.1 51 (16 * ho + k), 0) else (q.1, q.2.1, 1) := by
  have e0 : q.2.2 = 0 := by rw [ia_eq, h0]; rfl
  have e : q = (q.1, q.2.1, 0) := by rw [← e0]
  rw [stM, if_pos h, acM]
  split
  · rw [if_pos (by decide), e]
  · split
    · rw [if_neg (by decide), if_pos (by decide), e]
    · rw [if_neg (by decide), if_neg (by decide)]
/-- the reference's own row as a roast goes -/
def MO (R : Nat → Int32) (l : Int32) (s : s6) (i : Nat) : Int32 := if i = 36 then s.2.2.1 else if i = 37 then s.1 else if i = 38 then s.2.1 else if i = 39 then s.2.2.2.2.1 else if i = 40 then s.2.2.2.2.2.1 else if i = 41 then l else if i = 42 then s.2.2.2.2.2.2 else if i = 43 then s.2.2.2.1 else R i
def MG (hp : hp_T) (kn pl : Nat → Int32) (l : Int32) (s : s6) : hp_T := sR (sR (sR hp 43 (MO (hp.1 43) l s)) 58 kn) 59 pl
theorem mo_cases {P : Nat → Prop} (h : ∀ i, i ∈ [36, 37, 38, 39, 40, 41, 42, 43] → P i) (h2 : ∀ i, i ≠ 36 → i ≠ 37 → i ≠ 38 → i ≠ 39 → i ≠ 40 → i ≠ 41 → i ≠ 42 → i ≠ 43 → P i) (i : Nat) : P i := by
  by_cases hi : i ∈ [36, 37, 38, 39, 40, 41, 42, 43]
  · exact h i hi
  · simp only [List.mem_cons, List.not_mem_nil, or_false, not_or] at hi
    obtain ⟨a, b, c, d, e, f, g, j⟩ := hi
    exact h2 i a b c d e f g j
theorem mg_kn {hp : hp_T} {kn pl : Nat → Int32} {l a0 a1 a2 a3 a4 a5 a6 : Int32} {s : s6} : sI (sI (sI (sI (sI (sI (sI (MG hp kn pl l s) 58 0 a0) 58 1 a1) 58 2 a2) 58 3 a3) 58 4 a4) 58 5 a5) 58 6 a6 = MG hp (va_up (va_up (va_up (va_up (va_up (va_up (va_up kn 0 a0) 1 a1) 2 a2) 3 a3) 4 a4) 5 a5) 6 a6) pl l s := by
  refine two_ext (fun c i => ?_) rfl
  by_cases h1 : c = 58
  · subst h1; rfl
  · simp [MG, sI, sR, va_up, h1]
theorem mg_pl {hp : hp_T} {kn pl w : Nat → Int32} {l : Int32} {s : s6} : sR (MG hp kn pl l s) 59 w = MG hp kn w l s := by
  refine two_ext (fun c i => ?_) rfl
  by_cases h1 : c = 59
  · subst h1; rfl
  · simp [MG, sR, va_up, h1]
theorem mg_q {hp : hp_T} {kn pl : Nat → Int32} {l a b x : Int32} {q : q3} {w1 r1 g1 v1 : Int32} : sI (sI (sI (MG hp kn pl l (w1, r1, g1, v1, q)) 43 42 x) 43 39 a) 43 40 b = MG hp kn pl l (w1, r1, g1, v1, a, b, x) := by
  refine two_ext (fun c => ?_) rfl
  by_cases h1 : c = 43
  · subst h1
    refine mo_cases (fun i hi => ?_) (fun i a0 a2 a3 a4 a5 a6 a7 a8 => ?_)
    · simp only [List.mem_cons, List.not_mem_nil, or_false] at hi
      rcases hi with rfl | rfl | rfl | rfl | rfl | rfl | rfl | rfl <;> rfl
    · simp [MG, MO, sI, sR, va_up, a0, a2, a3, a4, a5, a6, a7, a8]
  · by_cases h2 : c = 58
    · subst h2
      intro i
      rfl
    · by_cases h3 : c = 59
      · subst h3
        intro i
        rfl
      · intro i
        simp [MG, MO, sI, sR, va_up, h1, h2, h3]
theorem mg_way {hp : hp_T} {kn pl : Nat → Int32} {l v : Int32} {s : s6} : sI (MG hp kn pl l s) 43 43 v = MG hp kn pl l (s.1, s.2.1, s.2.2.1, v, s.2.2.2.2) := by
  refine two_ext (fun c => ?_) rfl
  by_cases h1 : c = 43
  · subst h1
    refine mo_cases (fun i hi => ?_) (fun i a0 a2 a3 a4 a5 a6 a7 a8 => ?_)
    · simp only [List.mem_cons, List.not_mem_nil, or_false] at hi
      rcases hi with rfl | rfl | rfl | rfl | rfl | rfl | rfl | rfl <;> rfl
    · simp [MG, MO, sI, sR, va_up, a0, a2, a3, a4, a5, a6, a7, a8]
  · by_cases h2 : c = 58
    · subst h2
      intro i
      rfl
    · by_cases h3 : c = 59
      · subst h3
        intro i
        rfl
      · intro i
        simp [MG, MO, sI, sR, va_up, h1, h2, h3]
theorem mg_grow {hp : hp_T} {kn pl : Nat → Int32} {l a b e : Int32} {s : s6} : sI (sI (sI (MG hp kn pl l s) 43 38 a) 43 37 b) 43 36 e = MG hp kn pl l (b, a, e, s.2.2.2.1, s.2.2.2.2) := by
  refine two_ext (fun c => ?_) rfl
  by_cases h1 : c = 43
  · subst h1
    refine mo_cases (fun i hi => ?_) (fun i a0 a2 a3 a4 a5 a6 a7 a8 => ?_)
    · simp only [List.mem_cons, List.not_mem_nil, or_false] at hi
      rcases hi with rfl | rfl | rfl | rfl | rfl | rfl | rfl | rfl <;> rfl
    · simp [MG, MO, sI, sR, va_up, a0, a2, a3, a4, a5, a6, a7, a8]
  · by_cases h2 : c = 58
    · subst h2
      intro i
      rfl
    · by_cases h3 : c = 59
      · subst h3
        intro i
        rfl
      · intro i
        simp [MG, MO, sI, sR, va_up, h1, h2, h3]
theorem mg_loss {hp : hp_T} {kn pl : Nat → Int32} {l a : Int32} {s : s6} : sI (MG hp kn pl l s) 43 41 a = MG hp kn pl a s := by
  refine two_ext (fun c => ?_) rfl
  by_cases h1 : c = 43
  · subst h1
    refine mo_cases (fun i hi => ?_) (fun i a0 a2 a3 a4 a5 a6 a7 a8 => ?_)
    · simp only [List.mem_cons, List.not_mem_nil, or_false] at hi
      rcases hi with rfl | rfl | rfl | rfl | rfl | rfl | rfl | rfl <;> rfl
    · simp [MG, MO, sI, sR, va_up, a0, a2, a3, a4, a5, a6, a7, a8]
  · by_cases h2 : c = 58
    · subst h2
      intro i
      rfl
    · by_cases h3 : c = 59
      · subst h3
        intro i
        rfl
      · intro i
        simp [MG, MO, sI, sR, va_up, h1, h2, h3]
theorem mg_start {hp : hp_T} : sI (sI (sI (sI (sI (sI (sI hp 43 36 0) 43 37 200) 43 38 0) 43 39 5) 43 40 5) 43 42 0) 43 43 0 = MG hp (hp.1 58) (hp.1 59) (hp.1 43 41) s_0 := by
  refine two_ext (fun c => ?_) rfl
  by_cases h1 : c = 43
  · subst h1
    refine mo_cases (fun i hi => ?_) (fun i a0 a2 a3 a4 a5 a6 a7 a8 => ?_)
    · simp only [List.mem_cons, List.not_mem_nil, or_false] at hi
      rcases hi with rfl | rfl | rfl | rfl | rfl | rfl | rfl | rfl <;> rfl
    · simp [MG, MO, sI, sR, va_up, a0, a2, a3, a4, a5, a6, a7, a8]
  · by_cases h2 : c = 58
    · subst h2
      intro i
      rfl
    · by_cases h3 : c = 59
      · subst h3
        intro i
        rfl
      · intro i
        simp [MG, MO, sI, sR, va_up, h1, h2, h3]
section S30
variable {d : Nat} {sh : sh_T} {hp : hp_T} {Q : Option Value → sh_T → hp_T → Prop} {b : Bool} {xs : sh_T}
theorem lp_X10_actsBy  {ho : Nat} {ln : Nat → Nat} (hh : (hp.1 43 16).toInt = (ho : Int)) (ho1 : ho ≤ 1) (hn : 0 ≤ (hp.1 49 ho).toInt ∧ (hp.1 49 ho).toInt ≤ 16) (hL : ∀ k : Nat, (k : Int) < (hp.1 49 ho).toInt → okL hp ho (ln k) k) {g l : Int32} {s : s6} {q0 : q3} (hm : 0 ≤ s.2.2.1.toInt ∧ s.2.2.1.toInt < 20) (h1 : ∀ kn pl : Nat → Int32, Q none (SH b xs) (MG hp kn pl l (s.1, s.2.1, s.2.2.1, s.2.2.2.1, q0))) : ∀ (f k : Nat) (i : Int32) (q : q3) (kn pl : Nat → Int32), i.toInt = ((16 * ho + k : Nat) : Int) → (k : Int) ≤ (hp.1 49 ho).toInt → (lnM hp ho ln g s.2.2.1 s.1 s.2.1 ((hp.1 49 ho).toInt.toNat - k) k q) = q0 → (hp.1 49 ho).toInt.toNat - k < f → gG mX10_actsBy (d + 1) 0 0 (zQ 0 0 Q) 0 0 (8, [.ref 43, .int g, .int i], [], (SH b xs), (MG hp kn pl l (s.1, s.2.1, s.2.2.1, s.2.2.2.1, q))) := by
  intro f
  induction f with
  | zero => intros; omega
  | succ f ih =>
    intro k i q kn pl iE hk hE hf
    have hdo := fun q : (k : Int) < (hp.1 49 ho).toInt => (hL k q).1
    refine g_run 9 rfl ?_
    refine g_iald (j := ho) rfl rfl ((show _ = (ho : Int) from hh).trans (by omega)) (by omega) ?_
    refine g_run 1 rfl ?_
    refine gj_ge (kx := ((16 * ho + k : Nat) : Int)) (kz := ((16 * (ho : Int)) + (hp.1 49 ho).toInt)) rfl iE (ia_add2 (ia_mul2 (by decide) hh (by omega) (by omega)) rfl (by omega) (by omega)) (fun k1 => ?_) (fun k1 => ?_)
    · first | (rw [show (hp.1 49 ho).toInt.toNat - k = 0 by omega, lnM] at hE; subst hE; exact g_vret rfl rfl (h1 _ _)) | (rw [show (hp.1 49 ho).toInt.toNat - k = ((hp.1 49 ho).toInt.toNat - (k + 1)) + 1 by omega, lnM_e (by omega)] at hE; subst hE; exact g_vret rfl rfl (h1 _ _))
    · refine g_run 2 rfl ?_
      refine gz_ne (kx := q.2.2.toInt) rfl rfl (fun k2 => ?_) (fun k2 => ?_)
      · first | (rw [show (hp.1 49 ho).toInt.toNat - k = 0 by omega, lnM] at hE; subst hE; exact g_vret rfl rfl (h1 _ _)) | (rw [show (hp.1 49 ho).toInt.toNat - k = ((hp.1 49 ho).toInt.toNat - (k + 1)) + 1 by omega, lnM_e (by omega)] at hE; subst hE; exact g_vret rfl rfl (h1 _ _))
      · refine g_run 5 rfl ?_
        refine g_iast (j := 0) rfl rfl (show (0 : Int32).toInt = ((0 : Nat) : Int) from by decide) (by omega) ?_
        refine g_run 5 rfl ?_
        refine g_iast (j := 1) rfl rfl (show (1 : Int32).toInt = ((1 : Nat) : Int) from by decide) (by omega) ?_
        refine g_run 7 rfl ?_
        refine g_iald (j := s.2.2.1.toInt.toNat) rfl rfl ((show _ = s.2.2.1.toInt from rfl).trans (by omega)) (by omega) ?_
        refine g_iast (j := 2) rfl rfl (show (2 : Int32).toInt = ((2 : Nat) : Int) from by decide) (by omega) ?_
        refine g_run 5 rfl ?_
        refine g_iast (j := 3) rfl rfl (show (3 : Int32).toInt = ((3 : Nat) : Int) from by decide) (by omega) ?_
        refine g_run 4 rfl ?_
        refine g_iast (j := 4) rfl rfl (show (4 : Int32).toInt = ((4 : Nat) : Int) from by decide) (by omega) ?_
        refine g_run 5 rfl ?_
        refine g_iast (j := 5) rfl rfl (show (5 : Int32).toInt = ((5 : Nat) : Int) from by decide) (by omega) ?_
        refine g_run 5 rfl ?_
        refine g_iast (j := 6) rfl rfl (show (6 : Int32).toInt = ((6 : Nat) : Int) from by decide) (by omega) ?_
        refine g_run 4 rfl ?_
        refine g_iald (j := (16 * ho + k)) rfl rfl ((show _ = ((16 * ho + k : Nat) : Int) from iE).trans (by omega)) (by omega) ?_
        refine g_callV0 rfl LX10_262 rfl rfl rfl rfl ?_
        have hLk := hL k (by omega)
        refine gC_hp mg_kn ?_
        refine c_X10_valueOf (hp := (MG hp (va_up (va_up (va_up (va_up (va_up (va_up (va_up kn 0 s.2.2.1) 1 s.1) 2 (hp.1 66 s.2.2.1.toInt.toNat)) 3 s.2.1) 4 g) 5 q.1) 6 q.2.1) pl l (s.1, s.2.1, s.2.2.1, s.2.2.2.1, q))) (kF := (hp.1 52 (16 * ho + k)).toInt.toNat) (n := ln k) (by have := hLk.2.1; exact this) hLk.2.2.1 hLk.2.2.2 (fun w9 => ?_)
        refine gG_hp mg_pl ?_
        have eV : (evMS ((MG hp (va_up (va_up (va_up (va_up (va_up (va_up (va_up kn 0 s.2.2.1) 1 s.1) 2 (hp.1 66 s.2.2.1.toInt.toNat)) 3 s.2.1) 4 g) 5 q.1) 6 q.2.1) pl l (s.1, s.2.1, s.2.2.1, s.2.2.2.1, q)).1 58) ((MG hp (va_up (va_up (va_up (va_up (va_up (va_up (va_up kn 0 s.2.2.1) 1 s.1) 2 (hp.1 66 s.2.2.1.toInt.toNat)) 3 s.2.1) 4 g) 5 q.1) 6 q.2.1) pl l (s.1, s.2.1, s.2.2.1, s.2.2.2.1, q)).1 53) ((MG hp (va_up (va_up (va_up (va_up (va_up (va_up (va_up kn 0 s.2.2.1) 1 s.1) 2 (hp.1 66 s.2.2.1.toInt.toNat)) 3 s.2.1) 4 g) 5 q.1) 6 q.2.1) pl l (s.1, s.2.1, s.2.2.1, s.2.2.2.1, q)).1 54) (ln k) (hp.1 52 (16 * ho + k)).toInt.toNat []).headD 0 = (vlM hp ho ln g s.2.2.1 s.1 s.2.1 k q) := by rw [vlM]; exact congrArg (fun x => List.headD x 0) (evMS_kn hLk.2.2.2 (fun j hj => kn_eq hj))
        rw [eV]
        refine gz_eq (kx := (vlM hp ho ln g s.2.2.1 s.1 s.2.1 k q).toInt) rfl rfl (fun k3 => ?_) (fun k3 => ?_)
        · refine g_run 2 rfl ?_
          rw [show (hp.1 49 ho).toInt.toNat - k = ((hp.1 49 ho).toInt.toNat - (k + 1)) + 1 by omega, lnM_s (by omega)] at hE
          have eA : (stM hp ho ln g s.2.2.1 s.1 s.2.1 k q) = q := lnM_n (by assumption)
          rw [eA] at hE
          exact ih (k + 1) _ _ _ _ (by have := inc1 iE (by omega); rw [this]; omega) (by omega) hE (by omega)
        · refine g_run 4 rfl ?_
          refine g_iald (j := (16 * ho + k)) rfl rfl ((show _ = ((16 * ho + k : Nat) : Int) from iE).trans (by omega)) (by omega) ?_
          refine gz_ne (kx := (hp.1 50 (16 * ho + k)).toInt) rfl rfl (fun k4 => ?_) (fun k4 => ?_)
          · refine g_run 1 rfl ?_
            refine g_putZ rfl rfl rfl rfl (by decide) ?_
            refine g_run 4 rfl ?_
            refine g_iald (j := (16 * ho + k)) rfl rfl ((show _ = ((16 * ho + k : Nat) : Int) from iE).trans (by omega)) (by omega) ?_
            refine g_run 1 rfl ?_
            refine gj_ne (kx := (hp.1 50 (16 * ho + k)).toInt) (kz := 1) rfl rfl (by decide) (fun k5 => ?_) (fun k5 => ?_)
            · refine g_run 7 rfl ?_
              refine g_iald (j := (16 * ho + k)) rfl rfl ((show _ = ((16 * ho + k : Nat) : Int) from iE).trans (by omega)) (by omega) ?_
              refine g_run 1 rfl ?_
              refine gj_ne (kx := (hp.1 50 (16 * ho + k)).toInt) (kz := 2) rfl rfl (by decide) (fun k6 => ?_) (fun k6 => ?_)
              · refine g_run 5 rfl ?_
                rw [show (hp.1 49 ho).toInt.toNat - k = ((hp.1 49 ho).toInt.toNat - (k + 1)) + 1 by omega, lnM_s (by omega)] at hE
                refine gG_hp mg_q ?_
                first | (exfalso; omega) | (have eA : (stM hp ho ln g s.2.2.1 s.1 s.2.1 k q) = (q.1, q.2.1, 0) := (by rw [lnM_a (by assumption) (by assumption)]; repeat (first | rw [if_pos (by omega)] | rw [if_neg (by omega)])); rw [eA] at hE; exact ih (k + 1) _ _ _ _ (by have := inc1 iE (by omega); rw [this]; omega) (by omega) hE (by omega))
              · refine g_run 3 rfl ?_
                refine g_iald (j := (16 * ho + k)) rfl rfl ((show _ = ((16 * ho + k : Nat) : Int) from iE).trans (by omega)) (by omega) ?_
                refine g_run 4 rfl ?_
                rw [show (hp.1 49 ho).toInt.toNat - k = ((hp.1 49 ho).toInt.toNat - (k + 1)) + 1 by omega, lnM_s (by omega)] at hE
                refine gG_hp mg_q ?_
                first | (exfalso; omega) | (have eA : (stM hp ho ln g s.2.2.1 s.1 s.2.1 k q) = (q.1, (hp.1 51 (16 * ho + k)), 0) := (by rw [lnM_a (by assumption) (by assumption)]; repeat (first | rw [if_pos (by omega)] | rw [if_neg (by omega)])); rw [eA] at hE; exact ih (k + 1) _ _ _ _ (by have := inc1 iE (by omega); rw [this]; omega) (by omega) hE (by omega))
            · refine g_run 3 rfl ?_
              refine g_iald (j := (16 * ho + k)) rfl rfl ((show _ = ((16 * ho + k : Nat) : Int) from iE).trans (by omega)) (by omega) ?_
              refine g_run 6 rfl ?_
              refine g_iald (j := (16 * ho + k)) rfl rfl ((show _ = ((16 * ho + k : Nat) : Int) from iE).trans (by omega)) (by omega) ?_
              refine g_run 1 rfl ?_
              refine gj_ne (kx := (hp.1 50 (16 * ho + k)).toInt) (kz := 2) rfl rfl (by decide) (fun k7 => ?_) (fun k7 => ?_)
              · refine g_run 5 rfl ?_
                rw [show (hp.1 49 ho).toInt.toNat - k = ((hp.1 49 ho).toInt.toNat - (k + 1)) + 1 by omega, lnM_s (by omega)] at hE
                refine gG_hp mg_q ?_
                first | (exfalso; omega) | (have eA : (stM hp ho ln g s.2.2.1 s.1 s.2.1 k q) = ((hp.1 51 (16 * ho + k)), q.2.1, 0) := (by rw [lnM_a (by assumption) (by assumption)]; repeat (first | rw [if_pos (by omega)] | rw [if_neg (by omega)])); rw [eA] at hE; exact ih (k + 1) _ _ _ _ (by have := inc1 iE (by omega); rw [this]; omega) (by omega) hE (by omega))
              · refine g_run 3 rfl ?_
                refine g_iald (j := (16 * ho + k)) rfl rfl ((show _ = ((16 * ho + k : Nat) : Int) from iE).trans (by omega)) (by omega) ?_
                refine g_run 4 rfl ?_
                rw [show (hp.1 49 ho).toInt.toNat - k = ((hp.1 49 ho).toInt.toNat - (k + 1)) + 1 by omega, lnM_s (by omega)] at hE
                refine gG_hp mg_q ?_
                first | (exfalso; omega) | (have eA : (stM hp ho ln g s.2.2.1 s.1 s.2.1 k q) = ((hp.1 51 (16 * ho + k)), (hp.1 51 (16 * ho + k)), 0) := (by rw [lnM_a (by assumption) (by assumption)]; repeat (first | rw [if_pos (by omega)] | rw [if_neg (by omega)])); rw [eA] at hE; exact ih (k + 1) _ _ _ _ (by have := inc1 iE (by omega); rw [this]; omega) (by omega) hE (by omega))
          · refine g_run 2 rfl ?_
            refine g_putZ rfl rfl rfl rfl (by decide) ?_
            refine g_run 4 rfl ?_
            refine g_iald (j := (16 * ho + k)) rfl rfl ((show _ = ((16 * ho + k : Nat) : Int) from iE).trans (by omega)) (by omega) ?_
            refine g_run 1 rfl ?_
            refine gj_ne (kx := (hp.1 50 (16 * ho + k)).toInt) (kz := 1) rfl rfl (by decide) (fun k8 => ?_) (fun k8 => ?_)
            · refine g_run 7 rfl ?_
              refine g_iald (j := (16 * ho + k)) rfl rfl ((show _ = ((16 * ho + k : Nat) : Int) from iE).trans (by omega)) (by omega) ?_
              refine g_run 1 rfl ?_
              refine gj_ne (kx := (hp.1 50 (16 * ho + k)).toInt) (kz := 2) rfl rfl (by decide) (fun k9 => ?_) (fun k9 => ?_)
              · refine g_run 5 rfl ?_
                rw [show (hp.1 49 ho).toInt.toNat - k = ((hp.1 49 ho).toInt.toNat - (k + 1)) + 1 by omega, lnM_s (by omega)] at hE
                refine gG_hp mg_q ?_
                first | (exfalso; omega) | (have eA : (stM hp ho ln g s.2.2.1 s.1 s.2.1 k q) = (q.1, q.2.1, 1) := (by rw [lnM_a (by assumption) (by assumption)]; repeat (first | rw [if_pos (by omega)] | rw [if_neg (by omega)])); rw [eA] at hE; exact ih (k + 1) _ _ _ _ (by have := inc1 iE (by omega); rw [this]; omega) (by omega) hE (by omega))
              · refine g_run 3 rfl ?_
                refine g_iald (j := (16 * ho + k)) rfl rfl ((show _ = ((16 * ho + k : Nat) : Int) from iE).trans (by omega)) (by omega) ?_
                refine g_run 4 rfl ?_
                rw [show (hp.1 49 ho).toInt.toNat - k = ((hp.1 49 ho).toInt.toNat - (k + 1)) + 1 by omega, lnM_s (by omega)] at hE
                refine gG_hp mg_q ?_
                first | (exfalso; omega) | (have eA : (stM hp ho ln g s.2.2.1 s.1 s.2.1 k q) = (q.1, (hp.1 51 (16 * ho + k)), 1) := (by rw [lnM_a (by assumption) (by assumption)]; repeat (first | rw [if_pos (by omega)] | rw [if_neg (by omega)])); rw [eA] at hE; exact ih (k + 1) _ _ _ _ (by have := inc1 iE (by omega); rw [this]; omega) (by omega) hE (by omega))
            · refine g_run 3 rfl ?_
              refine g_iald (j := (16 * ho + k)) rfl rfl ((show _ = ((16 * ho + k : Nat) : Int) from iE).trans (by omega)) (by omega) ?_
              refine g_run 6 rfl ?_
              refine g_iald (j := (16 * ho + k)) rfl rfl ((show _ = ((16 * ho + k : Nat) : Int) from iE).trans (by omega)) (by omega) ?_
              refine g_run 1 rfl ?_
              refine gj_ne (kx := (hp.1 50 (16 * ho + k)).toInt) (kz := 2) rfl rfl (by decide) (fun k10 => ?_) (fun k10 => ?_)
              · refine g_run 5 rfl ?_
                rw [show (hp.1 49 ho).toInt.toNat - k = ((hp.1 49 ho).toInt.toNat - (k + 1)) + 1 by omega, lnM_s (by omega)] at hE
                refine gG_hp mg_q ?_
                first | (exfalso; omega) | (have eA : (stM hp ho ln g s.2.2.1 s.1 s.2.1 k q) = ((hp.1 51 (16 * ho + k)), q.2.1, 1) := (by rw [lnM_a (by assumption) (by assumption)]; repeat (first | rw [if_pos (by omega)] | rw [if_neg (by omega)])); rw [eA] at hE; exact ih (k + 1) _ _ _ _ (by have := inc1 iE (by omega); rw [this]; omega) (by omega) hE (by omega))
              · refine g_run 3 rfl ?_
                refine g_iald (j := (16 * ho + k)) rfl rfl ((show _ = ((16 * ho + k : Nat) : Int) from iE).trans (by omega)) (by omega) ?_
                refine g_run 4 rfl ?_
                rw [show (hp.1 49 ho).toInt.toNat - k = ((hp.1 49 ho).toInt.toNat - (k + 1)) + 1 by omega, lnM_s (by omega)] at hE
                refine gG_hp mg_q ?_
                first | (exfalso; omega) | (have eA : (stM hp ho ln g s.2.2.1 s.1 s.2.1 k q) = ((hp.1 51 (16 * ho + k)), (hp.1 51 (16 * ho + k)), 1) := (by rw [lnM_a (by assumption) (by assumption)]; repeat (first | rw [if_pos (by omega)] | rw [if_neg (by omega)])); rw [eA] at hE; exact ih (k + 1) _ _ _ _ (by have := inc1 iE (by omega); rw [this]; omega) (by omega) hE (by omega))
theorem c_X10_actsBy {ho : Nat} {ln : Nat → Nat} (hh : (hp.1 43 16).toInt = (ho : Int)) (ho1 : ho ≤ 1) (hn : 0 ≤ (hp.1 49 ho).toInt ∧ (hp.1 49 ho).toInt ≤ 16) (hL : ∀ k : Nat, (k : Int) < (hp.1 49 ho).toInt → okL hp ho (ln k) k) {g l : Int32} {s : s6} {kn pl : Nat → Int32} (hm : 0 ≤ s.2.2.1.toInt ∧ s.2.2.1.toInt < 20) (h1 : ∀ kn pl : Nat → Int32, Q none (SH b xs) (MG hp kn pl l (s.1, s.2.1, s.2.2.1, s.2.2.2.1, (lnM hp ho ln g s.2.2.1 s.1 s.2.1 (hp.1 49 ho).toInt.toNat 0 s.2.2.2.2)))) : gC mX10_actsBy (d + 1) 0 0 [.ref 43, .int g] (SH b xs) (MG hp kn pl l s) Q := by
  refine g_enter okX10_actsBy (plainFor_of_name rfl) rfl ?_
  refine g_run 5 rfl ?_
  exact lp_X10_actsBy hh ho1 hn hL hm h1 17 0 _ s.2.2.2.2 kn pl ((ia_mul2 (x := 16) (y := (ho : Int)) (by decide) hh (by omega) (by omega)).trans (by omega)) (by omega) rfl (by omega)
end S30
