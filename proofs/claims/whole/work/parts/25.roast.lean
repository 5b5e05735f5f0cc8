/-! a roast in the class -/
def clmp (x : Int32) : Int32 := if x.toInt < 20 then 20 else if 400 < x.toInt then 400 else x
theorem clmp_lo {x : Int32} (h : x.toInt ≤ 20) : clmp x = 20 := by
  unfold clmp
  split
  · rfl
  · rw [if_neg (by omega), ia_eq]
    have : (20 : Int32).toInt = 20 := by decide
    omega
theorem clmp_hi {x : Int32} (h : 400 ≤ x.toInt) : clmp x = 400 := by
  unfold clmp
  rw [if_neg (by omega)]
  split
  · rfl
  · rw [ia_eq]
    have : (400 : Int32).toInt = 400 := by decide
    omega
theorem clmp_in {x : Int32} (h : 20 ≤ x.toInt) (h2 : x.toInt ≤ 400) : clmp x = x := by
  unfold clmp
  rw [if_neg (by omega), if_neg (by omega)]
/-- the roaster's fire, drum and whether it was dropped -/
def FQ (hp : hp_T) (q : Int32 × Int32 × Int32) : hp_T := sI (sI (sI hp 15 6 q.1) 15 7 q.2.1) 15 10 q.2.2
def pL (l : List Int32) (v : Int32) : List Int32 := if l.length < 16 then v :: l else l
def evL1 (vn : Int → Int32) (s : Int32) (l : List Int32) : List Int32 := if 0 ≤ s.toInt then pL l s else if -s.toInt = 7 ∨ (15 ≤ -s.toInt ∧ -s.toInt ≤ 18) then pL (l.drop 2) (jd (-s.toInt) ((l.drop 1).headD 0) (l.headD 0)) else pL l (vn (-s.toInt))
def evLS (vn : Int → Int32) (sp : Nat → Int32) : Nat → Nat → List Int32 → List Int32
  | 0, _, l => l
  | f + 1, i, l => evLS vn sp f (i + 1) (evL1 vn (sp i) l)
/-- the array with its count holds the list, the last one first -/
def stk (z : (Nat → Int32) × Nat) (l : List Int32) : Prop := l.length = z.2 ∧ ∀ j, j < z.2 → l[j]? = some (z.1 (z.2 - 1 - j))
theorem stk_0 {w : Nat → Int32} : stk (w, 0) [] := ⟨rfl, fun j h => by simp at h⟩
theorem stk_psh {z : (Nat → Int32) × Nat} {l : List Int32} {v : Int32} (h : stk z l) : stk (psh z v) (pL l v) := by
  unfold psh pL
  rw [h.1]
  split
  · refine ⟨by simp [h.1], fun j hj => ?_⟩
    cases j with
    | zero => simp [va_up]
    | succ j =>
      have h1 := h.2 j (by simpa using hj)
      have e : z.2 + 1 - 1 - (j + 1) = z.2 - 1 - j := by omega
      have e2 : ¬ (z.2 - 1 - j = z.2) := by have : j < z.2 := by simpa using hj
                                            omega
      simp only [List.getElem?_cons_succ, h1, e, va_up, e2, if_false]
  · exact h
theorem stk_pp {z : (Nat → Int32) × Nat} {l : List Int32} (h : stk z l) : stk (pp z) (l.drop 1) := by
  refine ⟨by simp [h.1, pp], fun j hj => ?_⟩
  simp only [pp] at hj ⊢
  rw [List.getElem?_drop, h.2 (1 + j) (by omega), show z.2 - 1 - (1 + j) = z.2 - 1 - 1 - j by omega]
theorem stk_pv {z : (Nat → Int32) × Nat} {l : List Int32} (h : stk z l) : pv z = l.headD 0 := by
  unfold pv
  by_cases h0 : z.2 = 0
  · rw [if_pos h0]
    have : l = [] := List.eq_nil_of_length_eq_zero (by rw [h.1, h0])
    simp [this]
  · rw [if_neg h0]
    have h1 := h.2 0 (by omega)
    cases l with
    | nil => simp at h1
    | cons a r => simp at h1 ⊢; exact h1.symm
theorem stk_ev {vn : Int → Int32} {s : Int32} {z : (Nat → Int32) × Nat} {l : List Int32} (h : stk z l) : stk (ev1 vn s z) (evL1 vn s l) := by
  unfold ev1 evL1
  split
  · exact stk_psh h
  · split
    · have h2 := stk_pp (stk_pp h)
      rw [List.drop_drop] at h2
      rw [stk_pv h, stk_pv (stk_pp h)]
      exact stk_psh h2
    · exact stk_psh h
theorem stk_evS {vn : Int → Int32} {sp : Nat → Int32} : ∀ (f i : Nat) (z : (Nat → Int32) × Nat) (l : List Int32), stk z l → stk (evS vn sp f i z) (evLS vn sp f i l)
  | 0, _, _, _, h => h
  | f + 1, i, _, _, h => stk_evS f (i + 1) _ _ (stk_ev h)
def valX (vn : Int → Int32) (sp : Nat → Int32) (f i : Nat) : Int32 := (evLS vn sp f i []).headD 0
theorem val_ok {vn : Int → Int32} {sp w : Nat → Int32} {f i : Nat} : pv (evS vn sp f i (w, 0)) = valX vn sp f i := stk_pv (stk_evS f i _ _ stk_0)
section S25
variable {d : Nat} {sh : sh_T} {hp : hp_T} {Q : Option Value → sh_T → hp_T → Prop} {b : Bool} {xs : sh_T}
theorem c_X4_doAct {a : Int32} {aI : Int} {m : Int32} {mI : Int} (aE : a.toInt = aI) (mE : m.toInt = mI) (h1 : aI = 3 → Q none (SH b xs) (sI hp 15 6 m)) (h2 : aI = 4 → Q none (SH b xs) (sI hp 15 7 m)) (h3 : aI ≠ 3 ∧ aI ≠ 4 → Q none (SH b xs) (sI hp 15 10 1)) : gC mX4_doAct d 0 0 [.ref 15, .int a, .int m] (SH b xs) hp Q := by
  refine g_enter okX4_doAct (plainFor_of_name rfl) rfl ?_
  refine g_run 2 rfl ?_
  refine gj_ne (kx := aI) (kz := 3) rfl aE (by decide) (fun k1 => ?_) (fun k1 => ?_)
  · refine g_run 2 rfl ?_
    refine gj_ne (kx := aI) (kz := 4) rfl aE (by decide) (fun k2 => ?_) (fun k2 => ?_)
    · refine g_run 2 rfl ?_
      refine g_putZ rfl rfl rfl rfl (by decide) ?_
      exact g_vret rfl rfl (by first | exact h1 (by omega) | exact h2 (by omega) | exact h3 (by omega))
    · refine g_run 4 rfl ?_
      exact g_vret rfl rfl (by first | exact h1 (by omega) | exact h2 (by omega) | exact h3 (by omega))
  · refine g_run 4 rfl ?_
    exact g_vret rfl rfl (by first | exact h1 (by omega) | exact h2 (by omega) | exact h3 (by omega))
theorem c_X4_start {g : Int32} {gI : Int} (gE : g.toInt = gI) (h1 : Q none (SH b xs) (sI (sI (sI (sI (sI (sI (sI (sI (sI (sI hp 15 3 g) 15 4 0) 15 5 200) 15 6 5) 15 7 5) 15 8 0) 15 9 0) 15 10 0) 15 11 0) 15 0 0)) : gC mX4_start d 0 0 [.ref 15, .int g] (SH b xs) hp Q := by
  refine g_enter okX4_start (plainFor_of_name rfl) rfl ?_
  refine g_run 23 rfl ?_
  refine g_putZ rfl rfl rfl rfl (by decide) ?_
  refine g_run 6 rfl ?_
  exact g_vret rfl rfl h1
theorem c_X4_grow (h1 : Q none (SH b xs) (sI (sI (sI hp 15 8 ((clmp ((hp.1 15 5) + 4 * (hp.1 15 6) - ((hp.1 15 5) - 20) / 20 - (hp.1 15 7))) - (hp.1 15 5))) 15 5 (clmp ((hp.1 15 5) + 4 * (hp.1 15 6) - ((hp.1 15 5) - 20) / 20 - (hp.1 15 7)))) 15 9 (hp.1 15 9 + 1))) : gC mX4_grow (d + 1) 0 0 [.ref 15] (SH b xs) hp Q := by
  refine g_enter okX4_grow (plainFor_of_name rfl) rfl ?_
  refine g_run 12 rfl ?_
  refine g_idiv rfl (by first | decide | (intro q; rw [ia_eq] at q; simp at q; omega)) ?_
  refine g_run 8 rfl ?_
  refine g_callS0 rfl LX4_81 rfl rfl ?_
  refine c_J9_min_7cf53 (xI := 400) (zI := ((((hp.1 15 5) + (4 * (hp.1 15 6))) - (((hp.1 15 5) - 20) / 20)) - (hp.1 15 7)).toInt) (by decide) rfl (fun k1 => ?_) (fun k2 => ?_)
  · refine g_callS0 rfl LX4_70 rfl rfl ?_
    refine c_J9_max_7cf53 (xI := 20) (zI := 400) (by decide) (by decide) (fun k3 => ?_) (fun k4 => ?_)
    · refine g_run 16 rfl ?_
      first | (rw [clmp_lo (by omega)] at h1; exact g_vret rfl rfl h1) | (rw [clmp_hi (by omega)] at h1; exact g_vret rfl rfl h1) | (rw [clmp_in (by omega) (by omega)] at h1; exact g_vret rfl rfl h1)
    · refine g_run 16 rfl ?_
      first | (rw [clmp_lo (by omega)] at h1; exact g_vret rfl rfl h1) | (rw [clmp_hi (by omega)] at h1; exact g_vret rfl rfl h1) | (rw [clmp_in (by omega) (by omega)] at h1; exact g_vret rfl rfl h1)
  · refine g_callS0 rfl LX4_70 rfl rfl ?_
    refine c_J9_max_7cf53 (xI := 20) (zI := ((((hp.1 15 5) + (4 * (hp.1 15 6))) - (((hp.1 15 5) - 20) / 20)) - (hp.1 15 7)).toInt) (by decide) rfl (fun k5 => ?_) (fun k6 => ?_)
    · refine g_run 16 rfl ?_
      first | (rw [clmp_lo (by omega)] at h1; exact g_vret rfl rfl h1) | (rw [clmp_hi (by omega)] at h1; exact g_vret rfl rfl h1) | (rw [clmp_in (by omega) (by omega)] at h1; exact g_vret rfl rfl h1)
    · refine g_run 16 rfl ?_
      first | (rw [clmp_lo (by omega)] at h1; exact g_vret rfl rfl h1) | (rw [clmp_hi (by omega)] at h1; exact g_vret rfl rfl h1) | (rw [clmp_in (by omega) (by omega)] at h1; exact g_vret rfl rfl h1)
end S25
