/-! blending: shares -/
def fT (f : Nat → Int32) (k : Nat) (t : Nat → Int32) : Nat → Int32 := fun i => if i < k then f i else t i
theorem fT_s {f t : Nat → Int32} {k : Nat} : va_up (fT f k t) k (f k) = fT f (k + 1) t := by
  funext i
  simp only [va_up, fT]
  by_cases h : i = k
  · subst h; simp
  · by_cases h2 : i < k
    · have : i < k + 1 := by omega
      simp [h, h2, this]
    · have : ¬ i < k + 1 := by omega
      simp [h, h2, this]
def gm (r : Nat → Int32) : Nat → Nat
  | 0 => 0
  | k + 1 => if (r (gm r k)).toInt < (r (k + 1)).toInt then k + 1 else gm r k
theorem gm_t {r : Nat → Int32} {k : Nat} (h : (r (gm r k)).toInt < (r (k + 1)).toInt) : gm r (k + 1) = k + 1 := by rw [gm, if_pos h]
theorem gm_f {r : Nat → Int32} {k : Nat} (h : (r (k + 1)).toInt ≤ (r (gm r k)).toInt) : gm r (k + 1) = gm r k := by rw [gm, if_neg (by omega)]
theorem gm_le (r : Nat → Int32) : ∀ k, gm r k ≤ k
  | 0 => Nat.le_refl _
  | k + 1 => by
    have := gm_le r k
    unfold gm
    split <;> omega
def exX : Nat → (Nat → Int32) → (Nat → Int32) → Int32 → (Nat → Int32) × (Nat → Int32)
  | 0, s, r, _ => (s, r)
  | f + 1, s, r, left => if 0 < left.toInt then exX f (va_up s (gm r 11) (s (gm r 11) + 1)) (va_up r (gm r 11) 0) (left + -1) else (s, r)
theorem exX_t {f : Nat} {s r : Nat → Int32} {left : Int32} (h : 0 < left.toInt) : exX (f + 1) s r left = exX f (va_up s (gm r 11) (s (gm r 11) + 1)) (va_up r (gm r 11) 0) (left + -1) := by rw [exX, if_pos h]
theorem exX_f {f : Nat} {s r : Nat → Int32} {left : Int32} (h : left.toInt ≤ 0) : exX (f + 1) s r left = (s, r) := by rw [exX, if_neg (by omega)]
def lfq (n : Int32) (q : Nat → Int32) : Nat → Int32
  | 0 => n
  | k + 1 => lfq n q k - q k
def qS (n G p : Int32) : Int32 := ((n.toInt64 * p.toInt64) / G.toInt64).toInt32
def rS (n G p : Int32) : Int32 := ((n.toInt64 * p.toInt64) - (n.toInt64 * p.toInt64) / G.toInt64 * G.toInt64).toInt32
theorem sh_put {hp : hp_T} {s t : Nat → Int32} {j : Nat} {x y : Int32} : sI (sI (sR (sR hp 23 s) 24 t) 23 j x) 24 j y = sR (sR hp 23 (va_up s j x)) 24 (va_up t j y) := by
  refine two_ext (fun q i => ?_) rfl
  simp only [sI, sR]
  by_cases h1 : q = 23
  · subst h1; simp [va_up]
  · by_cases h2 : q = 24
    · subst h2; simp [va_up]
    · simp [va_up, h1, h2]
theorem sh_put2 {hp : hp_T} {s t : Nat → Int32} {j : Nat} {x y : Int32} : sI (sI (sR (sR hp 23 s) 24 t) 23 j x) 24 j y = sR (sR hp 23 (va_up s j x)) 24 (va_up t j y) := sh_put
theorem sR_id {hp : hp_T} {f g : Nat → Int32} : sR (sR hp 23 (fT f 0 (hp.1 23))) 24 (fT g 0 (hp.1 24)) = hp := by
  refine two_ext (fun q i => ?_) rfl
  simp only [sR]
  by_cases h1 : q = 23
  · subst h1; simp [va_up, fT]
  · by_cases h2 : q = 24
    · subst h2; simp [va_up, fT]
    · simp [va_up, h1, h2]
theorem gG_l4 {y : mt_T} {d mc ms : Nat} {Q : zt} {cells slots pc : Nat} {a0 a1 a2 a3 : Value} {x y1 : Int32} {r st : List Value} {sh : sh_T} {hp : hp_T} (e : x = y1) (k : gG y d mc ms Q cells slots (pc, a0 :: a1 :: a2 :: a3 :: .int y1 :: r, st, sh, hp)) : gG y d mc ms Q cells slots (pc, a0 :: a1 :: a2 :: a3 :: .int x :: r, st, sh, hp) := e ▸ k
section S21
variable {d : Nat} {sh : sh_T} {hp : hp_T} {Q : Option Value → sh_T → hp_T → Prop} {b : Bool} {xs : sh_T}
theorem lp_X0_lotOfGreatestRest  (h1 : Q (some (.int (nI (gm (hp.1 24) 11)))) (SH b xs) hp) : ∀ (f k : Nat) (i g : Int32), i.toInt = ((k + 1 : Nat) : Int) → g.toInt = (gm (hp.1 24) k : Int) → k ≤ 11 → 11 - k < f → gG mX0_lotOfGreatestRest d 0 0 (zQ 0 0 Q) 0 0 (4, [.ref 17, .int g, .int i], [], (SH b xs), hp) := by
  intro f
  induction f with
  | zero => intros; omega
  | succ f ih =>
    intro k i g iE gE hk hf
    have hgl := gm_le (hp.1 24) k
    refine g_run 2 rfl ?_
    refine gj_ge (kx := ((k + 1 : Nat) : Int)) (kz := 12) rfl iE (by decide) (fun k1 => ?_) (fun k1 => ?_)
    · refine g_run 1 rfl ?_
      obtain rfl : k = 11 := by omega
      rw [← eq_nI gE (by have := gm_le (hp.1 24) 11; omega)] at h1
      exact g_iret rfl rfl h1
    · refine g_run 3 rfl ?_
      refine g_iald (j := ((k + 1 : Nat) : Int).toNat) rfl rfl ((show _ = ((k + 1 : Nat) : Int) from iE).trans (by omega)) (by omega) ?_
      refine g_run 3 rfl ?_
      refine g_iald (j := ((gm (hp.1 24) k : Nat) : Int).toNat) rfl rfl ((show _ = ((gm (hp.1 24) k : Nat) : Int) from gE).trans (by omega)) (by omega) ?_
      refine gj_le (kx := (hp.1 24 (((k + 1 : Nat) : Int).toNat)).toInt) (kz := (hp.1 24 (((gm (hp.1 24) k : Nat) : Int).toNat)).toInt) rfl rfl rfl (fun k2 => ?_) (fun k2 => ?_)
      · refine g_run 2 rfl ?_
        exact ih (k + 1) _ _ (inc1 iE (by omega)) (by rw [gm_f (by simpa using ‹_›)]; exact gE) (by omega) (by omega)
      · refine g_run 4 rfl ?_
        exact ih (k + 1) _ _ (inc1 iE (by omega)) (by rw [gm_t (by simpa using ‹_›)]; exact iE) (by omega) (by omega)
theorem c_X0_lotOfGreatestRest (h1 : Q (some (.int (nI (gm (hp.1 24) 11)))) (SH b xs) hp) : gC mX0_lotOfGreatestRest d 0 0 [.ref 17] (SH b xs) hp Q := by
  refine g_enter okX0_lotOfGreatestRest (plainFor_of_name rfl) rfl ?_
  refine g_run 4 rfl ?_
  exact lp_X0_lotOfGreatestRest h1 12 0 1 0 (by decide) (show (0 : Int32).toInt = ((0 : Nat) : Int) from by decide) (by omega) (by omega)
theorem lp2_X0_shareOut {bn n G : Int32} {E0 : (Nat → Int32) × (Nat → Int32)} (h1 : Q none (SH b xs) (sR (sR hp 23 E0.1) 24 E0.2)) : ∀ (f k : Nat) (i left : Int32) (s t : Nat → Int32) (w6 w7 : Value), i.toInt = (k : Int) → k ≤ 12 → exX (12 - k) s t left = E0 → 12 - k < f → gG mX0_shareOut (d + 1) 0 0 (zQ 0 0 Q) 0 0 (84, [.ref 17, .int bn, .int n, .int G, .int left, .int i, w6, w7], [], (SH b xs), (sR (sR hp 23 s) 24 t)) := by
  intro f
  induction f with
  | zero => intros; omega
  | succ f ih =>
    intro k i left s t w6 w7 iE hk he hf
    have hgl := gm_le t 11
    refine g_run 2 rfl ?_
    refine gj_ge (kx := (k : Int)) (kz := 12) rfl iE (by decide) (fun k1 => ?_) (fun k1 => ?_)
    · first | (rw [show 12 - k = 0 by omega] at he; subst he; exact g_vret rfl rfl h1) | (rw [show 12 - k = (12 - (k + 1)) + 1 by omega, exX_f (by omega)] at he; subst he; exact g_vret rfl rfl h1)
    · refine g_run 1 rfl ?_
      refine gz_le (kx := left.toInt) rfl rfl (fun k2 => ?_) (fun k2 => ?_)
      · first | (rw [show 12 - k = 0 by omega] at he; subst he; exact g_vret rfl rfl h1) | (rw [show 12 - k = (12 - (k + 1)) + 1 by omega, exX_f (by omega)] at he; subst he; exact g_vret rfl rfl h1)
      · refine g_run 1 rfl ?_
        refine g_callV0 rfl LX0_72 rfl rfl rfl rfl ?_
        refine c_X0_lotOfGreatestRest ?_
        refine g_run 5 rfl ?_
        refine g_iald (j := (gm t 11)) rfl rfl ((show _ = ((gm t 11 : Nat) : Int) from (nI_toInt (by have := gm_le t 11; omega))).trans (by omega)) (by omega) ?_
        refine g_run 2 rfl ?_
        refine g_iast (j := (gm t 11)) rfl rfl ((show _ = ((gm t 11 : Nat) : Int) from (nI_toInt (by have := gm_le t 11; omega))).trans (by omega)) (by omega) ?_
        refine g_run 4 rfl ?_
        refine g_iast (j := (gm t 11)) rfl rfl ((show _ = ((gm t 11 : Nat) : Int) from (nI_toInt (by have := gm_le t 11; omega))).trans (by omega)) (by omega) ?_
        refine g_run 3 rfl ?_
        refine gG_hp (sh_put2 (hp := hp) (s := s) (t := t) (j := gm t 11)) ?_
        rw [show 12 - k = (12 - (k + 1)) + 1 by omega, exX_t (by omega)] at he
        exact ih (k + 1) _ _ _ _ _ _ (inc1 iE (by omega)) (by omega) he (by omega)
theorem lp1_X0_shareOut  {bn n G : Int32} {bnI : Int} (bE : bn.toInt = bnI) (hb : 0 ≤ bnI ∧ bnI < 60) (hG : 1 ≤ G.toInt) (h1 : Q none (SH b xs) (sR (sR hp 23 (exX 12 (fT (fun l => qS n G (hp.1 22 ((bnI * 12) + (l : Int)).toNat)) 12 (hp.1 23)) (fT (fun l => rS n G (hp.1 22 ((bnI * 12) + (l : Int)).toNat)) 12 (hp.1 24)) (lfq n (fun l => qS n G (hp.1 22 ((bnI * 12) + (l : Int)).toNat)) 12)).1) 24 (exX 12 (fT (fun l => qS n G (hp.1 22 ((bnI * 12) + (l : Int)).toNat)) 12 (hp.1 23)) (fT (fun l => rS n G (hp.1 22 ((bnI * 12) + (l : Int)).toNat)) 12 (hp.1 24)) (lfq n (fun l => qS n G (hp.1 22 ((bnI * 12) + (l : Int)).toNat)) 12)).2)) : ∀ (f k : Nat) (i : Int32) (w6 w7 : Value), i.toInt = (k : Int) → k ≤ 12 → 12 - k < f → gG mX0_shareOut (d + 1) 0 0 (zQ 0 0 Q) 0 0 (17, [.ref 17, .int bn, .int n, .int G, .int (lfq n (fun l => qS n G (hp.1 22 ((bnI * 12) + (l : Int)).toNat)) k), .int i, w6, w7], [], (SH b xs), (sR (sR hp 23 (fT (fun l => qS n G (hp.1 22 ((bnI * 12) + (l : Int)).toNat)) k (hp.1 23))) 24 (fT (fun l => rS n G (hp.1 22 ((bnI * 12) + (l : Int)).toNat)) k (hp.1 24)))) := by
  intro f
  induction f with
  | zero => intros; omega
  | succ f ih =>
    intro k i w6 w7 iE hk hf
    have hz : ¬ G.toInt64 = 0 := fun z => by have e := congrArg Int64.toInt z; rw [t64 rfl] at e; have e0 : (0 : Int64).toInt = 0 := (by decide); omega
    refine g_run 2 rfl ?_
    refine gj_ge (kx := (k : Int)) (kz := 12) rfl iE (by decide) (fun k1 => ?_) (fun k1 => ?_)
    · refine g_run 2 rfl ?_
      obtain rfl : k = 12 := by omega
      exact lp2_X0_shareOut (hp := hp) h1 13 0 0 _ _ _ _ _ (by decide) (by omega) rfl (by omega)
    · refine g_run 5 rfl ?_
      refine g_callV0 rfl LX0_44 rfl rfl rfl rfl ?_
      refine c_X0_partOf (nI := bnI) (mI := (k : Int)) bE iE (by omega) (by omega) ?_
      refine g_run 9 rfl ?_
      refine g_ldiv rfl (by first | assumption | decide) ?_
      refine g_run 1 rfl ?_
      refine g_iast (j := k) rfl rfl ((show _ = (k : Int) from iE).trans (by omega)) (by omega) ?_
      refine g_run 6 rfl ?_
      refine g_lrem rfl (by first | assumption | decide) ?_
      refine g_run 1 rfl ?_
      refine g_iast (j := k) rfl rfl ((show _ = (k : Int) from iE).trans (by omega)) (by omega) ?_
      refine g_run 4 rfl ?_
      refine g_iald (j := k) rfl rfl ((show _ = (k : Int) from iE).trans (by omega)) (by omega) ?_
      refine g_run 4 rfl ?_
      refine gG_l4 (y1 := lfq n (fun l => qS n G (hp.1 22 ((bnI * 12) + (l : Int)).toNat)) (k + 1)) (by simp [lfq, sI, sR, va_up, qS]) ?_
      refine gG_hp (sh_put (hp := hp) (s := fT (fun l => qS n G (hp.1 22 ((bnI * 12) + (l : Int)).toNat)) k (hp.1 23)) (t := fT (fun l => rS n G (hp.1 22 ((bnI * 12) + (l : Int)).toNat)) k (hp.1 24)) (j := k)) ?_
      refine gG_hp (congr (congrArg (fun s t => sR (sR hp 23 s) 24 t) (fT_s (f := (fun l => qS n G (hp.1 22 ((bnI * 12) + (l : Int)).toNat))) (k := k) (t := hp.1 23))) (fT_s (f := (fun l => rS n G (hp.1 22 ((bnI * 12) + (l : Int)).toNat))) (k := k) (t := hp.1 24))) ?_
      exact ih (k + 1) _ _ _ (inc1 iE (by omega)) (by omega) (by omega)
theorem c_X0_shareOut {bn : Int32} {bnI : Int} {n : Int32} {nI : Int} (bnE : bn.toInt = bnI) (nE : n.toInt = nI) (hb : 0 ≤ bnI ∧ bnI < 60) (hg : 1 ≤ (hp.1 18 bnI.toNat).toInt) (h1 : Q none (SH b xs) (sR (sR hp 23 (exX 12 (fT (fun l => qS n (hp.1 18 bnI.toNat) (hp.1 22 ((bnI * 12) + (l : Int)).toNat)) 12 (hp.1 23)) (fT (fun l => rS n (hp.1 18 bnI.toNat) (hp.1 22 ((bnI * 12) + (l : Int)).toNat)) 12 (hp.1 24)) (lfq n (fun l => qS n (hp.1 18 bnI.toNat) (hp.1 22 ((bnI * 12) + (l : Int)).toNat)) 12)).1) 24 (exX 12 (fT (fun l => qS n (hp.1 18 bnI.toNat) (hp.1 22 ((bnI * 12) + (l : Int)).toNat)) 12 (hp.1 23)) (fT (fun l => rS n (hp.1 18 bnI.toNat) (hp.1 22 ((bnI * 12) + (l : Int)).toNat)) 12 (hp.1 24)) (lfq n (fun l => qS n (hp.1 18 bnI.toNat) (hp.1 22 ((bnI * 12) + (l : Int)).toNat)) 12)).2)) : gC mX0_shareOut (d + 1) 0 0 [.ref 17, .int bn, .int n] (SH b xs) hp Q := by
  refine g_enter okX0_shareOut (plainFor_of_name rfl) rfl ?_
  refine g_run 4 rfl ?_
  refine g_iald (j := bnI.toNat) rfl rfl ((show _ = bnI from bnE).trans (by omega)) (by omega) ?_
  refine g_callS0 rfl LX0_69 rfl rfl ?_
  refine c_J9_max_7cf53 (xI := 1) (zI := (hp.1 18 bnI.toNat).toInt) (by decide) rfl (fun k1 => ?_) (fun k2 => ?_)
  · refine g_run 5 rfl ?_
    have e1 : (1 : Int32) = (hp.1 18 bnI.toNat) := by rw [ia_eq]; have : (1 : Int32).toInt = 1 := (by decide); omega
    rw [← e1] at h1
    refine gG_hp (sR_id (hp := hp) (f := (fun l => qS n 1 (hp.1 22 ((bnI * 12) + (l : Int)).toNat))) (g := (fun l => rS n 1 (hp.1 22 ((bnI * 12) + (l : Int)).toNat)))).symm ?_
    exact lp1_X0_shareOut (hp := hp) bnE hb (by first | exact hg | decide) h1 13 0 0 _ _ (by decide) (by omega) (by omega)
  · refine g_run 5 rfl ?_
    refine gG_hp (sR_id (hp := hp) (f := (fun l => qS n (hp.1 18 bnI.toNat) (hp.1 22 ((bnI * 12) + (l : Int)).toNat))) (g := (fun l => rS n (hp.1 18 bnI.toNat) (hp.1 22 ((bnI * 12) + (l : Int)).toNat)))).symm ?_
    exact lp1_X0_shareOut (hp := hp) bnE hb (by first | exact hg | decide) h1 13 0 0 _ _ (by decide) (by omega) (by omega)
end S21
