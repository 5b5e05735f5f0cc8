/-! blending in the class -/
def prL (s : Nat → Int32) (fI tI : Int) (P : Nat → Int32) : Nat → (Nat → Int32)
  | 0 => P
  | k + 1 => va_up (va_up (prL s fI tI P k) ((fI * 12) + (k : Int)).toNat (prL s fI tI P k ((fI * 12) + (k : Int)).toNat - s k)) ((tI * 12) + (k : Int)).toNat (va_up (prL s fI tI P k) ((fI * 12) + (k : Int)).toNat (prL s fI tI P k ((fI * 12) + (k : Int)).toNat - s k) ((tI * 12) + (k : Int)).toNat + s k)
/-- the shares of n grams out of the bag fI, and the rests behind them -/
def shX (hp : hp_T) (fI : Int) (n : Int32) : (Nat → Int32) × (Nat → Int32) := exX 12 (fT (fun l => qS n (hp.1 18 fI.toNat) (hp.1 22 ((fI * 12) + (l : Int)).toNat)) 12 (hp.1 23)) (fT (fun l => rS n (hp.1 18 fI.toNat) (hp.1 22 ((fI * 12) + (l : Int)).toNat)) 12 (hp.1 24)) (lfq n (fun l => qS n (hp.1 18 fI.toNat) (hp.1 22 ((fI * 12) + (l : Int)).toNat)) 12)
def pourX (hp : hp_T) (fI tI : Int) (n : Int32) : hp_T := sI (sI (sR (sR (sR hp 23 (shX hp fI n).1) 24 (shX hp fI n).2) 22 (prL (shX hp fI n).1 fI tI (hp.1 22) 12)) 18 fI.toNat (hp.1 18 fI.toNat - n)) 18 tI.toNat (va_up (hp.1 18) fI.toNat (hp.1 18 fI.toNat - n) tI.toNat + n)
/-- bag k is poured into zI -/
def blS (h : hp_T) (zI : Int) (k : Nat) : hp_T := sI (sI (pourX h (k : Int) zI (h.1 21 k)) 19 zI.toNat (if ((pourX h (k : Int) zI (h.1 21 k)).1 19 zI.toNat).toInt ≤ ((pourX h (k : Int) zI (h.1 21 k)).1 19 k).toInt then (pourX h (k : Int) zI (h.1 21 k)).1 19 zI.toNat else (pourX h (k : Int) zI (h.1 21 k)).1 19 k)) 21 k 0
def blX (h0 : hp_T) (zI : Int) : Nat → hp_T
  | 0 => h0
  | k + 1 => if 0 < ((blX h0 zI k).1 21 k).toInt then blS (blX h0 zI k) zI k else blX h0 zI k
theorem blX_t {h0 : hp_T} {zI : Int} {k : Nat} (h : 0 < ((blX h0 zI k).1 21 k).toInt) : blX h0 zI (k + 1) = blS (blX h0 zI k) zI k := by rw [blX, if_pos h]
theorem blX_f {h0 : hp_T} {zI : Int} {k : Nat} (h : ((blX h0 zI k).1 21 k).toInt ≤ 0) : blX h0 zI (k + 1) = blX h0 zI k := by rw [blX, if_neg (by omega)]
theorem pr_put {hp : hp_T} {P : Nat → Int32} {j1 j2 : Nat} {x y : Int32} : sI (sI (sR hp 22 P) 22 j1 x) 22 j2 y = sR hp 22 (va_up (va_up P j1 x) j2 y) := by
  refine two_ext (fun q i => ?_) rfl
  simp only [sI, sR]
  by_cases h1 : q = 22
  · subst h1; simp [va_up]
  · simp [va_up, h1]
theorem sR22_id {hp : hp_T} : sR hp 22 (hp.1 22) = hp := by
  refine two_ext (fun q i => ?_) rfl
  simp only [sR]
  by_cases h1 : q = 22
  · subst h1; simp [va_up]
  · simp [va_up, h1]
section S22
variable {d : Nat} {sh : sh_T} {hp : hp_T} {Q : Option Value → sh_T → hp_T → Prop} {b : Bool} {xs : sh_T}
theorem lp_X0_pour  {f0 t0 n : Int32} {fI tI : Int} (fE : f0.toInt = fI) (tE : t0.toInt = tI) (hf0 : 0 ≤ fI ∧ fI < 60) (ht0 : 0 ≤ tI ∧ tI < 60) (h1 : Q none (SH b xs) (sI (sI (sR hp 22 (prL (hp.1 23) fI tI (hp.1 22) 12)) 18 fI.toNat (hp.1 18 fI.toNat - n)) 18 tI.toNat ((sI (sR hp 22 (prL (hp.1 23) fI tI (hp.1 22) 12)) 18 fI.toNat (hp.1 18 fI.toNat - n)).1 18 tI.toNat + n))) : ∀ (f k : Nat) (i : Int32), i.toInt = (k : Int) → k ≤ 12 → 12 - k < f → gG mX0_pour (d + 2) 0 0 (zQ 0 0 Q) 0 0 (9, [.ref 17, .int f0, .int t0, .int n, .int i], [], (SH b xs), (sR hp 22 (prL (hp.1 23) fI tI (hp.1 22) k))) := by
  intro f
  induction f with
  | zero => intros; omega
  | succ f ih =>
    intro k i iE hk hf
    refine g_run 2 rfl ?_
    refine gj_ge (kx := (k : Int)) (kz := 12) rfl iE (by decide) (fun k1 => ?_) (fun k1 => ?_)
    · refine g_run 4 rfl ?_
      refine g_iald (j := fI.toNat) rfl rfl ((show _ = fI from fE).trans (by omega)) (by omega) ?_
      refine g_run 2 rfl ?_
      refine g_iast (j := fI.toNat) rfl rfl ((show _ = fI from fE).trans (by omega)) (by omega) ?_
      refine g_run 4 rfl ?_
      refine g_iald (j := tI.toNat) rfl rfl ((show _ = tI from tE).trans (by omega)) (by omega) ?_
      refine g_run 2 rfl ?_
      refine g_iast (j := tI.toNat) rfl rfl ((show _ = tI from tE).trans (by omega)) (by omega) ?_
      obtain rfl : k = 12 := by omega
      exact g_vret rfl rfl h1
    · refine g_run 8 rfl ?_
      refine g_iald (j := ((fI * 12) + (k : Int)).toNat) rfl rfl ((show _ = ((fI * 12) + (k : Int)) from (ia_add2 (ia_mul2 fE (by decide) (by omega) (by omega)) iE (by omega) (by omega))).trans (by omega)) (by omega) ?_
      refine g_run 3 rfl ?_
      refine g_iald (j := k) rfl rfl ((show _ = (k : Int) from iE).trans (by omega)) (by omega) ?_
      refine g_run 1 rfl ?_
      refine g_iast (j := ((fI * 12) + (k : Int)).toNat) rfl rfl ((show _ = ((fI * 12) + (k : Int)) from (ia_add2 (ia_mul2 fE (by decide) (by omega) (by omega)) iE (by omega) (by omega))).trans (by omega)) (by omega) ?_
      refine g_run 8 rfl ?_
      refine g_iald (j := ((tI * 12) + (k : Int)).toNat) rfl rfl ((show _ = ((tI * 12) + (k : Int)) from (ia_add2 (ia_mul2 tE (by decide) (by omega) (by omega)) iE (by omega) (by omega))).trans (by omega)) (by omega) ?_
      refine g_run 3 rfl ?_
      refine g_iald (j := k) rfl rfl ((show _ = (k : Int) from iE).trans (by omega)) (by omega) ?_
      refine g_run 1 rfl ?_
      refine g_iast (j := ((tI * 12) + (k : Int)).toNat) rfl rfl ((show _ = ((tI * 12) + (k : Int)) from (ia_add2 (ia_mul2 tE (by decide) (by omega) (by omega)) iE (by omega) (by omega))).trans (by omega)) (by omega) ?_
      refine g_run 2 rfl ?_
      refine gG_hp (pr_put (hp := hp) (P := (prL (hp.1 23) fI tI (hp.1 22) k))) ?_
      exact ih (k + 1) _ (inc1 iE (by omega)) (by omega) (by omega)
theorem c_X0_pour {f : Int32} {fI : Int} {t : Int32} {tI : Int} {n : Int32} {nI : Int} (fE : f.toInt = fI) (tE : t.toInt = tI) (nE : n.toInt = nI) (hf0 : 0 ≤ fI ∧ fI < 60) (ht0 : 0 ≤ tI ∧ tI < 60) (hg : 1 ≤ (hp.1 18 fI.toNat).toInt) (h1 : Q none (SH b xs) (pourX hp fI tI n)) : gC mX0_pour (d + 2) 0 0 [.ref 17, .int f, .int t, .int n] (SH b xs) hp Q := by
  refine g_enter okX0_pour (plainFor_of_name rfl) rfl ?_
  refine g_run 3 rfl ?_
  refine g_callV0 rfl LX0_65 rfl rfl rfl rfl ?_
  refine c_X0_shareOut (bnI := fI) fE rfl hf0 hg ?_
  refine g_run 2 rfl ?_
  refine gG_hp (sR22_id).symm ?_
  exact lp_X0_pour fE tE hf0 ht0 h1 13 0 0 (by decide) (by omega) (by omega)
theorem c_X0_addEmpty {dd : Int32} {ddI : Int} (ddE : dd.toInt = ddI) (hs : 0 ≤ (hp.1 17 0).toInt ∧ (hp.1 17 0).toInt < 60) (h1 : Q (some (.int (hp.1 17 0))) (SH b xs) (sI (sI (sI hp 19 (hp.1 17 0).toInt.toNat dd) 20 (hp.1 17 0).toInt.toNat (-1)) 17 0 (hp.1 17 0 + 1))) : gC mX0_addEmpty d 0 0 [.ref 17, .int dd] (SH b xs) hp Q := by
  refine g_enter okX0_addEmpty (plainFor_of_name rfl) rfl ?_
  refine g_run 7 rfl ?_
  refine g_iast (j := ((hp.1 17 0).toInt).toNat) rfl rfl ((show _ = (hp.1 17 0).toInt from rfl).trans (by omega)) (by omega) ?_
  refine g_run 4 rfl ?_
  refine g_iast (j := ((hp.1 17 0).toInt).toNat) rfl rfl ((show _ = (hp.1 17 0).toInt from rfl).trans (by omega)) (by omega) ?_
  refine g_run 7 rfl ?_
  exact g_iret rfl rfl h1
theorem c_X0_addOfOneLot {l : Int32} {lI : Int} {o : Int32} {oI : Int} {dd : Int32} {ddI : Int} (lE : l.toInt = lI) (oE : o.toInt = oI) (ddE : dd.toInt = ddI) (hs : 0 ≤ (hp.1 17 0).toInt ∧ (hp.1 17 0).toInt < 60) (hl : 0 ≤ lI ∧ lI < 12) (h1 : Q (some (.int (hp.1 17 0))) (SH b xs) (sI (sI (sI (sI (sI hp 19 (hp.1 17 0).toInt.toNat dd) 20 (hp.1 17 0).toInt.toNat (-1)) 17 0 (hp.1 17 0 + 1)) 18 (hp.1 17 0).toInt.toNat o) 22 (((hp.1 17 0).toInt * 12) + lI).toNat o)) : gC mX0_addOfOneLot (d + 1) 0 0 [.ref 17, .int l, .int o, .int dd] (SH b xs) hp Q := by
  refine g_enter okX0_addOfOneLot (plainFor_of_name rfl) rfl ?_
  refine g_run 2 rfl ?_
  refine g_callV0 rfl LX0_40 rfl rfl rfl rfl ?_
  refine c_X0_addEmpty rfl (by omega) ?_
  refine g_run 5 rfl ?_
  refine g_iast (j := ((hp.1 17 0).toInt).toNat) rfl rfl ((show _ = (hp.1 17 0).toInt from rfl).trans (by omega)) (by omega) ?_
  refine g_run 8 rfl ?_
  refine g_iast (j := (((hp.1 17 0).toInt * 12) + lI).toNat) rfl rfl ((show _ = (((hp.1 17 0).toInt * 12) + lI) from (ia_add2 (ia_mul2 rfl (by decide) (by omega) (by omega)) lE (by omega) (by omega))).trans (by omega)) (by omega) ?_
  refine g_run 1 rfl ?_
  exact g_iret rfl rfl h1
theorem lp_X0_blendTaken  {h0 : hp_T} {zI : Int} {z : Int32} (zE : z.toInt = zI) (hz : 0 ≤ zI ∧ zI < 60) (hg : ∀ k : Nat, (k : Int) < zI → 0 < ((blX h0 zI k).1 21 k).toInt → 1 ≤ ((blX h0 zI k).1 18 k).toInt) (h1 : Q (some (.int z)) (SH b xs) (sI (blX h0 zI zI.toNat) 17 1 0)) : ∀ (f k : Nat) (i : Int32), i.toInt = (k : Int) → (k : Int) ≤ zI → zI.toNat - k < f → gG mX0_blendTaken (d + 3) 0 0 (zQ 0 0 Q) 0 0 (28, [.ref 17, .int z, .int i], [], (SH b xs), (blX h0 zI k)) := by
  intro f
  induction f with
  | zero => intros; omega
  | succ f ih =>
    intro k i iE hk hf
    refine g_run 2 rfl ?_
    refine gj_ge (kx := (k : Int)) (kz := zI) rfl iE zE (fun k1 => ?_) (fun k1 => ?_)
    · refine g_run 4 rfl ?_
      obtain rfl : zI = (k : Int) := by omega
      rw [Int.toNat_natCast] at h1
      exact g_iret rfl rfl h1
    · refine g_run 3 rfl ?_
      refine g_iald (j := k) rfl rfl ((show _ = (k : Int) from iE).trans (by omega)) (by omega) ?_
      refine gz_le (kx := ((blX h0 zI k).1 21 k).toInt) rfl rfl (fun k2 => ?_) (fun k2 => ?_)
      · refine g_run 2 rfl ?_
        refine gG_hp (blX_f (h0 := h0) (zI := zI) (k := k) (by assumption)).symm ?_
        exact ih (k + 1) _ (inc1 iE (by omega)) (by omega) (by omega)
      · refine g_run 6 rfl ?_
        refine g_iald (j := k) rfl rfl ((show _ = (k : Int) from iE).trans (by omega)) (by omega) ?_
        refine g_callV0 rfl LX0_56 rfl rfl rfl rfl ?_
        refine c_X0_pour (fI := (k : Int)) (tI := zI) iE zE rfl (by omega) (by omega) (hg k (by omega) (by assumption)) ?_
        refine g_run 6 rfl ?_
        refine g_iald (j := zI.toNat) rfl rfl ((show _ = zI from zE).trans (by omega)) (by omega) ?_
        refine g_run 3 rfl ?_
        refine g_iald (j := k) rfl rfl ((show _ = (k : Int) from iE).trans (by omega)) (by omega) ?_
        refine g_callS0 rfl LX0_60 rfl rfl ?_
        refine c_J9_min_7cf53 (xI := ((pourX (blX h0 zI k) (k : Int) zI ((blX h0 zI k).1 21 k)).1 19 zI.toNat).toInt) (zI := ((pourX (blX h0 zI k) (k : Int) zI ((blX h0 zI k).1 21 k)).1 19 k).toInt) rfl rfl (fun k3 => ?_) (fun k4 => ?_)
        · refine g_iast (j := zI.toNat) rfl rfl ((show _ = zI from zE).trans (by omega)) (by omega) ?_
          refine g_run 4 rfl ?_
          refine g_iast (j := k) rfl rfl ((show _ = (k : Int) from iE).trans (by omega)) (by omega) ?_
          refine g_run 2 rfl ?_
          have e := blX_t (h0 := h0) (zI := zI) (k := k) (by assumption)
          refine gG_hp (h2 := blX h0 zI (k + 1)) (by rw [e, blS]; first | rw [if_pos (by assumption)] | rw [if_neg (by omega)]) ?_
          exact ih (k + 1) _ (inc1 iE (by omega)) (by omega) (by omega)
        · refine g_iast (j := zI.toNat) rfl rfl ((show _ = zI from zE).trans (by omega)) (by omega) ?_
          refine g_run 4 rfl ?_
          refine g_iast (j := k) rfl rfl ((show _ = (k : Int) from iE).trans (by omega)) (by omega) ?_
          refine g_run 2 rfl ?_
          have e := blX_t (h0 := h0) (zI := zI) (k := k) (by assumption)
          refine gG_hp (h2 := blX h0 zI (k + 1)) (by rw [e, blS]; first | rw [if_pos (by assumption)] | rw [if_neg (by omega)]) ?_
          exact ih (k + 1) _ (inc1 iE (by omega)) (by omega) (by omega)
theorem c_X0_blendTaken (hs : 0 ≤ (hp.1 17 0).toInt) (hg : (hp.1 17 0).toInt < 60 → ∀ k : Nat, (k : Int) < (hp.1 17 0).toInt → 0 < ((blX (sI (sI (sI hp 19 (hp.1 17 0).toInt.toNat 999) 20 (hp.1 17 0).toInt.toNat (-1)) 17 0 (hp.1 17 0 + 1)) (hp.1 17 0).toInt k).1 21 k).toInt → 1 ≤ ((blX (sI (sI (sI hp 19 (hp.1 17 0).toInt.toNat 999) 20 (hp.1 17 0).toInt.toNat (-1)) 17 0 (hp.1 17 0 + 1)) (hp.1 17 0).toInt k).1 18 k).toInt) (h1 : (hp.1 17 1).toInt ≠ 0 ∧ (hp.1 17 0).toInt < 60 → Q (some (.int (hp.1 17 0))) (SH b xs) (sI (blX (sI (sI (sI hp 19 (hp.1 17 0).toInt.toNat 999) 20 (hp.1 17 0).toInt.toNat (-1)) 17 0 (hp.1 17 0 + 1)) (hp.1 17 0).toInt (hp.1 17 0).toInt.toNat) 17 1 0)) (h0 : (hp.1 17 1).toInt = 0 ∨ 60 ≤ (hp.1 17 0).toInt → Q (some (.int (-1))) (SH b xs) hp) : gC mX0_blendTaken (d + 3) 0 0 [.ref 17] (SH b xs) hp Q := by
  refine g_enter okX0_blendTaken (plainFor_of_name rfl) rfl ?_
  refine g_run 2 rfl ?_
  refine gz_eq (kx := (hp.1 17 1).toInt) rfl rfl (fun k1 => ?_) (fun k1 => ?_)
  · refine g_run 1 rfl ?_
    exact g_iret rfl rfl (by first | exact h1 (by omega) | exact h0 (by omega))
  · refine g_run 3 rfl ?_
    refine gj_lt (kx := (hp.1 17 0).toInt) (kz := 60) rfl rfl (by decide) (fun k2 => ?_) (fun k2 => ?_)
    · refine g_run 2 rfl ?_
      refine g_callV0 rfl LX0_40 rfl rfl rfl rfl ?_
      refine c_X0_addEmpty rfl (by omega) ?_
      refine g_run 3 rfl ?_
      exact lp_X0_blendTaken (h0 := (sI (sI (sI hp 19 (hp.1 17 0).toInt.toNat 999) 20 (hp.1 17 0).toInt.toNat (-1)) 17 0 (hp.1 17 0 + 1))) rfl (by omega) (hg (by omega)) (h1 (by omega)) 61 0 0 (by decide) (by omega) (by omega)
    · refine g_run 1 rfl ?_
      exact g_iret rfl rfl (by first | exact h1 (by omega) | exact h0 (by omega))
theorem c_X9_blend (hs : 0 ≤ (hp.1 17 0).toInt) (hg : (hp.1 17 0).toInt < 60 → ∀ k : Nat, (k : Int) < (hp.1 17 0).toInt → 0 < ((blX (sI (sI (sI hp 19 (hp.1 17 0).toInt.toNat 999) 20 (hp.1 17 0).toInt.toNat (-1)) 17 0 (hp.1 17 0 + 1)) (hp.1 17 0).toInt k).1 21 k).toInt → 1 ≤ ((blX (sI (sI (sI hp 19 (hp.1 17 0).toInt.toNat 999) 20 (hp.1 17 0).toInt.toNat (-1)) 17 0 (hp.1 17 0 + 1)) (hp.1 17 0).toInt k).1 18 k).toInt) (h1 : (hp.1 17 1).toInt ≠ 0 ∧ (hp.1 17 0).toInt < 60 → Q (some (.int (hp.1 17 0))) (SH b xs) (sI (blX (sI (sI (sI hp 19 (hp.1 17 0).toInt.toNat 999) 20 (hp.1 17 0).toInt.toNat (-1)) 17 0 (hp.1 17 0 + 1)) (hp.1 17 0).toInt (hp.1 17 0).toInt.toNat) 17 1 0)) (h0 : (hp.1 17 1).toInt = 0 ∨ 60 ≤ (hp.1 17 0).toInt → Q (some (.int (-1))) (SH b xs) hp) : gC mX9_blend (d + 4) 0 0 [.ref 0] (SH b xs) hp Q := by
  refine g_enter okX9_blend (plainFor_of_name rfl) rfl ?_
  refine g_run 2 rfl ?_
  refine g_callV0 rfl LX9_144 rfl rfl rfl rfl ?_
  refine c_X0_blendTaken hs hg (fun k => ?_) (fun k => ?_)
  · exact g_iret rfl rfl (by first | exact h1 (by omega) | exact h0 (by omega))
  · exact g_iret rfl rfl (by first | exact h1 (by omega) | exact h0 (by omega))
end S22
