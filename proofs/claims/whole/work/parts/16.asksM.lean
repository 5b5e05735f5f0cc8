/-! asking calls of the reference -/
section S16
variable {d : Nat} {sh : sh_T} {hp : hp_T} {Q : Option Value → sh_T → hp_T → Prop} {b : Bool} {xs : sh_T}
theorem lp_X10_gramsIn  {n : Int32} {nI : Int} (nE : n.toInt = nI) (hn : 0 ≤ nI ∧ nI < 60) (h1 : Q (some (.int (sumI (fun l => hp.1 63 ((12 * nI) + (l : Int)).toNat) 12))) (SH b xs) hp) : ∀ (f k : Nat) (i : Int32), i.toInt = (k : Int) → k ≤ 12 → 12 - k < f → gG mX10_gramsIn d 0 0 (zQ 0 0 Q) 0 0 (4, [.ref 43, .int n, .int (sumI (fun l => hp.1 63 ((12 * nI) + (l : Int)).toNat) k), .int i], [], (SH b xs), hp) := by
  intro f
  induction f with
  | zero => intros; omega
  | succ f ih =>
    intro k i iE hk hf
    refine g_run 2 rfl ?_
    refine gj_ge (kx := (k : Int)) (kz := 12) rfl iE (by decide) (fun k1 => ?_) (fun k1 => ?_)
    · refine g_run 1 rfl ?_
      obtain rfl : k = 12 := by omega
      exact g_iret rfl rfl h1
    · refine g_run 8 rfl ?_
      refine g_iald (j := ((12 * nI) + (k : Int)).toNat) rfl rfl ((show _ = ((12 * nI) + (k : Int)) from (ia_add2 (ia_mul2 (by decide) nE (by omega) (by omega)) iE (by omega) (by omega))).trans (by omega)) (by omega) ?_
      refine g_run 4 rfl ?_
      exact ih (k + 1) _ (inc1 iE (by omega)) (by omega) (by omega)
theorem c_X10_gramsIn {n : Int32} {nI : Int} (nE : n.toInt = nI) (hn : 0 ≤ nI ∧ nI < 60) (h1 : Q (some (.int (sumI (fun l => hp.1 63 ((12 * nI) + (l : Int)).toNat) 12))) (SH b xs) hp) : gC mX10_gramsIn d 0 0 [.ref 43, .int n] (SH b xs) hp Q := by
  refine g_enter okX10_gramsIn (plainFor_of_name rfl) rfl ?_
  refine g_run 4 rfl ?_
  exact lp_X10_gramsIn nE hn h1 13 0 0 (by decide) (by omega) (by omega)
theorem c_X10_take {n : Int32} {nI : Int} {g : Int32} {gI : Int} (nE : n.toInt = nI) (gE : g.toInt = gI) (ms : 0 ≤ (hp.1 43 30).toInt ∧ (hp.1 43 30).toInt ≤ 60) (h1 : 0 ≤ nI ∧ nI < (hp.1 43 30).toInt ∧ (hp.1 67 nI.toNat).toInt ≤ 0 ∧ (hp.1 65 nI.toNat).toInt < 0 ∧ 1 ≤ gI ∧ gI ≤ (sumI (fun l => hp.1 63 ((12 * nI) + (l : Int)).toNat) 12).toInt → Q (some (.int (hp.1 43 44 + 1))) (SH b xs) (sI (sI (sI hp 43 0 0) 67 nI.toNat g) 43 44 (hp.1 43 44 + 1))) (h0 : nI < 0 ∨ (hp.1 43 30).toInt ≤ nI ∨ 0 < (hp.1 67 nI.toNat).toInt ∨ 0 ≤ (hp.1 65 nI.toNat).toInt ∨ gI < 1 ∨ (sumI (fun l => hp.1 63 ((12 * nI) + (l : Int)).toNat) 12).toInt < gI → Q (some (.int (-1))) (SH b xs) (sI hp 43 0 0)) : gC mX10_take (d + 1) 0 0 [.ref 43, .int n, .int g] (SH b xs) hp Q := by
  refine g_enter okX10_take (plainFor_of_name rfl) rfl ?_
  refine g_run 5 rfl ?_
  refine g_callV0 rfl LX10_286 rfl rfl rfl rfl ?_
  refine c_X10_isBag (nI := nI) (zI := (hp.1 43 30).toInt) nE rfl (fun k1 => ?_) (fun k2 => ?_)
  · refine gz_eq (kx := 1) rfl (show (1 : Int32).toInt = 1 from by decide) (fun q => absurd q (by decide)) (fun _ => ?_)
    refine g_run 2 rfl ?_
    refine gj_lt (kx := gI) (kz := 1) rfl gE (by decide) (fun k3 => ?_) (fun k3 => ?_)
    · refine g_run 1 rfl ?_
      exact g_iret rfl rfl (by first | exact h1 (by omega) | exact h0 (by omega))
    · refine g_run 3 rfl ?_
      refine g_callV0 rfl LX10_289 rfl rfl rfl rfl ?_
      refine c_X10_gramsIn (nI := nI) nE (by omega) ?_
      refine gj_gt (kx := gI) (kz := (sumI (fun l => hp.1 63 ((12 * nI) + (l : Int)).toNat) 12).toInt) rfl gE rfl (fun k4 => ?_) (fun k4 => ?_)
      · refine g_run 1 rfl ?_
        exact g_iret rfl rfl (by first | exact h1 (by omega) | exact h0 (by omega))
      · refine g_run 3 rfl ?_
        refine g_iald (j := nI.toNat) rfl rfl ((show _ = nI from nE).trans (by omega)) (by omega) ?_
        refine gz_gt (kx := (hp.1 67 nI.toNat).toInt) rfl rfl (fun k5 => ?_) (fun k5 => ?_)
        · refine g_run 1 rfl ?_
          exact g_iret rfl rfl (by first | exact h1 (by omega) | exact h0 (by omega))
        · refine g_run 3 rfl ?_
          refine g_iald (j := nI.toNat) rfl rfl ((show _ = nI from nE).trans (by omega)) (by omega) ?_
          refine gz_lt (kx := (hp.1 65 nI.toNat).toInt) rfl rfl (fun k6 => ?_) (fun k6 => ?_)
          · refine g_run 4 rfl ?_
            refine g_iast (j := nI.toNat) rfl rfl ((show _ = nI from nE).trans (by omega)) (by omega) ?_
            refine g_run 8 rfl ?_
            exact g_iret rfl rfl (by first | exact h1 (by omega) | exact h0 (by omega))
          · refine g_run 1 rfl ?_
            exact g_iret rfl rfl (by first | exact h1 (by omega) | exact h0 (by omega))
  · refine gz_eq (kx := 0) rfl (show (0 : Int32).toInt = 0 from by decide) (fun _ => ?_) (fun q => absurd q (by decide))
    refine g_run 1 rfl ?_
    exact g_iret rfl rfl (by first | exact h1 (by omega) | exact h0 (by omega))
theorem c_X10_part_ {n : Int32} {nI : Int} {l : Int32} {lI : Int} (nE : n.toInt = nI) (lE : l.toInt = lI) (ml : 0 ≤ (hp.1 43 26).toInt ∧ (hp.1 43 26).toInt ≤ 12) (ms : 0 ≤ (hp.1 43 30).toInt ∧ (hp.1 43 30).toInt ≤ 60) (h2 : (0 ≤ lI ∧ lI < (hp.1 43 26).toInt ∧ nI = -1) → Q (some (.int (hp.1 60 lI.toNat))) (SH b xs) (sI hp 43 0 0)) (h1 : (0 ≤ lI ∧ lI < (hp.1 43 26).toInt ∧ 0 ≤ nI ∧ nI < (hp.1 43 30).toInt) → Q (some (.int (hp.1 63 ((12 * nI) + lI).toNat))) (SH b xs) (sI hp 43 0 0)) (h0 : (lI < 0 ∨ (hp.1 43 26).toInt ≤ lI ∨ (nI ≠ -1 ∧ (nI < 0 ∨ (hp.1 43 30).toInt ≤ nI))) → Q (some (.int (-1))) (SH b xs) (sI hp 43 0 0)) : gC mX10_part_ (d + 1) 0 0 [.ref 43, .int n, .int l] (SH b xs) hp Q := by
  refine g_enter okX10_part_ (plainFor_of_name rfl) rfl ?_
  refine g_run 5 rfl ?_
  refine g_callV0 rfl LX10_274 rfl rfl rfl rfl ?_
  refine c_X10_isLot (nI := lI) (zI := (hp.1 43 26).toInt) lE rfl (fun k1 => ?_) (fun k2 => ?_)
  · refine gz_eq (kx := 1) rfl (show (1 : Int32).toInt = 1 from by decide) (fun q => absurd q (by decide)) (fun _ => ?_)
    refine g_run 2 rfl ?_
    refine gj_eq (kx := nI) (kz := (-1)) rfl nE (by decide) (fun k3 => ?_) (fun k3 => ?_)
    · refine g_run 2 rfl ?_
      refine gj_ne (kx := nI) (kz := (-1)) rfl nE (by decide) (fun k4 => ?_) (fun k4 => ?_)
      · refine g_run 7 rfl ?_
        refine g_iald (j := ((12 * nI) + lI).toNat) rfl rfl ((show _ = ((12 * nI) + lI) from (ia_add2 (ia_mul2 (by decide) nE (by omega) (by omega)) lE (by omega) (by omega))).trans (by omega)) (by omega) ?_
        exact g_iret rfl rfl (by first | exact h2 (by omega) | exact h1 (by omega) | exact h0 (by omega))
      · refine g_run 3 rfl ?_
        refine g_iald (j := lI.toNat) rfl rfl ((show _ = lI from lE).trans (by omega)) (by omega) ?_
        refine g_run 1 rfl ?_
        exact g_iret rfl rfl (by first | exact h2 (by omega) | exact h1 (by omega) | exact h0 (by omega))
    · refine g_run 2 rfl ?_
      refine g_callV0 rfl LX10_286 rfl rfl rfl rfl ?_
      refine c_X10_isBag (nI := nI) (zI := (hp.1 43 30).toInt) nE rfl (fun k5 => ?_) (fun k6 => ?_)
      · refine gz_ne (kx := 1) rfl (show (1 : Int32).toInt = 1 from by decide) (fun _ => ?_) (fun q => absurd q (by decide))
        refine g_run 2 rfl ?_
        refine gj_ne (kx := nI) (kz := (-1)) rfl nE (by decide) (fun k7 => ?_) (fun k7 => ?_)
        · refine g_run 7 rfl ?_
          refine g_iald (j := ((12 * nI) + lI).toNat) rfl rfl ((show _ = ((12 * nI) + lI) from (ia_add2 (ia_mul2 (by decide) nE (by omega) (by omega)) lE (by omega) (by omega))).trans (by omega)) (by omega) ?_
          exact g_iret rfl rfl (by first | exact h2 (by omega) | exact h1 (by omega) | exact h0 (by omega))
        · refine g_run 3 rfl ?_
          refine g_iald (j := lI.toNat) rfl rfl ((show _ = lI from lE).trans (by omega)) (by omega) ?_
          refine g_run 1 rfl ?_
          exact g_iret rfl rfl (by first | exact h2 (by omega) | exact h1 (by omega) | exact h0 (by omega))
      · refine gz_ne (kx := 0) rfl (show (0 : Int32).toInt = 0 from by decide) (fun q => absurd q (by decide)) (fun _ => ?_)
        refine g_run 2 rfl ?_
        exact g_iret rfl rfl (by first | exact h2 (by omega) | exact h1 (by omega) | exact h0 (by omega))
  · refine gz_eq (kx := 0) rfl (show (0 : Int32).toInt = 0 from by decide) (fun _ => ?_) (fun q => absurd q (by decide))
    refine g_run 2 rfl ?_
    exact g_iret rfl rfl (by first | exact h2 (by omega) | exact h1 (by omega) | exact h0 (by omega))
theorem c_X10_send {n : Int32} {nI : Int} {u : Int32} {uI : Int} (nE : n.toInt = nI) (uE : u.toInt = uI) (ms : 0 ≤ (hp.1 43 30).toInt ∧ (hp.1 43 30).toInt ≤ 60) (h1 : 0 ≤ nI ∧ nI < (hp.1 43 30).toInt ∧ 0 ≤ uI ∧ uI < 10 ∧ (hp.1 65 nI.toNat).toInt < 0 ∧ (hp.1 67 nI.toNat).toInt ≤ 0 ∧ (sumI (fun l => hp.1 63 ((12 * nI) + (l : Int)).toNat) 12).toInt ≠ 0 → Q (some (.int 1)) (SH b xs) (sI (sI hp 43 0 0) 65 nI.toNat u)) (h0 : nI < 0 ∨ (hp.1 43 30).toInt ≤ nI ∨ uI < 0 ∨ 10 ≤ uI ∨ 0 ≤ (hp.1 65 nI.toNat).toInt ∨ 0 < (hp.1 67 nI.toNat).toInt ∨ (sumI (fun l => hp.1 63 ((12 * nI) + (l : Int)).toNat) 12).toInt = 0 → Q (some (.int 0)) (SH b xs) (sI hp 43 0 0)) : gC mX10_send (d + 1) 0 0 [.ref 43, .int n, .int u] (SH b xs) hp Q := by
  refine g_enter okX10_send (plainFor_of_name rfl) rfl ?_
  refine g_run 5 rfl ?_
  refine g_callV0 rfl LX10_286 rfl rfl rfl rfl ?_
  refine c_X10_isBag (nI := nI) (zI := (hp.1 43 30).toInt) nE rfl (fun k1 => ?_) (fun k2 => ?_)
  · refine gz_eq (kx := 1) rfl (show (1 : Int32).toInt = 1 from by decide) (fun q => absurd q (by decide)) (fun _ => ?_)
    refine g_run 1 rfl ?_
    refine g_callS0 rfl LX10_343 rfl rfl ?_
    refine c_X10_isHouse (nI := uI) uE (fun k3 => ?_) (fun k4 => ?_)
    · refine gz_eq (kx := 1) rfl (show (1 : Int32).toInt = 1 from by decide) (fun q => absurd q (by decide)) (fun _ => ?_)
      refine g_run 3 rfl ?_
      refine g_iald (j := nI.toNat) rfl rfl ((show _ = nI from nE).trans (by omega)) (by omega) ?_
      refine gz_ge (kx := (hp.1 65 nI.toNat).toInt) rfl rfl (fun k5 => ?_) (fun k5 => ?_)
      · refine g_run 1 rfl ?_
        exact g_zret rfl rfl (Or.inl rfl) (by first | exact h1 (by omega) | exact h0 (by omega))
      · refine g_run 3 rfl ?_
        refine g_iald (j := nI.toNat) rfl rfl ((show _ = nI from nE).trans (by omega)) (by omega) ?_
        refine gz_gt (kx := (hp.1 67 nI.toNat).toInt) rfl rfl (fun k6 => ?_) (fun k6 => ?_)
        · refine g_run 1 rfl ?_
          exact g_zret rfl rfl (Or.inl rfl) (by first | exact h1 (by omega) | exact h0 (by omega))
        · refine g_run 2 rfl ?_
          refine g_callV0 rfl LX10_289 rfl rfl rfl rfl ?_
          refine c_X10_gramsIn (nI := nI) nE (by omega) ?_
          refine gz_ne (kx := (sumI (fun l => hp.1 63 ((12 * nI) + (l : Int)).toNat) 12).toInt) rfl rfl (fun k7 => ?_) (fun k7 => ?_)
          · refine g_run 4 rfl ?_
            refine g_iast (j := nI.toNat) rfl rfl ((show _ = nI from nE).trans (by omega)) (by omega) ?_
            refine g_run 1 rfl ?_
            exact g_zret rfl rfl (Or.inr rfl) (by first | exact h1 (by omega) | exact h0 (by omega))
          · refine g_run 1 rfl ?_
            exact g_zret rfl rfl (Or.inl rfl) (by first | exact h1 (by omega) | exact h0 (by omega))
    · refine gz_eq (kx := 0) rfl (show (0 : Int32).toInt = 0 from by decide) (fun _ => ?_) (fun q => absurd q (by decide))
      refine g_run 1 rfl ?_
      exact g_zret rfl rfl (Or.inl rfl) (by first | exact h1 (by omega) | exact h0 (by omega))
  · refine gz_eq (kx := 0) rfl (show (0 : Int32).toInt = 0 from by decide) (fun _ => ?_) (fun q => absurd q (by decide))
    refine g_run 1 rfl ?_
    exact g_zret rfl rfl (Or.inl rfl) (by first | exact h1 (by omega) | exact h0 (by omega))
theorem c_X10_tenths {l : Int32} {lI : Int} (lE : l.toInt = lI) (ml : 0 ≤ (hp.1 43 26).toInt ∧ (hp.1 43 26).toInt ≤ 12) (h1 : 0 ≤ lI ∧ lI < (hp.1 43 26).toInt ∧ (hp.1 43 56).toInt ≠ 0 → Q (some (.int (hp.1 75 lI.toNat))) (SH b xs) (sI hp 43 0 0)) (h0 : lI < 0 ∨ (hp.1 43 26).toInt ≤ lI ∨ (hp.1 43 56).toInt = 0 → Q (some (.int (-1))) (SH b xs) (sI hp 43 0 0)) : gC mX10_tenths (d + 1) 0 0 [.ref 43, .int l] (SH b xs) hp Q := by
  refine g_enter okX10_tenths (plainFor_of_name rfl) rfl ?_
  refine g_run 5 rfl ?_
  refine g_callV0 rfl LX10_274 rfl rfl rfl rfl ?_
  refine c_X10_isLot (nI := lI) (zI := (hp.1 43 26).toInt) lE rfl (fun k1 => ?_) (fun k2 => ?_)
  · refine gz_eq (kx := 1) rfl (show (1 : Int32).toInt = 1 from by decide) (fun q => absurd q (by decide)) (fun _ => ?_)
    refine g_run 2 rfl ?_
    refine gz_ne (kx := (hp.1 43 56).toInt) rfl rfl (fun k3 => ?_) (fun k3 => ?_)
    · refine g_run 3 rfl ?_
      refine g_iald (j := lI.toNat) rfl rfl ((show _ = lI from lE).trans (by omega)) (by omega) ?_
      exact g_iret rfl rfl (by first | exact h1 (by omega) | exact h0 (by omega))
    · refine g_run 2 rfl ?_
      exact g_iret rfl rfl (by first | exact h1 (by omega) | exact h0 (by omega))
  · refine gz_eq (kx := 0) rfl (show (0 : Int32).toInt = 0 from by decide) (fun _ => ?_) (fun q => absurd q (by decide))
    refine g_run 2 rfl ?_
    exact g_iret rfl rfl (by first | exact h1 (by omega) | exact h0 (by omega))
theorem lp_X10_stale  (ms : 0 ≤ (hp.1 43 30).toInt ∧ (hp.1 43 30).toInt ≤ 60) (hk : 0 ≤ (hp.1 43 25).toInt ∧ (hp.1 43 25).toInt ≤ 999) (hr : ∀ i, i < 60 → 0 ≤ (hp.1 64 i).toInt ∧ (hp.1 64 i).toInt ≤ 999) {h : Int32} {hI : Int} (hE : h.toInt = hI) (h1 : 0 ≤ hI ∧ hI < 10 → Q (some (.int (cntI (fun k => decide (0 ≤ hI ∧ hI < 10 ∧ (hp.1 65 k).toInt = hI ∧ (hp.1 76 hI.toNat).toInt < (hp.1 43 25).toInt - (hp.1 64 k).toInt)) (hp.1 43 30).toInt.toNat))) (SH b xs) hp) (h0 : hI < 0 ∨ 10 ≤ hI → Q (some (.int (-1))) (SH b xs) hp) : ∀ (f k : Nat) (i : Int32), i.toInt = (k : Int) → (k : Int) ≤ (hp.1 43 30).toInt → (hp.1 43 30).toInt.toNat - k < f → gG mX10_stale (d + 1) 0 0 (zQ 0 0 Q) 0 0 (9, [.ref 43, .int h, .int (cntI (fun k => decide (0 ≤ hI ∧ hI < 10 ∧ (hp.1 65 k).toInt = hI ∧ (hp.1 76 hI.toNat).toInt < (hp.1 43 25).toInt - (hp.1 64 k).toInt)) k), .int i], [], (SH b xs), hp) := by
  intro f
  induction f with
  | zero => intros; omega
  | succ f ih =>
    intro k i iE hk0 hf
    have hrk := fun z : k < 60 => hr k z
    refine g_run 3 rfl ?_
    refine gj_ge (kx := (k : Int)) (kz := (hp.1 43 30).toInt) rfl iE rfl (fun k1 => ?_) (fun k1 => ?_)
    · refine g_run 1 rfl ?_
      refine g_callS0 rfl LX10_343 rfl rfl ?_
      refine c_X10_isHouse (nI := hI) hE (fun k2 => ?_) (fun k3 => ?_)
      · refine gz_eq (kx := 1) rfl (show (1 : Int32).toInt = 1 from by decide) (fun q => absurd q (by decide)) (fun _ => ?_)
        refine g_run 2 rfl ?_
        have e : k = (hp.1 43 30).toInt.toNat := by omega
        subst e
        exact g_iret rfl rfl (h1 (by omega))
      · refine gz_eq (kx := 0) rfl (show (0 : Int32).toInt = 0 from by decide) (fun _ => ?_) (fun q => absurd q (by decide))
        refine g_run 1 rfl ?_
        exact g_iret rfl rfl (h0 (by omega))
    · refine g_run 2 rfl ?_
      refine g_callS0 rfl LX10_343 rfl rfl ?_
      refine c_X10_isHouse (nI := hI) hE (fun k4 => ?_) (fun k5 => ?_)
      · refine gz_eq (kx := 1) rfl (show (1 : Int32).toInt = 1 from by decide) (fun q => absurd q (by decide)) (fun _ => ?_)
        refine g_run 3 rfl ?_
        refine g_iald (j := k) rfl rfl ((show _ = (k : Int) from iE).trans (by omega)) (by omega) ?_
        refine g_run 1 rfl ?_
        refine gj_ne (kx := (hp.1 65 k).toInt) (kz := hI) rfl rfl hE (fun k6 => ?_) (fun k6 => ?_)
        · refine g_run 5 rfl ?_
          rw [Int32.add_zero, cntI_f (p := (fun k => decide (0 ≤ hI ∧ hI < 10 ∧ (hp.1 65 k).toInt = hI ∧ (hp.1 76 hI.toNat).toInt < (hp.1 43 25).toInt - (hp.1 64 k).toInt))) (k := k) (by simp; omega)]
          exact ih (k + 1) _ (inc1 iE (by omega)) (by omega) (by omega)
        · refine g_run 5 rfl ?_
          refine g_iald (j := k) rfl rfl ((show _ = (k : Int) from iE).trans (by omega)) (by omega) ?_
          refine g_run 4 rfl ?_
          refine g_iald (j := hI.toNat) rfl rfl ((show _ = hI from hE).trans (by omega)) (by omega) ?_
          refine gj_le (kx := ((hp.1 43 25).toInt - (hp.1 64 k).toInt)) (kz := (hp.1 76 hI.toNat).toInt) rfl (ia_sub2 rfl rfl (by omega) (by omega)) rfl (fun k7 => ?_) (fun k7 => ?_)
          · refine g_run 5 rfl ?_
            rw [Int32.add_zero, cntI_f (p := (fun k => decide (0 ≤ hI ∧ hI < 10 ∧ (hp.1 65 k).toInt = hI ∧ (hp.1 76 hI.toNat).toInt < (hp.1 43 25).toInt - (hp.1 64 k).toInt))) (k := k) (by simp; omega)]
            exact ih (k + 1) _ (inc1 iE (by omega)) (by omega) (by omega)
          · refine g_run 6 rfl ?_
            rw [cntI_t (p := (fun k => decide (0 ≤ hI ∧ hI < 10 ∧ (hp.1 65 k).toInt = hI ∧ (hp.1 76 hI.toNat).toInt < (hp.1 43 25).toInt - (hp.1 64 k).toInt))) (k := k) (by simp; omega)]
            exact ih (k + 1) _ (inc1 iE (by omega)) (by omega) (by omega)
      · refine gz_eq (kx := 0) rfl (show (0 : Int32).toInt = 0 from by decide) (fun _ => ?_) (fun q => absurd q (by decide))
        refine g_run 5 rfl ?_
        rw [Int32.add_zero, cntI_f (p := (fun k => decide (0 ≤ hI ∧ hI < 10 ∧ (hp.1 65 k).toInt = hI ∧ (hp.1 76 hI.toNat).toInt < (hp.1 43 25).toInt - (hp.1 64 k).toInt))) (k := k) (by simp; omega)]
        exact ih (k + 1) _ (inc1 iE (by omega)) (by omega) (by omega)
theorem c_X10_stale {h : Int32} {hI : Int} (hE : h.toInt = hI) (ms : 0 ≤ (hp.1 43 30).toInt ∧ (hp.1 43 30).toInt ≤ 60) (hk : 0 ≤ (hp.1 43 25).toInt ∧ (hp.1 43 25).toInt ≤ 999) (hr : ∀ i, i < 60 → 0 ≤ (hp.1 64 i).toInt ∧ (hp.1 64 i).toInt ≤ 999) (h1 : 0 ≤ hI ∧ hI < 10 → Q (some (.int (cntI (fun k => decide (0 ≤ hI ∧ hI < 10 ∧ (hp.1 65 k).toInt = hI ∧ (hp.1 76 hI.toNat).toInt < (hp.1 43 25).toInt - (hp.1 64 k).toInt)) (hp.1 43 30).toInt.toNat))) (SH b xs) (sI hp 43 0 0)) (h0 : hI < 0 ∨ 10 ≤ hI → Q (some (.int (-1))) (SH b xs) (sI hp 43 0 0)) : gC mX10_stale (d + 1) 0 0 [.ref 43, .int h] (SH b xs) hp Q := by
  refine g_enter okX10_stale (plainFor_of_name rfl) rfl ?_
  refine g_run 7 rfl ?_
  exact lp_X10_stale (hp := (sI hp 43 0 0)) ms hk hr hE h1 h0 61 0 0 (by decide) (show ((0 : Nat) : Int) ≤ (hp.1 43 30).toInt from by omega) (by have : 0 ≤ (hp.1 43 30).toInt := ms.1; show (hp.1 43 30).toInt.toNat - 0 < 61; omega)
theorem lp_X10_found  (ms : 0 ≤ (hp.1 43 30).toInt ∧ (hp.1 43 30).toInt ≤ 60) (ml : 0 ≤ (hp.1 43 26).toInt ∧ (hp.1 43 26).toInt ≤ 12) {l q : Int32} {lI qI : Int} (lE : l.toInt = lI) (qE : q.toInt = qI) (h1 : 0 ≤ lI ∧ lI < (hp.1 43 26).toInt ∧ 0 ≤ qI → Q (some (.int (fndI (fun k => decide (0 < (hp.1 63 ((12 * (k : Int)) + lI).toNat).toInt)) q (hp.1 43 30).toInt.toNat 0))) (SH b xs) hp) (h0 : lI < 0 ∨ (hp.1 43 26).toInt ≤ lI ∨ qI < 0 → Q (some (.int (-1))) (SH b xs) hp) : ∀ (f k : Nat) (i : Int32), i.toInt = (k : Int) → (k : Int) ≤ (hp.1 43 30).toInt → (hp.1 43 30).toInt.toNat - k < f → fndI (fun k => decide (0 < (hp.1 63 ((12 * (k : Int)) + lI).toNat).toInt)) q ((hp.1 43 30).toInt.toNat - k) k = fndI (fun k => decide (0 < (hp.1 63 ((12 * (k : Int)) + lI).toNat).toInt)) q (hp.1 43 30).toInt.toNat 0 → gG mX10_found (d + 1) 0 0 (zQ 0 0 Q) 0 0 (10, [.ref 43, .int l, .int q, .int (q - cntI (fun k => decide (0 < (hp.1 63 ((12 * (k : Int)) + lI).toNat).toInt)) k), .int i], [], (SH b xs), hp) := by
  intro f
  induction f with
  | zero => intros; omega
  | succ f ih =>
    intro k i iE hk hf hg
    refine g_run 3 rfl ?_
    refine gj_ge (kx := (k : Int)) (kz := (hp.1 43 30).toInt) rfl iE rfl (fun k1 => ?_) (fun k1 => ?_)
    · refine g_run 1 rfl ?_
      by_cases hc : lI < 0 ∨ (hp.1 43 26).toInt ≤ lI ∨ qI < 0
      · exact g_iret rfl rfl (h0 hc)
      · have e : k = (hp.1 43 30).toInt.toNat := by omega
        rw [show (hp.1 43 30).toInt.toNat - k = 0 by omega] at hg
        have h2 := h1 (by omega)
        rw [← hg] at h2
        exact g_iret rfl rfl h2
    · refine g_run 2 rfl ?_
      refine g_callV0 rfl LX10_274 rfl rfl rfl rfl ?_
      refine c_X10_isLot (nI := lI) (zI := (hp.1 43 26).toInt) lE rfl (fun k2 => ?_) (fun k3 => ?_)
      · refine gz_eq (kx := 1) rfl (show (1 : Int32).toInt = 1 from by decide) (fun q => absurd q (by decide)) (fun _ => ?_)
        refine g_run 1 rfl ?_
        refine gz_lt (kx := qI) rfl qE (fun k4 => ?_) (fun k4 => ?_)
        · refine g_run 1 rfl ?_
          by_cases hc : lI < 0 ∨ (hp.1 43 26).toInt ≤ lI ∨ qI < 0
          · exact g_iret rfl rfl (h0 hc)
          · have e : k = (hp.1 43 30).toInt.toNat := by omega
            rw [show (hp.1 43 30).toInt.toNat - k = 0 by omega] at hg
            have h2 := h1 (by omega)
            rw [← hg] at h2
            exact g_iret rfl rfl h2
        · refine g_run 7 rfl ?_
          refine g_iald (j := ((12 * (k : Int)) + lI).toNat) rfl rfl ((show _ = ((12 * (k : Int)) + lI) from (ia_add2 (ia_mul2 (by decide) iE (by omega) (by omega)) lE (by omega) (by omega))).trans (by omega)) (by omega) ?_
          refine gz_le (kx := (hp.1 63 (((12 * (k : Int)) + lI).toNat)).toInt) rfl rfl (fun k5 => ?_) (fun k5 => ?_)
          · refine g_run 2 rfl ?_
            have e1 : (hp.1 43 30).toInt.toNat - k = ((hp.1 43 30).toInt.toNat - (k + 1)) + 1 := by omega
            rw [cntI_f (p := (fun k => decide (0 < (hp.1 63 ((12 * (k : Int)) + lI).toNat).toInt))) (k := k) (by simp; omega)]
            exact ih (k + 1) _ (inc1 iE (by omega)) (by omega) (by omega) (by rw [← hg, e1, fndI_p (by simp; omega)])
          · refine g_run 1 rfl ?_
            refine gz_ne (kx := (q - cntI (fun k => decide (0 < (hp.1 63 ((12 * (k : Int)) + lI).toNat).toInt)) k).toInt) rfl rfl (fun k6 => ?_) (fun k6 => ?_)
            · refine g_run 3 rfl ?_
              have e1 : (hp.1 43 30).toInt.toNat - k = ((hp.1 43 30).toInt.toNat - (k + 1)) + 1 := by omega
              rw [sub_s, cntI_t (p := (fun k => decide (0 < (hp.1 63 ((12 * (k : Int)) + lI).toNat).toInt))) (k := k) (by simp; omega)]
              exact ih (k + 1) _ (inc1 iE (by omega)) (by omega) (by omega) (by rw [← hg, e1, fndI_n (fun z => ‹_ ≠ (0 : Int)› (by rw [z, Int32.sub_self]; decide))])
            · refine g_run 1 rfl ?_
              have e1 : (hp.1 43 30).toInt.toNat - k = ((hp.1 43 30).toInt.toNat - (k + 1)) + 1 := by omega
              rw [e1, fndI_y (by simp; omega) (sub_z (by assumption))] at hg
              have h2 := h1 (by omega)
              rw [← hg, ← eq_nI iE (by omega)] at h2
              exact g_iret rfl rfl h2
      · refine gz_eq (kx := 0) rfl (show (0 : Int32).toInt = 0 from by decide) (fun _ => ?_) (fun q => absurd q (by decide))
        refine g_run 1 rfl ?_
        by_cases hc : lI < 0 ∨ (hp.1 43 26).toInt ≤ lI ∨ qI < 0
        · exact g_iret rfl rfl (h0 hc)
        · have e : k = (hp.1 43 30).toInt.toNat := by omega
          rw [show (hp.1 43 30).toInt.toNat - k = 0 by omega] at hg
          have h2 := h1 (by omega)
          rw [← hg] at h2
          exact g_iret rfl rfl h2
theorem c_X10_found {l : Int32} {lI : Int} {q : Int32} {qI : Int} (lE : l.toInt = lI) (qE : q.toInt = qI) (ms : 0 ≤ (hp.1 43 30).toInt ∧ (hp.1 43 30).toInt ≤ 60) (ml : 0 ≤ (hp.1 43 26).toInt ∧ (hp.1 43 26).toInt ≤ 12) (h1 : 0 ≤ lI ∧ lI < (hp.1 43 26).toInt ∧ 0 ≤ qI → Q (some (.int (fndI (fun k => decide (0 < (hp.1 63 ((12 * (k : Int)) + lI).toNat).toInt)) q (hp.1 43 30).toInt.toNat 0))) (SH b xs) (sI hp 43 0 0)) (h0 : lI < 0 ∨ (hp.1 43 26).toInt ≤ lI ∨ qI < 0 → Q (some (.int (-1))) (SH b xs) (sI hp 43 0 0)) : gC mX10_found (d + 1) 0 0 [.ref 43, .int l, .int q] (SH b xs) hp Q := by
  refine g_enter okX10_found (plainFor_of_name rfl) rfl ?_
  refine g_run 7 rfl ?_
  have e0 : q - cntI (fun k => decide (0 < ((sI hp 43 0 0).1 63 ((12 * (k : Int)) + lI).toNat).toInt)) 0 = q := Int32.sub_zero q
  have := lp_X10_found (d := d) (hp := (sI hp 43 0 0)) (b := b) (xs := xs) ms ml lE qE h1 h0 61 0 0 (by decide) (show ((0 : Nat) : Int) ≤ (hp.1 43 30).toInt from by omega) (by have : 0 ≤ (hp.1 43 30).toInt := ms.1; show (hp.1 43 30).toInt.toNat - 0 < 61; omega) rfl
  rw [e0] at this
  exact this
theorem lp_X10_led  (ms : 0 ≤ (hp.1 43 30).toInt ∧ (hp.1 43 30).toInt ≤ 60) (ml : 0 ≤ (hp.1 43 26).toInt ∧ (hp.1 43 26).toInt ≤ 12) {l h : Int32} {lI hI : Int} (lE : l.toInt = lI) (hE : h.toInt = hI) (h1 : 0 ≤ lI ∧ lI < (hp.1 43 26).toInt ∧ 0 ≤ hI ∧ hI < 10 → Q (some (.int (sumI (fun k => if (hp.1 65 k).toInt = hI then hp.1 63 ((12 * (k : Int)) + lI).toNat else 0) (hp.1 43 30).toInt.toNat))) (SH b xs) hp) (h0 : lI < 0 ∨ (hp.1 43 26).toInt ≤ lI ∨ hI < 0 ∨ 10 ≤ hI → Q (some (.int (-1))) (SH b xs) hp) : ∀ (f k : Nat) (i : Int32), i.toInt = (k : Int) → (k : Int) ≤ (hp.1 43 30).toInt → (hp.1 43 30).toInt.toNat - k < f → gG mX10_led (d + 1) 0 0 (zQ 0 0 Q) 0 0 (10, [.ref 43, .int l, .int h, .int (sumI (fun k => if (hp.1 65 k).toInt = hI then hp.1 63 ((12 * (k : Int)) + lI).toNat else 0) k), .int i], [], (SH b xs), hp) := by
  intro f
  induction f with
  | zero => intros; omega
  | succ f ih =>
    intro k i iE hk hf
    refine g_run 3 rfl ?_
    refine gj_ge (kx := (k : Int)) (kz := (hp.1 43 30).toInt) rfl iE rfl (fun k1 => ?_) (fun k1 => ?_)
    · refine g_run 2 rfl ?_
      refine g_callV0 rfl LX10_274 rfl rfl rfl rfl ?_
      refine c_X10_isLot (nI := lI) (zI := (hp.1 43 26).toInt) lE rfl (fun k2 => ?_) (fun k3 => ?_)
      · refine gz_eq (kx := 1) rfl (show (1 : Int32).toInt = 1 from by decide) (fun q => absurd q (by decide)) (fun _ => ?_)
        refine g_run 1 rfl ?_
        refine g_callS0 rfl LX10_343 rfl rfl ?_
        refine c_X10_isHouse (nI := hI) hE (fun k4 => ?_) (fun k5 => ?_)
        · refine gz_eq (kx := 1) rfl (show (1 : Int32).toInt = 1 from by decide) (fun q => absurd q (by decide)) (fun _ => ?_)
          refine g_run 2 rfl ?_
          have e : k = (hp.1 43 30).toInt.toNat := by omega
          subst e
          exact g_iret rfl rfl (h1 (by omega))
        · refine gz_eq (kx := 0) rfl (show (0 : Int32).toInt = 0 from by decide) (fun _ => ?_) (fun q => absurd q (by decide))
          refine g_run 1 rfl ?_
          exact g_iret rfl rfl (h0 (by omega))
      · refine gz_eq (kx := 0) rfl (show (0 : Int32).toInt = 0 from by decide) (fun _ => ?_) (fun q => absurd q (by decide))
        refine g_run 1 rfl ?_
        exact g_iret rfl rfl (h0 (by omega))
    · refine g_run 2 rfl ?_
      refine g_callV0 rfl LX10_274 rfl rfl rfl rfl ?_
      refine c_X10_isLot (nI := lI) (zI := (hp.1 43 26).toInt) lE rfl (fun k6 => ?_) (fun k7 => ?_)
      · refine gz_eq (kx := 1) rfl (show (1 : Int32).toInt = 1 from by decide) (fun q => absurd q (by decide)) (fun _ => ?_)
        refine g_run 4 rfl ?_
        refine g_iald (j := k) rfl rfl ((show _ = (k : Int) from iE).trans (by omega)) (by omega) ?_
        refine g_run 1 rfl ?_
        refine gj_ne (kx := (hp.1 65 k).toInt) (kz := hI) rfl rfl hE (fun k8 => ?_) (fun k8 => ?_)
        · refine g_run 5 rfl ?_
          rw [Int32.add_zero, ← sumI_f (k := k) (f := (fun k => if (hp.1 65 k).toInt = hI then hp.1 63 ((12 * (k : Int)) + lI).toNat else 0)) (by simp [*])]
          exact ih (k + 1) _ (inc1 iE (by omega)) (by omega) (by omega)
        · refine g_run 7 rfl ?_
          refine g_iald (j := ((12 * (k : Int)) + lI).toNat) rfl rfl ((show _ = ((12 * (k : Int)) + lI) from (ia_add2 (ia_mul2 (by decide) iE (by omega) (by omega)) lE (by omega) (by omega))).trans (by omega)) (by omega) ?_
          refine g_run 5 rfl ?_
          rw [← sumI_t (k := k) (f := (fun k => if (hp.1 65 k).toInt = hI then hp.1 63 ((12 * (k : Int)) + lI).toNat else 0)) (by simp [*])]
          exact ih (k + 1) _ (inc1 iE (by omega)) (by omega) (by omega)
      · refine gz_eq (kx := 0) rfl (show (0 : Int32).toInt = 0 from by decide) (fun _ => ?_) (fun q => absurd q (by decide))
        refine g_run 2 rfl ?_
        refine g_callV0 rfl LX10_274 rfl rfl rfl rfl ?_
        refine c_X10_isLot (nI := lI) (zI := (hp.1 43 26).toInt) lE rfl (fun k9 => ?_) (fun k10 => ?_)
        · refine gz_eq (kx := 1) rfl (show (1 : Int32).toInt = 1 from by decide) (fun q => absurd q (by decide)) (fun _ => ?_)
          refine g_run 1 rfl ?_
          refine g_callS0 rfl LX10_343 rfl rfl ?_
          refine c_X10_isHouse (nI := hI) hE (fun k11 => ?_) (fun k12 => ?_)
          · refine gz_eq (kx := 1) rfl (show (1 : Int32).toInt = 1 from by decide) (fun q => absurd q (by decide)) (fun _ => ?_)
            refine g_run 2 rfl ?_
            have e : k = (hp.1 43 30).toInt.toNat := by omega
            subst e
            exact g_iret rfl rfl (h1 (by omega))
          · refine gz_eq (kx := 0) rfl (show (0 : Int32).toInt = 0 from by decide) (fun _ => ?_) (fun q => absurd q (by decide))
            refine g_run 1 rfl ?_
            exact g_iret rfl rfl (h0 (by omega))
        · refine gz_eq (kx := 0) rfl (show (0 : Int32).toInt = 0 from by decide) (fun _ => ?_) (fun q => absurd q (by decide))
          refine g_run 1 rfl ?_
          exact g_iret rfl rfl (h0 (by omega))
theorem c_X10_led {l : Int32} {lI : Int} {h : Int32} {hI : Int} (lE : l.toInt = lI) (hE : h.toInt = hI) (ms : 0 ≤ (hp.1 43 30).toInt ∧ (hp.1 43 30).toInt ≤ 60) (ml : 0 ≤ (hp.1 43 26).toInt ∧ (hp.1 43 26).toInt ≤ 12) (h1 : 0 ≤ lI ∧ lI < (hp.1 43 26).toInt ∧ 0 ≤ hI ∧ hI < 10 → Q (some (.int (sumI (fun k => if (hp.1 65 k).toInt = hI then hp.1 63 ((12 * (k : Int)) + lI).toNat else 0) (hp.1 43 30).toInt.toNat))) (SH b xs) (sI hp 43 0 0)) (h0 : lI < 0 ∨ (hp.1 43 26).toInt ≤ lI ∨ hI < 0 ∨ 10 ≤ hI → Q (some (.int (-1))) (SH b xs) (sI hp 43 0 0)) : gC mX10_led (d + 1) 0 0 [.ref 43, .int l, .int h] (SH b xs) hp Q := by
  refine g_enter okX10_led (plainFor_of_name rfl) rfl ?_
  refine g_run 7 rfl ?_
  exact lp_X10_led (hp := (sI hp 43 0 0)) ms ml lE hE h1 h0 61 0 0 (by decide) (show ((0 : Nat) : Int) ≤ (hp.1 43 30).toInt from by omega) (by have : 0 ≤ (hp.1 43 30).toInt := ms.1; show (hp.1 43 30).toInt.toNat - 0 < 61; omega)
theorem lp_X10_count  (ms : 0 ≤ (hp.1 43 30).toInt ∧ (hp.1 43 30).toInt ≤ 60) (mh : (hp.1 43 16).toInt = 0 ∨ (hp.1 43 16).toInt = 1) {w : Int32} {wI : Int} (wE : w.toInt = wI) (h0 : wI = 0 → Q (some (.int (hp.1 43 26))) (SH b xs) hp) (h1 : wI = 1 → Q (some (.int (hp.1 43 30))) (SH b xs) hp) (h2 : wI = 2 → Q (some (.int (hp.1 43 25))) (SH b xs) hp) (h3 : wI = 3 → Q (some (.int (hp.1 49 (hp.1 43 16).toInt.toNat))) (SH b xs) hp) (h4 : wI = 4 → Q (some (.int (hp.1 43 2))) (SH b xs) hp) (h5 : wI = 5 → Q (some (.int (hp.1 43 44))) (SH b xs) hp) (h6 : wI = 6 → Q (some (.int (sumI (fun k => sumI (fun l => hp.1 63 ((12 * (k : Int)) + (l : Int)).toNat) 12) (hp.1 43 30).toInt.toNat))) (SH b xs) hp) (h7 : wI < 0 ∨ 6 < wI → Q (some (.int (-1))) (SH b xs) hp) : ∀ (f k : Nat) (i : Int32), i.toInt = (k : Int) → (k : Int) ≤ (hp.1 43 30).toInt → (hp.1 43 30).toInt.toNat - k < f → gG mX10_count (d + 1) 0 0 (zQ 0 0 Q) 0 0 (9, [.ref 43, .int w, .int (sumI (fun k => sumI (fun l => hp.1 63 ((12 * (k : Int)) + (l : Int)).toNat) 12) k), .int i], [], (SH b xs), hp) := by
  intro f
  induction f with
  | zero => intros; omega
  | succ f ih =>
    intro k i iE hk hf
    refine g_run 3 rfl ?_
    refine gj_ge (kx := (k : Int)) (kz := (hp.1 43 30).toInt) rfl iE rfl (fun k1 => ?_) (fun k1 => ?_)
    · refine g_run 1 rfl ?_
      rcases (show wI < 0 ∨ 6 < wI ∨ wI = 0 ∨ wI = 1 ∨ wI = 2 ∨ wI = 3 ∨ wI = 4 ∨ wI = 5 ∨ wI = 6 by omega) with k2 | k2 | k2 | k2 | k2 | k2 | k2 | k2 | k2
      · refine g_tabOut (tgt := 113) rfl (Or.inl (by rw [show _ = wI from wE]; omega)) (by decide) ?_
        refine g_run 1 rfl ?_
        have e : k = (hp.1 43 30).toInt.toNat := by omega
        subst e
        exact g_iret rfl rfl (by first | exact h0 (by omega) | exact h1 (by omega) | exact h2 (by omega) | exact h3 (by omega) | exact h4 (by omega) | exact h5 (by omega) | exact h6 (by omega) | exact h7 (by omega))
      · refine g_tabOut (tgt := 113) rfl (Or.inr (by rw [show _ = wI from wE]; omega)) (by decide) ?_
        refine g_run 1 rfl ?_
        have e : k = (hp.1 43 30).toInt.toNat := by omega
        subst e
        exact g_iret rfl rfl (by first | exact h0 (by omega) | exact h1 (by omega) | exact h2 (by omega) | exact h3 (by omega) | exact h4 (by omega) | exact h5 (by omega) | exact h6 (by omega) | exact h7 (by omega))
      · refine g_tabIn (i := 0) (tgt := 76) rfl ((show _ = wI from wE).trans (by omega)) (by decide) rfl (by decide) ?_
        refine g_run 2 rfl ?_
        have e : k = (hp.1 43 30).toInt.toNat := by omega
        subst e
        exact g_iret rfl rfl (by first | exact h0 (by omega) | exact h1 (by omega) | exact h2 (by omega) | exact h3 (by omega) | exact h4 (by omega) | exact h5 (by omega) | exact h6 (by omega) | exact h7 (by omega))
      · refine g_tabIn (i := 1) (tgt := 81) rfl ((show _ = wI from wE).trans (by omega)) (by decide) rfl (by decide) ?_
        refine g_run 2 rfl ?_
        have e : k = (hp.1 43 30).toInt.toNat := by omega
        subst e
        exact g_iret rfl rfl (by first | exact h0 (by omega) | exact h1 (by omega) | exact h2 (by omega) | exact h3 (by omega) | exact h4 (by omega) | exact h5 (by omega) | exact h6 (by omega) | exact h7 (by omega))
      · refine g_tabIn (i := 2) (tgt := 86) rfl ((show _ = wI from wE).trans (by omega)) (by decide) rfl (by decide) ?_
        refine g_run 2 rfl ?_
        have e : k = (hp.1 43 30).toInt.toNat := by omega
        subst e
        exact g_iret rfl rfl (by first | exact h0 (by omega) | exact h1 (by omega) | exact h2 (by omega) | exact h3 (by omega) | exact h4 (by omega) | exact h5 (by omega) | exact h6 (by omega) | exact h7 (by omega))
      · refine g_tabIn (i := 3) (tgt := 91) rfl ((show _ = wI from wE).trans (by omega)) (by decide) rfl (by decide) ?_
        refine g_run 4 rfl ?_
        refine g_iald (j := ((hp.1 43 16).toInt).toNat) rfl rfl ((show _ = (hp.1 43 16).toInt from rfl).trans (by omega)) (by omega) ?_
        have e : k = (hp.1 43 30).toInt.toNat := by omega
        subst e
        exact g_iret rfl rfl (by first | exact h0 (by omega) | exact h1 (by omega) | exact h2 (by omega) | exact h3 (by omega) | exact h4 (by omega) | exact h5 (by omega) | exact h6 (by omega) | exact h7 (by omega))
      · refine g_tabIn (i := 4) (tgt := 101) rfl ((show _ = wI from wE).trans (by omega)) (by decide) rfl (by decide) ?_
        refine g_run 2 rfl ?_
        have e : k = (hp.1 43 30).toInt.toNat := by omega
        subst e
        exact g_iret rfl rfl (by first | exact h0 (by omega) | exact h1 (by omega) | exact h2 (by omega) | exact h3 (by omega) | exact h4 (by omega) | exact h5 (by omega) | exact h6 (by omega) | exact h7 (by omega))
      · refine g_tabIn (i := 5) (tgt := 106) rfl ((show _ = wI from wE).trans (by omega)) (by decide) rfl (by decide) ?_
        refine g_run 2 rfl ?_
        have e : k = (hp.1 43 30).toInt.toNat := by omega
        subst e
        exact g_iret rfl rfl (by first | exact h0 (by omega) | exact h1 (by omega) | exact h2 (by omega) | exact h3 (by omega) | exact h4 (by omega) | exact h5 (by omega) | exact h6 (by omega) | exact h7 (by omega))
      · refine g_tabIn (i := 6) (tgt := 111) rfl ((show _ = wI from wE).trans (by omega)) (by decide) rfl (by decide) ?_
        refine g_run 1 rfl ?_
        have e : k = (hp.1 43 30).toInt.toNat := by omega
        subst e
        exact g_iret rfl rfl (by first | exact h0 (by omega) | exact h1 (by omega) | exact h2 (by omega) | exact h3 (by omega) | exact h4 (by omega) | exact h5 (by omega) | exact h6 (by omega) | exact h7 (by omega))
    · refine g_run 3 rfl ?_
      refine g_callV0 rfl LX10_289 rfl rfl rfl rfl ?_
      refine c_X10_gramsIn (nI := (k : Int)) iE (by omega) ?_
      refine g_run 4 rfl ?_
      exact ih (k + 1) _ (inc1 iE (by omega)) (by omega) (by omega)
theorem c_X10_count {w : Int32} {wI : Int} (wE : w.toInt = wI) (ms : 0 ≤ (hp.1 43 30).toInt ∧ (hp.1 43 30).toInt ≤ 60) (mh : (hp.1 43 16).toInt = 0 ∨ (hp.1 43 16).toInt = 1) (h0 : wI = 0 → Q (some (.int (hp.1 43 26))) (SH b xs) (sI hp 43 0 0)) (h1 : wI = 1 → Q (some (.int (hp.1 43 30))) (SH b xs) (sI hp 43 0 0)) (h2 : wI = 2 → Q (some (.int (hp.1 43 25))) (SH b xs) (sI hp 43 0 0)) (h3 : wI = 3 → Q (some (.int (hp.1 49 (hp.1 43 16).toInt.toNat))) (SH b xs) (sI hp 43 0 0)) (h4 : wI = 4 → Q (some (.int (hp.1 43 2))) (SH b xs) (sI hp 43 0 0)) (h5 : wI = 5 → Q (some (.int (hp.1 43 44))) (SH b xs) (sI hp 43 0 0)) (h6 : wI = 6 → Q (some (.int (sumI (fun k => sumI (fun l => hp.1 63 ((12 * (k : Int)) + (l : Int)).toNat) 12) (hp.1 43 30).toInt.toNat))) (SH b xs) (sI hp 43 0 0)) (h7 : wI < 0 ∨ 6 < wI → Q (some (.int (-1))) (SH b xs) (sI hp 43 0 0)) : gC mX10_count (d + 1) 0 0 [.ref 43, .int w] (SH b xs) hp Q := by
  refine g_enter okX10_count (plainFor_of_name rfl) rfl ?_
  refine g_run 7 rfl ?_
  exact lp_X10_count (hp := (sI hp 43 0 0)) ms mh wE h0 h1 h2 h3 h4 h5 h6 h7 61 0 0 (by decide) (show ((0 : Nat) : Int) ≤ (hp.1 43 30).toInt from by omega) (by have : 0 ≤ (hp.1 43 30).toInt := ms.1; show (hp.1 43 30).toInt.toNat - 0 < 61; omega)
theorem lp_X10_bag  {n w : Int32} {nI wI : Int} (nE : n.toInt = nI) (wE : w.toInt = wI) (hn : 0 ≤ nI ∧ nI < 60) (hw : 0 ≤ wI ∧ wI ≤ 3) (h0 : wI = 0 → Q (some (.int (sumI (fun l => hp.1 63 ((12 * nI) + (l : Int)).toNat) 12))) (SH b xs) hp) (h1 : wI = 1 → Q (some (.int (hp.1 64 nI.toNat))) (SH b xs) hp) (h2 : wI = 2 → Q (some (.int (hp.1 65 nI.toNat))) (SH b xs) hp) (h3 : wI = 3 → Q (some (.int (cntI (fun l => decide (0 < (hp.1 63 ((12 * nI) + (l : Int)).toNat).toInt)) 12))) (SH b xs) hp) : ∀ (f k : Nat) (i : Int32), i.toInt = (k : Int) → k ≤ 12 → 12 - k < f → gG mX10_bag (d + 1) 0 0 (zQ 0 0 Q) 0 0 (40, [.ref 43, .int n, .int w, .int (cntI (fun l => decide (0 < (hp.1 63 ((12 * nI) + (l : Int)).toNat).toInt)) k), .int i], [], (SH b xs), hp) := by
  intro f
  induction f with
  | zero => intros; omega
  | succ f ih =>
    intro k i iE hk hf
    refine g_run 2 rfl ?_
    refine gj_ge (kx := (k : Int)) (kz := 12) rfl iE (by decide) (fun k1 => ?_) (fun k1 => ?_)
    · refine g_run 1 rfl ?_
      refine gz_ne (kx := wI) rfl wE (fun k2 => ?_) (fun k2 => ?_)
      · refine g_run 2 rfl ?_
        refine gj_ne (kx := wI) (kz := 1) rfl wE (by decide) (fun k3 => ?_) (fun k3 => ?_)
        · refine g_run 2 rfl ?_
          refine gj_ne (kx := wI) (kz := 2) rfl wE (by decide) (fun k4 => ?_) (fun k4 => ?_)
          · refine g_run 1 rfl ?_
            obtain rfl : k = 12 := by omega
            exact g_iret rfl rfl (by first | exact h0 (by omega) | exact h1 (by omega) | exact h2 (by omega) | exact h3 (by omega))
          · refine g_run 3 rfl ?_
            refine g_iald (j := nI.toNat) rfl rfl ((show _ = nI from nE).trans (by omega)) (by omega) ?_
            refine g_run 1 rfl ?_
            obtain rfl : k = 12 := by omega
            exact g_iret rfl rfl (by first | exact h0 (by omega) | exact h1 (by omega) | exact h2 (by omega) | exact h3 (by omega))
        · refine g_run 3 rfl ?_
          refine g_iald (j := nI.toNat) rfl rfl ((show _ = nI from nE).trans (by omega)) (by omega) ?_
          refine g_run 1 rfl ?_
          obtain rfl : k = 12 := by omega
          exact g_iret rfl rfl (by first | exact h0 (by omega) | exact h1 (by omega) | exact h2 (by omega) | exact h3 (by omega))
      · refine g_run 2 rfl ?_
        refine g_callV0 rfl LX10_289 rfl rfl rfl rfl ?_
        refine c_X10_gramsIn (nI := nI) nE (by omega) ?_
        refine g_run 1 rfl ?_
        obtain rfl : k = 12 := by omega
        exact g_iret rfl rfl (by first | exact h0 (by omega) | exact h1 (by omega) | exact h2 (by omega) | exact h3 (by omega))
    · refine g_run 8 rfl ?_
      refine g_iald (j := ((12 * nI) + (k : Int)).toNat) rfl rfl ((show _ = ((12 * nI) + (k : Int)) from (ia_add2 (ia_mul2 (by decide) nE (by omega) (by omega)) iE (by omega) (by omega))).trans (by omega)) (by omega) ?_
      refine gz_le (kx := (hp.1 63 (((12 * nI) + (k : Int)).toNat)).toInt) rfl rfl (fun k5 => ?_) (fun k5 => ?_)
      · refine g_run 5 rfl ?_
        rw [Int32.add_zero, cntI_f (p := (fun l => decide (0 < (hp.1 63 ((12 * nI) + (l : Int)).toNat).toInt))) (k := k) (by simp; omega)]
        exact ih (k + 1) _ (inc1 iE (by omega)) (by omega) (by omega)
      · refine g_run 6 rfl ?_
        rw [cntI_t (p := (fun l => decide (0 < (hp.1 63 ((12 * nI) + (l : Int)).toNat).toInt))) (k := k) (by simp; omega)]
        exact ih (k + 1) _ (inc1 iE (by omega)) (by omega) (by omega)
theorem c_X10_bag {n : Int32} {nI : Int} {w : Int32} {wI : Int} (nE : n.toInt = nI) (wE : w.toInt = wI) (ms : 0 ≤ (hp.1 43 30).toInt ∧ (hp.1 43 30).toInt ≤ 60) (h0 : 0 ≤ nI ∧ nI < (hp.1 43 30).toInt ∧ wI = 0 → Q (some (.int (sumI (fun l => hp.1 63 ((12 * nI) + (l : Int)).toNat) 12))) (SH b xs) (sI hp 43 0 0)) (h1 : 0 ≤ nI ∧ nI < (hp.1 43 30).toInt ∧ wI = 1 → Q (some (.int (hp.1 64 nI.toNat))) (SH b xs) (sI hp 43 0 0)) (h2 : 0 ≤ nI ∧ nI < (hp.1 43 30).toInt ∧ wI = 2 → Q (some (.int (hp.1 65 nI.toNat))) (SH b xs) (sI hp 43 0 0)) (h3 : 0 ≤ nI ∧ nI < (hp.1 43 30).toInt ∧ wI = 3 → Q (some (.int (cntI (fun l => decide (0 < (hp.1 63 ((12 * nI) + (l : Int)).toNat).toInt)) 12))) (SH b xs) (sI hp 43 0 0)) (h4 : nI < 0 ∨ (hp.1 43 30).toInt ≤ nI ∨ wI < 0 ∨ 3 < wI → Q (some (.int 0)) (SH b xs) (sI hp 43 0 1)) : gC mX10_bag (d + 1) 0 0 [.ref 43, .int n, .int w] (SH b xs) hp Q := by
  refine g_enter okX10_bag (plainFor_of_name rfl) rfl ?_
  refine g_run 3 rfl ?_
  refine g_callV0 rfl LX10_286 rfl rfl rfl rfl ?_
  refine c_X10_isBag (nI := nI) (zI := (hp.1 43 30).toInt) nE rfl (fun k1 => ?_) (fun k2 => ?_)
  · refine gz_eq (kx := 1) rfl (show (1 : Int32).toInt = 1 from by decide) (fun q => absurd q (by decide)) (fun _ => ?_)
    refine g_run 1 rfl ?_
    refine gz_lt (kx := wI) rfl wE (fun k3 => ?_) (fun k3 => ?_)
    · refine g_run 4 rfl ?_
      refine gz_le (kx := 1) rfl (show (1 : Int32).toInt = 1 from by decide) (fun q => absurd q (by decide)) (fun _ => ?_)
      refine g_run 1 rfl ?_
      exact g_iret rfl rfl (h4 (by omega))
    · refine g_run 2 rfl ?_
      refine gj_gt (kx := wI) (kz := 3) rfl wE (by decide) (fun k4 => ?_) (fun k4 => ?_)
      · refine g_run 4 rfl ?_
        refine gz_le (kx := 1) rfl (show (1 : Int32).toInt = 1 from by decide) (fun q => absurd q (by decide)) (fun _ => ?_)
        refine g_run 1 rfl ?_
        exact g_iret rfl rfl (h4 (by omega))
      · refine g_run 5 rfl ?_
        refine gz_le (kx := 0) rfl (show (0 : Int32).toInt = 0 from by decide) (fun _ => ?_) (fun q => absurd q (by decide))
        refine g_run 4 rfl ?_
        exact lp_X10_bag (hp := (sI hp 43 0 0)) nE wE (by omega) (by omega) (fun z => h0 (by omega)) (fun z => h1 (by omega)) (fun z => h2 (by omega)) (fun z => h3 (by omega)) 13 0 0 (by decide) (by omega) (by omega)
  · refine gz_eq (kx := 0) rfl (show (0 : Int32).toInt = 0 from by decide) (fun _ => ?_) (fun q => absurd q (by decide))
    refine g_run 4 rfl ?_
    refine gz_le (kx := 1) rfl (show (1 : Int32).toInt = 1 from by decide) (fun q => absurd q (by decide)) (fun _ => ?_)
    refine g_run 1 rfl ?_
    exact g_iret rfl rfl (h4 (by omega))
end S16
