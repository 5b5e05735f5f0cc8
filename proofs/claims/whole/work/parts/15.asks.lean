/-! asking calls of the class -/
section S15
variable {d : Nat} {sh : sh_T} {hp : hp_T} {Q : Option Value → sh_T → hp_T → Prop} {b : Bool} {xs : sh_T}
theorem c_X9_part {n : Int32} {nI : Int} {l : Int32} {lI : Int} (nE : n.toInt = nI) (lE : l.toInt = lI) (hl : 0 ≤ (hp.1 1 0).toInt ∧ (hp.1 1 0).toInt ≤ 12) (hs : 0 ≤ (hp.1 17 0).toInt ∧ (hp.1 17 0).toInt ≤ 60) (h2 : (0 ≤ lI ∧ lI < (hp.1 1 0).toInt ∧ nI = -1) → Q (some (.int (hp.1 2 lI.toNat))) (SH b xs) hp) (h1 : (0 ≤ lI ∧ lI < (hp.1 1 0).toInt ∧ 0 ≤ nI ∧ nI < (hp.1 17 0).toInt) → Q (some (.int (hp.1 22 ((nI * 12) + lI).toNat))) (SH b xs) hp) (h0 : (lI < 0 ∨ (hp.1 1 0).toInt ≤ lI ∨ (nI ≠ -1 ∧ (nI < 0 ∨ (hp.1 17 0).toInt ≤ nI))) → Q (some (.int (-1))) (SH b xs) hp) : gC mX9_part (d + 1) 0 0 [.ref 0, .int n, .int l] (SH b xs) hp Q := by
  refine g_enter okX9_part (plainFor_of_name rfl) rfl ?_
  refine g_run 3 rfl ?_
  refine g_callV0 rfl LX9_112 rfl rfl rfl rfl ?_
  refine c_X3_has (nI := lI) (zI := (hp.1 1 0).toInt) lE rfl (fun k1 => ?_) (fun k2 => ?_)
  · refine gz_ne (kx := 1) rfl (show (1 : Int32).toInt = 1 from by decide) (fun _ => ?_) (fun q => absurd q (by decide))
    refine g_run 2 rfl ?_
    refine gj_ne (kx := nI) (kz := (-1)) rfl nE (by decide) (fun k3 => ?_) (fun k3 => ?_)
    · refine g_run 3 rfl ?_
      refine g_callV0 rfl LX9_147 rfl rfl rfl rfl ?_
      refine c_X0_has (nI := nI) (zI := (hp.1 17 0).toInt) nE rfl (fun k4 => ?_) (fun k5 => ?_)
      · refine gz_eq (kx := 1) rfl (show (1 : Int32).toInt = 1 from by decide) (fun q => absurd q (by decide)) (fun _ => ?_)
        refine g_run 4 rfl ?_
        refine g_callV0 rfl LX9_163 rfl rfl rfl rfl ?_
        refine c_X0_partOf (nI := nI) (mI := lI) nE lE (by omega) (by omega) ?_
        refine g_run 1 rfl ?_
        exact g_iret rfl rfl (by first | exact h2 (by omega) | exact h1 (by omega) | exact h0 (by omega))
      · refine gz_eq (kx := 0) rfl (show (0 : Int32).toInt = 0 from by decide) (fun _ => ?_) (fun q => absurd q (by decide))
        refine g_run 1 rfl ?_
        exact g_iret rfl rfl (by first | exact h2 (by omega) | exact h1 (by omega) | exact h0 (by omega))
    · refine g_run 4 rfl ?_
      refine g_iald (j := lI.toNat) rfl rfl ((show _ = lI from lE).trans (by omega)) (by omega) ?_
      exact g_iret rfl rfl (by first | exact h2 (by omega) | exact h1 (by omega) | exact h0 (by omega))
  · refine gz_ne (kx := 0) rfl (show (0 : Int32).toInt = 0 from by decide) (fun q => absurd q (by decide)) (fun _ => ?_)
    refine g_run 1 rfl ?_
    exact g_iret rfl rfl (by first | exact h2 (by omega) | exact h1 (by omega) | exact h0 (by omega))
theorem c_X0_tellForBlend {n : Int32} {nI : Int} {g : Int32} {gI : Int} (nE : n.toInt = nI) (gE : g.toInt = gI) (hs : 0 ≤ (hp.1 17 0).toInt ∧ (hp.1 17 0).toInt ≤ 60) (h1 : 0 ≤ nI ∧ nI < (hp.1 17 0).toInt ∧ (hp.1 21 nI.toNat).toInt ≤ 0 ∧ (hp.1 20 nI.toNat).toInt = -1 ∧ 1 ≤ gI ∧ gI ≤ (hp.1 18 nI.toNat).toInt → Q (some (.int (hp.1 17 1 + 1))) (SH b xs) (sI (sI hp 21 nI.toNat g) 17 1 (hp.1 17 1 + 1))) (h0 : nI < 0 ∨ (hp.1 17 0).toInt ≤ nI ∨ 0 < (hp.1 21 nI.toNat).toInt ∨ (hp.1 20 nI.toNat).toInt ≠ -1 ∨ gI < 1 ∨ (hp.1 18 nI.toNat).toInt < gI → Q (some (.int (-1))) (SH b xs) hp) : gC mX0_tellForBlend (d + 1) 0 0 [.ref 17, .int n, .int g] (SH b xs) hp Q := by
  refine g_enter okX0_tellForBlend (plainFor_of_name rfl) rfl ?_
  refine g_run 2 rfl ?_
  refine g_callV0 rfl LX0_48 rfl rfl rfl rfl ?_
  refine c_X0_has (nI := nI) (zI := (hp.1 17 0).toInt) nE rfl (fun k1 => ?_) (fun k2 => ?_)
  · refine gz_eq (kx := 1) rfl (show (1 : Int32).toInt = 1 from by decide) (fun q => absurd q (by decide)) (fun _ => ?_)
    refine g_run 3 rfl ?_
    refine g_iald (j := nI.toNat) rfl rfl ((show _ = nI from nE).trans (by omega)) (by omega) ?_
    refine gz_gt (kx := (hp.1 21 nI.toNat).toInt) rfl rfl (fun k3 => ?_) (fun k3 => ?_)
    · refine g_run 1 rfl ?_
      exact g_iret rfl rfl (by first | exact h1 (by omega) | exact h0 (by omega))
    · refine g_run 3 rfl ?_
      refine g_iald (j := nI.toNat) rfl rfl ((show _ = nI from nE).trans (by omega)) (by omega) ?_
      refine g_run 1 rfl ?_
      refine gj_ne (kx := (hp.1 20 nI.toNat).toInt) (kz := (-1)) rfl rfl (by decide) (fun k4 => ?_) (fun k4 => ?_)
      · refine g_run 1 rfl ?_
        exact g_iret rfl rfl (by first | exact h1 (by omega) | exact h0 (by omega))
      · refine g_run 5 rfl ?_
        refine g_iald (j := nI.toNat) rfl rfl ((show _ = nI from nE).trans (by omega)) (by omega) ?_
        refine g_callS0 rfl LX0_52 rfl rfl ?_
        refine c_X9_within (nI := gI) (lI := 1) (uI := (hp.1 18 nI.toNat).toInt) gE (by decide) rfl (fun k5 => ?_) (fun k6 => ?_)
        · refine gz_ne (kx := 1) rfl (show (1 : Int32).toInt = 1 from by decide) (fun _ => ?_) (fun q => absurd q (by decide))
          refine g_run 4 rfl ?_
          refine g_iast (j := nI.toNat) rfl rfl ((show _ = nI from nE).trans (by omega)) (by omega) ?_
          refine g_run 8 rfl ?_
          exact g_iret rfl rfl (by first | exact h1 (by omega) | exact h0 (by omega))
        · refine gz_ne (kx := 0) rfl (show (0 : Int32).toInt = 0 from by decide) (fun q => absurd q (by decide)) (fun _ => ?_)
          refine g_run 1 rfl ?_
          exact g_iret rfl rfl (by first | exact h1 (by omega) | exact h0 (by omega))
  · refine gz_eq (kx := 0) rfl (show (0 : Int32).toInt = 0 from by decide) (fun _ => ?_) (fun q => absurd q (by decide))
    refine g_run 1 rfl ?_
    exact g_iret rfl rfl (by first | exact h1 (by omega) | exact h0 (by omega))
theorem c_X9_take {n : Int32} {nI : Int} {g : Int32} {gI : Int} (nE : n.toInt = nI) (gE : g.toInt = gI) (hs : 0 ≤ (hp.1 17 0).toInt ∧ (hp.1 17 0).toInt ≤ 60) (h1 : 0 ≤ nI ∧ nI < (hp.1 17 0).toInt ∧ (hp.1 21 nI.toNat).toInt ≤ 0 ∧ (hp.1 20 nI.toNat).toInt = -1 ∧ 1 ≤ gI ∧ gI ≤ (hp.1 18 nI.toNat).toInt → Q (some (.int (hp.1 17 1 + 1))) (SH b xs) (sI (sI hp 21 nI.toNat g) 17 1 (hp.1 17 1 + 1))) (h0 : nI < 0 ∨ (hp.1 17 0).toInt ≤ nI ∨ 0 < (hp.1 21 nI.toNat).toInt ∨ (hp.1 20 nI.toNat).toInt ≠ -1 ∨ gI < 1 ∨ (hp.1 18 nI.toNat).toInt < gI → Q (some (.int (-1))) (SH b xs) hp) : gC mX9_take (d + 2) 0 0 [.ref 0, .int n, .int g] (SH b xs) hp Q := by
  refine g_enter okX9_take (plainFor_of_name rfl) rfl ?_
  refine g_run 4 rfl ?_
  refine g_callV0 rfl LX9_141 rfl rfl rfl rfl ?_
  refine c_X0_tellForBlend (nI := nI) (gI := gI) nE gE hs (fun k => ?_) (fun k => ?_)
  · exact g_iret rfl rfl (by first | exact h1 (by omega) | exact h0 (by omega))
  · exact g_iret rfl rfl (by first | exact h1 (by omega) | exact h0 (by omega))
theorem c_X0_sendTo {n : Int32} {nI : Int} {u : Int32} {uI : Int} (nE : n.toInt = nI) (uE : u.toInt = uI) (hs : 0 ≤ (hp.1 17 0).toInt ∧ (hp.1 17 0).toInt ≤ 60) (h1 : 0 ≤ nI ∧ nI < (hp.1 17 0).toInt ∧ (hp.1 20 nI.toNat).toInt = -1 ∧ (hp.1 21 nI.toNat).toInt ≤ 0 ∧ (hp.1 18 nI.toNat).toInt ≠ 0 → Q (some (.int 1)) (SH b xs) (sI hp 20 nI.toNat u)) (h0 : nI < 0 ∨ (hp.1 17 0).toInt ≤ nI ∨ (hp.1 20 nI.toNat).toInt ≠ -1 ∨ 0 < (hp.1 21 nI.toNat).toInt ∨ (hp.1 18 nI.toNat).toInt = 0 → Q (some (.int 0)) (SH b xs) hp) : gC mX0_sendTo (d + 1) 0 0 [.ref 17, .int n, .int u] (SH b xs) hp Q := by
  refine g_enter okX0_sendTo (plainFor_of_name rfl) rfl ?_
  refine g_run 2 rfl ?_
  refine g_callV0 rfl LX0_48 rfl rfl rfl rfl ?_
  refine c_X0_has (nI := nI) (zI := (hp.1 17 0).toInt) nE rfl (fun k1 => ?_) (fun k2 => ?_)
  · refine gz_eq (kx := 1) rfl (show (1 : Int32).toInt = 1 from by decide) (fun q => absurd q (by decide)) (fun _ => ?_)
    refine g_run 3 rfl ?_
    refine g_iald (j := nI.toNat) rfl rfl ((show _ = nI from nE).trans (by omega)) (by omega) ?_
    refine g_run 1 rfl ?_
    refine gj_ne (kx := (hp.1 20 nI.toNat).toInt) (kz := (-1)) rfl rfl (by decide) (fun k3 => ?_) (fun k3 => ?_)
    · refine g_run 1 rfl ?_
      exact g_zret rfl rfl (Or.inl rfl) (by first | exact h1 (by omega) | exact h0 (by omega))
    · refine g_run 3 rfl ?_
      refine g_iald (j := nI.toNat) rfl rfl ((show _ = nI from nE).trans (by omega)) (by omega) ?_
      refine gz_gt (kx := (hp.1 21 nI.toNat).toInt) rfl rfl (fun k4 => ?_) (fun k4 => ?_)
      · refine g_run 1 rfl ?_
        exact g_zret rfl rfl (Or.inl rfl) (by first | exact h1 (by omega) | exact h0 (by omega))
      · refine g_run 3 rfl ?_
        refine g_iald (j := nI.toNat) rfl rfl ((show _ = nI from nE).trans (by omega)) (by omega) ?_
        refine gz_ne (kx := (hp.1 18 nI.toNat).toInt) rfl rfl (fun k5 => ?_) (fun k5 => ?_)
        · refine g_run 4 rfl ?_
          refine g_iast (j := nI.toNat) rfl rfl ((show _ = nI from nE).trans (by omega)) (by omega) ?_
          refine g_run 1 rfl ?_
          exact g_zret rfl rfl (Or.inr rfl) (by first | exact h1 (by omega) | exact h0 (by omega))
        · refine g_run 1 rfl ?_
          exact g_zret rfl rfl (Or.inl rfl) (by first | exact h1 (by omega) | exact h0 (by omega))
  · refine gz_eq (kx := 0) rfl (show (0 : Int32).toInt = 0 from by decide) (fun _ => ?_) (fun q => absurd q (by decide))
    refine g_run 1 rfl ?_
    exact g_zret rfl rfl (Or.inl rfl) (by first | exact h1 (by omega) | exact h0 (by omega))
theorem c_X9_send {n : Int32} {nI : Int} {u : Int32} {uI : Int} (nE : n.toInt = nI) (uE : u.toInt = uI) (hs : 0 ≤ (hp.1 17 0).toInt ∧ (hp.1 17 0).toInt ≤ 60) (h1 : (0 ≤ nI ∧ nI < (hp.1 17 0).toInt ∧ (hp.1 20 nI.toNat).toInt = -1 ∧ (hp.1 21 nI.toNat).toInt ≤ 0 ∧ (hp.1 18 nI.toNat).toInt ≠ 0) ∧ 0 ≤ uI ∧ uI < 10 → Q (some (.int 1)) (SH b xs) (sI hp 20 nI.toNat u)) (h0 : (nI < 0 ∨ (hp.1 17 0).toInt ≤ nI ∨ (hp.1 20 nI.toNat).toInt ≠ -1 ∨ 0 < (hp.1 21 nI.toNat).toInt ∨ (hp.1 18 nI.toNat).toInt = 0) ∨ uI < 0 ∨ 10 ≤ uI → Q (some (.int 0)) (SH b xs) hp) : gC mX9_send (d + 2) 0 0 [.ref 0, .int n, .int u] (SH b xs) hp Q := by
  refine g_enter okX9_send (plainFor_of_name rfl) rfl ?_
  refine g_run 3 rfl ?_
  refine g_callS0 rfl LX9_82 rfl rfl ?_
  refine c_X9_within (nI := uI) (lI := 0) (uI := 9) uE (by decide) (by decide) (fun k1 => ?_) (fun k2 => ?_)
  · refine gz_eq (kx := 1) rfl (show (1 : Int32).toInt = 1 from by decide) (fun q => absurd q (by decide)) (fun _ => ?_)
    refine g_run 4 rfl ?_
    refine g_callV0 rfl LX9_192 rfl rfl rfl rfl ?_
    refine c_X0_sendTo (nI := nI) (uI := uI) nE uE hs (fun k => ?_) (fun k => ?_)
    · refine gz_eq (kx := 1) rfl (show (1 : Int32).toInt = 1 from by decide) (fun q => absurd q (by decide)) (fun _ => ?_)
      refine g_run 2 rfl ?_
      exact g_zret rfl rfl (Or.inr rfl) (by first | exact h1 (by omega) | exact h0 (by omega))
    · refine gz_eq (kx := 0) rfl (show (0 : Int32).toInt = 0 from by decide) (fun _ => ?_) (fun q => absurd q (by decide))
      refine g_run 1 rfl ?_
      exact g_zret rfl rfl (Or.inl rfl) (by first | exact h1 (by omega) | exact h0 (by omega))
  · refine gz_eq (kx := 0) rfl (show (0 : Int32).toInt = 0 from by decide) (fun _ => ?_) (fun q => absurd q (by decide))
    refine g_run 1 rfl ?_
    exact g_zret rfl rfl (Or.inl rfl) (by first | exact h1 (by omega) | exact h0 (by omega))
theorem c_X9_stale {h : Int32} {hI : Int} (hE : h.toInt = hI) (hs : 0 ≤ (hp.1 17 0).toInt ∧ (hp.1 17 0).toInt ≤ 60) (hk : 0 ≤ (hp.1 0 9).toInt ∧ (hp.1 0 9).toInt ≤ 999) (hk2 : ∀ i, i < 10 → 0 ≤ (hp.1 36 i).toInt ∧ (hp.1 36 i).toInt ≤ 999) (h1 : 0 ≤ hI ∧ hI < 10 → Q (some (.int (cntI (fun k => decide ((hp.1 20 k).toInt = hI ∧ (hp.1 19 k).toInt < ((hp.1 0 9).toInt - (hp.1 36 hI.toNat).toInt))) (hp.1 17 0).toInt.toNat))) (SH b xs) hp) (h0 : hI < 0 ∨ 10 ≤ hI → Q (some (.int (-1))) (SH b xs) hp) : gC mX9_stale (d + 1) 0 0 [.ref 0, .int h] (SH b xs) hp Q := by
  refine g_enter okX9_stale (plainFor_of_name rfl) rfl ?_
  refine g_run 3 rfl ?_
  refine g_callS0 rfl LX9_82 rfl rfl ?_
  refine c_X9_within (nI := hI) (lI := 0) (uI := 9) hE (by decide) (by decide) (fun k1 => ?_) (fun k2 => ?_)
  · refine gz_ne (kx := 1) rfl (show (1 : Int32).toInt = 1 from by decide) (fun _ => ?_) (fun q => absurd q (by decide))
    refine g_run 8 rfl ?_
    refine g_iald (j := hI.toNat) rfl rfl ((show _ = hI from hE).trans (by omega)) (by omega) ?_
    refine g_run 1 rfl ?_
    refine g_callV0 rfl LX9_195 rfl rfl rfl rfl ?_
    refine c_X0_olderIn (hI := hI) (ddI := ((hp.1 0 9).toInt - (hp.1 36 hI.toNat).toInt)) hE (by have := hk2 hI.toNat (by omega); exact ia_sub2 rfl rfl (by omega) (by omega)) hs ?_
    exact g_iret rfl rfl (by first | exact h1 (by omega) | exact h0 (by omega))
  · refine gz_ne (kx := 0) rfl (show (0 : Int32).toInt = 0 from by decide) (fun q => absurd q (by decide)) (fun _ => ?_)
    refine g_run 1 rfl ?_
    exact g_iret rfl rfl (by first | exact h1 (by omega) | exact h0 (by omega))
theorem c_X9_found {l : Int32} {lI : Int} {q : Int32} {qI : Int} (lE : l.toInt = lI) (qE : q.toInt = qI) (hs : 0 ≤ (hp.1 17 0).toInt ∧ (hp.1 17 0).toInt ≤ 60) (hl : 0 ≤ (hp.1 1 0).toInt ∧ (hp.1 1 0).toInt ≤ 12) (h1 : 0 ≤ lI ∧ lI < (hp.1 1 0).toInt → Q (some (.int (fndI (fun k => decide (0 < (hp.1 22 (((k : Int) * 12) + lI).toNat).toInt)) q (hp.1 17 0).toInt.toNat 0))) (SH b xs) hp) (h0 : lI < 0 ∨ (hp.1 1 0).toInt ≤ lI → Q (some (.int (-1))) (SH b xs) hp) : gC mX9_found (d + 2) 0 0 [.ref 0, .int l, .int q] (SH b xs) hp Q := by
  refine g_enter okX9_found (plainFor_of_name rfl) rfl ?_
  refine g_run 3 rfl ?_
  refine g_callV0 rfl LX9_112 rfl rfl rfl rfl ?_
  refine c_X3_has (nI := lI) (zI := (hp.1 1 0).toInt) lE rfl (fun k1 => ?_) (fun k2 => ?_)
  · refine gz_eq (kx := 1) rfl (show (1 : Int32).toInt = 1 from by decide) (fun q => absurd q (by decide)) (fun _ => ?_)
    refine g_run 4 rfl ?_
    refine g_callV0 rfl LX9_198 rfl rfl rfl rfl ?_
    refine c_X0_bagWith (lI := lI) lE rfl hs (by omega) ?_
    refine g_run 1 rfl ?_
    exact g_iret rfl rfl (by first | exact h1 (by omega) | exact h0 (by omega))
  · refine gz_eq (kx := 0) rfl (show (0 : Int32).toInt = 0 from by decide) (fun _ => ?_) (fun q => absurd q (by decide))
    refine g_run 1 rfl ?_
    exact g_iret rfl rfl (by first | exact h1 (by omega) | exact h0 (by omega))
theorem c_X9_led {l : Int32} {lI : Int} {h : Int32} {hI : Int} (lE : l.toInt = lI) (hE : h.toInt = hI) (hs : 0 ≤ (hp.1 17 0).toInt ∧ (hp.1 17 0).toInt ≤ 60) (hl : 0 ≤ (hp.1 1 0).toInt ∧ (hp.1 1 0).toInt ≤ 12) (h1 : 0 ≤ lI ∧ lI < (hp.1 1 0).toInt ∧ 0 ≤ hI ∧ hI < 10 → Q (some (.int (sumI (fun k => if (hp.1 20 k).toInt = hI then hp.1 22 (((k : Int) * 12) + lI).toNat else 0) (hp.1 17 0).toInt.toNat))) (SH b xs) hp) (h0 : lI < 0 ∨ (hp.1 1 0).toInt ≤ lI ∨ hI < 0 ∨ 10 ≤ hI → Q (some (.int (-1))) (SH b xs) hp) : gC mX9_led (d + 2) 0 0 [.ref 0, .int l, .int h] (SH b xs) hp Q := by
  refine g_enter okX9_led (plainFor_of_name rfl) rfl ?_
  refine g_run 3 rfl ?_
  refine g_callV0 rfl LX9_112 rfl rfl rfl rfl ?_
  refine c_X3_has (nI := lI) (zI := (hp.1 1 0).toInt) lE rfl (fun k1 => ?_) (fun k2 => ?_)
  · refine gz_eq (kx := 1) rfl (show (1 : Int32).toInt = 1 from by decide) (fun q => absurd q (by decide)) (fun _ => ?_)
    refine g_run 3 rfl ?_
    refine g_callS0 rfl LX9_82 rfl rfl ?_
    refine c_X9_within (nI := hI) (lI := 0) (uI := 9) hE (by decide) (by decide) (fun k3 => ?_) (fun k4 => ?_)
    · refine gz_ne (kx := 1) rfl (show (1 : Int32).toInt = 1 from by decide) (fun _ => ?_) (fun q => absurd q (by decide))
      refine g_run 4 rfl ?_
      refine g_callV0 rfl LX9_201 rfl rfl rfl rfl ?_
      refine c_X0_gramsIn (hI := hI) (lI := lI) hE lE hs (by omega) ?_
      exact g_iret rfl rfl (by first | exact h1 (by omega) | exact h0 (by omega))
    · refine gz_ne (kx := 0) rfl (show (0 : Int32).toInt = 0 from by decide) (fun q => absurd q (by decide)) (fun _ => ?_)
      refine g_run 1 rfl ?_
      exact g_iret rfl rfl (by first | exact h1 (by omega) | exact h0 (by omega))
  · refine gz_eq (kx := 0) rfl (show (0 : Int32).toInt = 0 from by decide) (fun _ => ?_) (fun q => absurd q (by decide))
    refine g_run 1 rfl ?_
    exact g_iret rfl rfl (by first | exact h1 (by omega) | exact h0 (by omega))
theorem c_X9_tenths {l : Int32} {lI : Int} (lE : l.toInt = lI) (hl : 0 ≤ (hp.1 1 0).toInt ∧ (hp.1 1 0).toInt ≤ 12) (h1 : 0 ≤ lI ∧ lI < (hp.1 1 0).toInt ∧ (hp.1 28 0).toInt ≠ 0 → Q (some (.int (hp.1 29 lI.toNat))) (SH b xs) hp) (h0 : lI < 0 ∨ (hp.1 1 0).toInt ≤ lI ∨ (hp.1 28 0).toInt = 0 → Q (some (.int (-1))) (SH b xs) hp) : gC mX9_tenths (d + 1) 0 0 [.ref 0, .int l] (SH b xs) hp Q := by
  refine g_enter okX9_tenths (plainFor_of_name rfl) rfl ?_
  refine g_run 3 rfl ?_
  refine g_callV0 rfl LX9_112 rfl rfl rfl rfl ?_
  refine c_X3_has (nI := lI) (zI := (hp.1 1 0).toInt) lE rfl (fun k1 => ?_) (fun k2 => ?_)
  · refine gz_eq (kx := 1) rfl (show (1 : Int32).toInt = 1 from by decide) (fun q => absurd q (by decide)) (fun _ => ?_)
    refine g_run 3 rfl ?_
    refine gz_eq (kx := (hp.1 28 0).toInt) rfl rfl (fun k3 => ?_) (fun k3 => ?_)
    · refine g_run 1 rfl ?_
      exact g_iret rfl rfl (by first | exact h1 (by omega) | exact h0 (by omega))
    · refine g_run 4 rfl ?_
      refine g_iald (j := lI.toNat) rfl rfl ((show _ = lI from lE).trans (by omega)) (by omega) ?_
      refine g_run 1 rfl ?_
      exact g_iret rfl rfl (by first | exact h1 (by omega) | exact h0 (by omega))
  · refine gz_eq (kx := 0) rfl (show (0 : Int32).toInt = 0 from by decide) (fun _ => ?_) (fun q => absurd q (by decide))
    refine g_run 1 rfl ?_
    exact g_iret rfl rfl (by first | exact h1 (by omega) | exact h0 (by omega))
theorem c_X4_tell {w : Int32} {wI : Int} (wE : w.toInt = wI) (h0 : (hp.1 15 2).toInt ≠ 0 ∧ wI = 0 → Q (some (.int (hp.1 15 9))) (SH b xs) hp) (h1 : (hp.1 15 2).toInt ≠ 0 ∧ wI = 1 → Q (some (.int (hp.1 15 5))) (SH b xs) hp) (h2 : (hp.1 15 2).toInt ≠ 0 ∧ wI = 2 → Q (some (.int (hp.1 15 0))) (SH b xs) hp) (h4 : (hp.1 15 2).toInt ≠ 0 ∧ wI = 4 → Q (some (.int (hp.1 15 11))) (SH b xs) hp) (h3 : (hp.1 15 2).toInt ≠ 0 ∧ wI = 3 ∧ (hp.1 15 10).toInt ≠ 0 → Q (some (.int 1)) (SH b xs) hp) (h5 : (hp.1 15 2).toInt ≠ 0 ∧ wI = 3 ∧ (hp.1 15 10).toInt = 0 → Q (some (.int 0)) (SH b xs) hp) (h6 : (hp.1 15 2).toInt = 0 ∨ wI < 0 ∨ 4 < wI → Q (some (.int (-1))) (SH b xs) hp) : gC mX4_tell d 0 0 [.ref 15, .int w] (SH b xs) hp Q := by
  refine g_enter okX4_tell (plainFor_of_name rfl) rfl ?_
  refine g_run 2 rfl ?_
  refine gz_ne (kx := (hp.1 15 2).toInt) rfl rfl (fun k1 => ?_) (fun k1 => ?_)
  · refine g_run 1 rfl ?_
    rcases (show wI < 0 ∨ 4 < wI ∨ wI = 0 ∨ wI = 1 ∨ wI = 2 ∨ wI = 3 ∨ wI = 4 by omega) with k2 | k2 | k2 | k2 | k2 | k2 | k2
    · refine g_tabOut (tgt := 77) rfl (Or.inl (by rw [show _ = wI from wE]; omega)) (by decide) ?_
      refine g_run 1 rfl ?_
      exact g_iret rfl rfl (by first | exact h0 (by omega) | exact h1 (by omega) | exact h2 (by omega) | exact h4 (by omega) | exact h3 (by omega) | exact h5 (by omega) | exact h6 (by omega))
    · refine g_tabOut (tgt := 77) rfl (Or.inr (by rw [show _ = wI from wE]; omega)) (by decide) ?_
      refine g_run 1 rfl ?_
      exact g_iret rfl rfl (by first | exact h0 (by omega) | exact h1 (by omega) | exact h2 (by omega) | exact h4 (by omega) | exact h3 (by omega) | exact h5 (by omega) | exact h6 (by omega))
    · refine g_tabIn (i := 0) (tgt := 44) rfl ((show _ = wI from wE).trans (by omega)) (by decide) rfl (by decide) ?_
      refine g_run 2 rfl ?_
      exact g_iret rfl rfl (by first | exact h0 (by omega) | exact h1 (by omega) | exact h2 (by omega) | exact h4 (by omega) | exact h3 (by omega) | exact h5 (by omega) | exact h6 (by omega))
    · refine g_tabIn (i := 1) (tgt := 49) rfl ((show _ = wI from wE).trans (by omega)) (by decide) rfl (by decide) ?_
      refine g_run 2 rfl ?_
      exact g_iret rfl rfl (by first | exact h0 (by omega) | exact h1 (by omega) | exact h2 (by omega) | exact h4 (by omega) | exact h3 (by omega) | exact h5 (by omega) | exact h6 (by omega))
    · refine g_tabIn (i := 2) (tgt := 54) rfl ((show _ = wI from wE).trans (by omega)) (by decide) rfl (by decide) ?_
      refine g_run 2 rfl ?_
      exact g_iret rfl rfl (by first | exact h0 (by omega) | exact h1 (by omega) | exact h2 (by omega) | exact h4 (by omega) | exact h3 (by omega) | exact h5 (by omega) | exact h6 (by omega))
    · refine g_tabIn (i := 3) (tgt := 59) rfl ((show _ = wI from wE).trans (by omega)) (by decide) rfl (by decide) ?_
      refine g_run 2 rfl ?_
      refine gz_eq (kx := (hp.1 15 10).toInt) rfl rfl (fun k3 => ?_) (fun k3 => ?_)
      · refine g_run 1 rfl ?_
        exact g_iret rfl rfl (by first | exact h0 (by omega) | exact h1 (by omega) | exact h2 (by omega) | exact h4 (by omega) | exact h3 (by omega) | exact h5 (by omega) | exact h6 (by omega))
      · refine g_run 2 rfl ?_
        exact g_iret rfl rfl (by first | exact h0 (by omega) | exact h1 (by omega) | exact h2 (by omega) | exact h4 (by omega) | exact h3 (by omega) | exact h5 (by omega) | exact h6 (by omega))
    · refine g_tabIn (i := 4) (tgt := 72) rfl ((show _ = wI from wE).trans (by omega)) (by decide) rfl (by decide) ?_
      refine g_run 2 rfl ?_
      exact g_iret rfl rfl (by first | exact h0 (by omega) | exact h1 (by omega) | exact h2 (by omega) | exact h4 (by omega) | exact h3 (by omega) | exact h5 (by omega) | exact h6 (by omega))
  · refine g_run 1 rfl ?_
    exact g_iret rfl rfl (by first | exact h0 (by omega) | exact h1 (by omega) | exact h2 (by omega) | exact h4 (by omega) | exact h3 (by omega) | exact h5 (by omega) | exact h6 (by omega))
theorem c_X9_roasted {w : Int32} {wI : Int} (wE : w.toInt = wI) (h0 : (hp.1 15 2).toInt ≠ 0 ∧ wI = 0 → Q (some (.int (hp.1 15 9))) (SH b xs) hp) (h1 : (hp.1 15 2).toInt ≠ 0 ∧ wI = 1 → Q (some (.int (hp.1 15 5))) (SH b xs) hp) (h2 : (hp.1 15 2).toInt ≠ 0 ∧ wI = 2 → Q (some (.int (hp.1 15 0))) (SH b xs) hp) (h4 : (hp.1 15 2).toInt ≠ 0 ∧ wI = 4 → Q (some (.int (hp.1 15 11))) (SH b xs) hp) (h3 : (hp.1 15 2).toInt ≠ 0 ∧ wI = 3 ∧ (hp.1 15 10).toInt ≠ 0 → Q (some (.int 1)) (SH b xs) hp) (h5 : (hp.1 15 2).toInt ≠ 0 ∧ wI = 3 ∧ (hp.1 15 10).toInt = 0 → Q (some (.int 0)) (SH b xs) hp) (h6 : (hp.1 15 2).toInt = 0 ∨ wI < 0 ∨ 4 < wI → Q (some (.int (-1))) (SH b xs) hp) : gC mX9_roasted (d + 1) 0 0 [.ref 0, .int w] (SH b xs) hp Q := by
  refine g_enter okX9_roasted (plainFor_of_name rfl) rfl ?_
  refine g_run 3 rfl ?_
  refine g_callV0 rfl LX9_137 rfl rfl rfl rfl ?_
  refine c_X4_tell (wI := wI) wE (fun k => ?_) (fun k => ?_) (fun k => ?_) (fun k => ?_) (fun k => ?_) (fun k => ?_) (fun k => ?_)
  · exact g_iret rfl rfl (by first | exact h0 (by omega) | exact h1 (by omega) | exact h2 (by omega) | exact h4 (by omega) | exact h3 (by omega) | exact h5 (by omega) | exact h6 (by omega))
  · exact g_iret rfl rfl (by first | exact h0 (by omega) | exact h1 (by omega) | exact h2 (by omega) | exact h4 (by omega) | exact h3 (by omega) | exact h5 (by omega) | exact h6 (by omega))
  · exact g_iret rfl rfl (by first | exact h0 (by omega) | exact h1 (by omega) | exact h2 (by omega) | exact h4 (by omega) | exact h3 (by omega) | exact h5 (by omega) | exact h6 (by omega))
  · exact g_iret rfl rfl (by first | exact h0 (by omega) | exact h1 (by omega) | exact h2 (by omega) | exact h4 (by omega) | exact h3 (by omega) | exact h5 (by omega) | exact h6 (by omega))
  · exact g_iret rfl rfl (by first | exact h0 (by omega) | exact h1 (by omega) | exact h2 (by omega) | exact h4 (by omega) | exact h3 (by omega) | exact h5 (by omega) | exact h6 (by omega))
  · exact g_iret rfl rfl (by first | exact h0 (by omega) | exact h1 (by omega) | exact h2 (by omega) | exact h4 (by omega) | exact h3 (by omega) | exact h5 (by omega) | exact h6 (by omega))
  · exact g_iret rfl rfl (by first | exact h0 (by omega) | exact h1 (by omega) | exact h2 (by omega) | exact h4 (by omega) | exact h3 (by omega) | exact h5 (by omega) | exact h6 (by omega))
theorem c_X10_roasted {w : Int32} {wI : Int} (wE : w.toInt = wI) (h0 : (hp.1 43 35).toInt ≠ 0 ∧ wI = 0 → Q (some (.int (hp.1 43 36))) (SH b xs) (sI hp 43 0 0)) (h1 : (hp.1 43 35).toInt ≠ 0 ∧ wI = 1 → Q (some (.int (hp.1 43 37))) (SH b xs) (sI hp 43 0 0)) (h2 : (hp.1 43 35).toInt ≠ 0 ∧ wI = 2 → Q (some (.int (hp.1 43 41))) (SH b xs) (sI hp 43 0 0)) (h4 : (hp.1 43 35).toInt ≠ 0 ∧ wI = 4 → Q (some (.int (hp.1 43 43))) (SH b xs) (sI hp 43 0 0)) (h3 : (hp.1 43 35).toInt ≠ 0 ∧ wI = 3 ∧ (hp.1 43 42).toInt ≠ 0 → Q (some (.int 1)) (SH b xs) (sI hp 43 0 0)) (h5 : (hp.1 43 35).toInt ≠ 0 ∧ wI = 3 ∧ (hp.1 43 42).toInt = 0 → Q (some (.int 0)) (SH b xs) (sI hp 43 0 0)) (h6 : (hp.1 43 35).toInt = 0 ∨ wI < 0 ∨ 4 < wI → Q (some (.int (-1))) (SH b xs) (sI hp 43 0 0)) : gC mX10_roasted d 0 0 [.ref 43, .int w] (SH b xs) hp Q := by
  refine g_enter okX10_roasted (plainFor_of_name rfl) rfl ?_
  refine g_run 5 rfl ?_
  refine gz_ne (kx := (hp.1 43 35).toInt) rfl rfl (fun k1 => ?_) (fun k1 => ?_)
  · refine g_run 1 rfl ?_
    refine gz_ne (kx := wI) rfl wE (fun k2 => ?_) (fun k2 => ?_)
    · refine g_run 2 rfl ?_
      refine gj_ne (kx := wI) (kz := 1) rfl wE (by decide) (fun k3 => ?_) (fun k3 => ?_)
      · refine g_run 2 rfl ?_
        refine gj_ne (kx := wI) (kz := 2) rfl wE (by decide) (fun k4 => ?_) (fun k4 => ?_)
        · refine g_run 2 rfl ?_
          refine gj_ne (kx := wI) (kz := 3) rfl wE (by decide) (fun k5 => ?_) (fun k5 => ?_)
          · refine g_run 2 rfl ?_
            refine gj_ne (kx := wI) (kz := 4) rfl wE (by decide) (fun k6 => ?_) (fun k6 => ?_)
            · refine g_run 1 rfl ?_
              exact g_iret rfl rfl (by first | exact h0 (by omega) | exact h1 (by omega) | exact h2 (by omega) | exact h4 (by omega) | exact h3 (by omega) | exact h5 (by omega) | exact h6 (by omega))
            · refine g_run 3 rfl ?_
              exact g_iret rfl rfl (by first | exact h0 (by omega) | exact h1 (by omega) | exact h2 (by omega) | exact h4 (by omega) | exact h3 (by omega) | exact h5 (by omega) | exact h6 (by omega))
          · refine g_run 2 rfl ?_
            refine gz_eq (kx := (hp.1 43 42).toInt) rfl rfl (fun k7 => ?_) (fun k7 => ?_)
            · refine g_run 2 rfl ?_
              exact g_iret rfl rfl (by first | exact h0 (by omega) | exact h1 (by omega) | exact h2 (by omega) | exact h4 (by omega) | exact h3 (by omega) | exact h5 (by omega) | exact h6 (by omega))
            · refine g_run 2 rfl ?_
              exact g_iret rfl rfl (by first | exact h0 (by omega) | exact h1 (by omega) | exact h2 (by omega) | exact h4 (by omega) | exact h3 (by omega) | exact h5 (by omega) | exact h6 (by omega))
        · refine g_run 3 rfl ?_
          exact g_iret rfl rfl (by first | exact h0 (by omega) | exact h1 (by omega) | exact h2 (by omega) | exact h4 (by omega) | exact h3 (by omega) | exact h5 (by omega) | exact h6 (by omega))
      · refine g_run 3 rfl ?_
        exact g_iret rfl rfl (by first | exact h0 (by omega) | exact h1 (by omega) | exact h2 (by omega) | exact h4 (by omega) | exact h3 (by omega) | exact h5 (by omega) | exact h6 (by omega))
    · refine g_run 3 rfl ?_
      exact g_iret rfl rfl (by first | exact h0 (by omega) | exact h1 (by omega) | exact h2 (by omega) | exact h4 (by omega) | exact h3 (by omega) | exact h5 (by omega) | exact h6 (by omega))
  · refine g_run 1 rfl ?_
    exact g_iret rfl rfl (by first | exact h0 (by omega) | exact h1 (by omega) | exact h2 (by omega) | exact h4 (by omega) | exact h3 (by omega) | exact h5 (by omega) | exact h6 (by omega))
theorem c_X10_thrown (h1 : Q (some (.int (hp.1 43 0))) (SH b xs) hp) : gC mX10_thrown d 0 0 [.ref 43] (SH b xs) hp Q := by
  refine g_enter okX10_thrown (plainFor_of_name rfl) rfl ?_
  refine g_run 2 rfl ?_
  exact g_iret rfl rfl h1
theorem c_X9_count_false {w : Int32} {wI : Int} (wE : w.toInt = wI) (hs : 0 ≤ (hp.1 17 0).toInt ∧ (hp.1 17 0).toInt ≤ 60) (h0 : wI = 0 → Q (some (.int (hp.1 1 0))) (SH false xs) hp) (h1 : wI = 1 → Q (some (.int (hp.1 17 0))) (SH false xs) hp) (h2 : wI = 2 → Q (some (.int (hp.1 0 9))) (SH false xs) hp) (h3 : wI = 3 → Q (some (.int (hp.1 (rl false) 0))) (SH false xs) hp) (h4 : wI = 4 → Q (some (.int (hp.1 5 1))) (SH false xs) hp) (h5 : wI = 5 → Q (some (.int (hp.1 17 1))) (SH false xs) hp) (h6 : wI = 6 → Q (some (.int (sumI (hp.1 18) (hp.1 17 0).toInt.toNat))) (SH false xs) hp) (h7 : wI < 0 ∨ 6 < wI → Q (some (.int (-1))) (SH false xs) hp) : gC mX9_count (d + 1) 0 0 [.ref 0, .int w] (SH false xs) hp Q := by
  refine g_enter okX9_count (plainFor_of_name rfl) rfl ?_
  refine g_run 1 rfl ?_
  rcases (show wI < 0 ∨ 6 < wI ∨ wI = 0 ∨ wI = 1 ∨ wI = 2 ∨ wI = 3 ∨ wI = 4 ∨ wI = 5 ∨ wI = 6 by omega) with k1 | k1 | k1 | k1 | k1 | k1 | k1 | k1 | k1
  · refine g_tabOut (tgt := 97) rfl (Or.inl (by rw [show _ = wI from wE]; omega)) (by decide) ?_
    refine g_run 1 rfl ?_
    exact g_iret rfl rfl (by first | exact h0 (by omega) | exact h1 (by omega) | exact h2 (by omega) | exact h3 (by omega) | exact h4 (by omega) | exact h5 (by omega) | exact h6 (by omega) | exact h7 (by omega))
  · refine g_tabOut (tgt := 97) rfl (Or.inr (by rw [show _ = wI from wE]; omega)) (by decide) ?_
    refine g_run 1 rfl ?_
    exact g_iret rfl rfl (by first | exact h0 (by omega) | exact h1 (by omega) | exact h2 (by omega) | exact h3 (by omega) | exact h4 (by omega) | exact h5 (by omega) | exact h6 (by omega) | exact h7 (by omega))
  · refine g_tabIn (i := 0) (tgt := 44) rfl ((show _ = wI from wE).trans (by omega)) (by decide) rfl (by decide) ?_
    refine g_run 3 rfl ?_
    exact g_iret rfl rfl (by first | exact h0 (by omega) | exact h1 (by omega) | exact h2 (by omega) | exact h3 (by omega) | exact h4 (by omega) | exact h5 (by omega) | exact h6 (by omega) | exact h7 (by omega))
  · refine g_tabIn (i := 1) (tgt := 52) rfl ((show _ = wI from wE).trans (by omega)) (by decide) rfl (by decide) ?_
    refine g_run 3 rfl ?_
    exact g_iret rfl rfl (by first | exact h0 (by omega) | exact h1 (by omega) | exact h2 (by omega) | exact h3 (by omega) | exact h4 (by omega) | exact h5 (by omega) | exact h6 (by omega) | exact h7 (by omega))
  · refine g_tabIn (i := 2) (tgt := 60) rfl ((show _ = wI from wE).trans (by omega)) (by decide) rfl (by decide) ?_
    refine g_run 2 rfl ?_
    exact g_iret rfl rfl (by first | exact h0 (by omega) | exact h1 (by omega) | exact h2 (by omega) | exact h3 (by omega) | exact h4 (by omega) | exact h5 (by omega) | exact h6 (by omega) | exact h7 (by omega))
  · refine g_tabIn (i := 3) (tgt := 65) rfl ((show _ = wI from wE).trans (by omega)) (by decide) rfl (by decide) ?_
    refine g_run 3 rfl ?_
    exact g_iret rfl rfl (by first | exact h0 (by omega) | exact h1 (by omega) | exact h2 (by omega) | exact h3 (by omega) | exact h4 (by omega) | exact h5 (by omega) | exact h6 (by omega) | exact h7 (by omega))
  · refine g_tabIn (i := 4) (tgt := 73) rfl ((show _ = wI from wE).trans (by omega)) (by decide) rfl (by decide) ?_
    refine g_run 3 rfl ?_
    exact g_iret rfl rfl (by first | exact h0 (by omega) | exact h1 (by omega) | exact h2 (by omega) | exact h3 (by omega) | exact h4 (by omega) | exact h5 (by omega) | exact h6 (by omega) | exact h7 (by omega))
  · refine g_tabIn (i := 5) (tgt := 81) rfl ((show _ = wI from wE).trans (by omega)) (by decide) rfl (by decide) ?_
    refine g_run 3 rfl ?_
    exact g_iret rfl rfl (by first | exact h0 (by omega) | exact h1 (by omega) | exact h2 (by omega) | exact h3 (by omega) | exact h4 (by omega) | exact h5 (by omega) | exact h6 (by omega) | exact h7 (by omega))
  · refine g_tabIn (i := 6) (tgt := 89) rfl ((show _ = wI from wE).trans (by omega)) (by decide) rfl (by decide) ?_
    refine g_run 2 rfl ?_
    refine g_callV0 rfl LX9_210 rfl rfl rfl rfl ?_
    refine c_X0_allGrams hs ?_
    exact g_iret rfl rfl (by first | exact h0 (by omega) | exact h1 (by omega) | exact h2 (by omega) | exact h3 (by omega) | exact h4 (by omega) | exact h5 (by omega) | exact h6 (by omega) | exact h7 (by omega))
theorem c_X9_count_true {w : Int32} {wI : Int} (wE : w.toInt = wI) (hs : 0 ≤ (hp.1 17 0).toInt ∧ (hp.1 17 0).toInt ≤ 60) (h0 : wI = 0 → Q (some (.int (hp.1 1 0))) (SH true xs) hp) (h1 : wI = 1 → Q (some (.int (hp.1 17 0))) (SH true xs) hp) (h2 : wI = 2 → Q (some (.int (hp.1 0 9))) (SH true xs) hp) (h3 : wI = 3 → Q (some (.int (hp.1 (rl true) 0))) (SH true xs) hp) (h4 : wI = 4 → Q (some (.int (hp.1 5 1))) (SH true xs) hp) (h5 : wI = 5 → Q (some (.int (hp.1 17 1))) (SH true xs) hp) (h6 : wI = 6 → Q (some (.int (sumI (hp.1 18) (hp.1 17 0).toInt.toNat))) (SH true xs) hp) (h7 : wI < 0 ∨ 6 < wI → Q (some (.int (-1))) (SH true xs) hp) : gC mX9_count (d + 1) 0 0 [.ref 0, .int w] (SH true xs) hp Q := by
  refine g_enter okX9_count (plainFor_of_name rfl) rfl ?_
  refine g_run 1 rfl ?_
  rcases (show wI < 0 ∨ 6 < wI ∨ wI = 0 ∨ wI = 1 ∨ wI = 2 ∨ wI = 3 ∨ wI = 4 ∨ wI = 5 ∨ wI = 6 by omega) with k1 | k1 | k1 | k1 | k1 | k1 | k1 | k1 | k1
  · refine g_tabOut (tgt := 97) rfl (Or.inl (by rw [show _ = wI from wE]; omega)) (by decide) ?_
    refine g_run 1 rfl ?_
    exact g_iret rfl rfl (by first | exact h0 (by omega) | exact h1 (by omega) | exact h2 (by omega) | exact h3 (by omega) | exact h4 (by omega) | exact h5 (by omega) | exact h6 (by omega) | exact h7 (by omega))
  · refine g_tabOut (tgt := 97) rfl (Or.inr (by rw [show _ = wI from wE]; omega)) (by decide) ?_
    refine g_run 1 rfl ?_
    exact g_iret rfl rfl (by first | exact h0 (by omega) | exact h1 (by omega) | exact h2 (by omega) | exact h3 (by omega) | exact h4 (by omega) | exact h5 (by omega) | exact h6 (by omega) | exact h7 (by omega))
  · refine g_tabIn (i := 0) (tgt := 44) rfl ((show _ = wI from wE).trans (by omega)) (by decide) rfl (by decide) ?_
    refine g_run 3 rfl ?_
    exact g_iret rfl rfl (by first | exact h0 (by omega) | exact h1 (by omega) | exact h2 (by omega) | exact h3 (by omega) | exact h4 (by omega) | exact h5 (by omega) | exact h6 (by omega) | exact h7 (by omega))
  · refine g_tabIn (i := 1) (tgt := 52) rfl ((show _ = wI from wE).trans (by omega)) (by decide) rfl (by decide) ?_
    refine g_run 3 rfl ?_
    exact g_iret rfl rfl (by first | exact h0 (by omega) | exact h1 (by omega) | exact h2 (by omega) | exact h3 (by omega) | exact h4 (by omega) | exact h5 (by omega) | exact h6 (by omega) | exact h7 (by omega))
  · refine g_tabIn (i := 2) (tgt := 60) rfl ((show _ = wI from wE).trans (by omega)) (by decide) rfl (by decide) ?_
    refine g_run 2 rfl ?_
    exact g_iret rfl rfl (by first | exact h0 (by omega) | exact h1 (by omega) | exact h2 (by omega) | exact h3 (by omega) | exact h4 (by omega) | exact h5 (by omega) | exact h6 (by omega) | exact h7 (by omega))
  · refine g_tabIn (i := 3) (tgt := 65) rfl ((show _ = wI from wE).trans (by omega)) (by decide) rfl (by decide) ?_
    refine g_run 3 rfl ?_
    exact g_iret rfl rfl (by first | exact h0 (by omega) | exact h1 (by omega) | exact h2 (by omega) | exact h3 (by omega) | exact h4 (by omega) | exact h5 (by omega) | exact h6 (by omega) | exact h7 (by omega))
  · refine g_tabIn (i := 4) (tgt := 73) rfl ((show _ = wI from wE).trans (by omega)) (by decide) rfl (by decide) ?_
    refine g_run 3 rfl ?_
    exact g_iret rfl rfl (by first | exact h0 (by omega) | exact h1 (by omega) | exact h2 (by omega) | exact h3 (by omega) | exact h4 (by omega) | exact h5 (by omega) | exact h6 (by omega) | exact h7 (by omega))
  · refine g_tabIn (i := 5) (tgt := 81) rfl ((show _ = wI from wE).trans (by omega)) (by decide) rfl (by decide) ?_
    refine g_run 3 rfl ?_
    exact g_iret rfl rfl (by first | exact h0 (by omega) | exact h1 (by omega) | exact h2 (by omega) | exact h3 (by omega) | exact h4 (by omega) | exact h5 (by omega) | exact h6 (by omega) | exact h7 (by omega))
  · refine g_tabIn (i := 6) (tgt := 89) rfl ((show _ = wI from wE).trans (by omega)) (by decide) rfl (by decide) ?_
    refine g_run 2 rfl ?_
    refine g_callV0 rfl LX9_210 rfl rfl rfl rfl ?_
    refine c_X0_allGrams hs ?_
    exact g_iret rfl rfl (by first | exact h0 (by omega) | exact h1 (by omega) | exact h2 (by omega) | exact h3 (by omega) | exact h4 (by omega) | exact h5 (by omega) | exact h6 (by omega) | exact h7 (by omega))
theorem c_X9_count {w : Int32} {wI : Int} (wE : w.toInt = wI) (hs : 0 ≤ (hp.1 17 0).toInt ∧ (hp.1 17 0).toInt ≤ 60) (h0 : wI = 0 → Q (some (.int (hp.1 1 0))) (SH b xs) hp) (h1 : wI = 1 → Q (some (.int (hp.1 17 0))) (SH b xs) hp) (h2 : wI = 2 → Q (some (.int (hp.1 0 9))) (SH b xs) hp) (h3 : wI = 3 → Q (some (.int (hp.1 (rl b) 0))) (SH b xs) hp) (h4 : wI = 4 → Q (some (.int (hp.1 5 1))) (SH b xs) hp) (h5 : wI = 5 → Q (some (.int (hp.1 17 1))) (SH b xs) hp) (h6 : wI = 6 → Q (some (.int (sumI (hp.1 18) (hp.1 17 0).toInt.toNat))) (SH b xs) hp) (h7 : wI < 0 ∨ 6 < wI → Q (some (.int (-1))) (SH b xs) hp) : gC mX9_count (d + 1) 0 0 [.ref 0, .int w] (SH b xs) hp Q := by
  cases b
  · exact c_X9_count_false wE hs h0 h1 h2 h3 h4 h5 h6 h7
  · exact c_X9_count_true wE hs h0 h1 h2 h3 h4 h5 h6 h7
end S15
