/-! simple calls: contracts (rows printed by my own program) -/
section S13
variable {d : Nat} {sh : sh_T} {hp : hp_T} {Q : Option Value → sh_T → hp_T → Prop} {b : Bool} {xs : sh_T}
theorem c_X9_within {n : Int32} {nI : Int} {l : Int32} {lI : Int} {u : Int32} {uI : Int} (nE : n.toInt = nI) (lE : l.toInt = lI) (uE : u.toInt = uI) (h1 : lI ≤ nI ∧ nI ≤ uI → Q (some (.int 1)) sh hp) (h0 : nI < lI ∨ uI < nI → Q (some (.int 0)) sh hp) : gC mX9_within d 0 0 [.int n, .int l, .int u] sh hp Q := by
  refine g_enter okX9_within (plainFor_of_name rfl) rfl ?_
  refine g_run 2 rfl ?_
  refine gj_lt (kx := nI) (kz := lI) rfl nE lE (fun k1 => ?_) (fun k1 => ?_)
  · refine g_run 1 rfl ?_
    exact g_zret rfl rfl (Or.inl rfl) (by first | exact h1 (by omega) | exact h0 (by omega))
  · refine g_run 2 rfl ?_
    refine gj_gt (kx := nI) (kz := uI) rfl nE uE (fun k2 => ?_) (fun k2 => ?_)
    · refine g_run 1 rfl ?_
      exact g_zret rfl rfl (Or.inl rfl) (by first | exact h1 (by omega) | exact h0 (by omega))
    · refine g_run 2 rfl ?_
      exact g_zret rfl rfl (Or.inr rfl) (by first | exact h1 (by omega) | exact h0 (by omega))
theorem c_X10_isTaste {n : Int32} {nI : Int} (nE : n.toInt = nI) (h1 : 0 ≤ nI ∧ nI ≤ 100 → Q (some (.int 1)) sh hp) (h0 : nI < 0 ∨ 100 < nI → Q (some (.int 0)) sh hp) : gC mX10_isTaste d 0 0 [.int n] sh hp Q := by
  refine g_enter okX10_isTaste (plainFor_of_name rfl) rfl ?_
  refine g_run 1 rfl ?_
  refine gz_lt (kx := nI) rfl nE (fun k1 => ?_) (fun k1 => ?_)
  · refine g_run 1 rfl ?_
    exact g_zret rfl rfl (Or.inl rfl) (by first | exact h1 (by omega) | exact h0 (by omega))
  · refine g_run 2 rfl ?_
    refine gj_gt (kx := nI) (kz := 100) rfl nE (by decide) (fun k2 => ?_) (fun k2 => ?_)
    · refine g_run 1 rfl ?_
      exact g_zret rfl rfl (Or.inl rfl) (by first | exact h1 (by omega) | exact h0 (by omega))
    · refine g_run 2 rfl ?_
      exact g_zret rfl rfl (Or.inr rfl) (by first | exact h1 (by omega) | exact h0 (by omega))
theorem c_X10_isSample {n : Int32} {nI : Int} (nE : n.toInt = nI) (h1 : 0 ≤ nI ∧ nI < 20 → Q (some (.int 1)) sh hp) (h0 : nI < 0 ∨ 20 ≤ nI → Q (some (.int 0)) sh hp) : gC mX10_isSample d 0 0 [.int n] sh hp Q := by
  refine g_enter okX10_isSample (plainFor_of_name rfl) rfl ?_
  refine g_run 1 rfl ?_
  refine gz_lt (kx := nI) rfl nE (fun k1 => ?_) (fun k1 => ?_)
  · refine g_run 1 rfl ?_
    exact g_zret rfl rfl (Or.inl rfl) (by first | exact h1 (by omega) | exact h0 (by omega))
  · refine g_run 2 rfl ?_
    refine gj_ge (kx := nI) (kz := 20) rfl nE (by decide) (fun k2 => ?_) (fun k2 => ?_)
    · refine g_run 1 rfl ?_
      exact g_zret rfl rfl (Or.inl rfl) (by first | exact h1 (by omega) | exact h0 (by omega))
    · refine g_run 2 rfl ?_
      exact g_zret rfl rfl (Or.inr rfl) (by first | exact h1 (by omega) | exact h0 (by omega))
theorem c_X10_isHouse {n : Int32} {nI : Int} (nE : n.toInt = nI) (h1 : 0 ≤ nI ∧ nI < 10 → Q (some (.int 1)) sh hp) (h0 : nI < 0 ∨ 10 ≤ nI → Q (some (.int 0)) sh hp) : gC mX10_isHouse d 0 0 [.int n] sh hp Q := by
  refine g_enter okX10_isHouse (plainFor_of_name rfl) rfl ?_
  refine g_run 1 rfl ?_
  refine gz_lt (kx := nI) rfl nE (fun k1 => ?_) (fun k1 => ?_)
  · refine g_run 1 rfl ?_
    exact g_zret rfl rfl (Or.inl rfl) (by first | exact h1 (by omega) | exact h0 (by omega))
  · refine g_run 2 rfl ?_
    refine gj_ge (kx := nI) (kz := 10) rfl nE (by decide) (fun k2 => ?_) (fun k2 => ?_)
    · refine g_run 1 rfl ?_
      exact g_zret rfl rfl (Or.inl rfl) (by first | exact h1 (by omega) | exact h0 (by omega))
    · refine g_run 2 rfl ?_
      exact g_zret rfl rfl (Or.inr rfl) (by first | exact h1 (by omega) | exact h0 (by omega))
theorem c_X10_isLetter {n : Int32} {nI : Int} (nE : n.toInt = nI) (h1 : 97 ≤ nI ∧ nI ≤ 122 → Q (some (.int 1)) sh hp) (h0 : nI < 97 ∨ 122 < nI → Q (some (.int 0)) sh hp) : gC mX10_isLetter d 0 0 [.int n] sh hp Q := by
  refine g_enter okX10_isLetter (plainFor_of_name rfl) rfl ?_
  refine g_run 2 rfl ?_
  refine gj_lt (kx := nI) (kz := 97) rfl nE (by decide) (fun k1 => ?_) (fun k1 => ?_)
  · refine g_run 1 rfl ?_
    exact g_zret rfl rfl (Or.inl rfl) (by first | exact h1 (by omega) | exact h0 (by omega))
  · refine g_run 2 rfl ?_
    refine gj_gt (kx := nI) (kz := 122) rfl nE (by decide) (fun k2 => ?_) (fun k2 => ?_)
    · refine g_run 1 rfl ?_
      exact g_zret rfl rfl (Or.inl rfl) (by first | exact h1 (by omega) | exact h0 (by omega))
    · refine g_run 2 rfl ?_
      exact g_zret rfl rfl (Or.inr rfl) (by first | exact h1 (by omega) | exact h0 (by omega))
theorem c_X10_isDigit {n : Int32} {nI : Int} (nE : n.toInt = nI) (h1 : 48 ≤ nI ∧ nI ≤ 57 → Q (some (.int 1)) sh hp) (h0 : nI < 48 ∨ 57 < nI → Q (some (.int 0)) sh hp) : gC mX10_isDigit d 0 0 [.int n] sh hp Q := by
  refine g_enter okX10_isDigit (plainFor_of_name rfl) rfl ?_
  refine g_run 2 rfl ?_
  refine gj_lt (kx := nI) (kz := 48) rfl nE (by decide) (fun k1 => ?_) (fun k1 => ?_)
  · refine g_run 1 rfl ?_
    exact g_zret rfl rfl (Or.inl rfl) (by first | exact h1 (by omega) | exact h0 (by omega))
  · refine g_run 2 rfl ?_
    refine gj_gt (kx := nI) (kz := 57) rfl nE (by decide) (fun k2 => ?_) (fun k2 => ?_)
    · refine g_run 1 rfl ?_
      exact g_zret rfl rfl (Or.inl rfl) (by first | exact h1 (by omega) | exact h0 (by omega))
    · refine g_run 2 rfl ?_
      exact g_zret rfl rfl (Or.inr rfl) (by first | exact h1 (by omega) | exact h0 (by omega))
theorem c_X2_hasSample {n : Int32} {nI : Int} (nE : n.toInt = nI) (h1 : 0 ≤ nI ∧ nI < 20 → Q (some (.int 1)) sh hp) (h0 : nI < 0 ∨ 20 ≤ nI → Q (some (.int 0)) sh hp) : gC mX2_hasSample (d + 1) 0 0 [.int n] sh hp Q := by
  refine g_enter okX2_hasSample (plainFor_of_name rfl) rfl ?_
  refine g_run 3 rfl ?_
  refine g_callS0 rfl LX2_31 rfl rfl ?_
  refine c_X9_within (nI := nI) (lI := 0) (uI := 19) nE (by decide) (by decide) (fun k1 => ?_) (fun k2 => ?_)
  · exact g_zret rfl rfl (Or.inr rfl) (by first | exact h1 (by omega) | exact h0 (by omega))
  · exact g_zret rfl rfl (Or.inl rfl) (by first | exact h1 (by omega) | exact h0 (by omega))
theorem c_X8_isLetter {n : Int32} {nI : Int} (nE : n.toInt = nI) (h1 : 97 ≤ nI ∧ nI ≤ 122 → Q (some (.int 1)) sh hp) (h0 : nI < 97 ∨ 122 < nI → Q (some (.int 0)) sh hp) : gC mX8_isLetter (d + 1) 0 0 [.int n] sh hp Q := by
  refine g_enter okX8_isLetter (plainFor_of_name rfl) rfl ?_
  refine g_run 3 rfl ?_
  refine g_callS0 rfl LX8_97 rfl rfl ?_
  refine c_X9_within (nI := nI) (lI := 97) (uI := 122) nE (by decide) (by decide) (fun k1 => ?_) (fun k2 => ?_)
  · exact g_zret rfl rfl (Or.inr rfl) (by first | exact h1 (by omega) | exact h0 (by omega))
  · exact g_zret rfl rfl (Or.inl rfl) (by first | exact h1 (by omega) | exact h0 (by omega))
theorem c_X8_isDigit {n : Int32} {nI : Int} (nE : n.toInt = nI) (h1 : 48 ≤ nI ∧ nI ≤ 57 → Q (some (.int 1)) sh hp) (h0 : nI < 48 ∨ 57 < nI → Q (some (.int 0)) sh hp) : gC mX8_isDigit (d + 1) 0 0 [.int n] sh hp Q := by
  refine g_enter okX8_isDigit (plainFor_of_name rfl) rfl ?_
  refine g_run 3 rfl ?_
  refine g_callS0 rfl LX8_97 rfl rfl ?_
  refine c_X9_within (nI := nI) (lI := 48) (uI := 57) nE (by decide) (by decide) (fun k1 => ?_) (fun k2 => ?_)
  · exact g_zret rfl rfl (Or.inr rfl) (by first | exact h1 (by omega) | exact h0 (by omega))
  · exact g_zret rfl rfl (Or.inl rfl) (by first | exact h1 (by omega) | exact h0 (by omega))
theorem c_X0_has {n : Int32} {nI : Int} (nE : n.toInt = nI) {zI : Int} (zE : (hp.1 17 0).toInt = zI) (h1 : 0 ≤ nI ∧ nI < zI → Q (some (.int 1)) (SH b xs) hp) (h0 : nI < 0 ∨ zI ≤ nI → Q (some (.int 0)) (SH b xs) hp) : gC mX0_has d 0 0 [.ref 17, .int n] (SH b xs) hp Q := by
  refine g_enter okX0_has (plainFor_of_name rfl) rfl ?_
  refine g_run 1 rfl ?_
  refine gz_lt (kx := nI) rfl nE (fun k1 => ?_) (fun k1 => ?_)
  · refine g_run 1 rfl ?_
    exact g_zret rfl rfl (Or.inl rfl) (by first | exact h1 (by omega) | exact h0 (by omega))
  · refine g_run 3 rfl ?_
    refine gj_ge (kx := nI) (kz := (hp.1 17 0).toInt) rfl nE rfl (fun k2 => ?_) (fun k2 => ?_)
    · refine g_run 1 rfl ?_
      exact g_zret rfl rfl (Or.inl rfl) (by first | exact h1 (by omega) | exact h0 (by omega))
    · refine g_run 2 rfl ?_
      exact g_zret rfl rfl (Or.inr rfl) (by first | exact h1 (by omega) | exact h0 (by omega))
theorem c_X3_has {n : Int32} {nI : Int} (nE : n.toInt = nI) {zI : Int} (zE : (hp.1 1 0).toInt = zI) (h1 : 0 ≤ nI ∧ nI < zI → Q (some (.int 1)) (SH b xs) hp) (h0 : nI < 0 ∨ zI ≤ nI → Q (some (.int 0)) (SH b xs) hp) : gC mX3_has d 0 0 [.ref 1, .int n] (SH b xs) hp Q := by
  refine g_enter okX3_has (plainFor_of_name rfl) rfl ?_
  refine g_run 1 rfl ?_
  refine gz_lt (kx := nI) rfl nE (fun k1 => ?_) (fun k1 => ?_)
  · refine g_run 1 rfl ?_
    exact g_zret rfl rfl (Or.inl rfl) (by first | exact h1 (by omega) | exact h0 (by omega))
  · refine g_run 3 rfl ?_
    refine gj_ge (kx := nI) (kz := (hp.1 1 0).toInt) rfl nE rfl (fun k2 => ?_) (fun k2 => ?_)
    · refine g_run 1 rfl ?_
      exact g_zret rfl rfl (Or.inl rfl) (by first | exact h1 (by omega) | exact h0 (by omega))
    · refine g_run 2 rfl ?_
      exact g_zret rfl rfl (Or.inr rfl) (by first | exact h1 (by omega) | exact h0 (by omega))
theorem c_X10_isLot {n : Int32} {nI : Int} (nE : n.toInt = nI) {zI : Int} (zE : (hp.1 43 26).toInt = zI) (h1 : 0 ≤ nI ∧ nI < zI → Q (some (.int 1)) (SH b xs) hp) (h0 : nI < 0 ∨ zI ≤ nI → Q (some (.int 0)) (SH b xs) hp) : gC mX10_isLot d 0 0 [.ref 43, .int n] (SH b xs) hp Q := by
  refine g_enter okX10_isLot (plainFor_of_name rfl) rfl ?_
  refine g_run 1 rfl ?_
  refine gz_lt (kx := nI) rfl nE (fun k1 => ?_) (fun k1 => ?_)
  · refine g_run 1 rfl ?_
    exact g_zret rfl rfl (Or.inl rfl) (by first | exact h1 (by omega) | exact h0 (by omega))
  · refine g_run 3 rfl ?_
    refine gj_ge (kx := nI) (kz := (hp.1 43 26).toInt) rfl nE rfl (fun k2 => ?_) (fun k2 => ?_)
    · refine g_run 1 rfl ?_
      exact g_zret rfl rfl (Or.inl rfl) (by first | exact h1 (by omega) | exact h0 (by omega))
    · refine g_run 2 rfl ?_
      exact g_zret rfl rfl (Or.inr rfl) (by first | exact h1 (by omega) | exact h0 (by omega))
theorem c_X10_isBag {n : Int32} {nI : Int} (nE : n.toInt = nI) {zI : Int} (zE : (hp.1 43 30).toInt = zI) (h1 : 0 ≤ nI ∧ nI < zI → Q (some (.int 1)) (SH b xs) hp) (h0 : nI < 0 ∨ zI ≤ nI → Q (some (.int 0)) (SH b xs) hp) : gC mX10_isBag d 0 0 [.ref 43, .int n] (SH b xs) hp Q := by
  refine g_enter okX10_isBag (plainFor_of_name rfl) rfl ?_
  refine g_run 1 rfl ?_
  refine gz_lt (kx := nI) rfl nE (fun k1 => ?_) (fun k1 => ?_)
  · refine g_run 1 rfl ?_
    exact g_zret rfl rfl (Or.inl rfl) (by first | exact h1 (by omega) | exact h0 (by omega))
  · refine g_run 3 rfl ?_
    refine gj_ge (kx := nI) (kz := (hp.1 43 30).toInt) rfl nE rfl (fun k2 => ?_) (fun k2 => ?_)
    · refine g_run 1 rfl ?_
      exact g_zret rfl rfl (Or.inl rfl) (by first | exact h1 (by omega) | exact h0 (by omega))
    · refine g_run 2 rfl ?_
      exact g_zret rfl rfl (Or.inr rfl) (by first | exact h1 (by omega) | exact h0 (by omega))
theorem c_J9_max_7cf53 {x : Int32} {xI : Int} {z : Int32} {zI : Int} (xE : x.toInt = xI) (zE : z.toInt = zI) (h1 : zI ≤ xI → Q (some (.int x)) sh hp) (h0 : xI < zI → Q (some (.int z)) sh hp) : gC mJ9_max_7cf53 d 0 0 [.int x, .int z] sh hp Q := by
  refine g_enter okJ9_max_7cf53 (by decide +kernel) rfl ?_
  refine g_run 2 rfl ?_
  refine gj_lt (kx := xI) (kz := zI) rfl xE zE (fun k1 => ?_) (fun k1 => ?_)
  · refine g_run 1 rfl ?_
    exact g_iret rfl rfl (by first | exact h1 (by omega) | exact h0 (by omega))
  · refine g_run 2 rfl ?_
    exact g_iret rfl rfl (by first | exact h1 (by omega) | exact h0 (by omega))
theorem c_J9_min_7cf53 {x : Int32} {xI : Int} {z : Int32} {zI : Int} (xE : x.toInt = xI) (zE : z.toInt = zI) (h1 : xI ≤ zI → Q (some (.int x)) sh hp) (h0 : zI < xI → Q (some (.int z)) sh hp) : gC mJ9_min_7cf53 d 0 0 [.int x, .int z] sh hp Q := by
  refine g_enter okJ9_min_7cf53 (by decide +kernel) rfl ?_
  refine g_run 2 rfl ?_
  refine gj_gt (kx := xI) (kz := zI) rfl xE zE (fun k1 => ?_) (fun k1 => ?_)
  · refine g_run 1 rfl ?_
    exact g_iret rfl rfl (by first | exact h1 (by omega) | exact h0 (by omega))
  · refine g_run 2 rfl ?_
    exact g_iret rfl rfl (by first | exact h1 (by omega) | exact h0 (by omega))
theorem c_J9_abs_0f7a4 {x : Int32} {xI : Int} (xE : x.toInt = xI) (h1 : 0 ≤ xI → Q (some (.int x)) sh hp) (h0 : xI < 0 → Q (some (.int (-x))) sh hp) : gC mJ9_abs_0f7a4 d 0 0 [.int x] sh hp Q := by
  refine g_enter okJ9_abs_0f7a4 (by decide +kernel) rfl ?_
  refine g_run 1 rfl ?_
  refine gz_ge (kx := xI) rfl xE (fun k1 => ?_) (fun k1 => ?_)
  · refine g_run 1 rfl ?_
    exact g_iret rfl rfl (by first | exact h1 (by omega) | exact h0 (by omega))
  · refine g_run 3 rfl ?_
    exact g_iret rfl rfl (by first | exact h1 (by omega) | exact h0 (by omega))
theorem c_X3_add {g : Int32} {gI : Int} {p : Int32} {pI : Int} {a : Int32} {aI : Int} {bb : Int32} {bbI : Int} {c : Int32} {cI : Int} (gE : g.toInt = gI) (pE : p.toInt = pI) (aE : a.toInt = aI) (bbE : bb.toInt = bbI) (cE : c.toInt = cI) (hs : 0 ≤ (hp.1 1 0).toInt ∧ (hp.1 1 0).toInt < 12) (h1 : Q (some (.int (hp.1 1 0))) (SH b xs) (sI (sI (sI (sI (sI (sI hp 2 (hp.1 1 0).toInt.toNat g) 3 (hp.1 1 0).toInt.toNat p) 4 ((hp.1 1 0).toInt * 3).toNat a) 4 (((hp.1 1 0).toInt * 3) + 1).toNat bb) 4 (((hp.1 1 0).toInt * 3) + 2).toNat c) 1 0 ((hp.1 1 0) + 1))) : gC mX3_add d 0 0 [.ref 1, .int g, .int p, .int a, .int bb, .int c] (SH b xs) hp Q := by
  refine g_enter okX3_add (plainFor_of_name rfl) rfl ?_
  refine g_run 7 rfl ?_
  refine g_iast (j := ((hp.1 1 0).toInt).toNat) rfl rfl ((show _ = (hp.1 1 0).toInt from rfl).trans (by omega)) (by omega) ?_
  refine g_run 4 rfl ?_
  refine g_iast (j := ((hp.1 1 0).toInt).toNat) rfl rfl ((show _ = (hp.1 1 0).toInt from rfl).trans (by omega)) (by omega) ?_
  refine g_run 6 rfl ?_
  refine g_iast (j := ((hp.1 1 0).toInt * 3).toNat) rfl rfl ((show _ = ((hp.1 1 0).toInt * 3) from (ia_mul2 rfl (by decide) (by omega) (by omega))).trans (by omega)) (by omega) ?_
  refine g_run 8 rfl ?_
  refine g_iast (j := (((hp.1 1 0).toInt * 3) + 1).toNat) rfl rfl ((show _ = (((hp.1 1 0).toInt * 3) + 1) from (ia_add2 (ia_mul2 rfl (by decide) (by omega) (by omega)) (by decide) (by omega) (by omega))).trans (by omega)) (by omega) ?_
  refine g_run 8 rfl ?_
  refine g_iast (j := (((hp.1 1 0).toInt * 3) + 2).toNat) rfl rfl ((show _ = (((hp.1 1 0).toInt * 3) + 2) from (ia_add2 (ia_mul2 rfl (by decide) (by omega) (by omega)) (by decide) (by omega) (by omega))).trans (by omega)) (by omega) ?_
  refine g_run 7 rfl ?_
  exact g_iret rfl rfl h1
theorem c_X9_lot {g : Int32} {gI : Int} {p : Int32} {pI : Int} {a : Int32} {aI : Int} {bb : Int32} {bbI : Int} {c : Int32} {cI : Int} (gE : g.toInt = gI) (pE : p.toInt = pI) (aE : a.toInt = aI) (bbE : bb.toInt = bbI) (cE : c.toInt = cI) (hs : 0 ≤ (hp.1 1 0).toInt) (h1 : 1 ≤ gI ∧ gI ≤ 100000 ∧ 1 ≤ pI ∧ pI ≤ 10000 ∧ 0 ≤ aI ∧ aI ≤ 100 ∧ 0 ≤ bbI ∧ bbI ≤ 100 ∧ 0 ≤ cI ∧ cI ≤ 100 ∧ (hp.1 1 0).toInt < 12 → Q (some (.int (hp.1 1 0))) (SH b xs) (sI (sI (sI (sI (sI (sI hp 2 (hp.1 1 0).toInt.toNat g) 3 (hp.1 1 0).toInt.toNat p) 4 ((hp.1 1 0).toInt * 3).toNat a) 4 (((hp.1 1 0).toInt * 3) + 1).toNat bb) 4 (((hp.1 1 0).toInt * 3) + 2).toNat c) 1 0 ((hp.1 1 0) + 1))) (h0 : gI < 1 ∨ 100000 < gI ∨ pI < 1 ∨ 10000 < pI ∨ aI < 0 ∨ 100 < aI ∨ bbI < 0 ∨ 100 < bbI ∨ cI < 0 ∨ 100 < cI ∨ 12 ≤ (hp.1 1 0).toInt → Q (some (.int (-1))) (SH b xs) hp) : gC mX9_lot (d + 1) 0 0 [.ref 0, .int g, .int p, .int a, .int bb, .int c] (SH b xs) hp Q := by
  refine g_enter okX9_lot (plainFor_of_name rfl) rfl ?_
  refine g_run 3 rfl ?_
  refine g_callS0 rfl LX9_82 rfl rfl ?_
  refine c_X9_within (nI := gI) (lI := 1) (uI := 100000) gE (by decide) (by decide) (fun k1 => ?_) (fun k2 => ?_)
  · refine gz_eq (kx := 1) rfl (show (1 : Int32).toInt = 1 from by decide) (fun q => absurd q (by decide)) (fun _ => ?_)
    refine g_run 3 rfl ?_
    refine g_callS0 rfl LX9_82 rfl rfl ?_
    refine c_X9_within (nI := pI) (lI := 1) (uI := 10000) pE (by decide) (by decide) (fun k3 => ?_) (fun k4 => ?_)
    · refine gz_eq (kx := 1) rfl (show (1 : Int32).toInt = 1 from by decide) (fun q => absurd q (by decide)) (fun _ => ?_)
      refine g_run 3 rfl ?_
      refine g_callS0 rfl LX9_82 rfl rfl ?_
      refine c_X9_within (nI := aI) (lI := 0) (uI := 100) aE (by decide) (by decide) (fun k5 => ?_) (fun k6 => ?_)
      · refine gz_eq (kx := 1) rfl (show (1 : Int32).toInt = 1 from by decide) (fun q => absurd q (by decide)) (fun _ => ?_)
        refine g_run 3 rfl ?_
        refine g_callS0 rfl LX9_82 rfl rfl ?_
        refine c_X9_within (nI := bbI) (lI := 0) (uI := 100) bbE (by decide) (by decide) (fun k7 => ?_) (fun k8 => ?_)
        · refine gz_eq (kx := 1) rfl (show (1 : Int32).toInt = 1 from by decide) (fun q => absurd q (by decide)) (fun _ => ?_)
          refine g_run 3 rfl ?_
          refine g_callS0 rfl LX9_82 rfl rfl ?_
          refine c_X9_within (nI := cI) (lI := 0) (uI := 100) cE (by decide) (by decide) (fun k9 => ?_) (fun k10 => ?_)
          · refine gz_eq (kx := 1) rfl (show (1 : Int32).toInt = 1 from by decide) (fun q => absurd q (by decide)) (fun _ => ?_)
            refine g_run 4 rfl ?_
            refine gz_eq (kx := 1) rfl (show (1 : Int32).toInt = 1 from by decide) (fun q => absurd q (by decide)) (fun _ => ?_)
            refine g_run 4 rfl ?_
            refine gj_lt (kx := (hp.1 1 0).toInt) (kz := 12) rfl rfl (by decide) (fun k11 => ?_) (fun k11 => ?_)
            · refine g_run 7 rfl ?_
              refine g_callV0 rfl LX9_89 rfl rfl rfl rfl ?_
              refine c_X3_add gE pE aE bbE cE (by omega) ?_
              exact g_iret rfl rfl (by first | exact h1 (by omega) | exact h0 (by omega))
            · refine g_run 1 rfl ?_
              exact g_iret rfl rfl (by first | exact h1 (by omega) | exact h0 (by omega))
          · refine gz_eq (kx := 0) rfl (show (0 : Int32).toInt = 0 from by decide) (fun _ => ?_) (fun q => absurd q (by decide))
            refine g_run 3 rfl ?_
            refine gz_eq (kx := 0) rfl (show (0 : Int32).toInt = 0 from by decide) (fun _ => ?_) (fun q => absurd q (by decide))
            refine g_run 1 rfl ?_
            exact g_iret rfl rfl (by first | exact h1 (by omega) | exact h0 (by omega))
        · refine gz_eq (kx := 0) rfl (show (0 : Int32).toInt = 0 from by decide) (fun _ => ?_) (fun q => absurd q (by decide))
          refine g_run 3 rfl ?_
          refine gz_eq (kx := 0) rfl (show (0 : Int32).toInt = 0 from by decide) (fun _ => ?_) (fun q => absurd q (by decide))
          refine g_run 1 rfl ?_
          exact g_iret rfl rfl (by first | exact h1 (by omega) | exact h0 (by omega))
      · refine gz_eq (kx := 0) rfl (show (0 : Int32).toInt = 0 from by decide) (fun _ => ?_) (fun q => absurd q (by decide))
        refine g_run 3 rfl ?_
        refine gz_eq (kx := 0) rfl (show (0 : Int32).toInt = 0 from by decide) (fun _ => ?_) (fun q => absurd q (by decide))
        refine g_run 1 rfl ?_
        exact g_iret rfl rfl (by first | exact h1 (by omega) | exact h0 (by omega))
    · refine gz_eq (kx := 0) rfl (show (0 : Int32).toInt = 0 from by decide) (fun _ => ?_) (fun q => absurd q (by decide))
      refine g_run 3 rfl ?_
      refine gz_eq (kx := 0) rfl (show (0 : Int32).toInt = 0 from by decide) (fun _ => ?_) (fun q => absurd q (by decide))
      refine g_run 1 rfl ?_
      exact g_iret rfl rfl (by first | exact h1 (by omega) | exact h0 (by omega))
  · refine gz_eq (kx := 0) rfl (show (0 : Int32).toInt = 0 from by decide) (fun _ => ?_) (fun q => absurd q (by decide))
    refine g_run 3 rfl ?_
    refine gz_eq (kx := 0) rfl (show (0 : Int32).toInt = 0 from by decide) (fun _ => ?_) (fun q => absurd q (by decide))
    refine g_run 1 rfl ?_
    exact g_iret rfl rfl (by first | exact h1 (by omega) | exact h0 (by omega))
theorem c_X10_lot {g : Int32} {gI : Int} {p : Int32} {pI : Int} {a : Int32} {aI : Int} {bb : Int32} {bbI : Int} {c : Int32} {cI : Int} (gE : g.toInt = gI) (pE : p.toInt = pI) (aE : a.toInt = aI) (bbE : bb.toInt = bbI) (cE : c.toInt = cI) (hs : 0 ≤ (hp.1 43 26).toInt ∧ (hp.1 43 26).toInt ≤ 12) (h1 : 1 ≤ gI ∧ gI ≤ 100000 ∧ 1 ≤ pI ∧ pI ≤ 10000 ∧ 0 ≤ aI ∧ aI ≤ 100 ∧ 0 ≤ bbI ∧ bbI ≤ 100 ∧ 0 ≤ cI ∧ cI ≤ 100 ∧ (hp.1 43 26).toInt < 12 → Q (some (.int (hp.1 43 26 + 1 - 1))) (SH b xs) (sI (sI (sI (sI (sI (sI (sI hp 43 0 0) 60 (hp.1 43 26).toInt.toNat g) 61 (hp.1 43 26).toInt.toNat p) 62 (3 * (hp.1 43 26).toInt).toNat a) 62 ((3 * (hp.1 43 26).toInt) + 1).toNat bb) 62 ((3 * (hp.1 43 26).toInt) + 2).toNat c) 43 26 ((hp.1 43 26) + 1))) (h0 : gI < 1 ∨ 100000 < gI ∨ pI < 1 ∨ 10000 < pI ∨ aI < 0 ∨ 100 < aI ∨ bbI < 0 ∨ 100 < bbI ∨ cI < 0 ∨ 100 < cI ∨ (hp.1 43 26).toInt = 12 → Q (some (.int (-1))) (SH b xs) (sI hp 43 0 0)) : gC mX10_lot (d + 1) 0 0 [.ref 43, .int g, .int p, .int a, .int bb, .int c] (SH b xs) hp Q := by
  refine g_enter okX10_lot (plainFor_of_name rfl) rfl ?_
  refine g_run 5 rfl ?_
  refine gj_lt (kx := gI) (kz := 1) rfl gE (by decide) (fun k1 => ?_) (fun k1 => ?_)
  · refine g_run 1 rfl ?_
    exact g_iret rfl rfl (by first | exact h1 (by omega) | exact h0 (by omega))
  · refine g_run 2 rfl ?_
    refine gj_gt (kx := gI) (kz := 100000) rfl gE (by decide) (fun k2 => ?_) (fun k2 => ?_)
    · refine g_run 1 rfl ?_
      exact g_iret rfl rfl (by first | exact h1 (by omega) | exact h0 (by omega))
    · refine g_run 2 rfl ?_
      refine gj_lt (kx := pI) (kz := 1) rfl pE (by decide) (fun k3 => ?_) (fun k3 => ?_)
      · refine g_run 1 rfl ?_
        exact g_iret rfl rfl (by first | exact h1 (by omega) | exact h0 (by omega))
      · refine g_run 2 rfl ?_
        refine gj_gt (kx := pI) (kz := 10000) rfl pE (by decide) (fun k4 => ?_) (fun k4 => ?_)
        · refine g_run 1 rfl ?_
          exact g_iret rfl rfl (by first | exact h1 (by omega) | exact h0 (by omega))
        · refine g_run 1 rfl ?_
          refine g_callS0 rfl LX10_231 rfl rfl ?_
          refine c_X10_isTaste (nI := aI) aE (fun k5 => ?_) (fun k6 => ?_)
          · refine gz_eq (kx := 1) rfl (show (1 : Int32).toInt = 1 from by decide) (fun q => absurd q (by decide)) (fun _ => ?_)
            refine g_run 1 rfl ?_
            refine g_callS0 rfl LX10_231 rfl rfl ?_
            refine c_X10_isTaste (nI := bbI) bbE (fun k7 => ?_) (fun k8 => ?_)
            · refine gz_eq (kx := 1) rfl (show (1 : Int32).toInt = 1 from by decide) (fun q => absurd q (by decide)) (fun _ => ?_)
              refine g_run 1 rfl ?_
              refine g_callS0 rfl LX10_231 rfl rfl ?_
              refine c_X10_isTaste (nI := cI) cE (fun k9 => ?_) (fun k10 => ?_)
              · refine gz_eq (kx := 1) rfl (show (1 : Int32).toInt = 1 from by decide) (fun q => absurd q (by decide)) (fun _ => ?_)
                refine g_run 3 rfl ?_
                refine gj_ne (kx := (hp.1 43 26).toInt) (kz := 12) rfl rfl (by decide) (fun k11 => ?_) (fun k11 => ?_)
                · refine g_run 5 rfl ?_
                  refine g_iast (j := ((hp.1 43 26).toInt).toNat) rfl rfl ((show _ = (hp.1 43 26).toInt from rfl).trans (by omega)) (by omega) ?_
                  refine g_run 5 rfl ?_
                  refine g_iast (j := ((hp.1 43 26).toInt).toNat) rfl rfl ((show _ = (hp.1 43 26).toInt from rfl).trans (by omega)) (by omega) ?_
                  refine g_run 7 rfl ?_
                  refine g_iast (j := (3 * (hp.1 43 26).toInt).toNat) rfl rfl ((show _ = (3 * (hp.1 43 26).toInt) from (ia_mul2 (by decide) rfl (by omega) (by omega))).trans (by omega)) (by omega) ?_
                  refine g_run 9 rfl ?_
                  refine g_iast (j := ((3 * (hp.1 43 26).toInt) + 1).toNat) rfl rfl ((show _ = ((3 * (hp.1 43 26).toInt) + 1) from (ia_add2 (ia_mul2 (by decide) rfl (by omega) (by omega)) (by decide) (by omega) (by omega))).trans (by omega)) (by omega) ?_
                  refine g_run 9 rfl ?_
                  refine g_iast (j := ((3 * (hp.1 43 26).toInt) + 2).toNat) rfl rfl ((show _ = ((3 * (hp.1 43 26).toInt) + 2) from (ia_add2 (ia_mul2 (by decide) rfl (by omega) (by omega)) (by decide) (by omega) (by omega))).trans (by omega)) (by omega) ?_
                  refine g_run 10 rfl ?_
                  exact g_iret rfl rfl (by first | exact h1 (by omega) | exact h0 (by omega))
                · refine g_run 1 rfl ?_
                  exact g_iret rfl rfl (by first | exact h1 (by omega) | exact h0 (by omega))
              · refine gz_eq (kx := 0) rfl (show (0 : Int32).toInt = 0 from by decide) (fun _ => ?_) (fun q => absurd q (by decide))
                refine g_run 1 rfl ?_
                exact g_iret rfl rfl (by first | exact h1 (by omega) | exact h0 (by omega))
            · refine gz_eq (kx := 0) rfl (show (0 : Int32).toInt = 0 from by decide) (fun _ => ?_) (fun q => absurd q (by decide))
              refine g_run 1 rfl ?_
              exact g_iret rfl rfl (by first | exact h1 (by omega) | exact h0 (by omega))
          · refine gz_eq (kx := 0) rfl (show (0 : Int32).toInt = 0 from by decide) (fun _ => ?_) (fun q => absurd q (by decide))
            refine g_run 1 rfl ?_
            exact g_iret rfl rfl (by first | exact h1 (by omega) | exact h0 (by omega))
theorem c_X9_days {n : Int32} {nI : Int} (nE : n.toInt = nI) (hs : 0 ≤ (hp.1 0 9).toInt ∧ (hp.1 0 9).toInt ≤ 999) (h1 : (0 ≤ nI ∧ nI ≤ 100 ∧ (hp.1 0 9).toInt + nI ≤ 999) → Q (some (.int (hp.1 0 9 + n))) (SH b xs) (sI hp 0 9 (hp.1 0 9 + n))) (h0 : (nI < 0 ∨ 100 < nI ∨ 999 < (hp.1 0 9).toInt + nI) → Q (some (.int (-1))) (SH b xs) hp) : gC mX9_days (d + 1) 0 0 [.ref 0, .int n] (SH b xs) hp Q := by
  refine g_enter okX9_days (plainFor_of_name rfl) rfl ?_
  refine g_run 3 rfl ?_
  refine g_callS0 rfl LX9_82 rfl rfl ?_
  refine c_X9_within (nI := nI) (lI := 0) (uI := 100) nE (by decide) (by decide) (fun k1 => ?_) (fun k2 => ?_)
  · refine gz_eq (kx := 1) rfl (show (1 : Int32).toInt = 1 from by decide) (fun q => absurd q (by decide)) (fun _ => ?_)
    refine g_run 5 rfl ?_
    refine gj_le (kx := ((hp.1 0 9).toInt + nI)) (kz := 999) rfl (ia_add2 rfl nE (by omega) (by omega)) (by decide) (fun k3 => ?_) (fun k3 => ?_)
    · refine g_run 8 rfl ?_
      exact g_iret rfl rfl (by first | exact h1 (by omega) | exact h0 (by omega))
    · refine g_run 1 rfl ?_
      exact g_iret rfl rfl (by first | exact h1 (by omega) | exact h0 (by omega))
  · refine gz_eq (kx := 0) rfl (show (0 : Int32).toInt = 0 from by decide) (fun _ => ?_) (fun q => absurd q (by decide))
    refine g_run 1 rfl ?_
    exact g_iret rfl rfl (by first | exact h1 (by omega) | exact h0 (by omega))
theorem c_X10_days {n : Int32} {nI : Int} (nE : n.toInt = nI) (hs : 0 ≤ (hp.1 43 25).toInt ∧ (hp.1 43 25).toInt ≤ 999) (h1 : (0 ≤ nI ∧ nI ≤ 100 ∧ (hp.1 43 25).toInt + nI ≤ 999) → Q (some (.int (hp.1 43 25 + n))) (SH b xs) (sI (sI hp 43 0 0) 43 25 (hp.1 43 25 + n))) (h0 : (nI < 0 ∨ 100 < nI ∨ 999 < (hp.1 43 25).toInt + nI) → Q (some (.int (-1))) (SH b xs) (sI hp 43 0 0)) : gC mX10_days d 0 0 [.ref 43, .int n] (SH b xs) hp Q := by
  refine g_enter okX10_days (plainFor_of_name rfl) rfl ?_
  refine g_run 4 rfl ?_
  refine gz_lt (kx := nI) rfl nE (fun k1 => ?_) (fun k1 => ?_)
  · refine g_run 1 rfl ?_
    exact g_iret rfl rfl (by first | exact h1 (by omega) | exact h0 (by omega))
  · refine g_run 2 rfl ?_
    refine gj_gt (kx := nI) (kz := 100) rfl nE (by decide) (fun k2 => ?_) (fun k2 => ?_)
    · refine g_run 1 rfl ?_
      exact g_iret rfl rfl (by first | exact h1 (by omega) | exact h0 (by omega))
    · refine g_run 5 rfl ?_
      refine gj_le (kx := ((hp.1 43 25).toInt + nI)) (kz := 999) rfl (ia_add2 rfl nE (by omega) (by omega)) (by decide) (fun k3 => ?_) (fun k3 => ?_)
      · refine g_run 8 rfl ?_
        exact g_iret rfl rfl (by first | exact h1 (by omega) | exact h0 (by omega))
      · refine g_run 1 rfl ?_
        exact g_iret rfl rfl (by first | exact h1 (by omega) | exact h0 (by omega))
theorem c_X4_tellCurve {m : Int32} {mI : Int} {w : Int32} {wI : Int} (mE : m.toInt = mI) (wE : w.toInt = wI) (h1 : 0 ≤ mI ∧ mI < 20 ∧ 0 ≤ wI ∧ wI ≤ 400 → Q (some (.int 1)) (SH b xs) (sI hp 16 mI.toNat w)) (h0 : mI < 0 ∨ 20 ≤ mI ∨ wI < 0 ∨ 400 < wI → Q (some (.int 0)) (SH b xs) hp) : gC mX4_tellCurve (d + 1) 0 0 [.ref 15, .int m, .int w] (SH b xs) hp Q := by
  refine g_enter okX4_tellCurve (plainFor_of_name rfl) rfl ?_
  refine g_run 3 rfl ?_
  refine g_callS0 rfl LX4_60 rfl rfl ?_
  refine c_X9_within (nI := mI) (lI := 0) (uI := 19) mE (by decide) (by decide) (fun k1 => ?_) (fun k2 => ?_)
  · refine gz_eq (kx := 1) rfl (show (1 : Int32).toInt = 1 from by decide) (fun q => absurd q (by decide)) (fun _ => ?_)
    refine g_run 3 rfl ?_
    refine g_callS0 rfl LX4_60 rfl rfl ?_
    refine c_X9_within (nI := wI) (lI := 0) (uI := 400) wE (by decide) (by decide) (fun k3 => ?_) (fun k4 => ?_)
    · refine gz_ne (kx := 1) rfl (show (1 : Int32).toInt = 1 from by decide) (fun _ => ?_) (fun q => absurd q (by decide))
      refine g_run 4 rfl ?_
      refine g_iast (j := mI.toNat) rfl rfl ((show _ = mI from mE).trans (by omega)) (by omega) ?_
      refine g_run 1 rfl ?_
      exact g_zret rfl rfl (Or.inr rfl) (by first | exact h1 (by omega) | exact h0 (by omega))
    · refine gz_ne (kx := 0) rfl (show (0 : Int32).toInt = 0 from by decide) (fun q => absurd q (by decide)) (fun _ => ?_)
      refine g_run 1 rfl ?_
      exact g_zret rfl rfl (Or.inl rfl) (by first | exact h1 (by omega) | exact h0 (by omega))
  · refine gz_eq (kx := 0) rfl (show (0 : Int32).toInt = 0 from by decide) (fun _ => ?_) (fun q => absurd q (by decide))
    refine g_run 1 rfl ?_
    exact g_zret rfl rfl (Or.inl rfl) (by first | exact h1 (by omega) | exact h0 (by omega))
theorem c_X9_curve {m : Int32} {mI : Int} {w : Int32} {wI : Int} (mE : m.toInt = mI) (wE : w.toInt = wI) (h1 : 0 ≤ mI ∧ mI < 20 ∧ 0 ≤ wI ∧ wI ≤ 400 → Q (some (.int 1)) (SH b xs) (sI hp 16 mI.toNat w)) (h0 : mI < 0 ∨ 20 ≤ mI ∨ wI < 0 ∨ 400 < wI → Q (some (.int 0)) (SH b xs) hp) : gC mX9_curve (d + 2) 0 0 [.ref 0, .int m, .int w] (SH b xs) hp Q := by
  refine g_enter okX9_curve (plainFor_of_name rfl) rfl ?_
  refine g_run 4 rfl ?_
  refine g_callV0 rfl LX9_93 rfl rfl rfl rfl ?_
  refine c_X4_tellCurve (mI := mI) (wI := wI) mE wE (fun k1 => ?_) (fun k2 => ?_)
  · exact g_zret rfl rfl (Or.inr rfl) (by first | exact h1 (by omega) | exact h0 (by omega))
  · exact g_zret rfl rfl (Or.inl rfl) (by first | exact h1 (by omega) | exact h0 (by omega))
theorem c_X10_curve {m : Int32} {mI : Int} {w : Int32} {wI : Int} (mE : m.toInt = mI) (wE : w.toInt = wI) (h1 : 0 ≤ mI ∧ mI < 20 ∧ 0 ≤ wI ∧ wI ≤ 400 → Q (some (.int 1)) (SH b xs) (sI (sI hp 43 0 0) 66 mI.toNat w)) (h0 : mI < 0 ∨ 20 ≤ mI ∨ wI < 0 ∨ 400 < wI → Q (some (.int 0)) (SH b xs) (sI hp 43 0 0)) : gC mX10_curve d 0 0 [.ref 43, .int m, .int w] (SH b xs) hp Q := by
  refine g_enter okX10_curve (plainFor_of_name rfl) rfl ?_
  refine g_run 4 rfl ?_
  refine gz_lt (kx := mI) rfl mE (fun k1 => ?_) (fun k1 => ?_)
  · refine g_run 1 rfl ?_
    exact g_zret rfl rfl (Or.inl rfl) (by first | exact h1 (by omega) | exact h0 (by omega))
  · refine g_run 2 rfl ?_
    refine gj_gt (kx := mI) (kz := 19) rfl mE (by decide) (fun k2 => ?_) (fun k2 => ?_)
    · refine g_run 1 rfl ?_
      exact g_zret rfl rfl (Or.inl rfl) (by first | exact h1 (by omega) | exact h0 (by omega))
    · refine g_run 1 rfl ?_
      refine gz_lt (kx := wI) rfl wE (fun k3 => ?_) (fun k3 => ?_)
      · refine g_run 1 rfl ?_
        exact g_zret rfl rfl (Or.inl rfl) (by first | exact h1 (by omega) | exact h0 (by omega))
      · refine g_run 2 rfl ?_
        refine gj_le (kx := wI) (kz := 400) rfl wE (by decide) (fun k4 => ?_) (fun k4 => ?_)
        · refine g_run 4 rfl ?_
          refine g_iast (j := mI.toNat) rfl rfl ((show _ = mI from mE).trans (by omega)) (by omega) ?_
          refine g_run 1 rfl ?_
          exact g_zret rfl rfl (Or.inr rfl) (by first | exact h1 (by omega) | exact h0 (by omega))
        · refine g_run 1 rfl ?_
          exact g_zret rfl rfl (Or.inl rfl) (by first | exact h1 (by omega) | exact h0 (by omega))
theorem c_X2_giveMark {j : Int32} {jI : Int} {a : Int32} {aI : Int} {m : Int32} {mI : Int} (jE : j.toInt = jI) (aE : a.toInt = aI) (mE : m.toInt = mI) (h1 : 0 ≤ jI ∧ jI < 5 ∧ 0 ≤ aI ∧ aI < 20 ∧ 0 ≤ mI ∧ mI ≤ 100 → Q (some (.int 1)) (SH b xs) (sI hp 26 ((jI * 20) + aI).toNat m)) (h0 : jI < 0 ∨ 5 ≤ jI ∨ aI < 0 ∨ 20 ≤ aI ∨ mI < 0 ∨ 100 < mI → Q (some (.int 0)) (SH b xs) hp) : gC mX2_giveMark (d + 2) 0 0 [.ref 25, .int j, .int a, .int m] (SH b xs) hp Q := by
  refine g_enter okX2_giveMark (plainFor_of_name rfl) rfl ?_
  refine g_run 3 rfl ?_
  refine g_callS0 rfl LX2_31 rfl rfl ?_
  refine c_X9_within (nI := jI) (lI := 0) (uI := 4) jE (by decide) (by decide) (fun k1 => ?_) (fun k2 => ?_)
  · refine gz_eq (kx := 1) rfl (show (1 : Int32).toInt = 1 from by decide) (fun q => absurd q (by decide)) (fun _ => ?_)
    refine g_run 1 rfl ?_
    refine g_callS0 rfl LX2_35 rfl rfl ?_
    refine c_X2_hasSample (nI := aI) aE (fun k3 => ?_) (fun k4 => ?_)
    · refine gz_eq (kx := 1) rfl (show (1 : Int32).toInt = 1 from by decide) (fun q => absurd q (by decide)) (fun _ => ?_)
      refine g_run 3 rfl ?_
      refine g_callS0 rfl LX2_31 rfl rfl ?_
      refine c_X9_within (nI := mI) (lI := 0) (uI := 100) mE (by decide) (by decide) (fun k5 => ?_) (fun k6 => ?_)
      · refine gz_ne (kx := 1) rfl (show (1 : Int32).toInt = 1 from by decide) (fun _ => ?_) (fun q => absurd q (by decide))
        refine g_run 8 rfl ?_
        refine g_iast (j := ((jI * 20) + aI).toNat) rfl rfl ((show _ = ((jI * 20) + aI) from (ia_add2 (ia_mul2 jE (by decide) (by omega) (by omega)) aE (by omega) (by omega))).trans (by omega)) (by omega) ?_
        refine g_run 1 rfl ?_
        exact g_zret rfl rfl (Or.inr rfl) (by first | exact h1 (by omega) | exact h0 (by omega))
      · refine gz_ne (kx := 0) rfl (show (0 : Int32).toInt = 0 from by decide) (fun q => absurd q (by decide)) (fun _ => ?_)
        refine g_run 1 rfl ?_
        exact g_zret rfl rfl (Or.inl rfl) (by first | exact h1 (by omega) | exact h0 (by omega))
    · refine gz_eq (kx := 0) rfl (show (0 : Int32).toInt = 0 from by decide) (fun _ => ?_) (fun q => absurd q (by decide))
      refine g_run 1 rfl ?_
      exact g_zret rfl rfl (Or.inl rfl) (by first | exact h1 (by omega) | exact h0 (by omega))
  · refine gz_eq (kx := 0) rfl (show (0 : Int32).toInt = 0 from by decide) (fun _ => ?_) (fun q => absurd q (by decide))
    refine g_run 1 rfl ?_
    exact g_zret rfl rfl (Or.inl rfl) (by first | exact h1 (by omega) | exact h0 (by omega))
theorem c_X9_mark {j : Int32} {jI : Int} {a : Int32} {aI : Int} {m : Int32} {mI : Int} (jE : j.toInt = jI) (aE : a.toInt = aI) (mE : m.toInt = mI) (h1 : 0 ≤ jI ∧ jI < 5 ∧ 0 ≤ aI ∧ aI < 20 ∧ 0 ≤ mI ∧ mI ≤ 100 → Q (some (.int 1)) (SH b xs) (sI hp 26 ((jI * 20) + aI).toNat m)) (h0 : jI < 0 ∨ 5 ≤ jI ∨ aI < 0 ∨ 20 ≤ aI ∨ mI < 0 ∨ 100 < mI → Q (some (.int 0)) (SH b xs) hp) : gC mX9_mark (d + 3) 0 0 [.ref 0, .int j, .int a, .int m] (SH b xs) hp Q := by
  refine g_enter okX9_mark (plainFor_of_name rfl) rfl ?_
  refine g_run 5 rfl ?_
  refine g_callV0 rfl LX9_166 rfl rfl rfl rfl ?_
  refine c_X2_giveMark (jI := jI) (aI := aI) (mI := mI) jE aE mE (fun k1 => ?_) (fun k2 => ?_)
  · exact g_zret rfl rfl (Or.inr rfl) (by first | exact h1 (by omega) | exact h0 (by omega))
  · exact g_zret rfl rfl (Or.inl rfl) (by first | exact h1 (by omega) | exact h0 (by omega))
theorem c_X10_mark {j : Int32} {jI : Int} {a : Int32} {aI : Int} {m : Int32} {mI : Int} (jE : j.toInt = jI) (aE : a.toInt = aI) (mE : m.toInt = mI) (h1 : 0 ≤ jI ∧ jI < 5 ∧ 0 ≤ aI ∧ aI < 20 ∧ 0 ≤ mI ∧ mI ≤ 100 → Q (some (.int 1)) (SH b xs) (sI (sI hp 43 0 0) 69 ((20 * jI) + aI).toNat m)) (h0 : jI < 0 ∨ 5 ≤ jI ∨ aI < 0 ∨ 20 ≤ aI ∨ mI < 0 ∨ 100 < mI → Q (some (.int 0)) (SH b xs) (sI hp 43 0 0)) : gC mX10_mark (d + 1) 0 0 [.ref 43, .int j, .int a, .int m] (SH b xs) hp Q := by
  refine g_enter okX10_mark (plainFor_of_name rfl) rfl ?_
  refine g_run 4 rfl ?_
  refine gz_lt (kx := jI) rfl jE (fun k1 => ?_) (fun k1 => ?_)
  · refine g_run 1 rfl ?_
    exact g_zret rfl rfl (Or.inl rfl) (by first | exact h1 (by omega) | exact h0 (by omega))
  · refine g_run 2 rfl ?_
    refine gj_gt (kx := jI) (kz := 4) rfl jE (by decide) (fun k2 => ?_) (fun k2 => ?_)
    · refine g_run 1 rfl ?_
      exact g_zret rfl rfl (Or.inl rfl) (by first | exact h1 (by omega) | exact h0 (by omega))
    · refine g_run 1 rfl ?_
      refine g_callS0 rfl LX10_303 rfl rfl ?_
      refine c_X10_isSample (nI := aI) aE (fun k3 => ?_) (fun k4 => ?_)
      · refine gz_eq (kx := 1) rfl (show (1 : Int32).toInt = 1 from by decide) (fun q => absurd q (by decide)) (fun _ => ?_)
        refine g_run 1 rfl ?_
        refine g_callS0 rfl LX10_231 rfl rfl ?_
        refine c_X10_isTaste (nI := mI) mE (fun k5 => ?_) (fun k6 => ?_)
        · refine gz_ne (kx := 1) rfl (show (1 : Int32).toInt = 1 from by decide) (fun _ => ?_) (fun q => absurd q (by decide))
          refine g_run 8 rfl ?_
          refine g_iast (j := ((20 * jI) + aI).toNat) rfl rfl ((show _ = ((20 * jI) + aI) from (ia_add2 (ia_mul2 (by decide) jE (by omega) (by omega)) aE (by omega) (by omega))).trans (by omega)) (by omega) ?_
          refine g_run 1 rfl ?_
          exact g_zret rfl rfl (Or.inr rfl) (by first | exact h1 (by omega) | exact h0 (by omega))
        · refine gz_ne (kx := 0) rfl (show (0 : Int32).toInt = 0 from by decide) (fun q => absurd q (by decide)) (fun _ => ?_)
          refine g_run 1 rfl ?_
          exact g_zret rfl rfl (Or.inl rfl) (by first | exact h1 (by omega) | exact h0 (by omega))
      · refine gz_eq (kx := 0) rfl (show (0 : Int32).toInt = 0 from by decide) (fun _ => ?_) (fun q => absurd q (by decide))
        refine g_run 1 rfl ?_
        exact g_zret rfl rfl (Or.inl rfl) (by first | exact h1 (by omega) | exact h0 (by omega))
theorem c_X2_tellWorth {a : Int32} {aI : Int} {w : Int32} {wI : Int} (aE : a.toInt = aI) (wE : w.toInt = wI) (h1 : 0 ≤ aI ∧ aI < 20 ∧ -1 ≤ wI ∧ wI ≤ 100 → Q (some (.int 1)) (SH b xs) (sI hp 27 aI.toNat w)) (h0 : aI < 0 ∨ 20 ≤ aI ∨ wI < -1 ∨ 100 < wI → Q (some (.int 0)) (SH b xs) hp) : gC mX2_tellWorth (d + 2) 0 0 [.ref 25, .int a, .int w] (SH b xs) hp Q := by
  refine g_enter okX2_tellWorth (plainFor_of_name rfl) rfl ?_
  refine g_run 1 rfl ?_
  refine g_callS0 rfl LX2_35 rfl rfl ?_
  refine c_X2_hasSample (nI := aI) aE (fun k1 => ?_) (fun k2 => ?_)
  · refine gz_eq (kx := 1) rfl (show (1 : Int32).toInt = 1 from by decide) (fun q => absurd q (by decide)) (fun _ => ?_)
    refine g_run 2 rfl ?_
    refine gj_eq (kx := wI) (kz := (-1)) rfl wE (by decide) (fun k3 => ?_) (fun k3 => ?_)
    · refine g_run 4 rfl ?_
      refine g_iast (j := aI.toNat) rfl rfl ((show _ = aI from aE).trans (by omega)) (by omega) ?_
      refine g_run 1 rfl ?_
      exact g_zret rfl rfl (Or.inr rfl) (by first | exact h1 (by omega) | exact h0 (by omega))
    · refine g_run 3 rfl ?_
      refine g_callS0 rfl LX2_31 rfl rfl ?_
      refine c_X9_within (nI := wI) (lI := 0) (uI := 100) wE (by decide) (by decide) (fun k4 => ?_) (fun k5 => ?_)
      · refine gz_ne (kx := 1) rfl (show (1 : Int32).toInt = 1 from by decide) (fun _ => ?_) (fun q => absurd q (by decide))
        refine g_run 4 rfl ?_
        refine g_iast (j := aI.toNat) rfl rfl ((show _ = aI from aE).trans (by omega)) (by omega) ?_
        refine g_run 1 rfl ?_
        exact g_zret rfl rfl (Or.inr rfl) (by first | exact h1 (by omega) | exact h0 (by omega))
      · refine gz_ne (kx := 0) rfl (show (0 : Int32).toInt = 0 from by decide) (fun q => absurd q (by decide)) (fun _ => ?_)
        refine g_run 1 rfl ?_
        exact g_zret rfl rfl (Or.inl rfl) (by first | exact h1 (by omega) | exact h0 (by omega))
  · refine gz_eq (kx := 0) rfl (show (0 : Int32).toInt = 0 from by decide) (fun _ => ?_) (fun q => absurd q (by decide))
    refine g_run 1 rfl ?_
    exact g_zret rfl rfl (Or.inl rfl) (by first | exact h1 (by omega) | exact h0 (by omega))
theorem c_X9_told {a : Int32} {aI : Int} {w : Int32} {wI : Int} (aE : a.toInt = aI) (wE : w.toInt = wI) (h1 : 0 ≤ aI ∧ aI < 20 ∧ -1 ≤ wI ∧ wI ≤ 100 → Q (some (.int 1)) (SH b xs) (sI hp 27 aI.toNat w)) (h0 : aI < 0 ∨ 20 ≤ aI ∨ wI < -1 ∨ 100 < wI → Q (some (.int 0)) (SH b xs) hp) : gC mX9_told (d + 3) 0 0 [.ref 0, .int a, .int w] (SH b xs) hp Q := by
  refine g_enter okX9_told (plainFor_of_name rfl) rfl ?_
  refine g_run 4 rfl ?_
  refine g_callV0 rfl LX9_169 rfl rfl rfl rfl ?_
  refine c_X2_tellWorth (aI := aI) (wI := wI) aE wE (fun k1 => ?_) (fun k2 => ?_)
  · exact g_zret rfl rfl (Or.inr rfl) (by first | exact h1 (by omega) | exact h0 (by omega))
  · exact g_zret rfl rfl (Or.inl rfl) (by first | exact h1 (by omega) | exact h0 (by omega))
theorem c_X10_told {a : Int32} {aI : Int} {w : Int32} {wI : Int} (aE : a.toInt = aI) (wE : w.toInt = wI) (h1 : 0 ≤ aI ∧ aI < 20 ∧ -1 ≤ wI ∧ wI ≤ 100 → Q (some (.int 1)) (SH b xs) (sI (sI hp 43 0 0) 70 aI.toNat w)) (h0 : aI < 0 ∨ 20 ≤ aI ∨ wI < -1 ∨ 100 < wI → Q (some (.int 0)) (SH b xs) (sI hp 43 0 0)) : gC mX10_told (d + 1) 0 0 [.ref 43, .int a, .int w] (SH b xs) hp Q := by
  refine g_enter okX10_told (plainFor_of_name rfl) rfl ?_
  refine g_run 4 rfl ?_
  refine g_callS0 rfl LX10_303 rfl rfl ?_
  refine c_X10_isSample (nI := aI) aE (fun k1 => ?_) (fun k2 => ?_)
  · refine gz_eq (kx := 1) rfl (show (1 : Int32).toInt = 1 from by decide) (fun q => absurd q (by decide)) (fun _ => ?_)
    refine g_run 2 rfl ?_
    refine gj_eq (kx := wI) (kz := (-1)) rfl wE (by decide) (fun k3 => ?_) (fun k3 => ?_)
    · refine g_run 4 rfl ?_
      refine g_iast (j := aI.toNat) rfl rfl ((show _ = aI from aE).trans (by omega)) (by omega) ?_
      refine g_run 1 rfl ?_
      exact g_zret rfl rfl (Or.inr rfl) (by first | exact h1 (by omega) | exact h0 (by omega))
    · refine g_run 1 rfl ?_
      refine g_callS0 rfl LX10_231 rfl rfl ?_
      refine c_X10_isTaste (nI := wI) wE (fun k4 => ?_) (fun k5 => ?_)
      · refine gz_ne (kx := 1) rfl (show (1 : Int32).toInt = 1 from by decide) (fun _ => ?_) (fun q => absurd q (by decide))
        refine g_run 4 rfl ?_
        refine g_iast (j := aI.toNat) rfl rfl ((show _ = aI from aE).trans (by omega)) (by omega) ?_
        refine g_run 1 rfl ?_
        exact g_zret rfl rfl (Or.inr rfl) (by first | exact h1 (by omega) | exact h0 (by omega))
      · refine gz_ne (kx := 0) rfl (show (0 : Int32).toInt = 0 from by decide) (fun q => absurd q (by decide)) (fun _ => ?_)
        refine g_run 1 rfl ?_
        exact g_zret rfl rfl (Or.inl rfl) (by first | exact h1 (by omega) | exact h0 (by omega))
  · refine gz_eq (kx := 0) rfl (show (0 : Int32).toInt = 0 from by decide) (fun _ => ?_) (fun q => absurd q (by decide))
    refine g_run 1 rfl ?_
    exact g_zret rfl rfl (Or.inl rfl) (by first | exact h1 (by omega) | exact h0 (by omega))
theorem c_X1_setSpan {t : Int32} {tI : Int} {f : Int32} {fI : Int} {u : Int32} {uI : Int} (tE : t.toInt = tI) (fE : f.toInt = fI) (uE : u.toInt = uI) (h1 : 0 ≤ tI ∧ tI < 3 ∧ 0 ≤ fI ∧ fI ≤ uI ∧ uI ≤ 100 → Q (some (.int 1)) (SH b xs) (sI (sI hp 30 tI.toNat f) 31 tI.toNat u)) (h0 : tI < 0 ∨ 3 ≤ tI ∨ fI < 0 ∨ uI < fI ∨ 100 < uI → Q (some (.int 0)) (SH b xs) hp) : gC mX1_setSpan (d + 1) 0 0 [.ref 28, .int t, .int f, .int u] (SH b xs) hp Q := by
  refine g_enter okX1_setSpan (plainFor_of_name rfl) rfl ?_
  refine g_run 3 rfl ?_
  refine g_callS0 rfl LX1_50 rfl rfl ?_
  refine c_X9_within (nI := tI) (lI := 0) (uI := 2) tE (by decide) (by decide) (fun k1 => ?_) (fun k2 => ?_)
  · refine gz_eq (kx := 1) rfl (show (1 : Int32).toInt = 1 from by decide) (fun q => absurd q (by decide)) (fun _ => ?_)
    refine g_run 3 rfl ?_
    refine g_callS0 rfl LX1_50 rfl rfl ?_
    refine c_X9_within (nI := fI) (lI := 0) (uI := 100) fE (by decide) (by decide) (fun k3 => ?_) (fun k4 => ?_)
    · refine gz_eq (kx := 1) rfl (show (1 : Int32).toInt = 1 from by decide) (fun q => absurd q (by decide)) (fun _ => ?_)
      refine g_run 3 rfl ?_
      refine g_callS0 rfl LX1_50 rfl rfl ?_
      refine c_X9_within (nI := uI) (lI := fI) (uI := 100) uE fE (by decide) (fun k5 => ?_) (fun k6 => ?_)
      · refine gz_ne (kx := 1) rfl (show (1 : Int32).toInt = 1 from by decide) (fun _ => ?_) (fun q => absurd q (by decide))
        refine g_run 4 rfl ?_
        refine g_iast (j := tI.toNat) rfl rfl ((show _ = tI from tE).trans (by omega)) (by omega) ?_
        refine g_run 4 rfl ?_
        refine g_iast (j := tI.toNat) rfl rfl ((show _ = tI from tE).trans (by omega)) (by omega) ?_
        refine g_run 1 rfl ?_
        exact g_zret rfl rfl (Or.inr rfl) (by first | exact h1 (by omega) | exact h0 (by omega))
      · refine gz_ne (kx := 0) rfl (show (0 : Int32).toInt = 0 from by decide) (fun q => absurd q (by decide)) (fun _ => ?_)
        refine g_run 1 rfl ?_
        exact g_zret rfl rfl (Or.inl rfl) (by first | exact h1 (by omega) | exact h0 (by omega))
    · refine gz_eq (kx := 0) rfl (show (0 : Int32).toInt = 0 from by decide) (fun _ => ?_) (fun q => absurd q (by decide))
      refine g_run 1 rfl ?_
      exact g_zret rfl rfl (Or.inl rfl) (by first | exact h1 (by omega) | exact h0 (by omega))
  · refine gz_eq (kx := 0) rfl (show (0 : Int32).toInt = 0 from by decide) (fun _ => ?_) (fun q => absurd q (by decide))
    refine g_run 1 rfl ?_
    exact g_zret rfl rfl (Or.inl rfl) (by first | exact h1 (by omega) | exact h0 (by omega))
theorem c_X9_span {t : Int32} {tI : Int} {f : Int32} {fI : Int} {u : Int32} {uI : Int} (tE : t.toInt = tI) (fE : f.toInt = fI) (uE : u.toInt = uI) (h1 : 0 ≤ tI ∧ tI < 3 ∧ 0 ≤ fI ∧ fI ≤ uI ∧ uI ≤ 100 → Q (some (.int 1)) (SH b xs) (sI (sI hp 30 tI.toNat f) 31 tI.toNat u)) (h0 : tI < 0 ∨ 3 ≤ tI ∨ fI < 0 ∨ uI < fI ∨ 100 < uI → Q (some (.int 0)) (SH b xs) hp) : gC mX9_span (d + 2) 0 0 [.ref 0, .int t, .int f, .int u] (SH b xs) hp Q := by
  refine g_enter okX9_span (plainFor_of_name rfl) rfl ?_
  refine g_run 5 rfl ?_
  refine g_callV0 rfl LX9_178 rfl rfl rfl rfl ?_
  refine c_X1_setSpan (tI := tI) (fI := fI) (uI := uI) tE fE uE (fun k1 => ?_) (fun k2 => ?_)
  · exact g_zret rfl rfl (Or.inr rfl) (by first | exact h1 (by omega) | exact h0 (by omega))
  · exact g_zret rfl rfl (Or.inl rfl) (by first | exact h1 (by omega) | exact h0 (by omega))
theorem c_X10_span {t : Int32} {tI : Int} {f : Int32} {fI : Int} {u : Int32} {uI : Int} (tE : t.toInt = tI) (fE : f.toInt = fI) (uE : u.toInt = uI) (h1 : 0 ≤ tI ∧ tI < 3 ∧ 0 ≤ fI ∧ fI ≤ uI ∧ uI ≤ 100 → Q (some (.int 1)) (SH b xs) (sI (sI (sI hp 43 0 0) 71 tI.toNat f) 72 tI.toNat u)) (h0 : tI < 0 ∨ 3 ≤ tI ∨ fI < 0 ∨ uI < fI ∨ 100 < uI → Q (some (.int 0)) (SH b xs) (sI hp 43 0 0)) : gC mX10_span d 0 0 [.ref 43, .int t, .int f, .int u] (SH b xs) hp Q := by
  refine g_enter okX10_span (plainFor_of_name rfl) rfl ?_
  refine g_run 4 rfl ?_
  refine gz_lt (kx := tI) rfl tE (fun k1 => ?_) (fun k1 => ?_)
  · refine g_run 1 rfl ?_
    exact g_zret rfl rfl (Or.inl rfl) (by first | exact h1 (by omega) | exact h0 (by omega))
  · refine g_run 2 rfl ?_
    refine gj_gt (kx := tI) (kz := 2) rfl tE (by decide) (fun k2 => ?_) (fun k2 => ?_)
    · refine g_run 1 rfl ?_
      exact g_zret rfl rfl (Or.inl rfl) (by first | exact h1 (by omega) | exact h0 (by omega))
    · refine g_run 1 rfl ?_
      refine gz_lt (kx := fI) rfl fE (fun k3 => ?_) (fun k3 => ?_)
      · refine g_run 1 rfl ?_
        exact g_zret rfl rfl (Or.inl rfl) (by first | exact h1 (by omega) | exact h0 (by omega))
      · refine g_run 2 rfl ?_
        refine gj_gt (kx := uI) (kz := 100) rfl uE (by decide) (fun k4 => ?_) (fun k4 => ?_)
        · refine g_run 1 rfl ?_
          exact g_zret rfl rfl (Or.inl rfl) (by first | exact h1 (by omega) | exact h0 (by omega))
        · refine g_run 2 rfl ?_
          refine gj_le (kx := fI) (kz := uI) rfl fE uE (fun k5 => ?_) (fun k5 => ?_)
          · refine g_run 4 rfl ?_
            refine g_iast (j := tI.toNat) rfl rfl ((show _ = tI from tE).trans (by omega)) (by omega) ?_
            refine g_run 4 rfl ?_
            refine g_iast (j := tI.toNat) rfl rfl ((show _ = tI from tE).trans (by omega)) (by omega) ?_
            refine g_run 1 rfl ?_
            exact g_zret rfl rfl (Or.inr rfl) (by first | exact h1 (by omega) | exact h0 (by omega))
          · refine g_run 1 rfl ?_
            exact g_zret rfl rfl (Or.inl rfl) (by first | exact h1 (by omega) | exact h0 (by omega))
theorem c_X9_keeps {h : Int32} {hI : Int} {n : Int32} {nI : Int} (hE : h.toInt = hI) (nE : n.toInt = nI) (h1 : 0 ≤ hI ∧ hI < 10 ∧ 0 ≤ nI ∧ nI ≤ 999 → Q (some (.int 1)) (SH b xs) (sI hp 36 hI.toNat n)) (h0 : hI < 0 ∨ 10 ≤ hI ∨ nI < 0 ∨ 999 < nI → Q (some (.int 0)) (SH b xs) hp) : gC mX9_keeps (d + 1) 0 0 [.ref 0, .int h, .int n] (SH b xs) hp Q := by
  refine g_enter okX9_keeps (plainFor_of_name rfl) rfl ?_
  refine g_run 3 rfl ?_
  refine g_callS0 rfl LX9_82 rfl rfl ?_
  refine c_X9_within (nI := hI) (lI := 0) (uI := 9) hE (by decide) (by decide) (fun k1 => ?_) (fun k2 => ?_)
  · refine gz_eq (kx := 1) rfl (show (1 : Int32).toInt = 1 from by decide) (fun q => absurd q (by decide)) (fun _ => ?_)
    refine g_run 3 rfl ?_
    refine g_callS0 rfl LX9_82 rfl rfl ?_
    refine c_X9_within (nI := nI) (lI := 0) (uI := 999) nE (by decide) (by decide) (fun k3 => ?_) (fun k4 => ?_)
    · refine gz_ne (kx := 1) rfl (show (1 : Int32).toInt = 1 from by decide) (fun _ => ?_) (fun q => absurd q (by decide))
      refine g_run 4 rfl ?_
      refine g_iast (j := hI.toNat) rfl rfl ((show _ = hI from hE).trans (by omega)) (by omega) ?_
      refine g_run 1 rfl ?_
      exact g_zret rfl rfl (Or.inr rfl) (by first | exact h1 (by omega) | exact h0 (by omega))
    · refine gz_ne (kx := 0) rfl (show (0 : Int32).toInt = 0 from by decide) (fun q => absurd q (by decide)) (fun _ => ?_)
      refine g_run 1 rfl ?_
      exact g_zret rfl rfl (Or.inl rfl) (by first | exact h1 (by omega) | exact h0 (by omega))
  · refine gz_eq (kx := 0) rfl (show (0 : Int32).toInt = 0 from by decide) (fun _ => ?_) (fun q => absurd q (by decide))
    refine g_run 1 rfl ?_
    exact g_zret rfl rfl (Or.inl rfl) (by first | exact h1 (by omega) | exact h0 (by omega))
theorem c_X10_keeps {h : Int32} {hI : Int} {n : Int32} {nI : Int} (hE : h.toInt = hI) (nE : n.toInt = nI) (h1 : 0 ≤ hI ∧ hI < 10 ∧ 0 ≤ nI ∧ nI ≤ 999 → Q (some (.int 1)) (SH b xs) (sI (sI hp 43 0 0) 76 hI.toNat n)) (h0 : hI < 0 ∨ 10 ≤ hI ∨ nI < 0 ∨ 999 < nI → Q (some (.int 0)) (SH b xs) (sI hp 43 0 0)) : gC mX10_keeps (d + 1) 0 0 [.ref 43, .int h, .int n] (SH b xs) hp Q := by
  refine g_enter okX10_keeps (plainFor_of_name rfl) rfl ?_
  refine g_run 4 rfl ?_
  refine g_callS0 rfl LX10_343 rfl rfl ?_
  refine c_X10_isHouse (nI := hI) hE (fun k1 => ?_) (fun k2 => ?_)
  · refine gz_eq (kx := 1) rfl (show (1 : Int32).toInt = 1 from by decide) (fun q => absurd q (by decide)) (fun _ => ?_)
    refine g_run 1 rfl ?_
    refine gz_lt (kx := nI) rfl nE (fun k3 => ?_) (fun k3 => ?_)
    · refine g_run 1 rfl ?_
      exact g_zret rfl rfl (Or.inl rfl) (by first | exact h1 (by omega) | exact h0 (by omega))
    · refine g_run 2 rfl ?_
      refine gj_le (kx := nI) (kz := 999) rfl nE (by decide) (fun k4 => ?_) (fun k4 => ?_)
      · refine g_run 4 rfl ?_
        refine g_iast (j := hI.toNat) rfl rfl ((show _ = hI from hE).trans (by omega)) (by omega) ?_
        refine g_run 1 rfl ?_
        exact g_zret rfl rfl (Or.inr rfl) (by first | exact h1 (by omega) | exact h0 (by omega))
      · refine g_run 1 rfl ?_
        exact g_zret rfl rfl (Or.inl rfl) (by first | exact h1 (by omega) | exact h0 (by omega))
  · refine gz_eq (kx := 0) rfl (show (0 : Int32).toInt = 0 from by decide) (fun _ => ?_) (fun q => absurd q (by decide))
    refine g_run 1 rfl ?_
    exact g_zret rfl rfl (Or.inl rfl) (by first | exact h1 (by omega) | exact h0 (by omega))
end S13
