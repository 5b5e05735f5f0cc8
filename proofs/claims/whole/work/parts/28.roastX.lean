/-! a roast in the class -/
def outX (g l : Int32) : Int32 := g * (1000 - l) / 1000
def roX (hp : hp_T) (rc : Nat) (g : Int32) : s6 := mnP (gX hp rc g) (hp.1 16) 20 0 s_0
theorem roX_2_9 {hp : hp_T} {j : Nat} {v g : Int32} : roX hp 9 g = mnP (gX (sI hp 2 j v) 9 g) ((sI hp 2 j v).1 16) 20 0 s_0 := rfl
theorem roX_2_37 {hp : hp_T} {j : Nat} {v g : Int32} : roX hp 37 g = mnP (gX (sI hp 2 j v) 37 g) ((sI hp 2 j v).1 16) 20 0 s_0 := rfl
section S28
variable {d : Nat} {sh : sh_T} {hp : hp_T} {Q : Option Value → sh_T → hp_T → Prop} {b : Bool} {xs : sh_T}
theorem c_X9_roast_9 {l : Int32} {lI : Int} {g : Int32} {gI : Int} (lE : l.toInt = lI) (gE : g.toInt = gI) {s0 : s6} (hs0 : roX hp 9 g = s0) (hs1 : 0 ≤ (hp.1 1 0).toInt ∧ (hp.1 1 0).toInt ≤ 12) (hs : 0 ≤ (hp.1 17 0).toInt) {T : Nat} (hsp : T ≤ 600 ∧ ∀ i, i < T → -20 ≤ (hp.1 13 i).toInt) (hn : 0 ≤ (hp.1 9 0).toInt ∧ (hp.1 9 0).toInt ≤ 16) (hse : ∀ k : Nat, (k : Int) < (hp.1 9 0).toInt → 0 ≤ frX hp 9 (k : Int) ∧ frX hp 9 (k : Int) ≤ (hp.1 12 k).toInt ∧ (hp.1 12 k).toInt ≤ (T : Int)) (hw : 0 ≤ (hp.1 9 7).toInt ∧ (hp.1 9 7).toInt ≤ 16) (h1 : 0 ≤ lI ∧ lI < (hp.1 1 0).toInt ∧ 1 ≤ gI ∧ gI ≤ 20000 ∧ gI ≤ (hp.1 2 lI.toNat).toInt ∧ (hp.1 17 0).toInt < 60 → 1 ≤ (outX g (lossX s0)).toInt → ∀ (mi : Int32) (z : (Nat → Int32) × Nat), z.2 ≤ 16 → Q (some (.int (hp.1 17 0))) (SH true xs) (sI (sI (sI (sI (sI (WX (sR (sI hp 2 lI.toNat (hp.1 2 lI.toNat - g)) 15 (RO (hp.1 15) (lossX s0) g mi s0)) 9 z) 19 (hp.1 17 0).toInt.toNat (hp.1 0 9)) 20 (hp.1 17 0).toInt.toNat (-1)) 17 0 (hp.1 17 0 + 1)) 18 (hp.1 17 0).toInt.toNat (outX g (lossX s0))) 22 (((hp.1 17 0).toInt * 12) + lI).toNat (outX g (lossX s0)))) (h2 : 0 ≤ lI ∧ lI < (hp.1 1 0).toInt ∧ 1 ≤ gI ∧ gI ≤ 20000 ∧ gI ≤ (hp.1 2 lI.toNat).toInt ∧ (hp.1 17 0).toInt < 60 → (outX g (lossX s0)).toInt < 1 → ∀ (mi : Int32) (z : (Nat → Int32) × Nat), z.2 ≤ 16 → Q (some (.int (-2))) (SH true xs) (WX (sR (sI hp 2 lI.toNat (hp.1 2 lI.toNat - g)) 15 (RO (hp.1 15) (lossX s0) g mi s0)) 9 z)) (h0 : lI < 0 ∨ (hp.1 1 0).toInt ≤ lI ∨ gI < 1 ∨ 20000 < gI ∨ (hp.1 2 lI.toNat).toInt < gI ∨ 60 ≤ (hp.1 17 0).toInt → Q (some (.int (-1))) (SH true xs) hp) : gC mX9_roast (d + 5) 0 0 [.ref 0, .int l, .int g] (SH true xs) hp Q := by
  refine g_enter okX9_roast (plainFor_of_name rfl) rfl ?_
  refine g_run 3 rfl ?_
  refine g_callV0 rfl LX9_112 rfl rfl rfl rfl ?_
  refine c_X3_has (nI := lI) (zI := (hp.1 1 0).toInt) lE rfl (fun k1 => ?_) (fun k2 => ?_)
  · refine gz_eq (kx := 1) rfl (show (1 : Int32).toInt = 1 from by decide) (fun q => absurd q (by decide)) (fun _ => ?_)
    refine g_run 7 rfl ?_
    refine g_iald (j := lI.toNat) rfl rfl ((show _ = lI from lE).trans (by omega)) (by omega) ?_
    refine g_callS0 rfl LX9_119 rfl rfl ?_
    refine c_J9_min_7cf53 (xI := 20000) (zI := (hp.1 2 lI.toNat).toInt) (by decide) rfl (fun k8 => ?_) (fun k8 => ?_)
    · refine g_callS0 rfl LX9_82 rfl rfl ?_
      refine c_X9_within (nI := gI) (lI := 1) (uI := 20000) gE (by decide) (by decide) (fun k3 => ?_) (fun k4 => ?_)
      · refine gz_eq (kx := 1) rfl (show (1 : Int32).toInt = 1 from by decide) (fun q => absurd q (by decide)) (fun _ => ?_)
        refine g_run 4 rfl ?_
        refine gj_lt (kx := (hp.1 17 0).toInt) (kz := 60) rfl rfl (by decide) (fun k5 => ?_) (fun k5 => ?_)
        · refine g_run 5 rfl ?_
          refine g_iald (j := lI.toNat) rfl rfl ((show _ = lI from lE).trans (by omega)) (by omega) ?_
          refine g_run 2 rfl ?_
          refine g_iast (j := lI.toNat) rfl rfl ((show _ = lI from lE).trans (by omega)) (by omega) ?_
          refine g_run 5 rfl ?_
          refine g_callV0 rfl LX9_126 rfl rfl rfl rfl ?_
          refine c_X4_run_9 (hp := (sI hp 2 lI.toNat ((hp.1 2 lI.toNat) - g))) hsp hn hse hw (fun mi z hz => ?_)
          rw [← roX_2_9, hs0]
          refine g_run 8 rfl ?_
          refine g_idiv rfl (by first | decide | (intro q; rw [ia_eq] at q; simp at q; omega)) ?_
          refine g_run 3 rfl ?_
          refine gj_ge (kx := ((g * (1000 - (lossX s0))) / 1000).toInt) (kz := 1) rfl rfl (by decide) (fun k6 => ?_) (fun k6 => ?_)
          · refine g_run 6 rfl ?_
            refine g_callV0 rfl LX9_133 rfl rfl rfl rfl ?_
            refine c_X0_addOfOneLot (lI := lI) lE rfl rfl (show 0 ≤ (hp.1 17 0).toInt ∧ (hp.1 17 0).toInt < 60 from by omega) (by omega) ?_
            exact g_iret rfl rfl (h1 (by omega) (by assumption) _ _ hz)
          · refine g_run 2 rfl ?_
            exact g_iret rfl rfl (h2 (by omega) (by assumption) _ _ hz)
        · refine g_run 1 rfl ?_
          exact g_iret rfl rfl (h0 (by omega))
      · refine gz_eq (kx := 0) rfl (show (0 : Int32).toInt = 0 from by decide) (fun _ => ?_) (fun q => absurd q (by decide))
        refine g_run 1 rfl ?_
        exact g_iret rfl rfl (h0 (by omega))
    · refine g_callS0 rfl LX9_82 rfl rfl ?_
      refine c_X9_within (nI := gI) (lI := 1) (uI := (hp.1 2 lI.toNat).toInt) gE (by decide) rfl (fun k7 => ?_) (fun k8 => ?_)
      · refine gz_eq (kx := 1) rfl (show (1 : Int32).toInt = 1 from by decide) (fun q => absurd q (by decide)) (fun _ => ?_)
        refine g_run 4 rfl ?_
        refine gj_lt (kx := (hp.1 17 0).toInt) (kz := 60) rfl rfl (by decide) (fun k9 => ?_) (fun k9 => ?_)
        · refine g_run 5 rfl ?_
          refine g_iald (j := lI.toNat) rfl rfl ((show _ = lI from lE).trans (by omega)) (by omega) ?_
          refine g_run 2 rfl ?_
          refine g_iast (j := lI.toNat) rfl rfl ((show _ = lI from lE).trans (by omega)) (by omega) ?_
          refine g_run 5 rfl ?_
          refine g_callV0 rfl LX9_126 rfl rfl rfl rfl ?_
          refine c_X4_run_9 (hp := (sI hp 2 lI.toNat ((hp.1 2 lI.toNat) - g))) hsp hn hse hw (fun mi z hz => ?_)
          rw [← roX_2_9, hs0]
          refine g_run 8 rfl ?_
          refine g_idiv rfl (by first | decide | (intro q; rw [ia_eq] at q; simp at q; omega)) ?_
          refine g_run 3 rfl ?_
          refine gj_ge (kx := ((g * (1000 - (lossX s0))) / 1000).toInt) (kz := 1) rfl rfl (by decide) (fun k10 => ?_) (fun k10 => ?_)
          · refine g_run 6 rfl ?_
            refine g_callV0 rfl LX9_133 rfl rfl rfl rfl ?_
            refine c_X0_addOfOneLot (lI := lI) lE rfl rfl (show 0 ≤ (hp.1 17 0).toInt ∧ (hp.1 17 0).toInt < 60 from by omega) (by omega) ?_
            exact g_iret rfl rfl (h1 (by omega) (by assumption) _ _ hz)
          · refine g_run 2 rfl ?_
            exact g_iret rfl rfl (h2 (by omega) (by assumption) _ _ hz)
        · refine g_run 1 rfl ?_
          exact g_iret rfl rfl (h0 (by omega))
      · refine gz_eq (kx := 0) rfl (show (0 : Int32).toInt = 0 from by decide) (fun _ => ?_) (fun q => absurd q (by decide))
        refine g_run 1 rfl ?_
        exact g_iret rfl rfl (h0 (by omega))
  · refine gz_eq (kx := 0) rfl (show (0 : Int32).toInt = 0 from by decide) (fun _ => ?_) (fun q => absurd q (by decide))
    refine g_run 1 rfl ?_
    exact g_iret rfl rfl (h0 (by omega))
theorem c_X9_roast_37 {l : Int32} {lI : Int} {g : Int32} {gI : Int} (lE : l.toInt = lI) (gE : g.toInt = gI) {s0 : s6} (hs0 : roX hp 37 g = s0) (hs1 : 0 ≤ (hp.1 1 0).toInt ∧ (hp.1 1 0).toInt ≤ 12) (hs : 0 ≤ (hp.1 17 0).toInt) {T : Nat} (hsp : T ≤ 600 ∧ ∀ i, i < T → -20 ≤ (hp.1 41 i).toInt) (hn : 0 ≤ (hp.1 37 0).toInt ∧ (hp.1 37 0).toInt ≤ 16) (hse : ∀ k : Nat, (k : Int) < (hp.1 37 0).toInt → 0 ≤ frX hp 37 (k : Int) ∧ frX hp 37 (k : Int) ≤ (hp.1 40 k).toInt ∧ (hp.1 40 k).toInt ≤ (T : Int)) (hw : 0 ≤ (hp.1 37 7).toInt ∧ (hp.1 37 7).toInt ≤ 16) (h1 : 0 ≤ lI ∧ lI < (hp.1 1 0).toInt ∧ 1 ≤ gI ∧ gI ≤ 20000 ∧ gI ≤ (hp.1 2 lI.toNat).toInt ∧ (hp.1 17 0).toInt < 60 → 1 ≤ (outX g (lossX s0)).toInt → ∀ (mi : Int32) (z : (Nat → Int32) × Nat), z.2 ≤ 16 → Q (some (.int (hp.1 17 0))) (SH false xs) (sI (sI (sI (sI (sI (WX (sR (sI hp 2 lI.toNat (hp.1 2 lI.toNat - g)) 15 (RO (hp.1 15) (lossX s0) g mi s0)) 37 z) 19 (hp.1 17 0).toInt.toNat (hp.1 0 9)) 20 (hp.1 17 0).toInt.toNat (-1)) 17 0 (hp.1 17 0 + 1)) 18 (hp.1 17 0).toInt.toNat (outX g (lossX s0))) 22 (((hp.1 17 0).toInt * 12) + lI).toNat (outX g (lossX s0)))) (h2 : 0 ≤ lI ∧ lI < (hp.1 1 0).toInt ∧ 1 ≤ gI ∧ gI ≤ 20000 ∧ gI ≤ (hp.1 2 lI.toNat).toInt ∧ (hp.1 17 0).toInt < 60 → (outX g (lossX s0)).toInt < 1 → ∀ (mi : Int32) (z : (Nat → Int32) × Nat), z.2 ≤ 16 → Q (some (.int (-2))) (SH false xs) (WX (sR (sI hp 2 lI.toNat (hp.1 2 lI.toNat - g)) 15 (RO (hp.1 15) (lossX s0) g mi s0)) 37 z)) (h0 : lI < 0 ∨ (hp.1 1 0).toInt ≤ lI ∨ gI < 1 ∨ 20000 < gI ∨ (hp.1 2 lI.toNat).toInt < gI ∨ 60 ≤ (hp.1 17 0).toInt → Q (some (.int (-1))) (SH false xs) hp) : gC mX9_roast (d + 5) 0 0 [.ref 0, .int l, .int g] (SH false xs) hp Q := by
  refine g_enter okX9_roast (plainFor_of_name rfl) rfl ?_
  refine g_run 3 rfl ?_
  refine g_callV0 rfl LX9_112 rfl rfl rfl rfl ?_
  refine c_X3_has (nI := lI) (zI := (hp.1 1 0).toInt) lE rfl (fun k1 => ?_) (fun k2 => ?_)
  · refine gz_eq (kx := 1) rfl (show (1 : Int32).toInt = 1 from by decide) (fun q => absurd q (by decide)) (fun _ => ?_)
    refine g_run 7 rfl ?_
    refine g_iald (j := lI.toNat) rfl rfl ((show _ = lI from lE).trans (by omega)) (by omega) ?_
    refine g_callS0 rfl LX9_119 rfl rfl ?_
    refine c_J9_min_7cf53 (xI := 20000) (zI := (hp.1 2 lI.toNat).toInt) (by decide) rfl (fun k8 => ?_) (fun k8 => ?_)
    · refine g_callS0 rfl LX9_82 rfl rfl ?_
      refine c_X9_within (nI := gI) (lI := 1) (uI := 20000) gE (by decide) (by decide) (fun k3 => ?_) (fun k4 => ?_)
      · refine gz_eq (kx := 1) rfl (show (1 : Int32).toInt = 1 from by decide) (fun q => absurd q (by decide)) (fun _ => ?_)
        refine g_run 4 rfl ?_
        refine gj_lt (kx := (hp.1 17 0).toInt) (kz := 60) rfl rfl (by decide) (fun k5 => ?_) (fun k5 => ?_)
        · refine g_run 5 rfl ?_
          refine g_iald (j := lI.toNat) rfl rfl ((show _ = lI from lE).trans (by omega)) (by omega) ?_
          refine g_run 2 rfl ?_
          refine g_iast (j := lI.toNat) rfl rfl ((show _ = lI from lE).trans (by omega)) (by omega) ?_
          refine g_run 5 rfl ?_
          refine g_callV0 rfl LX9_126 rfl rfl rfl rfl ?_
          refine c_X4_run_37 (hp := (sI hp 2 lI.toNat ((hp.1 2 lI.toNat) - g))) hsp hn hse hw (fun mi z hz => ?_)
          rw [← roX_2_37, hs0]
          refine g_run 8 rfl ?_
          refine g_idiv rfl (by first | decide | (intro q; rw [ia_eq] at q; simp at q; omega)) ?_
          refine g_run 3 rfl ?_
          refine gj_ge (kx := ((g * (1000 - (lossX s0))) / 1000).toInt) (kz := 1) rfl rfl (by decide) (fun k6 => ?_) (fun k6 => ?_)
          · refine g_run 6 rfl ?_
            refine g_callV0 rfl LX9_133 rfl rfl rfl rfl ?_
            refine c_X0_addOfOneLot (lI := lI) lE rfl rfl (show 0 ≤ (hp.1 17 0).toInt ∧ (hp.1 17 0).toInt < 60 from by omega) (by omega) ?_
            exact g_iret rfl rfl (h1 (by omega) (by assumption) _ _ hz)
          · refine g_run 2 rfl ?_
            exact g_iret rfl rfl (h2 (by omega) (by assumption) _ _ hz)
        · refine g_run 1 rfl ?_
          exact g_iret rfl rfl (h0 (by omega))
      · refine gz_eq (kx := 0) rfl (show (0 : Int32).toInt = 0 from by decide) (fun _ => ?_) (fun q => absurd q (by decide))
        refine g_run 1 rfl ?_
        exact g_iret rfl rfl (h0 (by omega))
    · refine g_callS0 rfl LX9_82 rfl rfl ?_
      refine c_X9_within (nI := gI) (lI := 1) (uI := (hp.1 2 lI.toNat).toInt) gE (by decide) rfl (fun k7 => ?_) (fun k8 => ?_)
      · refine gz_eq (kx := 1) rfl (show (1 : Int32).toInt = 1 from by decide) (fun q => absurd q (by decide)) (fun _ => ?_)
        refine g_run 4 rfl ?_
        refine gj_lt (kx := (hp.1 17 0).toInt) (kz := 60) rfl rfl (by decide) (fun k9 => ?_) (fun k9 => ?_)
        · refine g_run 5 rfl ?_
          refine g_iald (j := lI.toNat) rfl rfl ((show _ = lI from lE).trans (by omega)) (by omega) ?_
          refine g_run 2 rfl ?_
          refine g_iast (j := lI.toNat) rfl rfl ((show _ = lI from lE).trans (by omega)) (by omega) ?_
          refine g_run 5 rfl ?_
          refine g_callV0 rfl LX9_126 rfl rfl rfl rfl ?_
          refine c_X4_run_37 (hp := (sI hp 2 lI.toNat ((hp.1 2 lI.toNat) - g))) hsp hn hse hw (fun mi z hz => ?_)
          rw [← roX_2_37, hs0]
          refine g_run 8 rfl ?_
          refine g_idiv rfl (by first | decide | (intro q; rw [ia_eq] at q; simp at q; omega)) ?_
          refine g_run 3 rfl ?_
          refine gj_ge (kx := ((g * (1000 - (lossX s0))) / 1000).toInt) (kz := 1) rfl rfl (by decide) (fun k10 => ?_) (fun k10 => ?_)
          · refine g_run 6 rfl ?_
            refine g_callV0 rfl LX9_133 rfl rfl rfl rfl ?_
            refine c_X0_addOfOneLot (lI := lI) lE rfl rfl (show 0 ≤ (hp.1 17 0).toInt ∧ (hp.1 17 0).toInt < 60 from by omega) (by omega) ?_
            exact g_iret rfl rfl (h1 (by omega) (by assumption) _ _ hz)
          · refine g_run 2 rfl ?_
            exact g_iret rfl rfl (h2 (by omega) (by assumption) _ _ hz)
        · refine g_run 1 rfl ?_
          exact g_iret rfl rfl (h0 (by omega))
      · refine gz_eq (kx := 0) rfl (show (0 : Int32).toInt = 0 from by decide) (fun _ => ?_) (fun q => absurd q (by decide))
        refine g_run 1 rfl ?_
        exact g_iret rfl rfl (h0 (by omega))
  · refine gz_eq (kx := 0) rfl (show (0 : Int32).toInt = 0 from by decide) (fun _ => ?_) (fun q => absurd q (by decide))
    refine g_run 1 rfl ?_
    exact g_iret rfl rfl (h0 (by omega))
theorem c_X9_roast {l : Int32} {lI : Int} {g : Int32} {gI : Int} (lE : l.toInt = lI) (gE : g.toInt = gI) (hs1 : 0 ≤ (hp.1 1 0).toInt ∧ (hp.1 1 0).toInt ≤ 12) (hs : 0 ≤ (hp.1 17 0).toInt) {T : Nat} (hsp : T ≤ 600 ∧ ∀ i, i < T → -20 ≤ (hp.1 (rl b + 4) i).toInt) (hn : 0 ≤ (hp.1 (rl b) 0).toInt ∧ (hp.1 (rl b) 0).toInt ≤ 16) (hse : ∀ k : Nat, (k : Int) < (hp.1 (rl b) 0).toInt → 0 ≤ frX hp (rl b) (k : Int) ∧ frX hp (rl b) (k : Int) ≤ (hp.1 (rl b + 3) k).toInt ∧ (hp.1 (rl b + 3) k).toInt ≤ (T : Int)) (hw : 0 ≤ (hp.1 (rl b) 7).toInt ∧ (hp.1 (rl b) 7).toInt ≤ 16) (h1 : 0 ≤ lI ∧ lI < (hp.1 1 0).toInt ∧ 1 ≤ gI ∧ gI ≤ 20000 ∧ gI ≤ (hp.1 2 lI.toNat).toInt ∧ (hp.1 17 0).toInt < 60 → 1 ≤ (outX g (lossX (roX hp (rl b) g))).toInt → ∀ (mi : Int32) (z : (Nat → Int32) × Nat), z.2 ≤ 16 → Q (some (.int (hp.1 17 0))) (SH b xs) (sI (sI (sI (sI (sI (WX (sR (sI hp 2 lI.toNat (hp.1 2 lI.toNat - g)) 15 (RO (hp.1 15) (lossX (roX hp (rl b) g)) g mi (roX hp (rl b) g))) (rl b) z) 19 (hp.1 17 0).toInt.toNat (hp.1 0 9)) 20 (hp.1 17 0).toInt.toNat (-1)) 17 0 (hp.1 17 0 + 1)) 18 (hp.1 17 0).toInt.toNat (outX g (lossX (roX hp (rl b) g)))) 22 (((hp.1 17 0).toInt * 12) + lI).toNat (outX g (lossX (roX hp (rl b) g))))) (h2 : 0 ≤ lI ∧ lI < (hp.1 1 0).toInt ∧ 1 ≤ gI ∧ gI ≤ 20000 ∧ gI ≤ (hp.1 2 lI.toNat).toInt ∧ (hp.1 17 0).toInt < 60 → (outX g (lossX (roX hp (rl b) g))).toInt < 1 → ∀ (mi : Int32) (z : (Nat → Int32) × Nat), z.2 ≤ 16 → Q (some (.int (-2))) (SH b xs) (WX (sR (sI hp 2 lI.toNat (hp.1 2 lI.toNat - g)) 15 (RO (hp.1 15) (lossX (roX hp (rl b) g)) g mi (roX hp (rl b) g))) (rl b) z)) (h0 : lI < 0 ∨ (hp.1 1 0).toInt ≤ lI ∨ gI < 1 ∨ 20000 < gI ∨ (hp.1 2 lI.toNat).toInt < gI ∨ 60 ≤ (hp.1 17 0).toInt → Q (some (.int (-1))) (SH b xs) hp) : gC mX9_roast (d + 5) 0 0 [.ref 0, .int l, .int g] (SH b xs) hp Q := by
  cases b
  · exact c_X9_roast_37 lE gE rfl hs1 hs hsp hn hse hw h1 h2 h0
  · exact c_X9_roast_9 lE gE rfl hs1 hs hsp hn hse hw h1 h2 h0
end S28
