/-! a roast in the reference -/
def roM (hp : hp_T) (ho : Nat) (ln : Nat → Nat) (g : Int32) : s6 := mnP (gM hp ho ln g) (hp.1 66) 20 0 s_0
theorem roM_2 {hp : hp_T} {ho : Nat} {ln : Nat → Nat} {j : Nat} {v g : Int32} : roM hp ho ln g = mnP (gM (sI (sI (sI hp 43 0 0) 60 j v) 43 35 1) ho ln g) ((sI (sI (sI hp 43 0 0) 60 j v) 43 35 1).1 66) 20 0 s_0 := rfl
section S32
variable {d : Nat} {sh : sh_T} {hp : hp_T} {Q : Option Value → sh_T → hp_T → Prop} {b : Bool} {xs : sh_T}
theorem c_X10_newBag2 {dd : Int32} {ddI : Int} (ddE : dd.toInt = ddI) (ms : 0 ≤ (hp.1 43 30).toInt ∧ (hp.1 43 30).toInt < 60) (h1 : Q (some (.int (hp.1 43 30))) (SH b xs) (nbM hp dd)) : gC mX10_newBag d 0 0 [.ref 43, .int dd] (SH b xs) hp Q := c_X10_newBag ddE ms (by rw [Int32.add_sub_cancel]; exact h1)
theorem c_X10_roast {l : Int32} {lI : Int} {g : Int32} {gI : Int} (lE : l.toInt = lI) (gE : g.toInt = gI) {s0 : s6} {ho : Nat} {ln : Nat → Nat} (hh : (hp.1 43 16).toInt = (ho : Int)) (ho1 : ho ≤ 1) (hn : 0 ≤ (hp.1 49 ho).toInt ∧ (hp.1 49 ho).toInt ≤ 16) (hL : ∀ k : Nat, (k : Int) < (hp.1 49 ho).toInt → okL hp ho (ln k) k) (hcv : ∀ i, i < 20 → 0 ≤ (hp.1 66 i).toInt ∧ (hp.1 66 i).toInt ≤ 400) (hs0 : roM hp ho ln g = s0) (hs1 : 0 ≤ (hp.1 43 26).toInt ∧ (hp.1 43 26).toInt ≤ 12) (hs : 0 ≤ (hp.1 43 30).toInt ∧ (hp.1 43 30).toInt ≤ 60) (h1 : 0 ≤ lI ∧ lI < (hp.1 43 26).toInt ∧ 1 ≤ gI ∧ gI ≤ 20000 ∧ gI ≤ (hp.1 60 lI.toNat).toInt ∧ (hp.1 43 30).toInt < 60 → 1 ≤ (outX g (lossX s0)).toInt → ∀ (kn pl : Nat → Int32), Q (some (.int (hp.1 43 30))) (SH b xs) (sI (nbM (MG (sI (sI (sI hp 43 0 0) 60 lI.toNat (hp.1 60 lI.toNat - g)) 43 35 1) kn pl (lossX s0) s0) (hp.1 43 25)) 63 (12 * (hp.1 43 30).toInt + lI).toNat (outX g (lossX s0)))) (h2 : 0 ≤ lI ∧ lI < (hp.1 43 26).toInt ∧ 1 ≤ gI ∧ gI ≤ 20000 ∧ gI ≤ (hp.1 60 lI.toNat).toInt ∧ (hp.1 43 30).toInt < 60 → (outX g (lossX s0)).toInt < 1 → ∀ (kn pl : Nat → Int32), Q (some (.int (-2))) (SH b xs) (MG (sI (sI (sI hp 43 0 0) 60 lI.toNat (hp.1 60 lI.toNat - g)) 43 35 1) kn pl (lossX s0) s0)) (h0 : lI < 0 ∨ (hp.1 43 26).toInt ≤ lI ∨ gI < 1 ∨ 20000 < gI ∨ (hp.1 60 lI.toNat).toInt < gI ∨ 60 ≤ (hp.1 43 30).toInt → Q (some (.int (-1))) (SH b xs) (sI hp 43 0 0)) : gC mX10_roast (d + 3) 0 0 [.ref 43, .int l, .int g] (SH b xs) hp Q := by
  refine g_enter okX10_roast (plainFor_of_name rfl) rfl ?_
  refine g_run 5 rfl ?_
  refine g_callV0 rfl LX10_274 rfl rfl rfl rfl ?_
  refine c_X10_isLot (nI := lI) (zI := (hp.1 43 26).toInt) lE rfl (fun k1 => ?_) (fun k2 => ?_)
  · refine gz_eq (kx := 1) rfl (show (1 : Int32).toInt = 1 from by decide) (fun q => absurd q (by decide)) (fun _ => ?_)
    refine g_run 2 rfl ?_
    refine gj_lt (kx := gI) (kz := 1) rfl gE (by decide) (fun k3 => ?_) (fun k3 => ?_)
    · refine g_run 1 rfl ?_
      exact g_iret rfl rfl (h0 (by omega))
    · refine g_run 2 rfl ?_
      refine gj_gt (kx := gI) (kz := 20000) rfl gE (by decide) (fun k4 => ?_) (fun k4 => ?_)
      · refine g_run 1 rfl ?_
        exact g_iret rfl rfl (h0 (by omega))
      · refine g_run 4 rfl ?_
        refine g_iald (j := lI.toNat) rfl rfl ((show _ = lI from lE).trans (by omega)) (by omega) ?_
        refine gj_gt (kx := gI) (kz := (hp.1 60 lI.toNat).toInt) rfl gE rfl (fun k5 => ?_) (fun k5 => ?_)
        · refine g_run 1 rfl ?_
          exact g_iret rfl rfl (h0 (by omega))
        · refine g_run 3 rfl ?_
          refine gj_ne (kx := (hp.1 43 30).toInt) (kz := 60) rfl rfl (by decide) (fun k6 => ?_) (fun k6 => ?_)
          · refine g_run 4 rfl ?_
            refine g_iald (j := lI.toNat) rfl rfl ((show _ = lI from lE).trans (by omega)) (by omega) ?_
            refine g_run 2 rfl ?_
            refine g_iast (j := lI.toNat) rfl rfl ((show _ = lI from lE).trans (by omega)) (by omega) ?_
            refine g_run 2 rfl ?_
            refine g_putZ rfl rfl rfl rfl (by decide) ?_
            refine g_run 2 rfl ?_
            refine g_callV0 rfl LX10_280 rfl rfl rfl rfl ?_
            refine c_X10_goes (hp := (sI (sI (sI hp 43 0 0) 60 lI.toNat (hp.1 60 lI.toNat - g)) 43 35 1)) hh ho1 hn hL hcv (fun kn pl => ?_)
            rw [← roM_2, hs0]
            refine g_run 7 rfl ?_
            refine g_idiv rfl (by first | decide | (intro q; rw [ia_eq] at q; simp at q; omega)) ?_
            refine g_run 1 rfl ?_
            refine g_run 2 rfl ?_
            refine gj_ge (kx := (outX g (lossX s0)).toInt) (kz := 1) rfl rfl (by decide) (fun k7 => ?_) (fun k7 => ?_)
            · refine g_run 3 rfl ?_
              refine g_callV0 rfl LX10_283 rfl rfl rfl rfl ?_
              refine c_X10_newBag2 rfl (show 0 ≤ (hp.1 43 30).toInt ∧ (hp.1 43 30).toInt < 60 from by omega) ?_
              refine g_run 9 rfl ?_
              refine g_iast (j := ((12 * (hp.1 43 30).toInt) + lI).toNat) rfl rfl ((show _ = ((12 * (hp.1 43 30).toInt) + lI) from (ia_add2 (ia_mul2 (by decide) rfl (by omega) (by omega)) lE (by omega) (by omega))).trans (by omega)) (by omega) ?_
              refine g_run 1 rfl ?_
              exact g_iret rfl rfl (h1 (by omega) (by assumption) _ _)
            · refine g_run 1 rfl ?_
              exact g_iret rfl rfl (h2 (by omega) (by assumption) _ _)
          · refine g_run 1 rfl ?_
            exact g_iret rfl rfl (h0 (by omega))
  · refine gz_eq (kx := 0) rfl (show (0 : Int32).toInt = 0 from by decide) (fun _ => ?_) (fun q => absurd q (by decide))
    refine g_run 1 rfl ?_
    exact g_iret rfl rfl (h0 (by omega))
end S32
