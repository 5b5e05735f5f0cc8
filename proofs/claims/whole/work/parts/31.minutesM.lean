/-! a roast in the reference: its minutes -/
theorem gG_lo {y : mt_T} {d mc ms : Nat} {Q : zt} {cells slots pc : Nat} {lo lo2 st : List Value} {sh : sh_T} {hp : hp_T} (e : lo = lo2) (k : gG y d mc ms Q cells slots (pc, lo2, st, sh, hp)) : gG y d mc ms Q cells slots (pc, lo, st, sh, hp) := e ▸ k
theorem gG_l2 {y : mt_T} {d mc ms : Nat} {Q : zt} {cells slots pc : Nat} {a b w3 : Value} {v v2 : Int32} {st : List Value} {sh : sh_T} {hp : hp_T} (e : v = v2) (k : gG y d mc ms Q cells slots (pc, [a, b, .int v2, w3], st, sh, hp)) : gG y d mc ms Q cells slots (pc, [a, b, .int v, w3], st, sh, hp) := e ▸ k
theorem gG_l3 {y : mt_T} {d mc ms : Nat} {Q : zt} {cells slots pc : Nat} {a b c : Value} {v v2 : Int32} {st : List Value} {sh : sh_T} {hp : hp_T} (e : v = v2) (k : gG y d mc ms Q cells slots (pc, [a, b, c, .int v2], st, sh, hp)) : gG y d mc ms Q cells slots (pc, [a, b, c, .int v], st, sh, hp) := e ▸ k
def gM (hp : hp_T) (ho : Nat) (ln : Nat → Nat) (g m w r : Int32) (q : q3) : q3 := lnM hp ho ln g m w r (hp.1 49 ho).toInt.toNat 0 q
theorem mnP_d {G : Int32 → Int32 → Int32 → q3 → q3} {tw : Nat → Int32} {f k : Nat} {s : s6} (h : s.2.2.2.2.2.2.toInt ≠ 0) : mnP G tw f k s = s := by
  cases f with
  | zero => rfl
  | succ f => rw [mnP, if_pos h]
theorem clmp_bd (x : Int32) : 0 ≤ (clmp x).toInt ∧ (clmp x).toInt ≤ 400 := by
  unfold clmp
  split
  · decide
  · split
    · decide
    · omega
theorem abs_1 {w t : Int32} (h : t.toInt < w.toInt) (ht : 0 ≤ t.toInt ∧ t.toInt ≤ 400) (hw : 0 ≤ w.toInt ∧ w.toInt ≤ 400) : absI (w - t) = w - t := by
  rw [absI, if_pos]
  rw [ia_sub (by omega) (by omega)]
  omega
theorem abs_2 {w t : Int32} (h : w.toInt ≤ t.toInt) (ht : 0 ≤ t.toInt ∧ t.toInt ≤ 400) (hw : 0 ≤ w.toInt ∧ w.toInt ≤ 400) : absI (w - t) = t - w := by
  have e := ia_sub (a := w) (b := t) (by omega) (by omega)
  have e2 := ia_sub (a := t) (b := w) (by omega) (by omega)
  rw [absI]
  split
  · rw [ia_eq]; omega
  · exact Int32.neg_sub ..
theorem max_1 {x z : Int32} (h : z.toInt ≤ x.toInt) : x = maxI x z := by rw [maxI, if_pos h]
theorem max_2 {x z : Int32} (h : x.toInt < z.toInt) : z = maxI x z := by rw [maxI, if_neg (by omega)]
theorem los_1 {s : s6} (h : (s.1 / 4 + 3 * s.2.2.1).toInt ≤ 600) : s.1 / 4 + 3 * s.2.2.1 = lossX s := by
  rw [lossX, minI]
  split
  · next q =>
    rw [ia_eq]
    have : (600 : Int32).toInt = 600 := by decide
    omega
  · rfl
theorem los_2 {s : s6} (h : 600 < (s.1 / 4 + 3 * s.2.2.1).toInt) : 600 = lossX s := by
  have : (600 : Int32).toInt = 600 := by decide
  rw [lossX, minI, if_pos (by omega)]
theorem mg_way2 {hp : hp_T} {kn pl : Nat → Int32} {l v v2 : Int32} {s : s6} (h : v = v2) : sI (MG hp kn pl l s) 43 43 v = MG hp kn pl l (s.1, s.2.1, s.2.2.1, v2, s.2.2.2.2) := h ▸ mg_way
theorem mg_grow2 {hp : hp_T} {kn pl : Nat → Int32} {l a b e e2 : Int32} {s : s6} (h : e = e2) : sI (sI (sI (MG hp kn pl l s) 43 38 a) 43 37 b) 43 36 e = MG hp kn pl l (b, a, e2, s.2.2.2.1, s.2.2.2.2) := h ▸ mg_grow
theorem mg_loss2 {hp : hp_T} {kn pl : Nat → Int32} {l a a2 : Int32} {s : s6} (h : a2 = lossX s) : MG hp kn pl (lossX s) s = sI (sI (MG hp kn pl l s) 43 41 a) 43 41 a2 := by rw [mg_loss, mg_loss, h]
section S31
variable {d : Nat} {sh : sh_T} {hp : hp_T} {Q : Option Value → sh_T → hp_T → Prop} {b : Bool} {xs : sh_T}
theorem lp_X10_goes  {ho : Nat} {ln : Nat → Nat} (hh : (hp.1 43 16).toInt = (ho : Int)) (ho1 : ho ≤ 1) (hn : 0 ≤ (hp.1 49 ho).toInt ∧ (hp.1 49 ho).toInt ≤ 16) (hL : ∀ k : Nat, (k : Int) < (hp.1 49 ho).toInt → okL hp ho (ln k) k) (hcv : ∀ i, i < 20 → 0 ≤ (hp.1 66 i).toInt ∧ (hp.1 66 i).toInt ≤ 400) {g l : Int32} {s0 : s6} (h1 : ∀ kn pl : Nat → Int32, Q none (SH b xs) (MG hp kn pl (lossX s0) s0)) : ∀ (f k : Nat) (s : s6) (kn pl : Nat → Int32) (w2 w3 : Value), (s.2.2.2.2.2.2.toInt = 0 → s.2.2.1 = nI k) → (0 ≤ s.2.2.1.toInt ∧ s.2.2.1.toInt ≤ 20) → (0 ≤ s.1.toInt ∧ s.1.toInt ≤ 400) → k ≤ 20 → mnP (gM hp ho ln g) (hp.1 66) (20 - k) k s = s0 → 20 - k < f → gG mX10_goes (d + 2) 0 0 (zQ 0 0 Q) 0 0 (37, [.ref 43, .int g, w2, w3], [], (SH b xs), (MG hp kn pl l s)) := by
  intro f
  induction f with
  | zero => intros; omega
  | succ f ih =>
    intro k s kn pl w2 w3 hi0 hi1 hw hk hE hf
    refine g_run 3 rfl ?_
    refine gj_ge (kx := s.2.2.1.toInt) (kz := 20) rfl rfl (by decide) (fun k1 => ?_) (fun k1 => ?_)
    · have e0 : mnP (gM hp ho ln g) (hp.1 66) (20 - k) k s = s := by
        by_cases q9 : s.2.2.2.2.2.2.toInt = 0
        · first | exact absurd q9 (by assumption) | (have e9 := hi0 q9; rw [e9, nI_toInt (by omega)] at k1; rw [show 20 - k = 0 by omega, mnP])
        · exact mnP_d q9
      rw [e0] at hE
      subst hE
      refine g_run 4 rfl ?_
      refine g_idiv rfl (by first | decide | (intro q; rw [ia_eq] at q; simp at q; omega)) ?_
      refine g_run 6 rfl ?_
      refine g_run 4 rfl ?_
      refine gj_le (kx := ((s.1 / 4) + (3 * s.2.2.1)).toInt) (kz := 600) rfl rfl (by decide) (fun k2 => ?_) (fun k2 => ?_)
      · refine g_run 3 rfl ?_
        have q := h1 kn pl
        rw [mg_loss2 (l := l) (a := ((s.1 / 4) + (3 * s.2.2.1))) (show ((s.1 / 4) + (3 * s.2.2.1)) = lossX s from by first | exact los_1 (by omega) | exact los_2 (by omega))] at q
        exact g_vret rfl rfl q
      · refine g_run 3 rfl ?_
        have q := h1 kn pl
        rw [mg_loss2 (l := l) (a := ((s.1 / 4) + (3 * s.2.2.1))) (show 600 = lossX s from by first | exact los_1 (by omega) | exact los_2 (by omega))] at q
        exact g_vret rfl rfl q
    · refine g_run 2 rfl ?_
      refine gz_ne (kx := s.2.2.2.2.2.2.toInt) rfl rfl (fun k3 => ?_) (fun k3 => ?_)
      · have e0 : mnP (gM hp ho ln g) (hp.1 66) (20 - k) k s = s := by
          by_cases q9 : s.2.2.2.2.2.2.toInt = 0
          · first | exact absurd q9 (by assumption) | (have e9 := hi0 q9; rw [e9, nI_toInt (by omega)] at k1; rw [show 20 - k = 0 by omega, mnP])
          · exact mnP_d q9
        rw [e0] at hE
        subst hE
        refine g_run 4 rfl ?_
        refine g_idiv rfl (by first | decide | (intro q; rw [ia_eq] at q; simp at q; omega)) ?_
        refine g_run 6 rfl ?_
        refine g_run 4 rfl ?_
        refine gj_le (kx := ((s.1 / 4) + (3 * s.2.2.1)).toInt) (kz := 600) rfl rfl (by decide) (fun k4 => ?_) (fun k4 => ?_)
        · refine g_run 3 rfl ?_
          have q := h1 kn pl
          rw [mg_loss2 (l := l) (a := ((s.1 / 4) + (3 * s.2.2.1))) (show ((s.1 / 4) + (3 * s.2.2.1)) = lossX s from by first | exact los_1 (by omega) | exact los_2 (by omega))] at q
          exact g_vret rfl rfl q
        · refine g_run 3 rfl ?_
          have q := h1 kn pl
          rw [mg_loss2 (l := l) (a := ((s.1 / 4) + (3 * s.2.2.1))) (show 600 = lossX s from by first | exact los_1 (by omega) | exact los_2 (by omega))] at q
          exact g_vret rfl rfl q
      · refine g_run 2 rfl ?_
        refine g_callV0 rfl LX10_268 rfl rfl rfl rfl ?_
        have ek : s.2.2.1 = nI k := hi0 (by assumption)
        have ekk : (nI k).toInt = (k : Int) := nI_toInt (by omega)
        have hkk : k < 20 := by rw [ek] at k1; omega
        refine c_X10_actsBy hh ho1 hn hL (by rw [ek]; omega) (fun kn1 pl1 => ?_)
        refine gG_hp (h2 := (MG hp kn1 pl1 l (s.1, s.2.1, nI k, s.2.2.2.1, ((gM hp ho ln g) (nI k) s.1 s.2.1 s.2.2.2.2)))) (by rw [ek]; rfl) ?_
        have hck := hcv k hkk
        refine g_run 6 rfl ?_
        refine g_iald (j := k) rfl rfl ((show _ = (k : Int) from ekk).trans (by omega)) (by omega) ?_
        refine gj_le (kx := s.1.toInt) (kz := (hp.1 66 k).toInt) rfl rfl rfl (fun k5 => ?_) (fun k5 => ?_)
        · refine g_run 4 rfl ?_
          refine g_iald (j := k) rfl rfl ((show _ = (k : Int) from ekk).trans (by omega)) (by omega) ?_
          refine g_run 4 rfl ?_
          refine gG_l2 (v2 := (absI (s.1 - hp.1 66 k))) (show ((hp.1 66 k) - s.1) = (absI (s.1 - hp.1 66 k)) from by first | exact (abs_1 (by omega) hck hw).symm | exact (abs_2 (by omega) hck hw).symm) ?_
          refine g_run 4 rfl ?_
          refine gj_le (kx := (absI (s.1 - hp.1 66 k)).toInt) (kz := s.2.2.2.1.toInt) rfl rfl rfl (fun k6 => ?_) (fun k6 => ?_)
          · refine g_run 3 rfl ?_
            refine gG_hp (mg_way2 (v2 := (maxI s.2.2.2.1 (absI (s.1 - hp.1 66 k)))) (show s.2.2.2.1 = (maxI s.2.2.2.1 (absI (s.1 - hp.1 66 k))) from by first | exact max_1 (by omega) | exact max_2 (by omega))) ?_
            refine g_run 2 rfl ?_
            refine gz_ne (kx := (((gM hp ho ln g) (nI k) s.1 s.2.1 s.2.2.2.2).2.2).toInt) rfl rfl (fun k7 => ?_) (fun k7 => ?_)
            · refine g_run 1 rfl ?_
              rw [show 20 - k = (20 - (k + 1)) + 1 by omega, mnP, if_neg (by omega)] at hE
              rw [if_neg (by assumption), ek] at hE
              exact ih (k + 1) _ _ _ _ _ (fun q => absurd q (by assumption)) (by dsimp only; omega) hw (by omega) hE (by omega)
            · refine g_run 12 rfl ?_
              refine g_idiv rfl (by first | decide | (intro q; rw [ia_eq] at q; simp at q; omega)) ?_
              refine g_run 5 rfl ?_
              refine g_run 2 rfl ?_
              refine gj_ge (kx := (s.1 + 4 * ((gM hp ho ln g) (nI k) s.1 s.2.1 s.2.2.2.2).1 - (s.1 - 20) / 20 - ((gM hp ho ln g) (nI k) s.1 s.2.1 s.2.2.2.2).2.1).toInt) (kz := 20) rfl rfl (by decide) (fun k8 => ?_) (fun k8 => ?_)
              · refine g_run 2 rfl ?_
                refine gj_le (kx := (s.1 + 4 * ((gM hp ho ln g) (nI k) s.1 s.2.1 s.2.2.2.2).1 - (s.1 - 20) / 20 - ((gM hp ho ln g) (nI k) s.1 s.2.1 s.2.2.2.2).2.1).toInt) (kz := 400) rfl rfl (by decide) (fun k9 => ?_) (fun k9 => ?_)
                · refine g_run 2 rfl ?_
                  refine gG_l3 (v2 := clmp (s.1 + 4 * ((gM hp ho ln g) (nI k) s.1 s.2.1 s.2.2.2.2).1 - (s.1 - 20) / 20 - ((gM hp ho ln g) (nI k) s.1 s.2.1 s.2.2.2.2).2.1)) (show (s.1 + 4 * ((gM hp ho ln g) (nI k) s.1 s.2.1 s.2.2.2.2).1 - (s.1 - 20) / 20 - ((gM hp ho ln g) (nI k) s.1 s.2.1 s.2.2.2.2).2.1) = clmp (s.1 + 4 * ((gM hp ho ln g) (nI k) s.1 s.2.1 s.2.2.2.2).1 - (s.1 - 20) / 20 - ((gM hp ho ln g) (nI k) s.1 s.2.1 s.2.2.2.2).2.1) from by first | exact (clmp_lo (by omega)).symm | exact (clmp_hi (by omega)).symm | exact (clmp_in (by omega) (by omega)).symm) ?_
                  refine g_run 16 rfl ?_
                  rw [show 20 - k = (20 - (k + 1)) + 1 by omega, mnP, if_neg (by omega)] at hE
                  rw [if_pos (by assumption), ek, nI_1] at hE
                  refine gG_hp (mg_grow2 (e2 := nI (k + 1)) (nI_1 k)) ?_
                  exact ih (k + 1) _ _ _ _ _ (fun _ => rfl) (by rw [show (nI (k + 1)).toInt = ((k + 1 : Nat) : Int) from nI_toInt (by omega)]; omega) (clmp_bd _) (by omega) hE (by omega)
                · refine g_run 3 rfl ?_
                  refine gG_l3 (v2 := clmp (s.1 + 4 * ((gM hp ho ln g) (nI k) s.1 s.2.1 s.2.2.2.2).1 - (s.1 - 20) / 20 - ((gM hp ho ln g) (nI k) s.1 s.2.1 s.2.2.2.2).2.1)) (show 400 = clmp (s.1 + 4 * ((gM hp ho ln g) (nI k) s.1 s.2.1 s.2.2.2.2).1 - (s.1 - 20) / 20 - ((gM hp ho ln g) (nI k) s.1 s.2.1 s.2.2.2.2).2.1) from by first | exact (clmp_lo (by omega)).symm | exact (clmp_hi (by omega)).symm | exact (clmp_in (by omega) (by omega)).symm) ?_
                  refine g_run 16 rfl ?_
                  rw [show 20 - k = (20 - (k + 1)) + 1 by omega, mnP, if_neg (by omega)] at hE
                  rw [if_pos (by assumption), ek, nI_1] at hE
                  refine gG_hp (mg_grow2 (e2 := nI (k + 1)) (nI_1 k)) ?_
                  exact ih (k + 1) _ _ _ _ _ (fun _ => rfl) (by rw [show (nI (k + 1)).toInt = ((k + 1 : Nat) : Int) from nI_toInt (by omega)]; omega) (clmp_bd _) (by omega) hE (by omega)
              · refine g_run 3 rfl ?_
                refine gG_l3 (v2 := clmp (s.1 + 4 * ((gM hp ho ln g) (nI k) s.1 s.2.1 s.2.2.2.2).1 - (s.1 - 20) / 20 - ((gM hp ho ln g) (nI k) s.1 s.2.1 s.2.2.2.2).2.1)) (show 20 = clmp (s.1 + 4 * ((gM hp ho ln g) (nI k) s.1 s.2.1 s.2.2.2.2).1 - (s.1 - 20) / 20 - ((gM hp ho ln g) (nI k) s.1 s.2.1 s.2.2.2.2).2.1) from by first | exact (clmp_lo (by omega)).symm | exact (clmp_hi (by omega)).symm | exact (clmp_in (by omega) (by omega)).symm) ?_
                refine g_run 16 rfl ?_
                rw [show 20 - k = (20 - (k + 1)) + 1 by omega, mnP, if_neg (by omega)] at hE
                rw [if_pos (by assumption), ek, nI_1] at hE
                refine gG_hp (mg_grow2 (e2 := nI (k + 1)) (nI_1 k)) ?_
                exact ih (k + 1) _ _ _ _ _ (fun _ => rfl) (by rw [show (nI (k + 1)).toInt = ((k + 1 : Nat) : Int) from nI_toInt (by omega)]; omega) (clmp_bd _) (by omega) hE (by omega)
          · refine g_run 3 rfl ?_
            refine gG_hp (mg_way2 (v2 := (maxI s.2.2.2.1 (absI (s.1 - hp.1 66 k)))) (show (absI (s.1 - hp.1 66 k)) = (maxI s.2.2.2.1 (absI (s.1 - hp.1 66 k))) from by first | exact max_1 (by omega) | exact max_2 (by omega))) ?_
            refine g_run 2 rfl ?_
            refine gz_ne (kx := (((gM hp ho ln g) (nI k) s.1 s.2.1 s.2.2.2.2).2.2).toInt) rfl rfl (fun k10 => ?_) (fun k10 => ?_)
            · refine g_run 1 rfl ?_
              rw [show 20 - k = (20 - (k + 1)) + 1 by omega, mnP, if_neg (by omega)] at hE
              rw [if_neg (by assumption), ek] at hE
              exact ih (k + 1) _ _ _ _ _ (fun q => absurd q (by assumption)) (by dsimp only; omega) hw (by omega) hE (by omega)
            · refine g_run 12 rfl ?_
              refine g_idiv rfl (by first | decide | (intro q; rw [ia_eq] at q; simp at q; omega)) ?_
              refine g_run 5 rfl ?_
              refine g_run 2 rfl ?_
              refine gj_ge (kx := (s.1 + 4 * ((gM hp ho ln g) (nI k) s.1 s.2.1 s.2.2.2.2).1 - (s.1 - 20) / 20 - ((gM hp ho ln g) (nI k) s.1 s.2.1 s.2.2.2.2).2.1).toInt) (kz := 20) rfl rfl (by decide) (fun k11 => ?_) (fun k11 => ?_)
              · refine g_run 2 rfl ?_
                refine gj_le (kx := (s.1 + 4 * ((gM hp ho ln g) (nI k) s.1 s.2.1 s.2.2.2.2).1 - (s.1 - 20) / 20 - ((gM hp ho ln g) (nI k) s.1 s.2.1 s.2.2.2.2).2.1).toInt) (kz := 400) rfl rfl (by decide) (fun k12 => ?_) (fun k12 => ?_)
                · refine g_run 2 rfl ?_
                  refine gG_l3 (v2 := clmp (s.1 + 4 * ((gM hp ho ln g) (nI k) s.1 s.2.1 s.2.2.2.2).1 - (s.1 - 20) / 20 - ((gM hp ho ln g) (nI k) s.1 s.2.1 s.2.2.2.2).2.1)) (show (s.1 + 4 * ((gM hp ho ln g) (nI k) s.1 s.2.1 s.2.2.2.2).1 - (s.1 - 20) / 20 - ((gM hp ho ln g) (nI k) s.1 s.2.1 s.2.2.2.2).2.1) = clmp (s.1 + 4 * ((gM hp ho ln g) (nI k) s.1 s.2.1 s.2.2.2.2).1 - (s.1 - 20) / 20 - ((gM hp ho ln g) (nI k) s.1 s.2.1 s.2.2.2.2).2.1) from by first | exact (clmp_lo (by omega)).symm | exact (clmp_hi (by omega)).symm | exact (clmp_in (by omega) (by omega)).symm) ?_
                  refine g_run 16 rfl ?_
                  rw [show 20 - k = (20 - (k + 1)) + 1 by omega, mnP, if_neg (by omega)] at hE
                  rw [if_pos (by assumption), ek, nI_1] at hE
                  refine gG_hp (mg_grow2 (e2 := nI (k + 1)) (nI_1 k)) ?_
                  exact ih (k + 1) _ _ _ _ _ (fun _ => rfl) (by rw [show (nI (k + 1)).toInt = ((k + 1 : Nat) : Int) from nI_toInt (by omega)]; omega) (clmp_bd _) (by omega) hE (by omega)
                · refine g_run 3 rfl ?_
                  refine gG_l3 (v2 := clmp (s.1 + 4 * ((gM hp ho ln g) (nI k) s.1 s.2.1 s.2.2.2.2).1 - (s.1 - 20) / 20 - ((gM hp ho ln g) (nI k) s.1 s.2.1 s.2.2.2.2).2.1)) (show 400 = clmp (s.1 + 4 * ((gM hp ho ln g) (nI k) s.1 s.2.1 s.2.2.2.2).1 - (s.1 - 20) / 20 - ((gM hp ho ln g) (nI k) s.1 s.2.1 s.2.2.2.2).2.1) from by first | exact (clmp_lo (by omega)).symm | exact (clmp_hi (by omega)).symm | exact (clmp_in (by omega) (by omega)).symm) ?_
                  refine g_run 16 rfl ?_
                  rw [show 20 - k = (20 - (k + 1)) + 1 by omega, mnP, if_neg (by omega)] at hE
                  rw [if_pos (by assumption), ek, nI_1] at hE
                  refine gG_hp (mg_grow2 (e2 := nI (k + 1)) (nI_1 k)) ?_
                  exact ih (k + 1) _ _ _ _ _ (fun _ => rfl) (by rw [show (nI (k + 1)).toInt = ((k + 1 : Nat) : Int) from nI_toInt (by omega)]; omega) (clmp_bd _) (by omega) hE (by omega)
              · refine g_run 3 rfl ?_
                refine gG_l3 (v2 := clmp (s.1 + 4 * ((gM hp ho ln g) (nI k) s.1 s.2.1 s.2.2.2.2).1 - (s.1 - 20) / 20 - ((gM hp ho ln g) (nI k) s.1 s.2.1 s.2.2.2.2).2.1)) (show 20 = clmp (s.1 + 4 * ((gM hp ho ln g) (nI k) s.1 s.2.1 s.2.2.2.2).1 - (s.1 - 20) / 20 - ((gM hp ho ln g) (nI k) s.1 s.2.1 s.2.2.2.2).2.1) from by first | exact (clmp_lo (by omega)).symm | exact (clmp_hi (by omega)).symm | exact (clmp_in (by omega) (by omega)).symm) ?_
                refine g_run 16 rfl ?_
                rw [show 20 - k = (20 - (k + 1)) + 1 by omega, mnP, if_neg (by omega)] at hE
                rw [if_pos (by assumption), ek, nI_1] at hE
                refine gG_hp (mg_grow2 (e2 := nI (k + 1)) (nI_1 k)) ?_
                exact ih (k + 1) _ _ _ _ _ (fun _ => rfl) (by rw [show (nI (k + 1)).toInt = ((k + 1 : Nat) : Int) from nI_toInt (by omega)]; omega) (clmp_bd _) (by omega) hE (by omega)
        · refine g_run 6 rfl ?_
          refine g_iald (j := k) rfl rfl ((show _ = (k : Int) from ekk).trans (by omega)) (by omega) ?_
          refine g_run 3 rfl ?_
          refine gG_l2 (v2 := (absI (s.1 - hp.1 66 k))) (show (s.1 - (hp.1 66 k)) = (absI (s.1 - hp.1 66 k)) from by first | exact (abs_1 (by omega) hck hw).symm | exact (abs_2 (by omega) hck hw).symm) ?_
          refine g_run 4 rfl ?_
          refine gj_le (kx := (absI (s.1 - hp.1 66 k)).toInt) (kz := s.2.2.2.1.toInt) rfl rfl rfl (fun k13 => ?_) (fun k13 => ?_)
          · refine g_run 3 rfl ?_
            refine gG_hp (mg_way2 (v2 := (maxI s.2.2.2.1 (absI (s.1 - hp.1 66 k)))) (show s.2.2.2.1 = (maxI s.2.2.2.1 (absI (s.1 - hp.1 66 k))) from by first | exact max_1 (by omega) | exact max_2 (by omega))) ?_
            refine g_run 2 rfl ?_
            refine gz_ne (kx := (((gM hp ho ln g) (nI k) s.1 s.2.1 s.2.2.2.2).2.2).toInt) rfl rfl (fun k14 => ?_) (fun k14 => ?_)
            · refine g_run 1 rfl ?_
              rw [show 20 - k = (20 - (k + 1)) + 1 by omega, mnP, if_neg (by omega)] at hE
              rw [if_neg (by assumption), ek] at hE
              exact ih (k + 1) _ _ _ _ _ (fun q => absurd q (by assumption)) (by dsimp only; omega) hw (by omega) hE (by omega)
            · refine g_run 12 rfl ?_
              refine g_idiv rfl (by first | decide | (intro q; rw [ia_eq] at q; simp at q; omega)) ?_
              refine g_run 5 rfl ?_
              refine g_run 2 rfl ?_
              refine gj_ge (kx := (s.1 + 4 * ((gM hp ho ln g) (nI k) s.1 s.2.1 s.2.2.2.2).1 - (s.1 - 20) / 20 - ((gM hp ho ln g) (nI k) s.1 s.2.1 s.2.2.2.2).2.1).toInt) (kz := 20) rfl rfl (by decide) (fun k15 => ?_) (fun k15 => ?_)
              · refine g_run 2 rfl ?_
                refine gj_le (kx := (s.1 + 4 * ((gM hp ho ln g) (nI k) s.1 s.2.1 s.2.2.2.2).1 - (s.1 - 20) / 20 - ((gM hp ho ln g) (nI k) s.1 s.2.1 s.2.2.2.2).2.1).toInt) (kz := 400) rfl rfl (by decide) (fun k16 => ?_) (fun k16 => ?_)
                · refine g_run 2 rfl ?_
                  refine gG_l3 (v2 := clmp (s.1 + 4 * ((gM hp ho ln g) (nI k) s.1 s.2.1 s.2.2.2.2).1 - (s.1 - 20) / 20 - ((gM hp ho ln g) (nI k) s.1 s.2.1 s.2.2.2.2).2.1)) (show (s.1 + 4 * ((gM hp ho ln g) (nI k) s.1 s.2.1 s.2.2.2.2).1 - (s.1 - 20) / 20 - ((gM hp ho ln g) (nI k) s.1 s.2.1 s.2.2.2.2).2.1) = clmp (s.1 + 4 * ((gM hp ho ln g) (nI k) s.1 s.2.1 s.2.2.2.2).1 - (s.1 - 20) / 20 - ((gM hp ho ln g) (nI k) s.1 s.2.1 s.2.2.2.2).2.1) from by first | exact (clmp_lo (by omega)).symm | exact (clmp_hi (by omega)).symm | exact (clmp_in (by omega) (by omega)).symm) ?_
                  refine g_run 16 rfl ?_
                  rw [show 20 - k = (20 - (k + 1)) + 1 by omega, mnP, if_neg (by omega)] at hE
                  rw [if_pos (by assumption), ek, nI_1] at hE
                  refine gG_hp (mg_grow2 (e2 := nI (k + 1)) (nI_1 k)) ?_
                  exact ih (k + 1) _ _ _ _ _ (fun _ => rfl) (by rw [show (nI (k + 1)).toInt = ((k + 1 : Nat) : Int) from nI_toInt (by omega)]; omega) (clmp_bd _) (by omega) hE (by omega)
                · refine g_run 3 rfl ?_
                  refine gG_l3 (v2 := clmp (s.1 + 4 * ((gM hp ho ln g) (nI k) s.1 s.2.1 s.2.2.2.2).1 - (s.1 - 20) / 20 - ((gM hp ho ln g) (nI k) s.1 s.2.1 s.2.2.2.2).2.1)) (show 400 = clmp (s.1 + 4 * ((gM hp ho ln g) (nI k) s.1 s.2.1 s.2.2.2.2).1 - (s.1 - 20) / 20 - ((gM hp ho ln g) (nI k) s.1 s.2.1 s.2.2.2.2).2.1) from by first | exact (clmp_lo (by omega)).symm | exact (clmp_hi (by omega)).symm | exact (clmp_in (by omega) (by omega)).symm) ?_
                  refine g_run 16 rfl ?_
                  rw [show 20 - k = (20 - (k + 1)) + 1 by omega, mnP, if_neg (by omega)] at hE
                  rw [if_pos (by assumption), ek, nI_1] at hE
                  refine gG_hp (mg_grow2 (e2 := nI (k + 1)) (nI_1 k)) ?_
                  exact ih (k + 1) _ _ _ _ _ (fun _ => rfl) (by rw [show (nI (k + 1)).toInt = ((k + 1 : Nat) : Int) from nI_toInt (by omega)]; omega) (clmp_bd _) (by omega) hE (by omega)
              · refine g_run 3 rfl ?_
                refine gG_l3 (v2 := clmp (s.1 + 4 * ((gM hp ho ln g) (nI k) s.1 s.2.1 s.2.2.2.2).1 - (s.1 - 20) / 20 - ((gM hp ho ln g) (nI k) s.1 s.2.1 s.2.2.2.2).2.1)) (show 20 = clmp (s.1 + 4 * ((gM hp ho ln g) (nI k) s.1 s.2.1 s.2.2.2.2).1 - (s.1 - 20) / 20 - ((gM hp ho ln g) (nI k) s.1 s.2.1 s.2.2.2.2).2.1) from by first | exact (clmp_lo (by omega)).symm | exact (clmp_hi (by omega)).symm | exact (clmp_in (by omega) (by omega)).symm) ?_
                refine g_run 16 rfl ?_
                rw [show 20 - k = (20 - (k + 1)) + 1 by omega, mnP, if_neg (by omega)] at hE
                rw [if_pos (by assumption), ek, nI_1] at hE
                refine gG_hp (mg_grow2 (e2 := nI (k + 1)) (nI_1 k)) ?_
                exact ih (k + 1) _ _ _ _ _ (fun _ => rfl) (by rw [show (nI (k + 1)).toInt = ((k + 1 : Nat) : Int) from nI_toInt (by omega)]; omega) (clmp_bd _) (by omega) hE (by omega)
          · refine g_run 3 rfl ?_
            refine gG_hp (mg_way2 (v2 := (maxI s.2.2.2.1 (absI (s.1 - hp.1 66 k)))) (show (absI (s.1 - hp.1 66 k)) = (maxI s.2.2.2.1 (absI (s.1 - hp.1 66 k))) from by first | exact max_1 (by omega) | exact max_2 (by omega))) ?_
            refine g_run 2 rfl ?_
            refine gz_ne (kx := (((gM hp ho ln g) (nI k) s.1 s.2.1 s.2.2.2.2).2.2).toInt) rfl rfl (fun k17 => ?_) (fun k17 => ?_)
            · refine g_run 1 rfl ?_
              rw [show 20 - k = (20 - (k + 1)) + 1 by omega, mnP, if_neg (by omega)] at hE
              rw [if_neg (by assumption), ek] at hE
              exact ih (k + 1) _ _ _ _ _ (fun q => absurd q (by assumption)) (by dsimp only; omega) hw (by omega) hE (by omega)
            · refine g_run 12 rfl ?_
              refine g_idiv rfl (by first | decide | (intro q; rw [ia_eq] at q; simp at q; omega)) ?_
              refine g_run 5 rfl ?_
              refine g_run 2 rfl ?_
              refine gj_ge (kx := (s.1 + 4 * ((gM hp ho ln g) (nI k) s.1 s.2.1 s.2.2.2.2).1 - (s.1 - 20) / 20 - ((gM hp ho ln g) (nI k) s.1 s.2.1 s.2.2.2.2).2.1).toInt) (kz := 20) rfl rfl (by decide) (fun k18 => ?_) (fun k18 => ?_)
              · refine g_run 2 rfl ?_
                refine gj_le (kx := (s.1 + 4 * ((gM hp ho ln g) (nI k) s.1 s.2.1 s.2.2.2.2).1 - (s.1 - 20) / 20 - ((gM hp ho ln g) (nI k) s.1 s.2.1 s.2.2.2.2).2.1).toInt) (kz := 400) rfl rfl (by decide) (fun k19 => ?_) (fun k19 => ?_)
                · refine g_run 2 rfl ?_
                  refine gG_l3 (v2 := clmp (s.1 + 4 * ((gM hp ho ln g) (nI k) s.1 s.2.1 s.2.2.2.2).1 - (s.1 - 20) / 20 - ((gM hp ho ln g) (nI k) s.1 s.2.1 s.2.2.2.2).2.1)) (show (s.1 + 4 * ((gM hp ho ln g) (nI k) s.1 s.2.1 s.2.2.2.2).1 - (s.1 - 20) / 20 - ((gM hp ho ln g) (nI k) s.1 s.2.1 s.2.2.2.2).2.1) = clmp (s.1 + 4 * ((gM hp ho ln g) (nI k) s.1 s.2.1 s.2.2.2.2).1 - (s.1 - 20) / 20 - ((gM hp ho ln g) (nI k) s.1 s.2.1 s.2.2.2.2).2.1) from by first | exact (clmp_lo (by omega)).symm | exact (clmp_hi (by omega)).symm | exact (clmp_in (by omega) (by omega)).symm) ?_
                  refine g_run 16 rfl ?_
                  rw [show 20 - k = (20 - (k + 1)) + 1 by omega, mnP, if_neg (by omega)] at hE
                  rw [if_pos (by assumption), ek, nI_1] at hE
                  refine gG_hp (mg_grow2 (e2 := nI (k + 1)) (nI_1 k)) ?_
                  exact ih (k + 1) _ _ _ _ _ (fun _ => rfl) (by rw [show (nI (k + 1)).toInt = ((k + 1 : Nat) : Int) from nI_toInt (by omega)]; omega) (clmp_bd _) (by omega) hE (by omega)
                · refine g_run 3 rfl ?_
                  refine gG_l3 (v2 := clmp (s.1 + 4 * ((gM hp ho ln g) (nI k) s.1 s.2.1 s.2.2.2.2).1 - (s.1 - 20) / 20 - ((gM hp ho ln g) (nI k) s.1 s.2.1 s.2.2.2.2).2.1)) (show 400 = clmp (s.1 + 4 * ((gM hp ho ln g) (nI k) s.1 s.2.1 s.2.2.2.2).1 - (s.1 - 20) / 20 - ((gM hp ho ln g) (nI k) s.1 s.2.1 s.2.2.2.2).2.1) from by first | exact (clmp_lo (by omega)).symm | exact (clmp_hi (by omega)).symm | exact (clmp_in (by omega) (by omega)).symm) ?_
                  refine g_run 16 rfl ?_
                  rw [show 20 - k = (20 - (k + 1)) + 1 by omega, mnP, if_neg (by omega)] at hE
                  rw [if_pos (by assumption), ek, nI_1] at hE
                  refine gG_hp (mg_grow2 (e2 := nI (k + 1)) (nI_1 k)) ?_
                  exact ih (k + 1) _ _ _ _ _ (fun _ => rfl) (by rw [show (nI (k + 1)).toInt = ((k + 1 : Nat) : Int) from nI_toInt (by omega)]; omega) (clmp_bd _) (by omega) hE (by omega)
              · refine g_run 3 rfl ?_
                refine gG_l3 (v2 := clmp (s.1 + 4 * ((gM hp ho ln g) (nI k) s.1 s.2.1 s.2.2.2.2).1 - (s.1 - 20) / 20 - ((gM hp ho ln g) (nI k) s.1 s.2.1 s.2.2.2.2).2.1)) (show 20 = clmp (s.1 + 4 * ((gM hp ho ln g) (nI k) s.1 s.2.1 s.2.2.2.2).1 - (s.1 - 20) / 20 - ((gM hp ho ln g) (nI k) s.1 s.2.1 s.2.2.2.2).2.1) from by first | exact (clmp_lo (by omega)).symm | exact (clmp_hi (by omega)).symm | exact (clmp_in (by omega) (by omega)).symm) ?_
                refine g_run 16 rfl ?_
                rw [show 20 - k = (20 - (k + 1)) + 1 by omega, mnP, if_neg (by omega)] at hE
                rw [if_pos (by assumption), ek, nI_1] at hE
                refine gG_hp (mg_grow2 (e2 := nI (k + 1)) (nI_1 k)) ?_
                exact ih (k + 1) _ _ _ _ _ (fun _ => rfl) (by rw [show (nI (k + 1)).toInt = ((k + 1 : Nat) : Int) from nI_toInt (by omega)]; omega) (clmp_bd _) (by omega) hE (by omega)
theorem c_X10_goes {ho : Nat} {ln : Nat → Nat} (hh : (hp.1 43 16).toInt = (ho : Int)) (ho1 : ho ≤ 1) (hn : 0 ≤ (hp.1 49 ho).toInt ∧ (hp.1 49 ho).toInt ≤ 16) (hL : ∀ k : Nat, (k : Int) < (hp.1 49 ho).toInt → okL hp ho (ln k) k) (hcv : ∀ i, i < 20 → 0 ≤ (hp.1 66 i).toInt ∧ (hp.1 66 i).toInt ≤ 400) {g : Int32} (h1 : ∀ kn pl : Nat → Int32, Q none (SH b xs) (MG hp kn pl (lossX (mnP (gM hp ho ln g) (hp.1 66) 20 0 s_0)) (mnP (gM hp ho ln g) (hp.1 66) 20 0 s_0))) : gC mX10_goes (d + 2) 0 0 [.ref 43, .int g] (SH b xs) hp Q := by
  refine g_enter okX10_goes (plainFor_of_name rfl) rfl ?_
  refine g_run 17 rfl ?_
  refine g_putZ rfl rfl rfl rfl (by decide) ?_
  refine g_run 3 rfl ?_
  refine gG_hp mg_start ?_
  exact lp_X10_goes hh ho1 hn hL hcv h1 21 0 s_0 _ _ _ _ (fun _ => rfl) (by decide) (by decide) (by omega) rfl (by omega)
end S31
