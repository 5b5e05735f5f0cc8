/-! blending in the reference -/
def gv (P : Nat → Int32) (j1 j2 : Nat) (x : Int32) : Nat → Int32 := va_up (va_up P j1 (P j1 - x)) j2 (va_up P j1 (P j1 - x) j2 + x)
def gvI (P : Nat → Int32) (bI tI : Int) (l : Nat) (x : Int32) : Nat → Int32 := gv P ((12 * bI) + (l : Int)).toNat ((12 * tI) + (l : Int)).toNat x
def mvM (n G : Int32) (bI tI : Int) (P : Nat → Int32) : Nat → (Nat → Int32)
  | 0 => P
  | k + 1 => gvI (mvM n G bI tI P k) bI tI k (qS n G (mvM n G bI tI P k ((12 * bI) + (k : Int)).toNat))
def exM (bI tI : Int) : Nat → (Nat → Int32) → (Nat → Int32) → (Nat → Int32) × (Nat → Int32)
  | 0, P, t => (P, t)
  | f + 1, P, t => exM bI tI f (gvI P bI tI (gm t 11) 1) (va_up t (gm t 11) (-1))
def clr (P : Nat → Int32) (zI : Int) : Nat → (Nat → Int32)
  | 0 => P
  | k + 1 => va_up (clr P zI k) ((12 * zI) + (k : Int)).toNat 0
def nbM (hp : hp_T) (dd : Int32) : hp_T := sI (sI (sI (sR hp 63 (clr (hp.1 63) (hp.1 43 30).toInt 12)) 64 (hp.1 43 30).toInt.toNat dd) 65 (hp.1 43 30).toInt.toNat (-1)) 43 30 (hp.1 43 30 + 1)
def gsM (hp : hp_T) (bI : Int) : Int32 := sumI (fun l => hp.1 63 ((12 * bI) + (l : Int)).toNat) 12
def mvE (n G : Int32) (bI tI : Int) (P t : Nat → Int32) : (Nat → Int32) × (Nat → Int32) := exM bI tI (lfq n (fun l => qS n G (mvM n G bI tI P l ((12 * bI) + (l : Int)).toNat)) 12).toInt.toNat (mvM n G bI tI P 12) (fT (fun l => rS n G (mvM n G bI tI P l ((12 * bI) + (l : Int)).toNat)) 12 t)
def mvF (hp : hp_T) (bI tI : Int) (n : Int32) : hp_T := sR (sR hp 63 (mvE n (gsM hp bI) bI tI (hp.1 63) (hp.1 68)).1) 68 (mvE n (gsM hp bI) bI tI (hp.1 63) (hp.1 68)).2
def dyM (told day : Nat → Int32) : Nat → Int32
  | 0 => 1000
  | k + 1 => if 0 < (told k).toInt ∧ (day k).toInt < (dyM told day k).toInt then day k else dyM told day k
theorem dyM_t {told day : Nat → Int32} {k : Nat} (h : 0 < (told k).toInt) (h2 : (day k).toInt < (dyM told day k).toInt) : day k = dyM told day (k + 1) := by rw [dyM, if_pos ⟨h, h2⟩]
theorem dyM_f {told day : Nat → Int32} {k : Nat} (h : (told k).toInt ≤ 0 ∨ (dyM told day k).toInt ≤ (day k).toInt) : dyM told day k = dyM told day (k + 1) := by rw [dyM, if_neg (by omega)]
def blM (h0 : hp_T) (zI : Int) : Nat → hp_T
  | 0 => h0
  | k + 1 => if 0 < ((blM h0 zI k).1 67 k).toInt then sI (mvF (blM h0 zI k) (k : Int) zI ((blM h0 zI k).1 67 k)) 67 k 0 else blM h0 zI k
theorem blM_t {h0 : hp_T} {zI : Int} {k : Nat} (h : 0 < ((blM h0 zI k).1 67 k).toInt) : blM h0 zI (k + 1) = sI (mvF (blM h0 zI k) (k : Int) zI ((blM h0 zI k).1 67 k)) 67 k 0 := by rw [blM, if_pos h]
theorem blM_f {h0 : hp_T} {zI : Int} {k : Nat} (h : ((blM h0 zI k).1 67 k).toInt ≤ 0) : blM h0 zI (k + 1) = blM h0 zI k := by rw [blM, if_neg (by omega)]
theorem gv_put {hp : hp_T} {j1 j2 : Nat} {x : Int32} : sI (sI hp 63 j1 (hp.1 63 j1 - x)) 63 j2 ((sI hp 63 j1 (hp.1 63 j1 - x)).1 63 j2 + x) = sR hp 63 (gv (hp.1 63) j1 j2 x) := by
  refine two_ext (fun q i => ?_) rfl
  simp only [sI, sR, gv]
  by_cases h1 : q = 63
  · subst h1; simp [va_up]
  · simp [va_up, h1]
theorem sR_put {hp : hp_T} {c j : Nat} {P : Nat → Int32} {x : Int32} : sI (sR hp c P) c j x = sR hp c (va_up P j x) := by
  refine two_ext (fun q i => ?_) rfl
  simp only [sI, sR]
  by_cases h1 : q = c
  · subst h1; simp [va_up]
  · simp [va_up, h1]
theorem sR_rid {hp : hp_T} {c : Nat} : sR hp c (hp.1 c) = hp := by
  refine two_ext (fun q i => ?_) rfl
  simp only [sR]
  by_cases h1 : q = c
  · subst h1; simp [va_up]
  · simp [va_up, h1]
theorem mv_put {hp : hp_T} {P t R : Nat → Int32} {j : Nat} {x : Int32} : sR (sI (sR (sR hp 63 P) 68 t) 68 j x) 63 R = sR (sR hp 63 R) 68 (va_up t j x) := by
  refine two_ext (fun q i => ?_) rfl
  simp only [sI, sR]
  by_cases h1 : q = 63
  · subst h1; simp [va_up]
  · by_cases h2 : q = 68
    · subst h2; simp [va_up]
    · simp [va_up, h1, h2]
theorem mv_put1 {hp : hp_T} {P t R : Nat → Int32} {j : Nat} {x : Int32} : sR (sI (sR (sR hp 63 P) 68 t) 68 j x) 63 R = sR (sR hp 63 R) 68 (va_up t j x) := mv_put
theorem mv_id {hp : hp_T} {f : Nat → Int32} : sR (sR hp 63 (hp.1 63)) 68 (fT f 0 (hp.1 68)) = hp := by
  refine two_ext (fun q i => ?_) rfl
  simp only [sR]
  by_cases h1 : q = 63
  · subst h1; simp [va_up]
  · by_cases h2 : q = 68
    · subst h2; simp [va_up, fT]
    · simp [va_up, h1, h2]
section S23
variable {d : Nat} {sh : sh_T} {hp : hp_T} {Q : Option Value → sh_T → hp_T → Prop} {b : Bool} {xs : sh_T}
theorem c_X10_gives {bb : Int32} {bbI : Int} {t : Int32} {tI : Int} {l : Int32} {lI : Int} {n : Int32} {nI : Int} (bbE : bb.toInt = bbI) (tE : t.toInt = tI) (lE : l.toInt = lI) (nE : n.toInt = nI) (hb : 0 ≤ bbI ∧ bbI < 60) (ht : 0 ≤ tI ∧ tI < 60) (hl : 0 ≤ lI ∧ lI < 12) (h1 : Q none (SH b xs) (sR hp 63 (gv (hp.1 63) ((12 * bbI) + lI).toNat ((12 * tI) + lI).toNat n))) : gC mX10_gives d 0 0 [.ref 43, .int bb, .int t, .int l, .int n] (SH b xs) hp Q := by
  refine g_enter okX10_gives (plainFor_of_name rfl) rfl ?_
  refine g_run 8 rfl ?_
  refine g_iald (j := ((12 * bbI) + lI).toNat) rfl rfl ((show _ = ((12 * bbI) + lI) from (ia_add2 (ia_mul2 (by decide) bbE (by omega) (by omega)) lE (by omega) (by omega))).trans (by omega)) (by omega) ?_
  refine g_run 2 rfl ?_
  refine g_iast (j := ((12 * bbI) + lI).toNat) rfl rfl ((show _ = ((12 * bbI) + lI) from (ia_add2 (ia_mul2 (by decide) bbE (by omega) (by omega)) lE (by omega) (by omega))).trans (by omega)) (by omega) ?_
  refine g_run 8 rfl ?_
  refine g_iald (j := ((12 * tI) + lI).toNat) rfl rfl ((show _ = ((12 * tI) + lI) from (ia_add2 (ia_mul2 (by decide) tE (by omega) (by omega)) lE (by omega) (by omega))).trans (by omega)) (by omega) ?_
  refine g_run 2 rfl ?_
  refine g_iast (j := ((12 * tI) + lI).toNat) rfl rfl ((show _ = ((12 * tI) + lI) from (ia_add2 (ia_mul2 (by decide) tE (by omega) (by omega)) lE (by omega) (by omega))).trans (by omega)) (by omega) ?_
  rw [gv_put]
  exact g_vret rfl rfl h1
theorem lp_X10_newBag  {dd : Int32} (ms : 0 ≤ (hp.1 43 30).toInt ∧ (hp.1 43 30).toInt < 60) (h1 : Q (some (.int (hp.1 43 30 + 1 - 1))) (SH b xs) (nbM hp dd)) : ∀ (f k : Nat) (i : Int32), i.toInt = (k : Int) → k ≤ 12 → 12 - k < f → gG mX10_newBag d 0 0 (zQ 0 0 Q) 0 0 (2, [.ref 43, .int dd, .int i], [], (SH b xs), (sR hp 63 (clr (hp.1 63) (hp.1 43 30).toInt k))) := by
  intro f
  induction f with
  | zero => intros; omega
  | succ f ih =>
    intro k i iE hk hf
    refine g_run 2 rfl ?_
    refine gj_ge (kx := (k : Int)) (kz := 12) rfl iE (by decide) (fun k1 => ?_) (fun k1 => ?_)
    · refine g_run 5 rfl ?_
      refine g_iast (j := ((hp.1 43 30).toInt).toNat) rfl rfl ((show _ = (hp.1 43 30).toInt from rfl).trans (by omega)) (by omega) ?_
      refine g_run 5 rfl ?_
      refine g_iast (j := ((hp.1 43 30).toInt).toNat) rfl rfl ((show _ = (hp.1 43 30).toInt from rfl).trans (by omega)) (by omega) ?_
      refine g_run 10 rfl ?_
      obtain rfl : k = 12 := by omega
      exact g_iret rfl rfl h1
    · refine g_run 9 rfl ?_
      refine g_iast (j := ((12 * (hp.1 43 30).toInt) + (k : Int)).toNat) rfl rfl ((show _ = ((12 * (hp.1 43 30).toInt) + (k : Int)) from (ia_add2 (ia_mul2 (by decide) rfl (by omega) (by omega)) iE (by omega) (by omega))).trans (by omega)) (by omega) ?_
      refine g_run 2 rfl ?_
      refine gG_hp (sR_put (c := 63)) ?_
      exact ih (k + 1) _ (inc1 iE (by omega)) (by omega) (by omega)
theorem c_X10_newBag {dd : Int32} {ddI : Int} (ddE : dd.toInt = ddI) (ms : 0 ≤ (hp.1 43 30).toInt ∧ (hp.1 43 30).toInt < 60) (h1 : Q (some (.int (hp.1 43 30 + 1 - 1))) (SH b xs) (nbM hp dd)) : gC mX10_newBag d 0 0 [.ref 43, .int dd] (SH b xs) hp Q := by
  refine g_enter okX10_newBag (plainFor_of_name rfl) rfl ?_
  refine g_run 2 rfl ?_
  refine gG_hp (sR_rid (c := 63)).symm ?_
  exact lp_X10_newBag ms h1 13 0 0 (by decide) (by omega) (by omega)
theorem lp3_X10_moves  {bn n t0 G left : Int32} {P t : Nat → Int32} {w8 : Value} (hx : ∀ i m : Int32, m.toInt = (gm t 11 : Int) → gG mX10_moves (d + 1) 0 0 (zQ 0 0 Q) 0 0 (135, [.ref 43, .int bn, .int n, .int t0, .int G, .int left, .int m, .int i, w8], [], (SH b xs), (sR (sR hp 63 P) 68 t))) : ∀ (f k : Nat) (i m : Int32), i.toInt = ((k + 1 : Nat) : Int) → m.toInt = (gm t k : Int) → k ≤ 11 → 11 - k < f → gG mX10_moves (d + 1) 0 0 (zQ 0 0 Q) 0 0 (96, [.ref 43, .int bn, .int n, .int t0, .int G, .int left, .int m, .int i, w8], [], (SH b xs), (sR (sR hp 63 P) 68 t)) := by
  intro f
  induction f with
  | zero => intros; omega
  | succ f ih =>
    intro k i m iE mE hk hf
    have hgl := gm_le t k
    refine g_run 2 rfl ?_
    refine gj_ge (kx := ((k + 1 : Nat) : Int)) (kz := 12) rfl iE (by decide) (fun k1 => ?_) (fun k1 => ?_)
    · obtain rfl : k = 11 := by omega
      exact hx _ _ mE
    · refine g_run 3 rfl ?_
      refine g_iald (j := ((k + 1 : Nat) : Int).toNat) rfl rfl ((show _ = ((k + 1 : Nat) : Int) from iE).trans (by omega)) (by omega) ?_
      refine g_run 3 rfl ?_
      refine g_iald (j := ((gm t k : Nat) : Int).toNat) rfl rfl ((show _ = ((gm t k : Nat) : Int) from mE).trans (by omega)) (by omega) ?_
      refine gj_le (kx := ((sR (sR hp 63 P) 68 t).1 68 (((k + 1 : Nat) : Int).toNat)).toInt) (kz := ((sR (sR hp 63 P) 68 t).1 68 (((gm t k : Nat) : Int).toNat)).toInt) rfl rfl rfl (fun k2 => ?_) (fun k2 => ?_)
      · refine g_run 4 rfl ?_
        exact ih (k + 1) _ _ (inc1 iE (by omega)) (by rw [gm_f (by simpa [sR, va_up] using ‹_›)]; exact mE) (by omega) (by omega)
      · refine g_run 5 rfl ?_
        exact ih (k + 1) _ _ (inc1 iE (by omega)) (by rw [gm_t (by simpa [sR, va_up] using ‹_›)]; exact iE) (by omega) (by omega)
theorem lp2_X10_moves  {bn n t0 G : Int32} {bI tI : Int} {E0 : (Nat → Int32) × (Nat → Int32)} (bE : bn.toInt = bI) (tE : t0.toInt = tI) (hb : 0 ≤ bI ∧ bI < 60) (ht : 0 ≤ tI ∧ tI < 60) (h1 : Q none (SH b xs) (sR (sR hp 63 E0.1) 68 E0.2)) : ∀ (f : Nat) (left : Int32) (P t : Nat → Int32) (w6 w7 w8 : Value), exM bI tI left.toInt.toNat P t = E0 → left.toInt.toNat < f → gG mX10_moves (d + 1) 0 0 (zQ 0 0 Q) 0 0 (85, [.ref 43, .int bn, .int n, .int t0, .int G, .int left, w6, w7, w8], [], (SH b xs), (sR (sR hp 63 P) 68 t)) := by
  intro f
  induction f with
  | zero => intros; omega
  | succ f ih =>
    intro left P t w6 w7 w8 he hf
    have hgl := gm_le t 11
    refine g_run 1 rfl ?_
    refine gz_le (kx := left.toInt) rfl rfl (fun k1 => ?_) (fun k1 => ?_)
    · rw [show left.toInt.toNat = 0 by omega] at he
      subst he
      exact g_vret rfl rfl h1
    · refine g_run 4 rfl ?_
      refine lp3_X10_moves (hp := hp) (fun i m mE => ?_) 12 0 1 0 (by decide) (show (0 : Int32).toInt = ((0 : Nat) : Int) from by decide) (by omega) (by omega)
      refine g_run 4 rfl ?_
      refine g_iast (j := ((gm t 11 : Nat) : Int).toNat) rfl rfl ((show _ = ((gm t 11 : Nat) : Int) from mE).trans (by omega)) (by omega) ?_
      refine g_run 5 rfl ?_
      refine g_callV0 rfl LX10_295 rfl rfl rfl rfl ?_
      refine c_X10_gives (bbI := bI) (tI := tI) (lI := ((gm t 11 : Nat) : Int)) (nI := 1) bE tE mE (by decide) hb ht (by omega) ?_
      refine g_run 2 rfl ?_
      refine gG_hp (mv_put (hp := hp) (P := P) (t := t) (j := gm t 11)) ?_
      obtain ⟨u, hu⟩ : ∃ u, left.toInt.toNat = u + 1 := ⟨left.toInt.toNat - 1, by omega⟩
      have hl : (left + -1).toInt.toNat = u := by rw [ia_add2 (y := -1) rfl (by decide) (by omega) (by have := ia_bd left; omega)]; omega
      rw [hu, exM] at he
      exact ih _ _ _ _ _ _ (by rw [hl]; exact he) (by rw [hl]; rw [hu] at hf; exact Nat.lt_of_succ_lt_succ hf)
theorem lp1_X10_moves  {bn n t0 G : Int32} {bI tI : Int} (bE : bn.toInt = bI) (tE : t0.toInt = tI) (hb : 0 ≤ bI ∧ bI < 60) (ht : 0 ≤ tI ∧ tI < 60) (hG : 1 ≤ G.toInt) (h1 : Q none (SH b xs) (sR (sR hp 63 (exM bI tI (lfq n (fun l => qS n G (mvM n G bI tI (hp.1 63) l ((12 * bI) + (l : Int)).toNat)) 12).toInt.toNat (mvM n G bI tI (hp.1 63) 12) (fT (fun l => rS n G (mvM n G bI tI (hp.1 63) l ((12 * bI) + (l : Int)).toNat)) 12 (hp.1 68))).1) 68 (exM bI tI (lfq n (fun l => qS n G (mvM n G bI tI (hp.1 63) l ((12 * bI) + (l : Int)).toNat)) 12).toInt.toNat (mvM n G bI tI (hp.1 63) 12) (fT (fun l => rS n G (mvM n G bI tI (hp.1 63) l ((12 * bI) + (l : Int)).toNat)) 12 (hp.1 68))).2)) : ∀ (f k : Nat) (i : Int32) (w7 w8 : Value), i.toInt = (k : Int) → k ≤ 12 → 12 - k < f → gG mX10_moves (d + 1) 0 0 (zQ 0 0 Q) 0 0 (13, [.ref 43, .int bn, .int n, .int t0, .int G, .int (lfq n (fun l => qS n G (mvM n G bI tI (hp.1 63) l ((12 * bI) + (l : Int)).toNat)) k), .int i, w7, w8], [], (SH b xs), (sR (sR hp 63 (mvM n G bI tI (hp.1 63) k)) 68 (fT (fun l => rS n G (mvM n G bI tI (hp.1 63) l ((12 * bI) + (l : Int)).toNat)) k (hp.1 68)))) := by
  intro f
  induction f with
  | zero => intros; omega
  | succ f ih =>
    intro k i w7 w8 iE hk hf
    have hz : ¬ G.toInt64 = 0 := fun z => by have e := congrArg Int64.toInt z; rw [t64 rfl] at e; have e0 : (0 : Int64).toInt = 0 := (by decide); omega
    refine g_run 2 rfl ?_
    refine gj_ge (kx := (k : Int)) (kz := 12) rfl iE (by decide) (fun k1 => ?_) (fun k1 => ?_)
    · obtain rfl : k = 12 := by omega
      exact lp2_X10_moves (hp := hp) bE tE hb ht h1 _ _ _ _ _ _ _ rfl (Nat.lt_succ_self _)
    · refine g_run 9 rfl ?_
      refine g_iald (j := ((12 * bI) + (k : Int)).toNat) rfl rfl ((show _ = ((12 * bI) + (k : Int)) from (ia_add2 (ia_mul2 (by decide) bE (by omega) (by omega)) iE (by omega) (by omega))).trans (by omega)) (by omega) ?_
      refine g_run 9 rfl ?_
      refine g_lrem rfl (by first | assumption | decide) ?_
      refine g_run 1 rfl ?_
      refine g_iast (j := k) rfl rfl ((show _ = (k : Int) from iE).trans (by omega)) (by omega) ?_
      refine g_run 7 rfl ?_
      refine g_ldiv rfl (by first | assumption | decide) ?_
      refine g_run 1 rfl ?_
      refine g_callV0 rfl LX10_295 rfl rfl rfl rfl ?_
      refine c_X10_gives (bbI := bI) (tI := tI) (lI := (k : Int)) bE tE iE rfl hb ht (by omega) ?_
      refine g_run 4 rfl ?_
      refine g_ldiv rfl (by first | assumption | decide) ?_
      refine g_run 5 rfl ?_
      refine gG_hp (mv_put1 (hp := hp) (P := (mvM n G bI tI (hp.1 63) k)) (t := fT (fun l => rS n G (mvM n G bI tI (hp.1 63) l ((12 * bI) + (l : Int)).toNat)) k (hp.1 68)) (j := k)) ?_
      refine gG_hp (congrArg (fun t => sR (sR hp 63 (mvM n G bI tI (hp.1 63) (k + 1))) 68 t) (fT_s (f := (fun l => rS n G (mvM n G bI tI (hp.1 63) l ((12 * bI) + (l : Int)).toNat))) (k := k) (t := hp.1 68))) ?_
      exact ih (k + 1) _ _ _ (inc1 iE (by omega)) (by omega) (by omega)
theorem c_X10_moves {bn : Int32} {bnI : Int} {n : Int32} {nI : Int} {t : Int32} {tI : Int} (bnE : bn.toInt = bnI) (nE : n.toInt = nI) (tE : t.toInt = tI) (hb : 0 ≤ bnI ∧ bnI < 60) (ht : 0 ≤ tI ∧ tI < 60) (hg : 1 ≤ (sumI (fun l => hp.1 63 ((12 * bnI) + (l : Int)).toNat) 12).toInt) (h1 : Q none (SH b xs) (mvF hp bnI tI n)) : gC mX10_moves (d + 1) 0 0 [.ref 43, .int bn, .int n, .int t] (SH b xs) hp Q := by
  refine g_enter okX10_moves (plainFor_of_name rfl) rfl ?_
  refine g_run 2 rfl ?_
  refine g_callV0 rfl LX10_289 rfl rfl rfl rfl ?_
  refine c_X10_gramsIn (nI := bnI) bnE (by omega) ?_
  refine g_run 5 rfl ?_
  refine gG_hp (mv_id (hp := hp) (f := (fun l => rS n (sumI (fun l => hp.1 63 ((12 * bnI) + (l : Int)).toNat) 12) (mvM n (sumI (fun l => hp.1 63 ((12 * bnI) + (l : Int)).toNat) 12) bnI tI (hp.1 63) l ((12 * bnI) + (l : Int)).toNat)))).symm ?_
  exact lp1_X10_moves (hp := hp) (G := (sumI (fun l => hp.1 63 ((12 * bnI) + (l : Int)).toNat) 12)) bnE tE hb ht hg h1 13 0 0 _ _ (by decide) (by omega) (by omega)
theorem lp1_X10_blend  (ms : 0 ≤ (hp.1 43 30).toInt ∧ (hp.1 43 30).toInt < 60) (hx : ∀ i : Int32, gG mX10_blend (d + 2) 0 0 (zQ 0 0 Q) 0 0 (73, [.ref 43, .int (dyM (hp.1 67) (hp.1 64) (hp.1 43 30).toInt.toNat), .int i, .retAddr 0], [], (SH b xs), hp)) : ∀ (f k : Nat) (i : Int32), i.toInt = (k : Int) → (k : Int) ≤ (hp.1 43 30).toInt → (hp.1 43 30).toInt.toNat - k < f → gG mX10_blend (d + 2) 0 0 (zQ 0 0 Q) 0 0 (29, [.ref 43, .int (dyM (hp.1 67) (hp.1 64) k), .int i, .retAddr 0], [], (SH b xs), hp) := by
  intro f
  induction f with
  | zero => intros; omega
  | succ f ih =>
    intro k i iE hk hf
    refine g_run 3 rfl ?_
    refine gj_ge (kx := (k : Int)) (kz := (hp.1 43 30).toInt) rfl iE rfl (fun k1 => ?_) (fun k1 => ?_)
    · have e : k = (hp.1 43 30).toInt.toNat := by omega
      subst e
      exact hx _
    · refine g_run 3 rfl ?_
      refine g_iald (j := k) rfl rfl ((show _ = (k : Int) from iE).trans (by omega)) (by omega) ?_
      refine gz_le (kx := (hp.1 67 k).toInt) rfl rfl (fun k2 => ?_) (fun k2 => ?_)
      · refine g_run 4 rfl ?_
        rw [dyM_f (told := hp.1 67) (day := hp.1 64) (k := k) (by first | exact Or.inl (by assumption) | exact Or.inr (by assumption))]
        exact ih (k + 1) _ (inc1 iE (by omega)) (by omega) (by omega)
      · refine g_run 3 rfl ?_
        refine g_iald (j := k) rfl rfl ((show _ = (k : Int) from iE).trans (by omega)) (by omega) ?_
        refine g_run 1 rfl ?_
        refine gj_ge (kx := (hp.1 64 k).toInt) (kz := (dyM (hp.1 67) (hp.1 64) k).toInt) rfl rfl rfl (fun k3 => ?_) (fun k3 => ?_)
        · refine g_run 4 rfl ?_
          rw [dyM_f (told := hp.1 67) (day := hp.1 64) (k := k) (by first | exact Or.inl (by assumption) | exact Or.inr (by assumption))]
          exact ih (k + 1) _ (inc1 iE (by omega)) (by omega) (by omega)
        · refine g_run 3 rfl ?_
          refine g_iald (j := k) rfl rfl ((show _ = (k : Int) from iE).trans (by omega)) (by omega) ?_
          refine g_run 4 rfl ?_
          rw [dyM_t (told := hp.1 67) (day := hp.1 64) (k := k) (by assumption) (by assumption)]
          exact ih (k + 1) _ (inc1 iE (by omega)) (by omega) (by omega)
theorem lp2_X10_blend  {h0 : hp_T} {z dd : Int32} {zI : Int} (zE : z.toInt = zI) (hz : 0 ≤ zI ∧ zI < 60) (hg : ∀ k : Nat, (k : Int) < zI → 0 < ((blM h0 zI k).1 67 k).toInt → 1 ≤ (sumI (fun l => (blM h0 zI k).1 63 ((12 * (k : Int)) + (l : Int)).toNat) 12).toInt) (h1 : Q (some (.int z)) (SH b xs) (sI (blM h0 zI zI.toNat) 43 44 0)) : ∀ (f k : Nat) (i : Int32), i.toInt = (k : Int) → (k : Int) ≤ zI → zI.toNat - k < f → gG mX10_blend (d + 2) 0 0 (zQ 0 0 Q) 0 0 (81, [.ref 43, .int dd, .int z, .int i], [], (SH b xs), (blM h0 zI k)) := by
  intro f
  induction f with
  | zero => intros; omega
  | succ f ih =>
    intro k i iE hk hf
    refine g_run 2 rfl ?_
    refine gj_ge (kx := (k : Int)) (kz := zI) rfl iE zE (fun k1 => ?_) (fun k1 => ?_)
    · refine g_run 4 rfl ?_
      obtain rfl : zI = (k : Int) := by omega
      rw [Int.toNat_natCast] at h1
      exact g_iret rfl rfl h1
    · refine g_run 3 rfl ?_
      refine g_iald (j := k) rfl rfl ((show _ = (k : Int) from iE).trans (by omega)) (by omega) ?_
      refine gz_le (kx := ((blM h0 zI k).1 67 k).toInt) rfl rfl (fun k2 => ?_) (fun k2 => ?_)
      · refine g_run 2 rfl ?_
        refine gG_hp (blM_f (h0 := h0) (zI := zI) (k := k) (by assumption)).symm ?_
        exact ih (k + 1) _ (inc1 iE (by omega)) (by omega) (by omega)
      · refine g_run 5 rfl ?_
        refine g_iald (j := k) rfl rfl ((show _ = (k : Int) from iE).trans (by omega)) (by omega) ?_
        refine g_run 1 rfl ?_
        refine g_callV0 rfl LX10_299 rfl rfl rfl rfl ?_
        refine c_X10_moves (bnI := (k : Int)) (tI := zI) iE rfl zE (by omega) (by omega) (hg k (by omega) (by assumption)) ?_
        refine g_run 4 rfl ?_
        refine g_iast (j := k) rfl rfl ((show _ = (k : Int) from iE).trans (by omega)) (by omega) ?_
        refine g_run 2 rfl ?_
        refine gG_hp (blM_t (h0 := h0) (zI := zI) (k := k) (by assumption)).symm ?_
        exact ih (k + 1) _ (inc1 iE (by omega)) (by omega) (by omega)
theorem c_X10_blend (ms : 0 ≤ (hp.1 43 30).toInt ∧ (hp.1 43 30).toInt ≤ 60) (hg : (hp.1 43 30).toInt < 60 → ∀ k : Nat, (k : Int) < (hp.1 43 30).toInt → 0 < ((blM (nbM (sI hp 43 0 0) (dyM (hp.1 67) (hp.1 64) (hp.1 43 30).toInt.toNat)) (hp.1 43 30).toInt k).1 67 k).toInt → 1 ≤ (sumI (fun l => (blM (nbM (sI hp 43 0 0) (dyM (hp.1 67) (hp.1 64) (hp.1 43 30).toInt.toNat)) (hp.1 43 30).toInt k).1 63 ((12 * (k : Int)) + (l : Int)).toNat) 12).toInt) (h1 : (hp.1 43 44).toInt ≠ 0 ∧ (hp.1 43 30).toInt < 60 → Q (some (.int (hp.1 43 30 + 1 - 1))) (SH b xs) (sI (blM (nbM (sI hp 43 0 0) (dyM (hp.1 67) (hp.1 64) (hp.1 43 30).toInt.toNat)) (hp.1 43 30).toInt (hp.1 43 30).toInt.toNat) 43 44 0)) (h0 : (hp.1 43 44).toInt = 0 ∨ (hp.1 43 30).toInt = 60 → Q (some (.int (-1))) (SH b xs) (sI hp 43 0 0)) : gC mX10_blend (d + 2) 0 0 [.ref 43] (SH b xs) hp Q := by
  refine g_enter okX10_blend (plainFor_of_name rfl) rfl ?_
  refine g_run 5 rfl ?_
  refine gz_eq (kx := (hp.1 43 44).toInt) rfl rfl (fun k1 => ?_) (fun k1 => ?_)
  · refine g_run 1 rfl ?_
    exact g_iret rfl rfl (by first | exact h1 (by omega) | exact h0 (by omega))
  · refine g_run 3 rfl ?_
    refine gj_ne (kx := (hp.1 43 30).toInt) (kz := 60) rfl rfl (by decide) (fun k2 => ?_) (fun k2 => ?_)
    · refine g_run 4 rfl ?_
      refine lp1_X10_blend (hp := (sI hp 43 0 0)) (show 0 ≤ (hp.1 43 30).toInt ∧ (hp.1 43 30).toInt < 60 from by omega) (fun i => ?_) 61 0 0 (by decide) (show ((0 : Nat) : Int) ≤ (hp.1 43 30).toInt from by omega) (show (hp.1 43 30).toInt.toNat - 0 < 61 from by omega)
      refine g_run 2 rfl ?_
      refine g_callV0 rfl LX10_283 rfl rfl rfl rfl ?_
      refine c_X10_newBag rfl (show 0 ≤ (hp.1 43 30).toInt ∧ (hp.1 43 30).toInt < 60 from by omega) ?_
      refine g_run 3 rfl ?_
      exact lp2_X10_blend (h0 := (nbM (sI hp 43 0 0) (dyM (hp.1 67) (hp.1 64) (hp.1 43 30).toInt.toNat))) (zI := (hp.1 43 30).toInt) (by show (hp.1 43 30 + 1 - 1).toInt = _; rw [Int32.add_sub_cancel]) (by omega) (hg (by omega)) (h1 (by omega)) 61 0 0 (by decide) (by omega) (by omega)
    · refine g_run 1 rfl ?_
      exact g_iret rfl rfl (by first | exact h1 (by omega) | exact h0 (by omega))
end S23
