/-! the best blend in the class: gathering, tastes -/
section GAL
variable {y : mt_T} {d mc ms : Nat} {Q : zt} {cells slots : Nat} {pc : Nat} {lo st : List Value} {sh : sh_T} {hp : hp_T} {ia : Instr} {nx a b j0 : Nat} {v0 : Int32} {w0 : Int64}
theorem g_alen {c n : Nat} (h : lk pc y.2.2.2.2 = some (pc, ia, .arraylength, nx, a, b, v0, w0, j0)) (hc : nth sh c = some (.inl (.int, n))) (kk : gG y d mc ms Q cells slots (nx, lo, .int (nI n) :: st, sh, hp)) : gG y d mc ms Q cells slots (pc, lo, .ref c :: st, sh, hp) := by
  intro ok
  obtain ⟨hd, rfl⟩ := dflt_of rfl (by decide) rfl ok h
  exact g1_alen hd (by rw [← nth_eq]; exact hc) (Or.inl rfl) kk ok
end GAL
def pop1 (n : Int32) : Int32 := n - ((n.toUInt32 >>> ((1 : Int32).toUInt32 &&& Int32.toUInt32 31)).toInt32 &&& 1431655765)
def pop2 (n : Int32) : Int32 := (n &&& 858993459) + ((n.toUInt32 >>> ((2 : Int32).toUInt32 &&& Int32.toUInt32 31)).toInt32 &&& 858993459)
def pop3 (n : Int32) : Int32 := (n + (n.toUInt32 >>> ((4 : Int32).toUInt32 &&& Int32.toUInt32 31)).toInt32) &&& 252645135
def pop4 (n : Int32) : Int32 := n + (n.toUInt32 >>> ((8 : Int32).toUInt32 &&& Int32.toUInt32 31)).toInt32
def pop5 (n : Int32) : Int32 := n + (n.toUInt32 >>> ((16 : Int32).toUInt32 &&& Int32.toUInt32 31)).toInt32
def popX (n : Int32) : Int32 := pop5 (pop4 (pop3 (pop2 (pop1 n)))) &&& 63
def btX (se : Int32) (k : Nat) : Bool := decide (((se >>> (nI k &&& 31)) &&& 1).toInt = 1)
def moX (L : Nat → Int32) (t : Int32) (k : Nat) : Int32 := minI 10 (L k / t)
/-- which lots are in the set (the first six), and how many tenths of each there are -/
def gaS (bt : Nat → Bool) (mo : Nat → Int32) (z : (Nat → Int32) × (Nat → Int32)) : Nat → Nat × (Nat → Int32) × (Nat → Int32)
  | 0 => (0, z)
  | k + 1 => if bt k = true ∧ (gaS bt mo z k).1 < 6 then ((gaS bt mo z k).1 + 1, va_up (gaS bt mo z k).2.1 (gaS bt mo z k).1 (nI k), va_up (gaS bt mo z k).2.2 (gaS bt mo z k).1 (mo k)) else gaS bt mo z k
theorem gaS_le {bt : Nat → Bool} {mo : Nat → Int32} {z : (Nat → Int32) × (Nat → Int32)} : ∀ k : Nat, (gaS bt mo z k).1 ≤ 6
  | 0 => by rw [gaS]; omega
  | k + 1 => by
    rw [gaS]
    split
    · dsimp only; omega
    · exact gaS_le k
def GX (hp : hp_T) (z : Nat × (Nat → Int32) × (Nat → Int32)) : hp_T := sI (sR (sR hp 32 z.2.1) 33 z.2.2) 28 4 (nI z.1)
theorem ga_put {hp : hp_T} {z : Nat × (Nat → Int32) × (Nat → Int32)} {a b : Int32} : sI (sI (sI (GX hp z) 32 z.1 a) 33 z.1 b) 28 4 (nI z.1 + 1) = GX hp (z.1 + 1, va_up z.2.1 z.1 a, va_up z.2.2 z.1 b) := by
  rw [nI_1]
  refine two_ext (fun c i => ?_) rfl
  by_cases h1 : c = 28
  · subst h1
    by_cases hi : i = 4 <;> simp [GX, sI, sR, va_up, hi]
  · by_cases h2 : c = 32
    · subst h2; simp [GX, sI, sR, va_up]
    · by_cases h3 : c = 33
      · subst h3; simp [GX, sI, sR, va_up]
      · simp [GX, sI, sR, va_up, h1, h2, h3]
theorem ga_0 {hp : hp_T} : GX hp (0, hp.1 32, hp.1 33) = sI hp 28 4 0 := by
  refine two_ext (fun c i => ?_) rfl
  by_cases h1 : c = 28
  · subst h1
    by_cases hi : i = 4 <;> simp [GX, sI, sR, va_up, hi, nI_0]
  · by_cases h2 : c = 32
    · subst h2; simp [GX, sI, sR, va_up]
    · by_cases h3 : c = 33
      · subst h3; simp [GX, sI, sR, va_up]
      · simp [GX, sI, sR, va_up, h1, h2, h3]
section S34
variable {d : Nat} {sh : sh_T} {hp : hp_T} {Q : Option Value → sh_T → hp_T → Prop} {b : Bool} {xs : sh_T}
theorem lp_fill {sh : sh_T} {c n : Nat} {v : Int32} (hc : nth sh c = some (.inl (.int, n))) (hn : n < 2147483648) (h1 : Q none sh (sR hp c (fT (fun _ => v) n (hp.1 c)))) : ∀ (f k : Nat) (i : Int32), i.toInt = (k : Int) → k ≤ n → n - k < f → gG mJ7_fill_53178 d 0 0 (zQ 0 0 Q) 0 0 (5, [.ref c, .int v, .int i, .int (nI n)], [], sh, sR hp c (fT (fun _ => v) k (hp.1 c))) := by
  intro f
  induction f with
  | zero => intros; omega
  | succ f ih =>
    intro k i iE hk hf
    refine g_run 2 rfl ?_
    refine gj_ge (kx := (k : Int)) (kz := (n : Int)) rfl iE (nI_toInt hn) (fun k1 => ?_) (fun k1 => ?_)
    · obtain rfl : k = n := by omega
      exact g_vret rfl rfl h1
    · refine g_run 3 rfl ?_
      refine g_iast (j := k) rfl hc iE (by omega) ?_
      refine g_run 2 rfl ?_
      refine gG_hp (h2 := sR hp c (fT (fun _ => v) (k + 1) (hp.1 c))) (by rw [sR_put]; exact congrArg (sR hp c) (fT_s (f := fun _ => v))) ?_
      exact ih (k + 1) _ (inc1 iE (by omega)) (by omega) (by omega)
theorem c_fill {sh : sh_T} {c n : Nat} {v : Int32} (hc : nth sh c = some (.inl (.int, n))) (hn : n < 2147483648) (h1 : Q none sh (sR hp c (fT (fun _ => v) n (hp.1 c)))) : gC mJ7_fill_53178 d 0 0 [.ref c, .int v] sh hp Q := by
  refine g_enter okJ7_fill_53178 (by decide +kernel) rfl ?_
  refine g_run 3 rfl ?_
  refine g_alen rfl hc ?_
  refine g_run 1 rfl ?_
  refine gG_hp (h2 := sR hp c (fT (fun _ => v) 0 (hp.1 c))) (by rw [show fT (fun _ => v) 0 (hp.1 c) = hp.1 c from by funext i; simp [fT], sR_rid]) ?_
  exact lp_fill hc hn h1 (n + 1) 0 0 (by decide) (by omega) (by omega)
theorem c_J6_bitCount_0f7a4 {n : Int32} {nI : Int} (nE : n.toInt = nI) (h1 : Q (some (.int (popX n))) sh hp) : gC mJ6_bitCount_0f7a4 d 0 0 [.int n] sh hp Q := by
  refine g_enter okJ6_bitCount_0f7a4 (by decide +kernel) rfl ?_
  refine g_run 41 rfl ?_
  exact g_iret rfl rfl h1
theorem lp_X1_gather  (hs1 : 0 ≤ (hp.1 1 0).toInt ∧ (hp.1 1 0).toInt ≤ 12) {se t : Int32} {tI : Int} (tE : t.toInt = tI) (ht : 1 ≤ tI) (h1 : Q none (SH b xs) (GX hp (gaS (btX se) (moX (hp.1 2) t) (hp.1 32, hp.1 33) (hp.1 1 0).toInt.toNat))) : ∀ (f k : Nat) (i : Int32), i.toInt = (k : Int) → (k : Int) ≤ (hp.1 1 0).toInt → (hp.1 1 0).toInt.toNat - k < f → gG mX1_gather (d + 1) 0 0 (zQ 0 0 Q) 0 0 (8, [.ref 28, .ref 1, .int se, .int t, .int i], [], (SH b xs), (GX hp (gaS (btX se) (moX (hp.1 2) t) (hp.1 32, hp.1 33) k))) := by
  intro f
  induction f with
  | zero => intros; omega
  | succ f ih =>
    intro k i iE hk hf
    obtain rfl : i = nI k := eq_nI iE (by omega)
    have hz6 := gaS_le (bt := btX se) (mo := moX (hp.1 2) t) (z := (hp.1 32, hp.1 33)) k
    refine g_run 3 rfl ?_
    refine gj_ge (kx := (k : Int)) (kz := (hp.1 1 0).toInt) rfl iE rfl (fun k1 => ?_) (fun k1 => ?_)
    · have e9 : k = (hp.1 1 0).toInt.toNat := by omega
      rw [← e9] at h1
      exact g_vret rfl rfl h1
    · refine g_run 6 rfl ?_
      refine gj_ne (kx := ((se >>> ((nI k) &&& 31)) &&& 1).toInt) (kz := 1) rfl rfl (by decide) (fun k2 => ?_) (fun k2 => ?_)
      · refine g_run 2 rfl ?_
        refine gG_hp (h2 := GX hp (gaS (btX se) (moX (hp.1 2) t) (hp.1 32, hp.1 33) (k + 1))) (by rw [gaS, if_neg (by simp only [btX, decide_eq_true_eq]; omega)]) ?_
        exact ih (k + 1) _ (inc1 iE (by omega)) (by omega) (by omega)
      · refine g_run 3 rfl ?_
        refine gj_ge (kx := (((gaS (btX se) (moX (hp.1 2) t) (hp.1 32, hp.1 33) k).1 : Nat) : Int)) (kz := 6) rfl (nI_toInt (by omega)) (by decide) (fun k3 => ?_) (fun k3 => ?_)
        · refine g_run 2 rfl ?_
          refine gG_hp (h2 := GX hp (gaS (btX se) (moX (hp.1 2) t) (hp.1 32, hp.1 33) (k + 1))) (by rw [gaS, if_neg (by simp only [btX, decide_eq_true_eq]; omega)]) ?_
          exact ih (k + 1) _ (inc1 iE (by omega)) (by omega) (by omega)
        · refine g_run 5 rfl ?_
          refine g_iast (j := (((gaS (btX se) (moX (hp.1 2) t) (hp.1 32, hp.1 33) k).1 : Nat) : Int).toNat) rfl rfl ((show _ = (((gaS (btX se) (moX (hp.1 2) t) (hp.1 32, hp.1 33) k).1 : Nat) : Int) from (nI_toInt (by omega))).trans (by omega)) (by omega) ?_
          refine g_run 5 rfl ?_
          refine gz_le (kx := tI) rfl tE (fun k4 => ?_) (fun k4 => ?_)
          · refine g_run 1 rfl ?_
            refine g_iast (j := (((gaS (btX se) (moX (hp.1 2) t) (hp.1 32, hp.1 33) k).1 : Nat) : Int).toNat) rfl rfl ((show _ = (((gaS (btX se) (moX (hp.1 2) t) (hp.1 32, hp.1 33) k).1 : Nat) : Int) from (nI_toInt (by omega))).trans (by omega)) (by omega) ?_
            refine g_run 8 rfl ?_
            first | (exfalso; omega) | (refine gG_hp (h2 := GX hp (gaS (btX se) (moX (hp.1 2) t) (hp.1 32, hp.1 33) (k + 1))) (by rw [gaS, if_pos ⟨by simp only [btX, decide_eq_true_eq]; assumption, by omega⟩]; exact ga_put) ?_; exact ih (k + 1) _ (inc1 iE (by omega)) (by omega) (by omega))
          · refine g_run 4 rfl ?_
            refine g_iald (j := k) rfl rfl ((show _ = (k : Int) from iE).trans (by omega)) (by omega) ?_
            refine g_run 1 rfl ?_
            refine g_idiv rfl (by first | decide | (intro q; rw [ia_eq] at q; simp at q; omega)) ?_
            refine g_callS0 rfl LX1_80 rfl rfl ?_
            refine c_min ?_
            refine g_run 1 rfl ?_
            refine g_iast (j := (((gaS (btX se) (moX (hp.1 2) t) (hp.1 32, hp.1 33) k).1 : Nat) : Int).toNat) rfl rfl ((show _ = (((gaS (btX se) (moX (hp.1 2) t) (hp.1 32, hp.1 33) k).1 : Nat) : Int) from (nI_toInt (by omega))).trans (by omega)) (by omega) ?_
            refine g_run 8 rfl ?_
            first | (exfalso; omega) | (refine gG_hp (h2 := GX hp (gaS (btX se) (moX (hp.1 2) t) (hp.1 32, hp.1 33) (k + 1))) (by rw [gaS, if_pos ⟨by simp only [btX, decide_eq_true_eq]; assumption, by omega⟩]; exact ga_put) ?_; exact ih (k + 1) _ (inc1 iE (by omega)) (by omega) (by omega))
theorem c_X1_gather (hs1 : 0 ≤ (hp.1 1 0).toInt ∧ (hp.1 1 0).toInt ≤ 12) {se t : Int32} {tI : Int} (tE : t.toInt = tI) (ht : 1 ≤ tI) (h1 : Q none (SH b xs) (GX hp (gaS (btX se) (moX (hp.1 2) t) (hp.1 32, hp.1 33) (hp.1 1 0).toInt.toNat))) : gC mX1_gather (d + 1) 0 0 [.ref 28, .ref 1, .int se, .int t] (SH b xs) hp Q := by
  refine g_enter okX1_gather (plainFor_of_name rfl) rfl ?_
  refine g_run 5 rfl ?_
  refine gG_hp ga_0.symm ?_
  exact lp_X1_gather hs1 tE ht h1 13 0 0 (by decide) (by omega) (by omega)
theorem lp_X1_tf  {M : Nat} (hM : (hp.1 28 4).toInt = (M : Int)) (hM6 : M ≤ 6) (hmb : ∀ i, i < M → 0 ≤ (hp.1 32 i).toInt ∧ (hp.1 32 i).toInt < 12) {t : Nat} {ti : Int32} (tE : ti.toInt = (t : Int)) (ht : t < 3) (kk : ∀ i4 : Int32, gG mX1_tastesFit (d + 1) 0 0 (zQ 0 0 Q) 0 0 (54, [.ref 28, .ref 1, .int ti, .int (sumI (fun i => hp.1 34 i * hp.1 4 (((hp.1 32 i).toInt * 3) + (t : Int)).toNat) M), .int i4], [], (SH b xs), hp)) : ∀ (f k : Nat) (i : Int32), i.toInt = (k : Int) → k ≤ M → M - k < f → gG mX1_tastesFit (d + 1) 0 0 (zQ 0 0 Q) 0 0 (12, [.ref 28, .ref 1, .int ti, .int (sumI (fun i => hp.1 34 i * hp.1 4 (((hp.1 32 i).toInt * 3) + (t : Int)).toNat) k), .int i], [], (SH b xs), hp) := by
  intro f
  induction f with
  | zero => intros; omega
  | succ f ih =>
    intro k i iE hk hf
    refine g_run 3 rfl ?_
    refine gj_ge (kx := (k : Int)) (kz := (M : Int)) rfl iE hM (fun k1 => ?_) (fun k1 => ?_)
    · obtain rfl : k = M := by omega
      exact kk _
    · have hmk := hmb k (by omega)
      refine g_run 4 rfl ?_
      refine g_iald (j := k) rfl rfl ((show _ = (k : Int) from iE).trans (by omega)) (by omega) ?_
      refine g_run 5 rfl ?_
      refine g_iald (j := k) rfl rfl ((show _ = (k : Int) from iE).trans (by omega)) (by omega) ?_
      refine g_run 4 rfl ?_
      refine g_iald (j := (((hp.1 32 k).toInt * 3) + (t : Int)).toNat) rfl rfl ((show _ = (((hp.1 32 k).toInt * 3) + (t : Int)) from (ia_add2 (ia_mul2 rfl (by decide) (by omega) (by omega)) tE (by omega) (by omega))).trans (by omega)) (by omega) ?_
      refine g_run 5 rfl ?_
      exact ih (k + 1) _ (inc1 iE (by omega)) (by omega) (by omega)
theorem lp_X1_tastesFit  {M : Nat} (hM : (hp.1 28 4).toInt = (M : Int)) (hM6 : M ≤ 6) (hmb : ∀ i, i < M → 0 ≤ (hp.1 32 i).toInt ∧ (hp.1 32 i).toInt < 12) (hsp : ∀ i, i < 3 → 0 ≤ (hp.1 30 i).toInt ∧ (hp.1 30 i).toInt ≤ 100 ∧ 0 ≤ (hp.1 31 i).toInt ∧ (hp.1 31 i).toInt ≤ 100) (h1 : (∀ t : Nat, t < 3 → (10 * (hp.1 30 t).toInt ≤ (sumI (fun i => hp.1 34 i * hp.1 4 (((hp.1 32 i).toInt * 3) + (t : Int)).toNat) M).toInt ∧ (sumI (fun i => hp.1 34 i * hp.1 4 (((hp.1 32 i).toInt * 3) + (t : Int)).toNat) M).toInt ≤ 10 * (hp.1 31 t).toInt)) → Q (some (.int 1)) (SH b xs) hp) (h0 : (∃ t : Nat, t < 3 ∧ ¬ (10 * (hp.1 30 t).toInt ≤ (sumI (fun i => hp.1 34 i * hp.1 4 (((hp.1 32 i).toInt * 3) + (t : Int)).toNat) M).toInt ∧ (sumI (fun i => hp.1 34 i * hp.1 4 (((hp.1 32 i).toInt * 3) + (t : Int)).toNat) M).toInt ≤ 10 * (hp.1 31 t).toInt)) → Q (some (.int 0)) (SH b xs) hp) : ∀ (f t : Nat) (ti : Int32) (w3 w4 : Value), ti.toInt = (t : Int) → t ≤ 3 → (∀ j : Nat, j < t → (10 * (hp.1 30 j).toInt ≤ (sumI (fun i => hp.1 34 i * hp.1 4 (((hp.1 32 i).toInt * 3) + (j : Int)).toNat) M).toInt ∧ (sumI (fun i => hp.1 34 i * hp.1 4 (((hp.1 32 i).toInt * 3) + (j : Int)).toNat) M).toInt ≤ 10 * (hp.1 31 j).toInt)) → 3 - t < f → gG mX1_tastesFit (d + 1) 0 0 (zQ 0 0 Q) 0 0 (2, [.ref 28, .ref 1, .int ti, w3, w4], [], (SH b xs), hp) := by
  intro f
  induction f with
  | zero => intros; omega
  | succ f ih =>
    intro t ti w3 w4 tE ht hA hf
    refine g_run 2 rfl ?_
    refine gj_ge (kx := (t : Int)) (kz := 3) rfl tE (by decide) (fun k1 => ?_) (fun k1 => ?_)
    · refine g_run 1 rfl ?_
      exact g_zret rfl rfl (Or.inr rfl) (h1 (fun j hj => hA j (by omega)))
    · refine g_run 4 rfl ?_
      refine lp_X1_tf hM hM6 hmb tE (by omega) (fun i4 => ?_) 7 0 0 (by decide) (by omega) (by omega)
      have hst := hsp t (by omega)
      refine g_run 5 rfl ?_
      refine g_iald (j := t) rfl rfl ((show _ = (t : Int) from tE).trans (by omega)) (by omega) ?_
      refine g_run 5 rfl ?_
      refine g_iald (j := t) rfl rfl ((show _ = (t : Int) from tE).trans (by omega)) (by omega) ?_
      refine g_run 1 rfl ?_
      refine g_callS0 rfl LX1_50 rfl rfl ?_
      refine c_X9_within (nI := (sumI (fun i => hp.1 34 i * hp.1 4 (((hp.1 32 i).toInt * 3) + (t : Int)).toNat) M).toInt) (lI := (10 * (hp.1 30 t).toInt)) (uI := (10 * (hp.1 31 t).toInt)) rfl (ia_mul2 (by decide) rfl (by omega) (by omega)) (ia_mul2 (by decide) rfl (by omega) (by omega)) (fun k2 => ?_) (fun k3 => ?_)
      · refine gz_ne (kx := 1) rfl (show (1 : Int32).toInt = 1 from by decide) (fun _ => ?_) (fun q => absurd q (by decide))
        refine g_run 2 rfl ?_
        exact ih (t + 1) _ _ _ (inc1 tE (by omega)) (by omega) (fun j hj => by have q : j < t ∨ j = t := (by omega); cases q with | inl q => exact hA j q | inr q => subst q; assumption) (by omega)
      · refine gz_ne (kx := 0) rfl (show (0 : Int32).toInt = 0 from by decide) (fun q => absurd q (by decide)) (fun _ => ?_)
        refine g_run 1 rfl ?_
        exact g_zret rfl rfl (Or.inl rfl) (h0 ⟨t, by omega, by omega⟩)
theorem c_X1_tastesFit {M : Nat} (hM : (hp.1 28 4).toInt = (M : Int)) (hM6 : M ≤ 6) (hmb : ∀ i, i < M → 0 ≤ (hp.1 32 i).toInt ∧ (hp.1 32 i).toInt < 12) (hsp : ∀ i, i < 3 → 0 ≤ (hp.1 30 i).toInt ∧ (hp.1 30 i).toInt ≤ 100 ∧ 0 ≤ (hp.1 31 i).toInt ∧ (hp.1 31 i).toInt ≤ 100) (h1 : (∀ t : Nat, t < 3 → (10 * (hp.1 30 t).toInt ≤ (sumI (fun i => hp.1 34 i * hp.1 4 (((hp.1 32 i).toInt * 3) + (t : Int)).toNat) M).toInt ∧ (sumI (fun i => hp.1 34 i * hp.1 4 (((hp.1 32 i).toInt * 3) + (t : Int)).toNat) M).toInt ≤ 10 * (hp.1 31 t).toInt)) → Q (some (.int 1)) (SH b xs) hp) (h0 : (∃ t : Nat, t < 3 ∧ ¬ (10 * (hp.1 30 t).toInt ≤ (sumI (fun i => hp.1 34 i * hp.1 4 (((hp.1 32 i).toInt * 3) + (t : Int)).toNat) M).toInt ∧ (sumI (fun i => hp.1 34 i * hp.1 4 (((hp.1 32 i).toInt * 3) + (t : Int)).toNat) M).toInt ≤ 10 * (hp.1 31 t).toInt)) → Q (some (.int 0)) (SH b xs) hp) : gC mX1_tastesFit (d + 1) 0 0 [.ref 28, .ref 1] (SH b xs) hp Q := by
  refine g_enter okX1_tastesFit (plainFor_of_name rfl) rfl ?_
  refine g_run 2 rfl ?_
  exact lp_X1_tastesFit hM hM6 hmb hsp h1 h0 4 0 0 _ _ (by decide) (by omega) (fun j hj => absurd hj (by omega)) (by omega)
end S34
