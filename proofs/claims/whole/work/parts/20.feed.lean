/-! the tape is fed -/
def sR (hp : hp_T) (c : Nat) (t : Nat → Int32) : hp_T := (va_up hp.1 c t, hp.2)
def bX (v : Int64) (s : Int32) : Int32 := ((v.toUInt64 >>> (s.toInt64.toUInt64 &&& Int64.toUInt64 63)).toInt64).toInt32 &&& 255
def bM (v : Int64) (s : Int32) : Int32 := (v >>> (s.toInt64 &&& 63)).toInt32 &&& 255
def lay1 (st : (Nat → Int32) × Nat) (c : Int32) : (Nat → Int32) × Nat := if (c.toInt = 10 ∨ (32 ≤ c.toInt ∧ c.toInt ≤ 126)) ∧ st.2 < 600 then (va_up st.1 st.2 c, st.2 + 1) else st
def layN (f : Nat → Int32) : Nat → (Nat → Int32) × Nat → (Nat → Int32) × Nat
  | 0, st => st
  | m + 1, st => layN f m (lay1 st (f m))
theorem layN_y {f : Nat → Int32} {m n : Nat} {t : Nat → Int32} (h : (f m).toInt = 10 ∨ (32 ≤ (f m).toInt ∧ (f m).toInt ≤ 126)) (hn : n < 600) : layN f (m + 1) (t, n) = layN f m (va_up t n (f m), n + 1) := by
  rw [layN, lay1, if_pos ⟨h, hn⟩]
theorem layN_n {f : Nat → Int32} {m n : Nat} {t : Nat → Int32} (h : ((f m).toInt ≠ 10 ∧ ((f m).toInt < 32 ∨ 126 < (f m).toInt)) ∨ 600 ≤ n) : layN f (m + 1) (t, n) = layN f m (t, n) := by
  rw [layN, lay1, if_neg (by dsimp only; omega)]
theorem layN_le (f : Nat → Int32) : ∀ (m : Nat) (st : (Nat → Int32) × Nat), st.2 ≤ 600 → (layN f m st).2 ≤ 600
  | 0, st, h => h
  | m + 1, st, h => by
    rw [layN]
    refine layN_le f m _ ?_
    unfold lay1
    split
    · dsimp only; omega
    · exact h
def FX (hp : hp_T) (st : (Nat → Int32) × Nat) : hp_T := sI (sR hp 6 st.1) 5 1 (nI st.2)
def FM (hp : hp_T) (st : (Nat → Int32) × Nat) : hp_T := sI (sR hp 44 st.1) 43 2 (nI st.2)
theorem nar_ok {c : Int32} (h : 0 ≤ c.toInt ∧ c.toInt ≤ 126) : vp_nar .byte c.toInt8.toInt32 = c := by
  obtain ⟨n, hn, rfl⟩ : ∃ n : Nat, n ≤ 126 ∧ c = nI n := ⟨c.toInt.toNat, by omega, by rw [ia_eq, nI_toInt (by omega)]; omega⟩
  rw [pk_vb]
  have : ∀ n : Fin 127, (nI n.val).toInt8.toInt32 = nI n.val := by decide +kernel
  exact this ⟨n, by omega⟩
theorem two_ext {a b : hp_T} (h1 : ∀ c i, a.1 c i = b.1 c i) (h2 : a.2 = b.2) : a = b := Prod.ext (funext fun c => funext fun i => h1 c i) h2
theorem FX_id {hp : hp_T} (h : 0 ≤ (hp.1 5 1).toInt) : FX hp (hp.1 6, (hp.1 5 1).toInt.toNat) = hp := by
  refine two_ext (fun c i => ?_) rfl
  have e : nI (hp.1 5 1).toInt.toNat = hp.1 5 1 := (eq_nI (by omega) (by have := ia_bd (hp.1 5 1); omega)).symm
  simp only [FX, sI, sR, e]
  by_cases hc : c = 5
  · subst hc
    by_cases hi : i = 1
    · subst hi; simp [va_up]
    · simp [va_up, hi]
  · by_cases h6 : c = 6
    · subst h6; simp [va_up]
    · simp [va_up, hc, h6]
theorem FM_id {hp : hp_T} (h : 0 ≤ (hp.1 43 2).toInt) : FM hp (hp.1 44, (hp.1 43 2).toInt.toNat) = hp := by
  refine two_ext (fun c i => ?_) rfl
  have e : nI (hp.1 43 2).toInt.toNat = hp.1 43 2 := (eq_nI (by omega) (by have := ia_bd (hp.1 43 2); omega)).symm
  simp only [FM, sI, sR, e]
  by_cases hc : c = 43
  · subst hc
    by_cases hi : i = 2
    · subst hi; simp [va_up]
    · simp [va_up, hi]
  · by_cases h6 : c = 44
    · subst h6; simp [va_up]
    · simp [va_up, hc, h6]
theorem FX_put {hp : hp_T} {t : Nat → Int32} {n : Nat} {c : Int32} (h : 0 ≤ c.toInt ∧ c.toInt ≤ 126) (hn : n ≤ 600) : sI (sI (FX hp (t, n)) 6 ((FX hp (t, n)).1 5 1).toInt.toNat (vp_nar .byte c.toInt8.toInt32)) 5 1 ((FX hp (t, n)).1 5 1 + 1) = FX hp (va_up t n c, n + 1) := by
  rw [nar_ok h]
  have e1 : (FX hp (t, n)).1 5 1 = nI n := rfl
  have e2 : ((nI n).toInt).toNat = n := by rw [nI_toInt (by omega)]; omega
  rw [e1, e2, nI_1]
  refine two_ext (fun q i => ?_) rfl
  simp only [FX, sI, sR, va_up]
  by_cases hc : q = 5
  · subst hc
    by_cases hi : i = 1 <;> simp [va_up, hi]
  · by_cases h6 : q = 6
    · subst h6
      by_cases hi : i = n <;> simp [hi, va_up]
    · simp [va_up, hc, h6]
theorem FM_put {hp : hp_T} {t : Nat → Int32} {n : Nat} {c x : Int32} (hx : x = nI n) : sI (sI (FM hp (t, n)) 44 n c) 43 2 (x + 1) = FM hp (va_up t n c, n + 1) := by
  rw [hx, nI_1]
  refine two_ext (fun q i => ?_) rfl
  simp only [FM, sI, sR, va_up]
  by_cases hc : q = 43
  · subst hc
    by_cases hi : i = 2 <;> simp [va_up, hi]
  · by_cases h6 : q = 44
    · subst h6
      by_cases hi : i = n <;> simp [hi, va_up]
    · simp [va_up, hc, h6]
theorem gG_hp {y : mt_T} {d mc ms : Nat} {Q : zt} {cells slots pc : Nat} {lo st : List Value} {sh : sh_T} {h1 h2 : hp_T} (e : h1 = h2) (k : gG y d mc ms Q cells slots (pc, lo, st, sh, h2)) : gG y d mc ms Q cells slots (pc, lo, st, sh, h1) := e ▸ k
section S20
variable {d : Nat} {sh : sh_T} {hp : hp_T} {Q : Option Value → sh_T → hp_T → Prop} {b : Bool} {xs : sh_T}
theorem c_X7_addSign {c : Int32} {cI : Int} (cE : c.toInt = cI) (hn : 0 ≤ (hp.1 5 1).toInt) (h1 : (cI = 10 ∨ (32 ≤ cI ∧ cI ≤ 126)) ∧ (hp.1 5 1).toInt < 600 → Q none (SH b xs) (sI (sI hp 6 (hp.1 5 1).toInt.toNat (vp_nar .byte c.toInt8.toInt32)) 5 1 (hp.1 5 1 + 1))) (h0 : (cI ≠ 10 ∧ (cI < 32 ∨ 126 < cI)) ∨ 600 ≤ (hp.1 5 1).toInt → Q none (SH b xs) hp) : gC mX7_addSign (d + 1) 0 0 [.ref 5, .int c] (SH b xs) hp Q := by
  refine g_enter okX7_addSign (plainFor_of_name rfl) rfl ?_
  refine g_run 2 rfl ?_
  refine gj_eq (kx := cI) (kz := 10) rfl cE (by decide) (fun k1 => ?_) (fun k1 => ?_)
  · refine g_run 4 rfl ?_
    refine gz_eq (kx := 1) rfl (show (1 : Int32).toInt = 1 from by decide) (fun q => absurd q (by decide)) (fun _ => ?_)
    refine g_run 3 rfl ?_
    refine gj_ge (kx := (hp.1 5 1).toInt) (kz := 600) rfl rfl (by decide) (fun k2 => ?_) (fun k2 => ?_)
    · exact g_vret rfl rfl (by first | exact h1 (by omega) | exact h0 (by omega))
    · refine g_run 6 rfl ?_
      refine g_bast (j := ((hp.1 5 1).toInt).toNat) rfl rfl ((show _ = (hp.1 5 1).toInt from rfl).trans (by omega)) (by omega) ?_
      refine g_run 6 rfl ?_
      exact g_vret rfl rfl (by first | exact h1 (by omega) | exact h0 (by omega))
  · refine g_run 3 rfl ?_
    refine g_callS0 rfl LX7_21 rfl rfl ?_
    refine c_X9_within (nI := cI) (lI := 32) (uI := 126) cE (by decide) (by decide) (fun k3 => ?_) (fun k4 => ?_)
    · refine gz_eq (kx := 1) rfl (show (1 : Int32).toInt = 1 from by decide) (fun q => absurd q (by decide)) (fun _ => ?_)
      refine g_run 4 rfl ?_
      refine gz_eq (kx := 1) rfl (show (1 : Int32).toInt = 1 from by decide) (fun q => absurd q (by decide)) (fun _ => ?_)
      refine g_run 3 rfl ?_
      refine gj_ge (kx := (hp.1 5 1).toInt) (kz := 600) rfl rfl (by decide) (fun k5 => ?_) (fun k5 => ?_)
      · exact g_vret rfl rfl (by first | exact h1 (by omega) | exact h0 (by omega))
      · refine g_run 6 rfl ?_
        refine g_bast (j := ((hp.1 5 1).toInt).toNat) rfl rfl ((show _ = (hp.1 5 1).toInt from rfl).trans (by omega)) (by omega) ?_
        refine g_run 6 rfl ?_
        exact g_vret rfl rfl (by first | exact h1 (by omega) | exact h0 (by omega))
    · refine gz_eq (kx := 0) rfl (show (0 : Int32).toInt = 0 from by decide) (fun _ => ?_) (fun q => absurd q (by decide))
      refine g_run 3 rfl ?_
      refine gz_eq (kx := 0) rfl (show (0 : Int32).toInt = 0 from by decide) (fun _ => ?_) (fun q => absurd q (by decide))
      exact g_vret rfl rfl (by first | exact h1 (by omega) | exact h0 (by omega))
theorem lp_X7_addBytes  {v : Int64} : ∀ (f m : Nat) (s : Int32) (t : Nat → Int32) (n : Nat), s.toInt = 8 * (m : Int) - 8 → m ≤ 8 → n ≤ 600 → Q none (SH b xs) (FX hp (layN (fun j => bX v (nI (8 * j))) m (t, n))) → m < f → gG mX7_addBytes (d + 2) 0 0 (zQ 0 0 Q) 0 0 (3, [.ref 5, .long v, .retAddr 0, .int s], [], (SH b xs), (FX hp (t, n))) := by
  intro f
  induction f with
  | zero => intros; omega
  | succ f ih =>
    intro m s t n sE hm hn hq hf
    have e5 : ((FX hp (t, n)).1 5 1).toInt = (n : Int) := nI_toInt (by omega)
    have hn0 : 0 ≤ ((FX hp (t, n)).1 5 1).toInt := by omega
    refine g_run 1 rfl ?_
    refine gz_lt (kx := (8 * (m : Int) - 8)) rfl sE (fun k1 => ?_) (fun k1 => ?_)
    · obtain rfl : m = 0 := by omega
      exact g_vret rfl rfl hq
    · refine g_run 7 rfl ?_
      refine g_callV0 rfl LX7_17 rfl rfl rfl rfl ?_
      refine c_X7_addSign (cI := (bX v s).toInt) rfl hn0 (fun k => ?_) (fun k => ?_)
      · refine g_run 2 rfl ?_
        obtain ⟨m, rfl⟩ : ∃ q, m = q + 1 := ⟨m - 1, by omega⟩
        have es : s = nI (8 * m) := by rw [ia_eq, nI_toInt (by omega)]; omega
        have hn1 : n < 600 := by omega
        refine gG_hp (FX_put (c := bX v s) (by omega) (by omega)) ?_
        rw [es] at k
        exact ih m _ _ _ (by exact (ia_add2 (y := -8) sE (by decide) (by omega) (by omega)).trans (by omega)) (by omega) (by omega) (by rw [layN_y (by omega) hn1] at hq; rw [es]; exact hq) (by omega)
      · refine g_run 2 rfl ?_
        obtain ⟨m, rfl⟩ : ∃ q, m = q + 1 := ⟨m - 1, by omega⟩
        have es : s = nI (8 * m) := by rw [ia_eq, nI_toInt (by omega)]; omega
        rw [es] at k
        exact ih m _ _ _ (by exact (ia_add2 (y := -8) sE (by decide) (by omega) (by omega)).trans (by omega)) (by omega) (by omega) (by rw [layN_n (by omega)] at hq; exact hq) (by omega)
theorem c_X7_addBytes {v : Int64} {z : (Nat → Int32) × Nat} (hn : z.2 ≤ 600) (h1 : Q none (SH b xs) (FX hp (layN (fun j => bX v (nI (8 * j))) 8 z))) : gC mX7_addBytes (d + 2) 0 0 [.ref 5, .long v] (SH b xs) (FX hp z) Q := by
  refine g_enter okX7_addBytes (plainFor_of_name rfl) rfl ?_
  refine g_run 2 rfl ?_
  exact lp_X7_addBytes 9 8 56 z.1 z.2 (by decide) (by omega) hn h1 (by omega)
theorem c_X9_feed {a : Int64} {bb : Int64} {c : Int64} (hn : 0 ≤ (hp.1 5 1).toInt ∧ (hp.1 5 1).toInt ≤ 600) (h1 : Q (some (.int (nI (layN (fun j => bX c (nI (8 * j))) 8 (layN (fun j => bX bb (nI (8 * j))) 8 (layN (fun j => bX a (nI (8 * j))) 8 (hp.1 6, (hp.1 5 1).toInt.toNat)))).2))) (SH b xs) (FX hp (layN (fun j => bX c (nI (8 * j))) 8 (layN (fun j => bX bb (nI (8 * j))) 8 (layN (fun j => bX a (nI (8 * j))) 8 (hp.1 6, (hp.1 5 1).toInt.toNat)))))) : gC mX9_feed (d + 3) 0 0 [.ref 0, .long a, .long bb, .long c] (SH b xs) hp Q := by
  refine g_enter okX9_feed (plainFor_of_name rfl) rfl ?_
  have hl : (hp.1 5 1).toInt.toNat ≤ 600 := by omega
  rw [← FX_id (hp := hp) hn.1]
  refine g_run 3 rfl ?_
  refine g_callV0 rfl LX9_97 rfl rfl rfl rfl ?_
  refine c_X7_addBytes (hp := hp) (by first | exact hl | exact layN_le _ _ _ (by first | exact hl | exact layN_le _ _ _ (by exact hl))) ?_
  refine g_run 3 rfl ?_
  refine g_callV0 rfl LX9_97 rfl rfl rfl rfl ?_
  refine c_X7_addBytes (hp := hp) (by first | exact hl | exact layN_le _ _ _ (by first | exact hl | exact layN_le _ _ _ (by exact hl))) ?_
  refine g_run 3 rfl ?_
  refine g_callV0 rfl LX9_97 rfl rfl rfl rfl ?_
  refine c_X7_addBytes (hp := hp) (by first | exact hl | exact layN_le _ _ _ (by first | exact hl | exact layN_le _ _ _ (by exact hl))) ?_
  refine g_run 3 rfl ?_
  exact g_iret rfl rfl h1
theorem lp_X10_lay  {v : Int64} : ∀ (f m : Nat) (s : Int32) (t : Nat → Int32) (n : Nat) (w4 : Value), s.toInt = 8 * (m : Int) - 8 → m ≤ 8 → n ≤ 600 → Q none (SH b xs) (FM hp (layN (fun j => bM v (nI (8 * j))) m (t, n))) → m < f → gG mX10_lay d 0 0 (zQ 0 0 Q) 0 0 (3, [.ref 43, .long v, .retAddr 0, .int s, w4], [], (SH b xs), (FM hp (t, n))) := by
  intro f
  induction f with
  | zero => intros; omega
  | succ f ih =>
    intro m s t n w4 sE hm hn hq hf
    refine g_run 1 rfl ?_
    refine gz_lt (kx := (8 * (m : Int) - 8)) rfl sE (fun k1 => ?_) (fun k1 => ?_)
    · obtain rfl : m = 0 := by omega
      exact g_vret rfl rfl hq
    · refine g_run 9 rfl ?_
      refine gj_eq (kx := (bM v s).toInt) (kz := 10) rfl rfl (by decide) (fun k2 => ?_) (fun k2 => ?_)
      · refine g_run 3 rfl ?_
        refine gj_ge (kx := (n : Int)) (kz := 600) rfl (nI_toInt (by omega)) (by decide) (fun k3 => ?_) (fun k3 => ?_)
        · refine g_run 2 rfl ?_
          obtain ⟨m, rfl⟩ : ∃ q, m = q + 1 := ⟨m - 1, by omega⟩
          have es : s = nI (8 * m) := by rw [ia_eq, nI_toInt (by omega)]; omega
          exact ih m _ _ _ _ (by exact (ia_add2 (y := -8) sE (by decide) (by omega) (by omega)).trans (by omega)) (by omega) (by omega) (by rw [layN_n (by rw [← es]; show ((bM v s).toInt ≠ 10 ∧ _) ∨ _; omega)] at hq; exact hq) (by omega)
        · refine g_run 5 rfl ?_
          refine g_iast (j := n) rfl rfl ((show _ = (n : Int) from (nI_toInt (by omega))).trans (by omega)) (by omega) ?_
          refine g_run 8 rfl ?_
          obtain ⟨m, rfl⟩ : ∃ q, m = q + 1 := ⟨m - 1, by omega⟩
          have es : s = nI (8 * m) := by rw [ia_eq, nI_toInt (by omega)]; omega
          have hn1 : n < 600 := by omega
          refine gG_hp (FM_put (c := bM v s) (x := nI n) rfl) ?_
          exact ih m _ _ _ _ (by exact (ia_add2 (y := -8) sE (by decide) (by omega) (by omega)).trans (by omega)) (by omega) (by omega) (by rw [layN_y (by rw [← es]; show (bM v s).toInt = 10 ∨ _; omega) hn1] at hq; rw [← es] at hq; exact hq) (by omega)
      · refine g_run 2 rfl ?_
        refine gj_lt (kx := (bM v s).toInt) (kz := 32) rfl rfl (by decide) (fun k4 => ?_) (fun k4 => ?_)
        · refine g_run 2 rfl ?_
          obtain ⟨m, rfl⟩ : ∃ q, m = q + 1 := ⟨m - 1, by omega⟩
          have es : s = nI (8 * m) := by rw [ia_eq, nI_toInt (by omega)]; omega
          exact ih m _ _ _ _ (by exact (ia_add2 (y := -8) sE (by decide) (by omega) (by omega)).trans (by omega)) (by omega) (by omega) (by rw [layN_n (by rw [← es]; show ((bM v s).toInt ≠ 10 ∧ _) ∨ _; omega)] at hq; exact hq) (by omega)
        · refine g_run 2 rfl ?_
          refine gj_gt (kx := (bM v s).toInt) (kz := 126) rfl rfl (by decide) (fun k5 => ?_) (fun k5 => ?_)
          · refine g_run 2 rfl ?_
            obtain ⟨m, rfl⟩ : ∃ q, m = q + 1 := ⟨m - 1, by omega⟩
            have es : s = nI (8 * m) := by rw [ia_eq, nI_toInt (by omega)]; omega
            exact ih m _ _ _ _ (by exact (ia_add2 (y := -8) sE (by decide) (by omega) (by omega)).trans (by omega)) (by omega) (by omega) (by rw [layN_n (by rw [← es]; show ((bM v s).toInt ≠ 10 ∧ _) ∨ _; omega)] at hq; exact hq) (by omega)
          · refine g_run 3 rfl ?_
            refine gj_ge (kx := (n : Int)) (kz := 600) rfl (nI_toInt (by omega)) (by decide) (fun k6 => ?_) (fun k6 => ?_)
            · refine g_run 2 rfl ?_
              obtain ⟨m, rfl⟩ : ∃ q, m = q + 1 := ⟨m - 1, by omega⟩
              have es : s = nI (8 * m) := by rw [ia_eq, nI_toInt (by omega)]; omega
              exact ih m _ _ _ _ (by exact (ia_add2 (y := -8) sE (by decide) (by omega) (by omega)).trans (by omega)) (by omega) (by omega) (by rw [layN_n (by rw [← es]; show ((bM v s).toInt ≠ 10 ∧ _) ∨ _; omega)] at hq; exact hq) (by omega)
            · refine g_run 5 rfl ?_
              refine g_iast (j := n) rfl rfl ((show _ = (n : Int) from (nI_toInt (by omega))).trans (by omega)) (by omega) ?_
              refine g_run 8 rfl ?_
              obtain ⟨m, rfl⟩ : ∃ q, m = q + 1 := ⟨m - 1, by omega⟩
              have es : s = nI (8 * m) := by rw [ia_eq, nI_toInt (by omega)]; omega
              have hn1 : n < 600 := by omega
              refine gG_hp (FM_put (c := bM v s) (x := nI n) rfl) ?_
              exact ih m _ _ _ _ (by exact (ia_add2 (y := -8) sE (by decide) (by omega) (by omega)).trans (by omega)) (by omega) (by omega) (by rw [layN_y (by rw [← es]; show (bM v s).toInt = 10 ∨ _; omega) hn1] at hq; rw [← es] at hq; exact hq) (by omega)
theorem c_X10_lay {v : Int64} {z : (Nat → Int32) × Nat} (hn : z.2 ≤ 600) (h1 : Q none (SH b xs) (FM hp (layN (fun j => bM v (nI (8 * j))) 8 z))) : gC mX10_lay d 0 0 [.ref 43, .long v] (SH b xs) (FM hp z) Q := by
  refine g_enter okX10_lay (plainFor_of_name rfl) rfl ?_
  refine g_run 2 rfl ?_
  exact lp_X10_lay 9 8 56 z.1 z.2 _ (by decide) (by omega) hn h1 (by omega)
theorem c_X10_feed {a : Int64} {bb : Int64} {c : Int64} (hn : 0 ≤ (hp.1 43 2).toInt ∧ (hp.1 43 2).toInt ≤ 600) (h1 : Q (some (.int (nI (layN (fun j => bM c (nI (8 * j))) 8 (layN (fun j => bM bb (nI (8 * j))) 8 (layN (fun j => bM a (nI (8 * j))) 8 (hp.1 44, (hp.1 43 2).toInt.toNat)))).2))) (SH b xs) (FM (sI hp 43 0 0) (layN (fun j => bM c (nI (8 * j))) 8 (layN (fun j => bM bb (nI (8 * j))) 8 (layN (fun j => bM a (nI (8 * j))) 8 (hp.1 44, (hp.1 43 2).toInt.toNat)))))) : gC mX10_feed (d + 1) 0 0 [.ref 43, .long a, .long bb, .long c] (SH b xs) hp Q := by
  refine g_enter okX10_feed (plainFor_of_name rfl) rfl ?_
  have hl : (hp.1 43 2).toInt.toNat ≤ 600 := by omega
  refine g_run 3 rfl ?_
  rw [← FM_id (hp := (sI hp 43 0 0)) hn.1]
  refine g_run 2 rfl ?_
  refine g_callV0 rfl LX10_7 rfl rfl rfl rfl ?_
  refine c_X10_lay (hp := (sI hp 43 0 0)) (by first | exact hl | exact layN_le _ _ _ (by first | exact hl | exact layN_le _ _ _ (by exact hl))) ?_
  refine g_run 2 rfl ?_
  refine g_callV0 rfl LX10_7 rfl rfl rfl rfl ?_
  refine c_X10_lay (hp := (sI hp 43 0 0)) (by first | exact hl | exact layN_le _ _ _ (by first | exact hl | exact layN_le _ _ _ (by exact hl))) ?_
  refine g_run 2 rfl ?_
  refine g_callV0 rfl LX10_7 rfl rfl rfl rfl ?_
  refine c_X10_lay (hp := (sI hp 43 0 0)) (by first | exact hl | exact layN_le _ _ _ (by first | exact hl | exact layN_le _ _ _ (by exact hl))) ?_
  refine g_run 2 rfl ?_
  exact g_iret rfl rfl h1
end S20
