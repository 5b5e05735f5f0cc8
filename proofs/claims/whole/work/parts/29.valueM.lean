/-! the rules' values in the reference -/
theorem sRI {hp : hp_T} {c j : Nat} {w : Nat → Int32} {v : Int32} : sI (sR hp c w) c j v = sR hp c (va_up w j v) := by
  refine two_ext (fun q i => ?_) rfl
  simp only [sI, sR]
  by_cases h : q = c <;> simp [va_up, h]
def kM (c : Int) : Int := if c = 3 then 17 else if c = 4 then 18 else if c = 5 then 15 else if c = 6 then 16 else 7
def evM1 (kn op one : Nat → Int32) (i : Nat) (l : List Int32) : List Int32 := if (op i).toInt = 1 ∨ (op i).toInt = 2 then (if (op i).toInt = 1 then one i else kn (one i).toInt.toNat) :: l else jd (kM (op i).toInt) ((l.drop 1).headD 0) (l.headD 0) :: l.drop 2
def evMS (kn op one : Nat → Int32) : Nat → Nat → List Int32 → List Int32
  | 0, _, l => l
  | f + 1, i, l => evMS kn op one f (i + 1) (evM1 kn op one i l)
def okM (op one : Nat → Int32) : Nat → Nat → Nat → Prop
  | 0, i, h => (op i).toInt = 0 ∧ h = 1
  | f + 1, i, h => (((op i).toInt = 1 ∨ ((op i).toInt = 2 ∧ 0 ≤ (one i).toInt ∧ (one i).toInt < 7)) ∧ h < 16 ∧ okM op one f (i + 1) (h + 1)) ∨ (3 ≤ (op i).toInt ∧ (op i).toInt ≤ 7 ∧ 2 ≤ h ∧ okM op one f (i + 1) (h - 1))
theorem okM_z {op one : Nat → Int32} {n k t : Nat} (h : okM op one n k t) (h0 : (op k).toInt = 0) : n = 0 ∧ t = 1 := by
  cases n with
  | zero => exact ⟨rfl, h.2⟩
  | succ n => rcases h with h | h <;> omega
theorem okM_s {op one : Nat → Int32} {n k t : Nat} (h : okM op one n k t) (h0 : (op k).toInt ≠ 0) : ∃ m, n = m + 1 ∧ okM op one (m + 1) k t := by
  cases n with
  | zero => exact absurd h.1 h0
  | succ n => exact ⟨n, rfl, h⟩
theorem okM_p {op one : Nat → Int32} {n k t : Nat} (h1 : (op k).toInt = 1 ∨ (op k).toInt = 2) (h : okM op one (n + 1) k t) : t < 16 ∧ okM op one n (k + 1) (t + 1) := by
  rcases h with h | h
  · exact h.2
  · omega
theorem okM_k {op one : Nat → Int32} {n k t : Nat} (h1 : (op k).toInt = 2) (h : okM op one n k t) : 0 ≤ (one k).toInt ∧ (one k).toInt < 7 := by
  cases n with
  | zero => exact absurd h.1 (by omega)
  | succ n => rcases h with h | h <;> omega
theorem okM_t {op one : Nat → Int32} {n k t : Nat} (h1 : (op k).toInt ≠ 0) (h2 : (op k).toInt ≠ 1) (h3 : (op k).toInt ≠ 2) (h : okM op one n k t) : 2 ≤ t ∧ 3 ≤ (op k).toInt ∧ (op k).toInt ≤ 7 := by
  cases n with
  | zero => exact absurd h.1 (by omega)
  | succ n => rcases h with h | h <;> omega
theorem okM_j {op one : Nat → Int32} {n k t : Nat} (h1 : (op k).toInt ≠ 1) (h2 : (op k).toInt ≠ 2) (h : okM op one (n + 1) k t) : 2 ≤ t ∧ okM op one n (k + 1) (t - 1) := by
  rcases h with h | h
  · omega
  · exact h.2.2
theorem ev_j {kn op one : Nat → Int32} {k : Nat} {l : List Int32} (h1 : (op k).toInt ≠ 1) (h2 : (op k).toInt ≠ 2) : evM1 kn op one k l = jd (kM (op k).toInt) ((l.drop 1).headD 0) (l.headD 0) :: l.drop 2 := by rw [evM1, if_neg (by omega)]
theorem ev_p {kn op one : Nat → Int32} {k : Nat} {l : List Int32} (h1 : (op k).toInt = 1 ∨ (op k).toInt = 2) : evM1 kn op one k l = (if (op k).toInt = 1 then one k else kn (one k).toInt.toNat) :: l := by rw [evM1, if_pos h1]
theorem stk_up {w : Nat → Int32} {t : Nat} {l : List Int32} {v : Int32} (h : stk (w, t) l) : stk (va_up w t v, t + 1) (v :: l) := by
  refine ⟨by simp [h.1], fun j hj => ?_⟩
  cases j with
  | zero => simp [va_up]
  | succ j =>
    have h1 := h.2 j (by simpa using hj)
    have e : t + 1 - 1 - (j + 1) = t - 1 - j := by omega
    have e2 : ¬ (t - 1 - j = t) := by have : j < t := by simpa using hj
                                      omega
    simp only [List.getElem?_cons_succ, h1, e, va_up, e2, if_false]
theorem stk_e {w : Nat → Int32} {t : Nat} {l : List Int32} {v u : Int32} (h : u = v) : stk (w, t) (u :: l) = stk (w, t) (v :: l) := by rw [h]
theorem stk_join {w : Nat → Int32} {t : Nat} {l : List Int32} {v u : Int32} {j : Nat} (h : stk (w, t) l) (ht : 2 ≤ t) (e : j = t - 2 ∧ v = u) : stk (va_up w j v, t - 1) (u :: l.drop 2) := by
  obtain ⟨rfl, rfl⟩ := e
  have h2 := stk_pp (stk_pp h)
  rw [List.drop_drop] at h2
  have h3 := stk_up (v := v) (show stk (w, t - 2) (l.drop 2) from h2)
  rwa [show t - 2 + 1 = t - 1 by omega] at h3
theorem jM3 {c : Int} {a b : Int32} (h : c = 3) : jd (kM c) a b = a + b := by
  subst h
  rfl
theorem jM4 {c : Int} {a b : Int32} (h : c = 4) : jd (kM c) a b = a - b := by
  subst h
  rfl
theorem jM5y {c : Int} {a b : Int32} (h : c = 5) (h2 : a.toInt < b.toInt) : jd (kM c) a b = 1 := by
  subst h
  exact if_pos h2
theorem jM5n {c : Int} {a b : Int32} (h : c = 5) (h2 : b.toInt ≤ a.toInt) : jd (kM c) a b = 0 := by
  subst h
  exact if_neg (Int.not_lt.mpr h2)
theorem jM6y {c : Int} {a b : Int32} (h : c = 6) (h2 : a.toInt = b.toInt) : jd (kM c) a b = 1 := by
  subst h
  exact if_pos h2
theorem jM6n {c : Int} {a b : Int32} (h : c = 6) (h2 : a.toInt ≠ b.toInt) : jd (kM c) a b = 0 := by
  subst h
  exact if_neg h2
theorem jM7 {c : Int} {a b : Int32} (h : c = 7) (h2 : a.toInt ≠ 0) (h3 : b.toInt ≠ 0) : jd (kM c) a b = 1 := by
  subst h
  exact if_pos (And.intro h2 h3)
theorem jM7n {c : Int} {a b : Int32} (h : c = 7) (h2 : a.toInt = 0 ∨ b.toInt = 0) : jd (kM c) a b = 0 := by
  subst h
  exact if_neg (fun q : a.toInt ≠ 0 ∧ b.toInt ≠ 0 => h2.elim q.1 q.2)
section S29
variable {d : Nat} {sh : sh_T} {hp : hp_T} {Q : Option Value → sh_T → hp_T → Prop} {b : Bool} {xs : sh_T}
theorem lp_X10_valueOf  {fr v0 : Int32} (h1 : ∀ w : Nat → Int32, Q (some (.int v0)) (SH b xs) (sR hp 59 w)) : ∀ (f n k t : Nat) (i tt : Int32) (w : Nat → Int32) (l : List Int32) (w4 w5 w6 : Value), i.toInt = (k : Int) → tt.toInt = (t : Int) → k + n < 1320 → t ≤ 16 → stk (w, t) l → okM (hp.1 53) (hp.1 54) n k t → (evMS (hp.1 58) (hp.1 53) (hp.1 54) n k l).headD 0 = v0 → n < f → gG mX10_valueOf d 0 0 (zQ 0 0 Q) 0 0 (4, [.ref 43, .int fr, .int i, .int tt, w4, w5, w6], [], (SH b xs), (sR hp 59 w)) := by
  intro f
  induction f with
  | zero => intros; omega
  | succ f ih =>
    intro n k t i tt w l w4 w5 w6 iE tE hk ht hS hO hE hf
    refine g_run 3 rfl ?_
    refine g_iald (j := k) rfl rfl ((show _ = (k : Int) from iE).trans (by omega)) (by omega) ?_
    refine gz_eq (kx := (hp.1 53 k).toInt) rfl rfl (fun k1 => ?_) (fun k1 => ?_)
    · refine g_run 3 rfl ?_
      refine g_iald (j := 0) rfl rfl (show (0 : Int32).toInt = ((0 : Nat) : Int) from by decide) (by omega) ?_
      obtain ⟨rfl, rfl⟩ := okM_z hO (by assumption)
      rw [evMS] at hE
      have s1 := stk_pv hS
      rw [pv_p (show (1 : Nat) ≠ 0 from by decide), hE] at s1
      rw [← s1] at h1
      exact g_iret rfl rfl (h1 _)
    · refine g_run 3 rfl ?_
      refine g_iald (j := k) rfl rfl ((show _ = (k : Int) from iE).trans (by omega)) (by omega) ?_
      refine g_run 3 rfl ?_
      refine gj_eq (kx := (hp.1 53 k).toInt) (kz := 1) rfl rfl (by decide) (fun k2 => ?_) (fun k2 => ?_)
      · refine g_run 5 rfl ?_
        refine gj_ne (kx := (hp.1 53 k).toInt) (kz := 1) rfl rfl (by decide) (fun k3 => ?_) (fun k3 => ?_)
        · have hK := okM_k (by omega) hO
          refine g_run 5 rfl ?_
          refine g_iald (j := k) rfl rfl ((show _ = (k : Int) from iE).trans (by omega)) (by omega) ?_
          refine g_iald (j := ((hp.1 54 k).toInt).toNat) rfl rfl ((show _ = (hp.1 54 k).toInt from rfl).trans (by omega)) (by omega) ?_
          refine g_iast (j := t) rfl rfl ((show _ = (t : Int) from tE).trans (by omega)) (by omega) ?_
          refine g_run 4 rfl ?_
          obtain ⟨m, rfl, hO2⟩ := okM_s hO (by assumption)
          refine gG_hp (sRI (c := 59)) ?_
          have hO3 := okM_p (by omega) hO2
          rw [evMS, ev_p (by omega)] at hE
          refine ih m (k + 1) (t + 1) _ _ _ _ _ _ _ (inc1 iE (by omega)) (inc1 tE (by omega)) (by omega) (by omega) ?_ hO3.2 hE (by omega)
          first | (exfalso; omega) | (rw [stk_e (by first | rw [if_pos (by omega)] | rw [if_neg (by omega)])]; exact stk_up hS)
        · refine g_run 3 rfl ?_
          refine g_iald (j := k) rfl rfl ((show _ = (k : Int) from iE).trans (by omega)) (by omega) ?_
          refine g_run 1 rfl ?_
          refine g_iast (j := t) rfl rfl ((show _ = (t : Int) from tE).trans (by omega)) (by omega) ?_
          refine g_run 4 rfl ?_
          obtain ⟨m, rfl, hO2⟩ := okM_s hO (by assumption)
          refine gG_hp (sRI (c := 59)) ?_
          have hO3 := okM_p (by omega) hO2
          rw [evMS, ev_p (by omega)] at hE
          refine ih m (k + 1) (t + 1) _ _ _ _ _ _ _ (inc1 iE (by omega)) (inc1 tE (by omega)) (by omega) (by omega) ?_ hO3.2 hE (by omega)
          first | (exfalso; omega) | (rw [stk_e (by first | rw [if_pos (by omega)] | rw [if_neg (by omega)])]; exact stk_up hS)
      · refine g_run 2 rfl ?_
        refine gj_ne (kx := (hp.1 53 k).toInt) (kz := 2) rfl rfl (by decide) (fun k4 => ?_) (fun k4 => ?_)
        · have hT := okM_t (by omega) (by omega) (by omega) hO
          refine g_run 4 rfl ?_
          refine g_iald (j := ((t : Int) + (-1)).toNat) rfl rfl ((show _ = ((t : Int) + (-1)) from (ia_add2 tE (by decide) (by omega) (by omega))).trans (by omega)) (by omega) ?_
          refine g_run 6 rfl ?_
          refine g_iald (j := (((t : Int) + (-1)) - 1).toNat) rfl rfl ((show _ = (((t : Int) + (-1)) - 1) from (ia_sub2 (ia_add2 tE (by decide) (by omega) (by omega)) (by decide) (by omega) (by omega))).trans (by omega)) (by omega) ?_
          refine g_run 1 rfl ?_
          have q1 : (sR hp 59 w).1 59 (((t : Int) + (-1)).toNat) = l.headD 0 := by rw [show ((t : Int) + (-1)).toNat = t - 1 by omega]; have := stk_pv hS; rw [pv_p (show t ≠ 0 from by omega)] at this; exact this
          have q2 : (sR hp 59 w).1 59 ((((t : Int) + (-1)) - 1).toNat) = (l.drop 1).headD 0 := by rw [show (((t : Int) + (-1)) - 1).toNat = t - 1 - 1 by omega]; have := stk_pv (stk_pp hS); rw [pv_p (show t - 1 ≠ 0 from by omega)] at this; exact this
          refine g_run 7 rfl ?_
          refine gj_ne (kx := (hp.1 53 k).toInt) (kz := 3) rfl rfl (by decide) (fun k5 => ?_) (fun k5 => ?_)
          · refine g_run 2 rfl ?_
            refine gj_ne (kx := (hp.1 53 k).toInt) (kz := 4) rfl rfl (by decide) (fun k6 => ?_) (fun k6 => ?_)
            · refine g_run 2 rfl ?_
              refine gj_ne (kx := (hp.1 53 k).toInt) (kz := 5) rfl rfl (by decide) (fun k7 => ?_) (fun k7 => ?_)
              · refine g_run 2 rfl ?_
                refine gj_ne (kx := (hp.1 53 k).toInt) (kz := 6) rfl rfl (by decide) (fun k8 => ?_) (fun k8 => ?_)
                · refine g_run 1 rfl ?_
                  refine gz_eq (kx := ((sR hp 59 w).1 59 ((((t : Int) + (-1)) - 1).toNat)).toInt) rfl rfl (fun k9 => ?_) (fun k9 => ?_)
                  · refine g_run 1 rfl ?_
                    refine g_iast (j := (((t : Int) + (-1)) - 1).toNat) rfl rfl ((show _ = (((t : Int) + (-1)) - 1) from (ia_sub2 (ia_add2 tE (by decide) (by omega) (by omega)) (by decide) (by omega) (by omega))).trans (by omega)) (by omega) ?_
                    refine g_run 2 rfl ?_
                    obtain ⟨m, rfl, hO2⟩ := okM_s hO (by assumption)
                    refine gG_hp (sRI (c := 59)) ?_
                    have hO3 := okM_j (by omega) (by omega) hO2
                    rw [evMS, ev_j (by omega) (by omega)] at hE
                    refine ih m (k + 1) (t - 1) _ _ _ _ _ _ _ (inc1 iE (by omega)) ((ia_add2 tE (show (-1 : Int32).toInt = -1 from by decide) (by omega) (by omega)).trans (by omega)) (by omega) (by omega) (stk_join hS hO3.1 ⟨by omega, ?_⟩) hO3.2 hE (by omega)
                    rw [← q1, ← q2]
                    first | exact (jM3 (by omega)).symm | exact (jM4 (by omega)).symm | exact (jM5y (by omega) (by omega)).symm | exact (jM5n (by omega) (by omega)).symm | exact (jM6y (by omega) (by omega)).symm | exact (jM6n (by omega) (by omega)).symm | exact (jM7 (by omega) (by omega) (by omega)).symm | exact (jM7n (by omega) (by omega)).symm
                  · refine g_run 1 rfl ?_
                    refine gz_eq (kx := ((sR hp 59 w).1 59 (((t : Int) + (-1)).toNat)).toInt) rfl rfl (fun k10 => ?_) (fun k10 => ?_)
                    · refine g_run 1 rfl ?_
                      refine g_iast (j := (((t : Int) + (-1)) - 1).toNat) rfl rfl ((show _ = (((t : Int) + (-1)) - 1) from (ia_sub2 (ia_add2 tE (by decide) (by omega) (by omega)) (by decide) (by omega) (by omega))).trans (by omega)) (by omega) ?_
                      refine g_run 2 rfl ?_
                      obtain ⟨m, rfl, hO2⟩ := okM_s hO (by assumption)
                      refine gG_hp (sRI (c := 59)) ?_
                      have hO3 := okM_j (by omega) (by omega) hO2
                      rw [evMS, ev_j (by omega) (by omega)] at hE
                      refine ih m (k + 1) (t - 1) _ _ _ _ _ _ _ (inc1 iE (by omega)) ((ia_add2 tE (show (-1 : Int32).toInt = -1 from by decide) (by omega) (by omega)).trans (by omega)) (by omega) (by omega) (stk_join hS hO3.1 ⟨by omega, ?_⟩) hO3.2 hE (by omega)
                      rw [← q1, ← q2]
                      first | exact (jM3 (by omega)).symm | exact (jM4 (by omega)).symm | exact (jM5y (by omega) (by omega)).symm | exact (jM5n (by omega) (by omega)).symm | exact (jM6y (by omega) (by omega)).symm | exact (jM6n (by omega) (by omega)).symm | exact (jM7 (by omega) (by omega) (by omega)).symm | exact (jM7n (by omega) (by omega)).symm
                    · refine g_run 2 rfl ?_
                      refine g_iast (j := (((t : Int) + (-1)) - 1).toNat) rfl rfl ((show _ = (((t : Int) + (-1)) - 1) from (ia_sub2 (ia_add2 tE (by decide) (by omega) (by omega)) (by decide) (by omega) (by omega))).trans (by omega)) (by omega) ?_
                      refine g_run 2 rfl ?_
                      obtain ⟨m, rfl, hO2⟩ := okM_s hO (by assumption)
                      refine gG_hp (sRI (c := 59)) ?_
                      have hO3 := okM_j (by omega) (by omega) hO2
                      rw [evMS, ev_j (by omega) (by omega)] at hE
                      refine ih m (k + 1) (t - 1) _ _ _ _ _ _ _ (inc1 iE (by omega)) ((ia_add2 tE (show (-1 : Int32).toInt = -1 from by decide) (by omega) (by omega)).trans (by omega)) (by omega) (by omega) (stk_join hS hO3.1 ⟨by omega, ?_⟩) hO3.2 hE (by omega)
                      rw [← q1, ← q2]
                      first | exact (jM3 (by omega)).symm | exact (jM4 (by omega)).symm | exact (jM5y (by omega) (by omega)).symm | exact (jM5n (by omega) (by omega)).symm | exact (jM6y (by omega) (by omega)).symm | exact (jM6n (by omega) (by omega)).symm | exact (jM7 (by omega) (by omega) (by omega)).symm | exact (jM7n (by omega) (by omega)).symm
                · refine g_run 2 rfl ?_
                  refine gj_ne (kx := ((sR hp 59 w).1 59 ((((t : Int) + (-1)) - 1).toNat)).toInt) (kz := ((sR hp 59 w).1 59 (((t : Int) + (-1)).toNat)).toInt) rfl rfl rfl (fun k11 => ?_) (fun k11 => ?_)
                  · refine g_run 2 rfl ?_
                    refine g_iast (j := (((t : Int) + (-1)) - 1).toNat) rfl rfl ((show _ = (((t : Int) + (-1)) - 1) from (ia_sub2 (ia_add2 tE (by decide) (by omega) (by omega)) (by decide) (by omega) (by omega))).trans (by omega)) (by omega) ?_
                    refine g_run 2 rfl ?_
                    obtain ⟨m, rfl, hO2⟩ := okM_s hO (by assumption)
                    refine gG_hp (sRI (c := 59)) ?_
                    have hO3 := okM_j (by omega) (by omega) hO2
                    rw [evMS, ev_j (by omega) (by omega)] at hE
                    refine ih m (k + 1) (t - 1) _ _ _ _ _ _ _ (inc1 iE (by omega)) ((ia_add2 tE (show (-1 : Int32).toInt = -1 from by decide) (by omega) (by omega)).trans (by omega)) (by omega) (by omega) (stk_join hS hO3.1 ⟨by omega, ?_⟩) hO3.2 hE (by omega)
                    rw [← q1, ← q2]
                    first | exact (jM3 (by omega)).symm | exact (jM4 (by omega)).symm | exact (jM5y (by omega) (by omega)).symm | exact (jM5n (by omega) (by omega)).symm | exact (jM6y (by omega) (by omega)).symm | exact (jM6n (by omega) (by omega)).symm | exact (jM7 (by omega) (by omega) (by omega)).symm | exact (jM7n (by omega) (by omega)).symm
                  · refine g_run 2 rfl ?_
                    refine g_iast (j := (((t : Int) + (-1)) - 1).toNat) rfl rfl ((show _ = (((t : Int) + (-1)) - 1) from (ia_sub2 (ia_add2 tE (by decide) (by omega) (by omega)) (by decide) (by omega) (by omega))).trans (by omega)) (by omega) ?_
                    refine g_run 2 rfl ?_
                    obtain ⟨m, rfl, hO2⟩ := okM_s hO (by assumption)
                    refine gG_hp (sRI (c := 59)) ?_
                    have hO3 := okM_j (by omega) (by omega) hO2
                    rw [evMS, ev_j (by omega) (by omega)] at hE
                    refine ih m (k + 1) (t - 1) _ _ _ _ _ _ _ (inc1 iE (by omega)) ((ia_add2 tE (show (-1 : Int32).toInt = -1 from by decide) (by omega) (by omega)).trans (by omega)) (by omega) (by omega) (stk_join hS hO3.1 ⟨by omega, ?_⟩) hO3.2 hE (by omega)
                    rw [← q1, ← q2]
                    first | exact (jM3 (by omega)).symm | exact (jM4 (by omega)).symm | exact (jM5y (by omega) (by omega)).symm | exact (jM5n (by omega) (by omega)).symm | exact (jM6y (by omega) (by omega)).symm | exact (jM6n (by omega) (by omega)).symm | exact (jM7 (by omega) (by omega) (by omega)).symm | exact (jM7n (by omega) (by omega)).symm
              · refine g_run 2 rfl ?_
                refine gj_ge (kx := ((sR hp 59 w).1 59 ((((t : Int) + (-1)) - 1).toNat)).toInt) (kz := ((sR hp 59 w).1 59 (((t : Int) + (-1)).toNat)).toInt) rfl rfl rfl (fun k12 => ?_) (fun k12 => ?_)
                · refine g_run 2 rfl ?_
                  refine g_iast (j := (((t : Int) + (-1)) - 1).toNat) rfl rfl ((show _ = (((t : Int) + (-1)) - 1) from (ia_sub2 (ia_add2 tE (by decide) (by omega) (by omega)) (by decide) (by omega) (by omega))).trans (by omega)) (by omega) ?_
                  refine g_run 2 rfl ?_
                  obtain ⟨m, rfl, hO2⟩ := okM_s hO (by assumption)
                  refine gG_hp (sRI (c := 59)) ?_
                  have hO3 := okM_j (by omega) (by omega) hO2
                  rw [evMS, ev_j (by omega) (by omega)] at hE
                  refine ih m (k + 1) (t - 1) _ _ _ _ _ _ _ (inc1 iE (by omega)) ((ia_add2 tE (show (-1 : Int32).toInt = -1 from by decide) (by omega) (by omega)).trans (by omega)) (by omega) (by omega) (stk_join hS hO3.1 ⟨by omega, ?_⟩) hO3.2 hE (by omega)
                  rw [← q1, ← q2]
                  first | exact (jM3 (by omega)).symm | exact (jM4 (by omega)).symm | exact (jM5y (by omega) (by omega)).symm | exact (jM5n (by omega) (by omega)).symm | exact (jM6y (by omega) (by omega)).symm | exact (jM6n (by omega) (by omega)).symm | exact (jM7 (by omega) (by omega) (by omega)).symm | exact (jM7n (by omega) (by omega)).symm
                · refine g_run 2 rfl ?_
                  refine g_iast (j := (((t : Int) + (-1)) - 1).toNat) rfl rfl ((show _ = (((t : Int) + (-1)) - 1) from (ia_sub2 (ia_add2 tE (by decide) (by omega) (by omega)) (by decide) (by omega) (by omega))).trans (by omega)) (by omega) ?_
                  refine g_run 2 rfl ?_
                  obtain ⟨m, rfl, hO2⟩ := okM_s hO (by assumption)
                  refine gG_hp (sRI (c := 59)) ?_
                  have hO3 := okM_j (by omega) (by omega) hO2
                  rw [evMS, ev_j (by omega) (by omega)] at hE
                  refine ih m (k + 1) (t - 1) _ _ _ _ _ _ _ (inc1 iE (by omega)) ((ia_add2 tE (show (-1 : Int32).toInt = -1 from by decide) (by omega) (by omega)).trans (by omega)) (by omega) (by omega) (stk_join hS hO3.1 ⟨by omega, ?_⟩) hO3.2 hE (by omega)
                  rw [← q1, ← q2]
                  first | exact (jM3 (by omega)).symm | exact (jM4 (by omega)).symm | exact (jM5y (by omega) (by omega)).symm | exact (jM5n (by omega) (by omega)).symm | exact (jM6y (by omega) (by omega)).symm | exact (jM6n (by omega) (by omega)).symm | exact (jM7 (by omega) (by omega) (by omega)).symm | exact (jM7n (by omega) (by omega)).symm
            · refine g_run 4 rfl ?_
              refine g_iast (j := (((t : Int) + (-1)) - 1).toNat) rfl rfl ((show _ = (((t : Int) + (-1)) - 1) from (ia_sub2 (ia_add2 tE (by decide) (by omega) (by omega)) (by decide) (by omega) (by omega))).trans (by omega)) (by omega) ?_
              refine g_run 2 rfl ?_
              obtain ⟨m, rfl, hO2⟩ := okM_s hO (by assumption)
              refine gG_hp (sRI (c := 59)) ?_
              have hO3 := okM_j (by omega) (by omega) hO2
              rw [evMS, ev_j (by omega) (by omega)] at hE
              refine ih m (k + 1) (t - 1) _ _ _ _ _ _ _ (inc1 iE (by omega)) ((ia_add2 tE (show (-1 : Int32).toInt = -1 from by decide) (by omega) (by omega)).trans (by omega)) (by omega) (by omega) (stk_join hS hO3.1 ⟨by omega, ?_⟩) hO3.2 hE (by omega)
              rw [← q1, ← q2]
              first | exact (jM3 (by omega)).symm | exact (jM4 (by omega)).symm | exact (jM5y (by omega) (by omega)).symm | exact (jM5n (by omega) (by omega)).symm | exact (jM6y (by omega) (by omega)).symm | exact (jM6n (by omega) (by omega)).symm | exact (jM7 (by omega) (by omega) (by omega)).symm | exact (jM7n (by omega) (by omega)).symm
          · refine g_run 4 rfl ?_
            refine g_iast (j := (((t : Int) + (-1)) - 1).toNat) rfl rfl ((show _ = (((t : Int) + (-1)) - 1) from (ia_sub2 (ia_add2 tE (by decide) (by omega) (by omega)) (by decide) (by omega) (by omega))).trans (by omega)) (by omega) ?_
            refine g_run 2 rfl ?_
            obtain ⟨m, rfl, hO2⟩ := okM_s hO (by assumption)
            refine gG_hp (sRI (c := 59)) ?_
            have hO3 := okM_j (by omega) (by omega) hO2
            rw [evMS, ev_j (by omega) (by omega)] at hE
            refine ih m (k + 1) (t - 1) _ _ _ _ _ _ _ (inc1 iE (by omega)) ((ia_add2 tE (show (-1 : Int32).toInt = -1 from by decide) (by omega) (by omega)).trans (by omega)) (by omega) (by omega) (stk_join hS hO3.1 ⟨by omega, ?_⟩) hO3.2 hE (by omega)
            rw [← q1, ← q2]
            first | exact (jM3 (by omega)).symm | exact (jM4 (by omega)).symm | exact (jM5y (by omega) (by omega)).symm | exact (jM5n (by omega) (by omega)).symm | exact (jM6y (by omega) (by omega)).symm | exact (jM6n (by omega) (by omega)).symm | exact (jM7 (by omega) (by omega) (by omega)).symm | exact (jM7n (by omega) (by omega)).symm
        · refine g_run 5 rfl ?_
          refine gj_ne (kx := (hp.1 53 k).toInt) (kz := 1) rfl rfl (by decide) (fun k13 => ?_) (fun k13 => ?_)
          · have hK := okM_k (by omega) hO
            refine g_run 5 rfl ?_
            refine g_iald (j := k) rfl rfl ((show _ = (k : Int) from iE).trans (by omega)) (by omega) ?_
            refine g_iald (j := ((hp.1 54 k).toInt).toNat) rfl rfl ((show _ = (hp.1 54 k).toInt from rfl).trans (by omega)) (by omega) ?_
            refine g_iast (j := t) rfl rfl ((show _ = (t : Int) from tE).trans (by omega)) (by omega) ?_
            refine g_run 4 rfl ?_
            obtain ⟨m, rfl, hO2⟩ := okM_s hO (by assumption)
            refine gG_hp (sRI (c := 59)) ?_
            have hO3 := okM_p (by omega) hO2
            rw [evMS, ev_p (by omega)] at hE
            refine ih m (k + 1) (t + 1) _ _ _ _ _ _ _ (inc1 iE (by omega)) (inc1 tE (by omega)) (by omega) (by omega) ?_ hO3.2 hE (by omega)
            first | (exfalso; omega) | (rw [stk_e (by first | rw [if_pos (by omega)] | rw [if_neg (by omega)])]; exact stk_up hS)
          · refine g_run 3 rfl ?_
            refine g_iald (j := k) rfl rfl ((show _ = (k : Int) from iE).trans (by omega)) (by omega) ?_
            refine g_run 1 rfl ?_
            refine g_iast (j := t) rfl rfl ((show _ = (t : Int) from tE).trans (by omega)) (by omega) ?_
            refine g_run 4 rfl ?_
            obtain ⟨m, rfl, hO2⟩ := okM_s hO (by assumption)
            refine gG_hp (sRI (c := 59)) ?_
            have hO3 := okM_p (by omega) hO2
            rw [evMS, ev_p (by omega)] at hE
            refine ih m (k + 1) (t + 1) _ _ _ _ _ _ _ (inc1 iE (by omega)) (inc1 tE (by omega)) (by omega) (by omega) ?_ hO3.2 hE (by omega)
            first | (exfalso; omega) | (rw [stk_e (by first | rw [if_pos (by omega)] | rw [if_neg (by omega)])]; exact stk_up hS)
theorem c_X10_valueOf {fr : Int32} {kF n : Nat} (kE : fr.toInt = (kF : Int)) (hk : kF + n < 1320) (hO : okM (hp.1 53) (hp.1 54) n kF 0) (h1 : ∀ w : Nat → Int32, Q (some (.int ((evMS (hp.1 58) (hp.1 53) (hp.1 54) n kF []).headD 0))) (SH b xs) (sR hp 59 w)) : gC mX10_valueOf d 0 0 [.ref 43, .int fr] (SH b xs) hp Q := by
  refine g_enter okX10_valueOf (plainFor_of_name rfl) rfl ?_
  refine g_run 4 rfl ?_
  refine gG_hp (sR_rid (c := 59)).symm ?_
  exact lp_X10_valueOf h1 (n + 1) n kF 0 _ _ _ [] _ _ _ kE (by decide) hk (by omega) stk_0 hO rfl (by omega)
end S29
