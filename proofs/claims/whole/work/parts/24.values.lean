/-! the rules' values in the class -/
theorem ia_neg2 {a : Int32} {x : Int} (ha : a.toInt = x) (h : -2147483648 < x) : (-a).toInt = -x := by
  have := ia_sub2 (a := 0) (b := a) (x := 0) (y := x) (by decide) ha (by have := ia_bd a; omega) (by have := ia_bd a; omega)
  rw [Int32.zero_sub] at this
  omega
def jd (k : Int) (l r : Int32) : Int32 := if k = 7 then (if l.toInt ≠ 0 ∧ r.toInt ≠ 0 then 1 else 0) else if k = 15 then (if l.toInt < r.toInt then 1 else 0) else if k = 16 then (if l.toInt = r.toInt then 1 else 0) else if k = 17 then l + r else l - r
theorem jd_ok {k : Int} {l r v : Int32} (h : jd k l r = v) : jd k l r = v := h
def vN (hp : hp_T) (k : Int) : Int32 := if k = 3 then hp.1 15 6 else if k = 4 then hp.1 15 7 else if k = 8 then hp.1 15 4 else if k = 9 then hp.1 15 5 else if k = 10 then hp.1 16 (hp.1 15 4).toInt.toNat else if k = 11 then hp.1 15 8 else hp.1 15 3
theorem vN_ok {hp : hp_T} {k : Int} {v : Int32} (h : vN hp k = v) : vN hp k = v := h
def psh (st : (Nat → Int32) × Nat) (v : Int32) : (Nat → Int32) × Nat := if st.2 < 16 then (va_up st.1 st.2 v, st.2 + 1) else st
def pv (st : (Nat → Int32) × Nat) : Int32 := if st.2 = 0 then 0 else st.1 (st.2 - 1)
def pp (st : (Nat → Int32) × Nat) : (Nat → Int32) × Nat := (st.1, st.2 - 1)
theorem psh_y {z : (Nat → Int32) × Nat} {v : Int32} (h : z.2 < 16) : psh z v = (va_up z.1 z.2 v, z.2 + 1) := by rw [psh, if_pos h]
theorem psh_n {z : (Nat → Int32) × Nat} {v : Int32} (h : 16 ≤ z.2) : psh z v = z := by rw [psh, if_neg (by omega)]
theorem psh_le {z : (Nat → Int32) × Nat} {v : Int32} (h : z.2 ≤ 16) : (psh z v).2 ≤ 16 := by
  unfold psh
  split
  · dsimp only; omega
  · exact h
theorem pp1_le {z : (Nat → Int32) × Nat} (h : z.2 ≤ 16) : (pp z).2 ≤ 16 := by simp only [pp]; omega
theorem pp2_le {z : (Nat → Int32) × Nat} (h : z.2 ≤ 16) : (pp (pp z)).2 ≤ 16 := pp1_le (pp1_le h)
theorem pv_0 {z : (Nat → Int32) × Nat} (h : z.2 = 0) : pv z = 0 := by rw [pv, if_pos h]
theorem pv_p {z : (Nat → Int32) × Nat} (h : z.2 ≠ 0) : pv z = z.1 (z.2 - 1) := by rw [pv, if_neg h]
theorem pp_0 {z : (Nat → Int32) × Nat} (h : z.2 = 0) : pp z = z := by
  obtain ⟨w, n⟩ := z
  dsimp only at h
  subst h
  rfl
/-- one step of the rules' reckoning; all of them -/
def ev1 (vn : Int → Int32) (s : Int32) (z : (Nat → Int32) × Nat) : (Nat → Int32) × Nat := if 0 ≤ s.toInt then psh z s else if -s.toInt = 7 ∨ (15 ≤ -s.toInt ∧ -s.toInt ≤ 18) then psh (pp (pp z)) (jd (-s.toInt) (pv (pp z)) (pv z)) else psh z (vn (-s.toInt))
def evS (vn : Int → Int32) (sp : Nat → Int32) : Nat → Nat → (Nat → Int32) × Nat → (Nat → Int32) × Nat
  | 0, _, z => z
  | f + 1, i, z => evS vn sp f (i + 1) (ev1 vn (sp i) z)
def WX (hp : hp_T) (rc : Nat) (st : (Nat → Int32) × Nat) : hp_T := sI (sR hp (rc + 5) st.1) rc 7 (nI st.2)
theorem wx_put9 {hp : hp_T} {z : (Nat → Int32) × Nat} {v : Int32} : sI (sI (WX hp 9 z) 14 z.2 v) 9 7 (nI z.2 + 1) = WX hp 9 (va_up z.1 z.2 v, z.2 + 1) := by
  rw [nI_1]
  refine two_ext (fun q i => ?_) rfl
  simp only [WX, sI, sR]
  by_cases h1 : q = 9
  · subst h1
    by_cases hi : i = 7 <;> simp [va_up, hi]
  · by_cases h2 : q = 14
    · subst h2
      by_cases hi : i = z.2 <;> simp [va_up, hi]
    · simp [va_up, h1, h2]
theorem wx_pop9 {hp : hp_T} {z : (Nat → Int32) × Nat} (h : z.2 ≠ 0) : sI (WX hp 9 z) 9 7 (nI z.2 - 1) = WX hp 9 (pp z) := by
  rw [show z.2 = (z.2 - 1) + 1 by omega, nI_pred]
  refine two_ext (fun q i => ?_) rfl
  simp only [WX, sI, sR, pp]
  by_cases h1 : q = 9
  · subst h1
    by_cases hi : i = 7 <;> simp [va_up, hi]
  · by_cases h2 : q = 14
    · subst h2; simp [va_up]
    · simp [va_up, h1, h2]
theorem wx_id9 {hp : hp_T} : WX hp 9 (hp.1 14, 0) = sI hp 9 7 0 := by
  refine two_ext (fun q i => ?_) rfl
  simp only [WX, sI, sR, nI_0]
  by_cases h1 : q = 9
  · subst h1
    by_cases hi : i = 7 <;> simp [va_up, hi]
  · by_cases h2 : q = 14
    · subst h2; simp [va_up]
    · simp [va_up, h1, h2]
theorem wx_put37 {hp : hp_T} {z : (Nat → Int32) × Nat} {v : Int32} : sI (sI (WX hp 37 z) 42 z.2 v) 37 7 (nI z.2 + 1) = WX hp 37 (va_up z.1 z.2 v, z.2 + 1) := by
  rw [nI_1]
  refine two_ext (fun q i => ?_) rfl
  simp only [WX, sI, sR]
  by_cases h1 : q = 37
  · subst h1
    by_cases hi : i = 7 <;> simp [va_up, hi]
  · by_cases h2 : q = 42
    · subst h2
      by_cases hi : i = z.2 <;> simp [va_up, hi]
    · simp [va_up, h1, h2]
theorem wx_pop37 {hp : hp_T} {z : (Nat → Int32) × Nat} (h : z.2 ≠ 0) : sI (WX hp 37 z) 37 7 (nI z.2 - 1) = WX hp 37 (pp z) := by
  rw [show z.2 = (z.2 - 1) + 1 by omega, nI_pred]
  refine two_ext (fun q i => ?_) rfl
  simp only [WX, sI, sR, pp]
  by_cases h1 : q = 37
  · subst h1
    by_cases hi : i = 7 <;> simp [va_up, hi]
  · by_cases h2 : q = 42
    · subst h2; simp [va_up]
    · simp [va_up, h1, h2]
theorem wx_id37 {hp : hp_T} : WX hp 37 (hp.1 42, 0) = sI hp 37 7 0 := by
  refine two_ext (fun q i => ?_) rfl
  simp only [WX, sI, sR, nI_0]
  by_cases h1 : q = 37
  · subst h1
    by_cases hi : i = 7 <;> simp [va_up, hi]
  · by_cases h2 : q = 42
    · subst h2; simp [va_up]
    · simp [va_up, h1, h2]
section S24
variable {d : Nat} {sh : sh_T} {hp : hp_T} {Q : Option Value → sh_T → hp_T → Prop} {b : Bool} {xs : sh_T}
theorem c_X6_joins {n : Int32} {nI : Int} (nE : n.toInt = nI) (h1 : (nI = 7 ∨ (15 ≤ nI ∧ nI ≤ 18)) → Q (some (.int 1)) sh hp) (h0 : (nI ≠ 7 ∧ (nI < 15 ∨ 18 < nI)) → Q (some (.int 0)) sh hp) : gC mX6_joins (d + 1) 0 0 [.int n] sh hp Q := by
  refine g_enter okX6_joins (plainFor_of_name rfl) rfl ?_
  refine g_run 2 rfl ?_
  refine gj_eq (kx := nI) (kz := 7) rfl nE (by decide) (fun k1 => ?_) (fun k1 => ?_)
  · refine g_run 2 rfl ?_
    exact g_zret rfl rfl (Or.inr rfl) (by first | exact h1 (by omega) | exact h0 (by omega))
  · refine g_run 3 rfl ?_
    refine g_callS0 rfl LX6_64 rfl rfl ?_
    refine c_X9_within (nI := nI) (lI := 15) (uI := 18) nE (by decide) (by decide) (fun k2 => ?_) (fun k3 => ?_)
    · refine gz_eq (kx := 1) rfl (show (1 : Int32).toInt = 1 from by decide) (fun q => absurd q (by decide)) (fun _ => ?_)
      refine g_run 2 rfl ?_
      exact g_zret rfl rfl (Or.inr rfl) (by first | exact h1 (by omega) | exact h0 (by omega))
    · refine gz_eq (kx := 0) rfl (show (0 : Int32).toInt = 0 from by decide) (fun _ => ?_) (fun q => absurd q (by decide))
      refine g_run 1 rfl ?_
      exact g_zret rfl rfl (Or.inl rfl) (by first | exact h1 (by omega) | exact h0 (by omega))
theorem c_X6_joined {n : Int32} {nI : Int} {x : Int32} {xI : Int} {z : Int32} {zI : Int} (nE : n.toInt = nI) (xE : x.toInt = xI) (zE : z.toInt = zI) (hk : nI = 7 ∨ (15 ≤ nI ∧ nI ≤ 18)) (h1 : Q (some (.int (jd nI x z))) sh hp) : gC mX6_joined d 0 0 [.int n, .int x, .int z] sh hp Q := by
  refine g_enter okX6_joined (plainFor_of_name rfl) rfl ?_
  refine g_run 1 rfl ?_
  rcases (show nI = 7 ∨ nI = 15 ∨ nI = 16 ∨ nI = 17 ∨ nI = 18 by omega) with k1 | k1 | k1 | k1 | k1
  · refine g_look (off := 43) (tgt := 44) rfl (by decide) (by rw [show _ = (7 : Int) from (show _ = nI from nE).trans k1]; decide) (by decide) ?_
    refine g_run 1 rfl ?_
    refine gz_eq (kx := xI) rfl xE (fun k2 => ?_) (fun k2 => ?_)
    · refine g_run 1 rfl ?_
      have e : jd nI x z = 0 := by simp only [jd, xE, zE]; repeat (first | rw [if_pos (by omega)] | rw [if_neg (by omega)])
      rw [e] at h1
      exact g_iret rfl rfl h1
    · refine g_run 1 rfl ?_
      refine gz_eq (kx := zI) rfl zE (fun k3 => ?_) (fun k3 => ?_)
      · refine g_run 1 rfl ?_
        have e : jd nI x z = 0 := by simp only [jd, xE, zE]; repeat (first | rw [if_pos (by omega)] | rw [if_neg (by omega)])
        rw [e] at h1
        exact g_iret rfl rfl h1
      · refine g_run 2 rfl ?_
        have e : jd nI x z = 1 := by simp only [jd, xE, zE]; repeat (first | rw [if_pos (by omega)] | rw [if_neg (by omega)])
        rw [e] at h1
        exact g_iret rfl rfl h1
  · refine g_look (off := 57) (tgt := 58) rfl (by decide) (by rw [show _ = (15 : Int) from (show _ = nI from nE).trans k1]; decide) (by decide) ?_
    refine g_run 2 rfl ?_
    refine gj_ge (kx := xI) (kz := zI) rfl xE zE (fun k4 => ?_) (fun k4 => ?_)
    · refine g_run 1 rfl ?_
      have e : jd nI x z = 0 := by simp only [jd, xE, zE]; repeat (first | rw [if_pos (by omega)] | rw [if_neg (by omega)])
      rw [e] at h1
      exact g_iret rfl rfl h1
    · refine g_run 2 rfl ?_
      have e : jd nI x z = 1 := by simp only [jd, xE, zE]; repeat (first | rw [if_pos (by omega)] | rw [if_neg (by omega)])
      rw [e] at h1
      exact g_iret rfl rfl h1
  · refine g_look (off := 68) (tgt := 69) rfl (by decide) (by rw [show _ = (16 : Int) from (show _ = nI from nE).trans k1]; decide) (by decide) ?_
    refine g_run 2 rfl ?_
    refine gj_ne (kx := xI) (kz := zI) rfl xE zE (fun k5 => ?_) (fun k5 => ?_)
    · refine g_run 1 rfl ?_
      have e : jd nI x z = 0 := by simp only [jd, xE, zE]; repeat (first | rw [if_pos (by omega)] | rw [if_neg (by omega)])
      rw [e] at h1
      exact g_iret rfl rfl h1
    · refine g_run 2 rfl ?_
      have e : jd nI x z = 1 := by simp only [jd, xE, zE]; repeat (first | rw [if_pos (by omega)] | rw [if_neg (by omega)])
      rw [e] at h1
      exact g_iret rfl rfl h1
  · refine g_look (off := 79) (tgt := 80) rfl (by decide) (by rw [show _ = (17 : Int) from (show _ = nI from nE).trans k1]; decide) (by decide) ?_
    refine g_run 3 rfl ?_
    have e : jd nI x z = (x + z) := by simp only [jd, xE, zE]; repeat (first | rw [if_pos (by omega)] | rw [if_neg (by omega)])
    rw [e] at h1
    exact g_iret rfl rfl h1
  · refine g_look (off := 83) (tgt := 84) rfl (by decide) (by rw [show _ = (18 : Int) from (show _ = nI from nE).trans k1]; decide) (by decide) ?_
    refine g_run 3 rfl ?_
    have e : jd nI x z = (x - z) := by simp only [jd, xE, zE]; repeat (first | rw [if_pos (by omega)] | rw [if_neg (by omega)])
    rw [e] at h1
    exact g_iret rfl rfl h1
theorem c_X4_valueNow {n : Int32} {nI : Int} (nE : n.toInt = nI) (hm : 0 ≤ (hp.1 15 4).toInt ∧ (hp.1 15 4).toInt < 20) (h1 : Q (some (.int (vN hp nI))) (SH b xs) hp) : gC mX4_valueNow (d + 1) 0 0 [.ref 15, .int n] (SH b xs) hp Q := by
  refine g_enter okX4_valueNow (plainFor_of_name rfl) rfl ?_
  refine g_run 1 rfl ?_
  rcases (show nI < 3 ∨ 11 < nI ∨ nI = 3 ∨ nI = 4 ∨ nI = 5 ∨ nI = 6 ∨ nI = 7 ∨ nI = 8 ∨ nI = 9 ∨ nI = 10 ∨ nI = 11 by omega) with k1 | k1 | k1 | k1 | k1 | k1 | k1 | k1 | k1 | k1 | k1
  · refine g_tabOut (tgt := 104) rfl (Or.inl (by rw [show _ = nI from nE]; omega)) (by decide) ?_
    refine g_run 2 rfl ?_
    first | (exfalso; omega) | (have e : vN hp nI = (hp.1 15 3) := (by simp only [vN]; repeat (first | rw [if_pos (by omega)] | rw [if_neg (by omega)])); rw [e] at h1; exact g_iret rfl rfl h1)
  · refine g_tabOut (tgt := 104) rfl (Or.inr (by rw [show _ = nI from nE]; omega)) (by decide) ?_
    refine g_run 2 rfl ?_
    first | (exfalso; omega) | (have e : vN hp nI = (hp.1 15 3) := (by simp only [vN]; repeat (first | rw [if_pos (by omega)] | rw [if_neg (by omega)])); rw [e] at h1; exact g_iret rfl rfl h1)
  · refine g_tabIn (i := 0) (tgt := 94) rfl ((show _ = nI from nE).trans (by omega)) (by decide) rfl (by decide) ?_
    refine g_run 2 rfl ?_
    first | (exfalso; omega) | (have e : vN hp nI = (hp.1 15 6) := (by simp only [vN]; repeat (first | rw [if_pos (by omega)] | rw [if_neg (by omega)])); rw [e] at h1; exact g_iret rfl rfl h1)
  · refine g_tabIn (i := 1) (tgt := 99) rfl ((show _ = nI from nE).trans (by omega)) (by decide) rfl (by decide) ?_
    refine g_run 2 rfl ?_
    first | (exfalso; omega) | (have e : vN hp nI = (hp.1 15 7) := (by simp only [vN]; repeat (first | rw [if_pos (by omega)] | rw [if_neg (by omega)])); rw [e] at h1; exact g_iret rfl rfl h1)
  · refine g_tabIn (i := 2) (tgt := 104) rfl ((show _ = nI from nE).trans (by omega)) (by decide) rfl (by decide) ?_
    refine g_run 2 rfl ?_
    first | (exfalso; omega) | (have e : vN hp nI = (hp.1 15 3) := (by simp only [vN]; repeat (first | rw [if_pos (by omega)] | rw [if_neg (by omega)])); rw [e] at h1; exact g_iret rfl rfl h1)
  · refine g_tabIn (i := 3) (tgt := 104) rfl ((show _ = nI from nE).trans (by omega)) (by decide) rfl (by decide) ?_
    refine g_run 2 rfl ?_
    first | (exfalso; omega) | (have e : vN hp nI = (hp.1 15 3) := (by simp only [vN]; repeat (first | rw [if_pos (by omega)] | rw [if_neg (by omega)])); rw [e] at h1; exact g_iret rfl rfl h1)
  · refine g_tabIn (i := 4) (tgt := 104) rfl ((show _ = nI from nE).trans (by omega)) (by decide) rfl (by decide) ?_
    refine g_run 2 rfl ?_
    first | (exfalso; omega) | (have e : vN hp nI = (hp.1 15 3) := (by simp only [vN]; repeat (first | rw [if_pos (by omega)] | rw [if_neg (by omega)])); rw [e] at h1; exact g_iret rfl rfl h1)
  · refine g_tabIn (i := 5) (tgt := 52) rfl ((show _ = nI from nE).trans (by omega)) (by decide) rfl (by decide) ?_
    refine g_run 2 rfl ?_
    first | (exfalso; omega) | (have e : vN hp nI = (hp.1 15 4) := (by simp only [vN]; repeat (first | rw [if_pos (by omega)] | rw [if_neg (by omega)])); rw [e] at h1; exact g_iret rfl rfl h1)
  · refine g_tabIn (i := 6) (tgt := 57) rfl ((show _ = nI from nE).trans (by omega)) (by decide) rfl (by decide) ?_
    refine g_run 2 rfl ?_
    first | (exfalso; omega) | (have e : vN hp nI = (hp.1 15 5) := (by simp only [vN]; repeat (first | rw [if_pos (by omega)] | rw [if_neg (by omega)])); rw [e] at h1; exact g_iret rfl rfl h1)
  · refine g_tabIn (i := 7) (tgt := 62) rfl ((show _ = nI from nE).trans (by omega)) (by decide) rfl (by decide) ?_
    refine g_run 4 rfl ?_
    refine g_callS0 rfl LX4_60 rfl rfl ?_
    refine c_X9_within (nI := (hp.1 15 4).toInt) (lI := 0) (uI := 19) rfl (by decide) (by decide) (fun k2 => ?_) (fun k3 => ?_)
    · refine gz_eq (kx := 1) rfl (show (1 : Int32).toInt = 1 from by decide) (fun q => absurd q (by decide)) (fun _ => ?_)
      refine g_run 4 rfl ?_
      refine g_iald (j := ((hp.1 15 4).toInt).toNat) rfl rfl ((show _ = (hp.1 15 4).toInt from rfl).trans (by omega)) (by omega) ?_
      refine g_run 1 rfl ?_
      first | (exfalso; omega) | (have e : vN hp nI = (hp.1 16 (((hp.1 15 4).toInt).toNat)) := (by simp only [vN]; repeat (first | rw [if_pos (by omega)] | rw [if_neg (by omega)])); rw [e] at h1; exact g_iret rfl rfl h1)
    · refine gz_eq (kx := 0) rfl (show (0 : Int32).toInt = 0 from by decide) (fun _ => ?_) (fun q => absurd q (by decide))
      refine g_run 1 rfl ?_
      first | (exfalso; omega) | (have e : vN hp nI = 0 := (by simp only [vN]; repeat (first | rw [if_pos (by omega)] | rw [if_neg (by omega)])); rw [e] at h1; exact g_iret rfl rfl h1)
  · refine g_tabIn (i := 8) (tgt := 89) rfl ((show _ = nI from nE).trans (by omega)) (by decide) rfl (by decide) ?_
    refine g_run 2 rfl ?_
    first | (exfalso; omega) | (have e : vN hp nI = (hp.1 15 8) := (by simp only [vN]; repeat (first | rw [if_pos (by omega)] | rw [if_neg (by omega)])); rw [e] at h1; exact g_iret rfl rfl h1)
theorem c_X6_push_9 {v : Int32} {vI : Int} (vE : v.toInt = vI) {z : (Nat → Int32) × Nat} (hn : z.2 ≤ 16) (h1 : Q none (SH b xs) (WX hp 9 (psh z v))) : gC mX6_push d 0 0 [.ref 9, .int v] (SH b xs) (WX hp 9 z) Q := by
  refine g_enter okX6_push (plainFor_of_name rfl) rfl ?_
  refine g_run 3 rfl ?_
  refine gj_ge (kx := ((z.2 : Nat) : Int)) (kz := 16) rfl (nI_toInt (by omega)) (by decide) (fun k1 => ?_) (fun k1 => ?_)
  · rw [psh_n (by omega)] at h1
    exact g_vret rfl rfl h1
  · refine g_run 5 rfl ?_
    refine g_iast (j := ((z.2 : Nat) : Int).toNat) rfl rfl ((show _ = ((z.2 : Nat) : Int) from (nI_toInt (by omega))).trans (by omega)) (by omega) ?_
    refine g_run 6 rfl ?_
    rw [psh_y (by omega), ← wx_put9] at h1
    exact g_vret rfl rfl h1
theorem c_X6_pop_9 {z : (Nat → Int32) × Nat} (hn : z.2 ≤ 16) (h1 : Q (some (.int (pv z))) (SH b xs) (WX hp 9 (pp z))) : gC mX6_pop d 0 0 [.ref 9] (SH b xs) (WX hp 9 z) Q := by
  refine g_enter okX6_pop (plainFor_of_name rfl) rfl ?_
  refine g_run 2 rfl ?_
  refine gz_gt (kx := ((z.2 : Nat) : Int)) rfl (nI_toInt (by omega)) (fun k1 => ?_) (fun k1 => ?_)
  · refine g_run 10 rfl ?_
    refine g_iald (j := (((z.2 : Nat) : Int) - 1).toNat) rfl rfl ((show _ = (((z.2 : Nat) : Int) - 1) from (ia_sub2 (nI_toInt (by omega)) (by decide) (by omega) (by omega))).trans (by omega)) (by omega) ?_
    have e0 : ((z.2 : Nat) : Int) - 1 = ((z.2 - 1 : Nat) : Int) := by omega
    rw [pv_p (by omega)] at h1
    refine g_iret rfl rfl ?_
    rw [show (WX hp 9 z).1 9 7 = nI z.2 from rfl, wx_pop9 (by omega), e0, Int.toNat_natCast]
    exact h1
  · refine g_run 1 rfl ?_
    rw [pv_0 (by omega), pp_0 (by omega)] at h1
    exact g_iret rfl rfl h1
theorem lp_X6_valueOf_9  (hm : 0 ≤ (hp.1 15 4).toInt ∧ (hp.1 15 4).toInt < 20) {T : Nat} (hsp : T ≤ 600 ∧ ∀ i, i < T → -20 ≤ (hp.1 13 i).toInt) {ln fi : Int32} {lI eI : Int} {E0 : (Nat → Int32) × Nat} (lE : ln.toInt = lI) (hl : 0 ≤ lI ∧ lI < 16) (eE : (hp.1 12 lI.toNat).toInt = eI) (he : eI ≤ (T : Int)) (h1 : Q (some (.int (pv E0))) (SH b xs) (WX hp 9 (pp E0))) : ∀ (f k : Nat) (i : Int32) (z : (Nat → Int32) × Nat) (w5 w6 : Value), i.toInt = (k : Int) → (k : Int) ≤ eI → z.2 ≤ 16 → evS (vN hp) (hp.1 13) (eI.toNat - k) k z = E0 → eI.toNat - k < f → gG mX6_valueOf (d + 2) 0 0 (zQ 0 0 Q) 0 0 (25, [.ref 9, .int ln, .ref 15, .int fi, .int i, w5, w6], [], (SH b xs), (WX hp 9 z)) := by
  intro f
  induction f with
  | zero => intros; omega
  | succ f ih =>
    intro k i z w5 w6 iE hk hz hE hf
    have hT6 := hsp.1
    have hspk := fun q : k < T => hsp.2 k q
    refine g_run 4 rfl ?_
    refine g_iald (j := lI.toNat) rfl rfl ((show _ = lI from lE).trans (by omega)) (by omega) ?_
    refine gj_ge (kx := (k : Int)) (kz := (hp.1 12 lI.toNat).toInt) rfl iE rfl (fun k1 => ?_) (fun k1 => ?_)
    · refine g_run 1 rfl ?_
      refine g_callV0 rfl LX6_48 rfl rfl rfl rfl ?_
      refine c_X6_pop_9 (z := z) (by first | exact hz | exact pp1_le hz) ?_
      rw [show eI.toNat - k = 0 by omega] at hE
      subst hE
      exact g_iret rfl rfl h1
    · refine g_run 3 rfl ?_
      refine g_iald (j := k) rfl rfl ((show _ = (k : Int) from iE).trans (by omega)) (by omega) ?_
      refine g_run 2 rfl ?_
      refine gz_lt (kx := (hp.1 13 k).toInt) rfl rfl (fun k2 => ?_) (fun k2 => ?_)
      · refine g_run 2 rfl ?_
        refine g_callS0 rfl LX6_44 rfl rfl ?_
        refine c_X6_joins (nI := (-(hp.1 13 k).toInt)) (ia_neg2 rfl (by omega)) (fun k3 => ?_) (fun k4 => ?_)
        · refine gz_eq (kx := 1) rfl (show (1 : Int32).toInt = 1 from by decide) (fun q => absurd q (by decide)) (fun _ => ?_)
          refine g_run 1 rfl ?_
          refine g_callV0 rfl LX6_48 rfl rfl rfl rfl ?_
          refine c_X6_pop_9 (z := z) (by first | exact hz | exact pp1_le hz) ?_
          refine g_run 5 rfl ?_
          refine g_callV0 rfl LX6_48 rfl rfl rfl rfl ?_
          refine c_X6_pop_9 (z := (pp z)) (by first | exact hz | exact pp1_le hz) ?_
          refine g_run 1 rfl ?_
          refine g_callS0 rfl LX6_52 rfl rfl ?_
          refine c_X6_joined (nI := (-(hp.1 13 k).toInt)) (ia_neg2 rfl (by omega)) rfl rfl (by omega) ?_
          refine g_callV0 rfl LX6_41 rfl rfl rfl rfl ?_
          refine c_X6_push_9 (z := (pp (pp z))) (vI := _) rfl (by first | exact hz | exact pp2_le hz) ?_
          refine g_run 3 rfl ?_
          rw [show eI.toNat - k = (eI.toNat - (k + 1)) + 1 by omega, evS] at hE
          have e9 : ev1 (vN hp) (hp.1 13 k) z = (psh (pp (pp z)) (jd (-(hp.1 13 k).toInt) (pv (pp z)) (pv z))) := by simp only [ev1]; repeat (first | rw [if_pos (by omega)] | rw [if_neg (by omega)])
          rw [e9] at hE
          exact ih (k + 1) _ _ _ _ (inc1 iE (by omega)) (by omega) (by first | exact psh_le hz | exact psh_le (pp2_le hz)) hE (by omega)
        · refine gz_eq (kx := 0) rfl (show (0 : Int32).toInt = 0 from by decide) (fun _ => ?_) (fun q => absurd q (by decide))
          refine g_run 4 rfl ?_
          refine g_callV0 rfl LX6_56 rfl rfl rfl rfl ?_
          refine c_X4_valueNow (nI := (-(hp.1 13 k).toInt)) (ia_neg2 rfl (by omega)) hm ?_
          refine g_callV0 rfl LX6_41 rfl rfl rfl rfl ?_
          refine c_X6_push_9 (z := z) (vI := _) rfl (by first | exact hz | exact pp2_le hz) ?_
          refine g_run 2 rfl ?_
          rw [show eI.toNat - k = (eI.toNat - (k + 1)) + 1 by omega, evS] at hE
          have e9 : ev1 (vN hp) (hp.1 13 k) z = (psh z (vN hp (-(hp.1 13 k).toInt))) := by simp only [ev1]; repeat (first | rw [if_pos (by omega)] | rw [if_neg (by omega)])
          rw [e9] at hE
          exact ih (k + 1) _ _ _ _ (inc1 iE (by omega)) (by omega) (by first | exact psh_le hz | exact psh_le (pp2_le hz)) hE (by omega)
      · refine g_run 2 rfl ?_
        refine g_callV0 rfl LX6_41 rfl rfl rfl rfl ?_
        refine c_X6_push_9 (z := z) (vI := _) rfl (by first | exact hz | exact pp2_le hz) ?_
        refine g_run 3 rfl ?_
        rw [show eI.toNat - k = (eI.toNat - (k + 1)) + 1 by omega, evS] at hE
        have e9 : ev1 (vN hp) (hp.1 13 k) z = (psh z (hp.1 13 k)) := by simp only [ev1]; repeat (first | rw [if_pos (by omega)] | rw [if_neg (by omega)])
        rw [e9] at hE
        exact ih (k + 1) _ _ _ _ (inc1 iE (by omega)) (by omega) (by first | exact psh_le hz | exact psh_le (pp2_le hz)) hE (by omega)
theorem c_X6_valueOf_9 {l : Int32} {lI : Int} (lE : l.toInt = lI) (hm : 0 ≤ (hp.1 15 4).toInt ∧ (hp.1 15 4).toInt < 20) {T : Nat} (hsp : T ≤ 600 ∧ ∀ i, i < T → -20 ≤ (hp.1 13 i).toInt) (hl : 0 ≤ lI ∧ lI < 16) (he : (hp.1 12 lI.toNat).toInt ≤ (T : Int)) (hf0 : 0 ≤ (if lI = 0 then 0 else (hp.1 12 (lI - 1).toNat).toInt) ∧ (if lI = 0 then 0 else (hp.1 12 (lI - 1).toNat).toInt) ≤ (hp.1 12 lI.toNat).toInt) (h1 : Q (some (.int (pv (evS (vN hp) (hp.1 13) ((hp.1 12 lI.toNat).toInt - (if lI = 0 then 0 else (hp.1 12 (lI - 1).toNat).toInt)).toNat (if lI = 0 then 0 else (hp.1 12 (lI - 1).toNat).toInt).toNat (hp.1 14, 0))))) (SH b xs) (WX hp 9 (pp (evS (vN hp) (hp.1 13) ((hp.1 12 lI.toNat).toInt - (if lI = 0 then 0 else (hp.1 12 (lI - 1).toNat).toInt)).toNat (if lI = 0 then 0 else (hp.1 12 (lI - 1).toNat).toInt).toNat (hp.1 14, 0))))) : gC mX6_valueOf (d + 2) 0 0 [.ref 9, .int l, .ref 15] (SH b xs) hp Q := by
  refine g_enter okX6_valueOf (plainFor_of_name rfl) rfl ?_
  refine g_run 4 rfl ?_
  refine gz_ne (kx := lI) rfl lE (fun k1 => ?_) (fun k1 => ?_)
  · refine g_run 5 rfl ?_
    refine g_iald (j := (lI - 1).toNat) rfl rfl ((show _ = (lI - 1) from (ia_sub2 lE (by decide) (by omega) (by omega))).trans (by omega)) (by omega) ?_
    refine g_run 3 rfl ?_
    refine gG_hp (wx_id9 (hp := hp)).symm ?_
    rw [if_neg (by omega)] at h1 hf0
    exact lp_X6_valueOf_9 hm hsp lE hl rfl he h1 _ (hp.1 12 (lI - 1).toNat).toInt.toNat _ _ _ _ (show (hp.1 12 (lI - 1).toNat).toInt = _ from by omega) (by omega) (by dsimp only; omega) (by rw [show ((hp.1 12 lI.toNat).toInt - (hp.1 12 (lI - 1).toNat).toInt).toNat = (hp.1 12 lI.toNat).toInt.toNat - (hp.1 12 (lI - 1).toNat).toInt.toNat by omega]) (Nat.lt_succ_self _)
  · refine g_run 5 rfl ?_
    refine gG_hp (wx_id9 (hp := hp)).symm ?_
    rw [if_pos (by omega)] at h1 hf0
    exact lp_X6_valueOf_9 hm hsp lE hl rfl he h1 _ 0 0 _ _ _ (by decide) (by omega) (by dsimp only; omega) (by simp) (Nat.lt_succ_self _)
theorem c_X6_push_37 {v : Int32} {vI : Int} (vE : v.toInt = vI) {z : (Nat → Int32) × Nat} (hn : z.2 ≤ 16) (h1 : Q none (SH b xs) (WX hp 37 (psh z v))) : gC mX6_push d 0 0 [.ref 37, .int v] (SH b xs) (WX hp 37 z) Q := by
  refine g_enter okX6_push (plainFor_of_name rfl) rfl ?_
  refine g_run 3 rfl ?_
  refine gj_ge (kx := ((z.2 : Nat) : Int)) (kz := 16) rfl (nI_toInt (by omega)) (by decide) (fun k1 => ?_) (fun k1 => ?_)
  · rw [psh_n (by omega)] at h1
    exact g_vret rfl rfl h1
  · refine g_run 5 rfl ?_
    refine g_iast (j := ((z.2 : Nat) : Int).toNat) rfl rfl ((show _ = ((z.2 : Nat) : Int) from (nI_toInt (by omega))).trans (by omega)) (by omega) ?_
    refine g_run 6 rfl ?_
    rw [psh_y (by omega), ← wx_put37] at h1
    exact g_vret rfl rfl h1
theorem c_X6_pop_37 {z : (Nat → Int32) × Nat} (hn : z.2 ≤ 16) (h1 : Q (some (.int (pv z))) (SH b xs) (WX hp 37 (pp z))) : gC mX6_pop d 0 0 [.ref 37] (SH b xs) (WX hp 37 z) Q := by
  refine g_enter okX6_pop (plainFor_of_name rfl) rfl ?_
  refine g_run 2 rfl ?_
  refine gz_gt (kx := ((z.2 : Nat) : Int)) rfl (nI_toInt (by omega)) (fun k1 => ?_) (fun k1 => ?_)
  · refine g_run 10 rfl ?_
    refine g_iald (j := (((z.2 : Nat) : Int) - 1).toNat) rfl rfl ((show _ = (((z.2 : Nat) : Int) - 1) from (ia_sub2 (nI_toInt (by omega)) (by decide) (by omega) (by omega))).trans (by omega)) (by omega) ?_
    have e0 : ((z.2 : Nat) : Int) - 1 = ((z.2 - 1 : Nat) : Int) := by omega
    rw [pv_p (by omega)] at h1
    refine g_iret rfl rfl ?_
    rw [show (WX hp 37 z).1 37 7 = nI z.2 from rfl, wx_pop37 (by omega), e0, Int.toNat_natCast]
    exact h1
  · refine g_run 1 rfl ?_
    rw [pv_0 (by omega), pp_0 (by omega)] at h1
    exact g_iret rfl rfl h1
theorem lp_X6_valueOf_37  (hm : 0 ≤ (hp.1 15 4).toInt ∧ (hp.1 15 4).toInt < 20) {T : Nat} (hsp : T ≤ 600 ∧ ∀ i, i < T → -20 ≤ (hp.1 41 i).toInt) {ln fi : Int32} {lI eI : Int} {E0 : (Nat → Int32) × Nat} (lE : ln.toInt = lI) (hl : 0 ≤ lI ∧ lI < 16) (eE : (hp.1 40 lI.toNat).toInt = eI) (he : eI ≤ (T : Int)) (h1 : Q (some (.int (pv E0))) (SH b xs) (WX hp 37 (pp E0))) : ∀ (f k : Nat) (i : Int32) (z : (Nat → Int32) × Nat) (w5 w6 : Value), i.toInt = (k : Int) → (k : Int) ≤ eI → z.2 ≤ 16 → evS (vN hp) (hp.1 41) (eI.toNat - k) k z = E0 → eI.toNat - k < f → gG mX6_valueOf (d + 2) 0 0 (zQ 0 0 Q) 0 0 (25, [.ref 37, .int ln, .ref 15, .int fi, .int i, w5, w6], [], (SH b xs), (WX hp 37 z)) := by
  intro f
  induction f with
  | zero => intros; omega
  | succ f ih =>
    intro k i z w5 w6 iE hk hz hE hf
    have hT6 := hsp.1
    have hspk := fun q : k < T => hsp.2 k q
    refine g_run 4 rfl ?_
    refine g_iald (j := lI.toNat) rfl rfl ((show _ = lI from lE).trans (by omega)) (by omega) ?_
    refine gj_ge (kx := (k : Int)) (kz := (hp.1 40 lI.toNat).toInt) rfl iE rfl (fun k1 => ?_) (fun k1 => ?_)
    · refine g_run 1 rfl ?_
      refine g_callV0 rfl LX6_48 rfl rfl rfl rfl ?_
      refine c_X6_pop_37 (z := z) (by first | exact hz | exact pp1_le hz) ?_
      rw [show eI.toNat - k = 0 by omega] at hE
      subst hE
      exact g_iret rfl rfl h1
    · refine g_run 3 rfl ?_
      refine g_iald (j := k) rfl rfl ((show _ = (k : Int) from iE).trans (by omega)) (by omega) ?_
      refine g_run 2 rfl ?_
      refine gz_lt (kx := (hp.1 41 k).toInt) rfl rfl (fun k2 => ?_) (fun k2 => ?_)
      · refine g_run 2 rfl ?_
        refine g_callS0 rfl LX6_44 rfl rfl ?_
        refine c_X6_joins (nI := (-(hp.1 41 k).toInt)) (ia_neg2 rfl (by omega)) (fun k3 => ?_) (fun k4 => ?_)
        · refine gz_eq (kx := 1) rfl (show (1 : Int32).toInt = 1 from by decide) (fun q => absurd q (by decide)) (fun _ => ?_)
          refine g_run 1 rfl ?_
          refine g_callV0 rfl LX6_48 rfl rfl rfl rfl ?_
          refine c_X6_pop_37 (z := z) (by first | exact hz | exact pp1_le hz) ?_
          refine g_run 5 rfl ?_
          refine g_callV0 rfl LX6_48 rfl rfl rfl rfl ?_
          refine c_X6_pop_37 (z := (pp z)) (by first | exact hz | exact pp1_le hz) ?_
          refine g_run 1 rfl ?_
          refine g_callS0 rfl LX6_52 rfl rfl ?_
          refine c_X6_joined (nI := (-(hp.1 41 k).toInt)) (ia_neg2 rfl (by omega)) rfl rfl (by omega) ?_
          refine g_callV0 rfl LX6_41 rfl rfl rfl rfl ?_
          refine c_X6_push_37 (z := (pp (pp z))) (vI := _) rfl (by first | exact hz | exact pp2_le hz) ?_
          refine g_run 3 rfl ?_
          rw [show eI.toNat - k = (eI.toNat - (k + 1)) + 1 by omega, evS] at hE
          have e9 : ev1 (vN hp) (hp.1 41 k) z = (psh (pp (pp z)) (jd (-(hp.1 41 k).toInt) (pv (pp z)) (pv z))) := by simp only [ev1]; repeat (first | rw [if_pos (by omega)] | rw [if_neg (by omega)])
          rw [e9] at hE
          exact ih (k + 1) _ _ _ _ (inc1 iE (by omega)) (by omega) (by first | exact psh_le hz | exact psh_le (pp2_le hz)) hE (by omega)
        · refine gz_eq (kx := 0) rfl (show (0 : Int32).toInt = 0 from by decide) (fun _ => ?_) (fun q => absurd q (by decide))
          refine g_run 4 rfl ?_
          refine g_callV0 rfl LX6_56 rfl rfl rfl rfl ?_
          refine c_X4_valueNow (nI := (-(hp.1 41 k).toInt)) (ia_neg2 rfl (by omega)) hm ?_
          refine g_callV0 rfl LX6_41 rfl rfl rfl rfl ?_
          refine c_X6_push_37 (z := z) (vI := _) rfl (by first | exact hz | exact pp2_le hz) ?_
          refine g_run 2 rfl ?_
          rw [show eI.toNat - k = (eI.toNat - (k + 1)) + 1 by omega, evS] at hE
          have e9 : ev1 (vN hp) (hp.1 41 k) z = (psh z (vN hp (-(hp.1 41 k).toInt))) := by simp only [ev1]; repeat (first | rw [if_pos (by omega)] | rw [if_neg (by omega)])
          rw [e9] at hE
          exact ih (k + 1) _ _ _ _ (inc1 iE (by omega)) (by omega) (by first | exact psh_le hz | exact psh_le (pp2_le hz)) hE (by omega)
      · refine g_run 2 rfl ?_
        refine g_callV0 rfl LX6_41 rfl rfl rfl rfl ?_
        refine c_X6_push_37 (z := z) (vI := _) rfl (by first | exact hz | exact pp2_le hz) ?_
        refine g_run 3 rfl ?_
        rw [show eI.toNat - k = (eI.toNat - (k + 1)) + 1 by omega, evS] at hE
        have e9 : ev1 (vN hp) (hp.1 41 k) z = (psh z (hp.1 41 k)) := by simp only [ev1]; repeat (first | rw [if_pos (by omega)] | rw [if_neg (by omega)])
        rw [e9] at hE
        exact ih (k + 1) _ _ _ _ (inc1 iE (by omega)) (by omega) (by first | exact psh_le hz | exact psh_le (pp2_le hz)) hE (by omega)
theorem c_X6_valueOf_37 {l : Int32} {lI : Int} (lE : l.toInt = lI) (hm : 0 ≤ (hp.1 15 4).toInt ∧ (hp.1 15 4).toInt < 20) {T : Nat} (hsp : T ≤ 600 ∧ ∀ i, i < T → -20 ≤ (hp.1 41 i).toInt) (hl : 0 ≤ lI ∧ lI < 16) (he : (hp.1 40 lI.toNat).toInt ≤ (T : Int)) (hf0 : 0 ≤ (if lI = 0 then 0 else (hp.1 40 (lI - 1).toNat).toInt) ∧ (if lI = 0 then 0 else (hp.1 40 (lI - 1).toNat).toInt) ≤ (hp.1 40 lI.toNat).toInt) (h1 : Q (some (.int (pv (evS (vN hp) (hp.1 41) ((hp.1 40 lI.toNat).toInt - (if lI = 0 then 0 else (hp.1 40 (lI - 1).toNat).toInt)).toNat (if lI = 0 then 0 else (hp.1 40 (lI - 1).toNat).toInt).toNat (hp.1 42, 0))))) (SH b xs) (WX hp 37 (pp (evS (vN hp) (hp.1 41) ((hp.1 40 lI.toNat).toInt - (if lI = 0 then 0 else (hp.1 40 (lI - 1).toNat).toInt)).toNat (if lI = 0 then 0 else (hp.1 40 (lI - 1).toNat).toInt).toNat (hp.1 42, 0))))) : gC mX6_valueOf (d + 2) 0 0 [.ref 37, .int l, .ref 15] (SH b xs) hp Q := by
  refine g_enter okX6_valueOf (plainFor_of_name rfl) rfl ?_
  refine g_run 4 rfl ?_
  refine gz_ne (kx := lI) rfl lE (fun k1 => ?_) (fun k1 => ?_)
  · refine g_run 5 rfl ?_
    refine g_iald (j := (lI - 1).toNat) rfl rfl ((show _ = (lI - 1) from (ia_sub2 lE (by decide) (by omega) (by omega))).trans (by omega)) (by omega) ?_
    refine g_run 3 rfl ?_
    refine gG_hp (wx_id37 (hp := hp)).symm ?_
    rw [if_neg (by omega)] at h1 hf0
    exact lp_X6_valueOf_37 hm hsp lE hl rfl he h1 _ (hp.1 40 (lI - 1).toNat).toInt.toNat _ _ _ _ (show (hp.1 40 (lI - 1).toNat).toInt = _ from by omega) (by omega) (by dsimp only; omega) (by rw [show ((hp.1 40 lI.toNat).toInt - (hp.1 40 (lI - 1).toNat).toInt).toNat = (hp.1 40 lI.toNat).toInt.toNat - (hp.1 40 (lI - 1).toNat).toInt.toNat by omega]) (Nat.lt_succ_self _)
  · refine g_run 5 rfl ?_
    refine gG_hp (wx_id37 (hp := hp)).symm ?_
    rw [if_pos (by omega)] at h1 hf0
    exact lp_X6_valueOf_37 hm hsp lE hl rfl he h1 _ 0 0 _ _ _ (by decide) (by omega) (by dsimp only; omega) (by simp) (Nat.lt_succ_self _)
end S24
