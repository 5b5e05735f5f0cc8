/-! the class's tokens -/
def TX (hp : hp_T) (k p m q : Int32) : hp_T := sI (sI (sI (sI hp 8 1 k) 8 2 p) 8 3 m) 8 4 q
section TXS
variable {hp : hp_T} {k p m q v : Int32}
theorem tx_eq {h1 h2 : hp_T} (h : ∀ i, h1.1 8 i = h2.1 8 i) (h3 : ∀ c i, c ≠ 8 → h1.1 c i = h2.1 c i) (h4 : h1.2 = h2.2) : h1 = h2 := two_ext (fun c i => if e : c = 8 then by rw [e]; exact h i else h3 c i e) h4
theorem tx_r (i : Nat) : (TX hp k p m q).1 8 i = if i = 4 then q else if i = 3 then m else if i = 2 then p else if i = 1 then k else hp.1 8 i := by simp [TX, sI, va_up]
theorem tx_o {c : Nat} (h : c ≠ 8) : (TX hp k p m q).1 c = hp.1 c := by simp [TX, sI, va_up, h]
theorem tx_k : sI (TX hp k p m q) 8 1 v = TX hp v p m q := tx_eq (fun i => by
  rw [sI_at, tx_r, va_up, tx_r]; by_cases h : i = 1 <;> simp [h]) (fun c i h => by rw [sI_ne h, tx_o h, tx_o h]) rfl
theorem tx_p : sI (TX hp k p m q) 8 2 v = TX hp k v m q := tx_eq (fun i => by
  rw [sI_at, tx_r, va_up, tx_r]; by_cases h : i = 2 <;> simp [h]) (fun c i h => by rw [sI_ne h, tx_o h, tx_o h]) rfl
theorem tx_m : sI (TX hp k p m q) 8 3 v = TX hp k p v q := tx_eq (fun i => by
  rw [sI_at, tx_r, va_up, tx_r]; by_cases h : i = 3 <;> simp [h]) (fun c i h => by rw [sI_ne h, tx_o h, tx_o h]) rfl
theorem tx_q : sI (TX hp k p m q) 8 4 v = TX hp k p m v := tx_eq (fun i => by
  rw [sI_at, tx_r, va_up, tx_r]; by_cases h : i = 4 <;> simp [h]) (fun c i h => by rw [sI_ne h, tx_o h, tx_o h]) rfl
theorem tx_id : TX hp (hp.1 8 1) (hp.1 8 2) (hp.1 8 3) (hp.1 8 4) = hp := tx_eq (fun i => by
  rw [tx_r]; by_cases h1 : i = 4
  · simp [h1]
  · by_cases h2 : i = 3
    · simp [h2]
    · by_cases h3 : i = 2
      · simp [h3]
      · by_cases h4 : i = 1 <;> simp [h1, h2, h3, h4]) (fun c i h => by rw [tx_o h]) rfl
theorem tx_tx {k2 p2 m2 q2 : Int32} : TX (TX hp k p m q) k2 p2 m2 q2 = TX hp k2 p2 m2 q2 := tx_eq (fun i => by
  rw [tx_r, tx_r, tx_r]; by_cases h1 : i = 4
  · simp [h1]
  · by_cases h2 : i = 3
    · simp [h2]
    · by_cases h3 : i = 2
      · simp [h3]
      · by_cases h4 : i = 1 <;> simp [h1, h2, h3, h4]) (fun c i h => by rw [tx_o h, tx_o h, tx_o h]) rfl
end TXS
theorem ksn_2 (c : Int) : ksn c ≠ 2 := by
  unfold ksn
  repeat' split
  all_goals decide
theorem kwd_2 (t : Nat → Int32) (p L : Nat) : kwd t p L ≠ 2 := by
  unfold kwd
  repeat' split
  all_goals decide
section S39
variable {d : Nat} {sh : sh_T} {hp : hp_T} {Q : Option Value → sh_T → hp_T → Prop} {b : Bool} {xs : sh_T}
theorem c_X8_isBlank {n : Int32} {nI : Int} (nE : n.toInt = nI) (h1 : nI = 10 ∨ nI = 32 → Q (some (.int 1)) sh hp) (h0 : nI ≠ 10 ∧ nI ≠ 32 → Q (some (.int 0)) sh hp) : gC mX8_isBlank d 0 0 [.int n] sh hp Q := by
  refine g_enter okX8_isBlank (plainFor_of_name rfl) rfl ?_
  refine g_run 2 rfl ?_
  refine gj_eq (kx := nI) (kz := 10) rfl nE (by decide) (fun k1 => ?_) (fun k1 => ?_)
  · refine g_run 2 rfl ?_
    exact g_zret rfl rfl (Or.inr rfl) (by first | exact h1 (by omega) | exact h0 (by omega))
  · refine g_run 2 rfl ?_
    refine gj_ne (kx := nI) (kz := 32) rfl nE (by decide) (fun k2 => ?_) (fun k2 => ?_)
    · refine g_run 1 rfl ?_
      exact g_zret rfl rfl (Or.inl rfl) (by first | exact h1 (by omega) | exact h0 (by omega))
    · refine g_run 2 rfl ?_
      exact g_zret rfl rfl (Or.inr rfl) (by first | exact h1 (by omega) | exact h0 (by omega))
theorem c_X8_begin {k p m q : Int32} (h1 : Q none (SH b xs) (TX hp 0 0 0 0)) : gC mX8_begin d 0 0 [.ref 8] (SH b xs) (TX hp k p m q) Q := by
  refine g_enter okX8_begin (plainFor_of_name rfl) rfl ?_
  refine g_run 12 rfl ?_
  refine gG_hp (h2 := TX hp 0 0 0 0) (by rw [tx_k, tx_p, tx_m, tx_q]) ?_
  exact g_vret rfl rfl h1
theorem lp_X8_skipBlanks  {n : Nat} (hn : (hp.1 5 1).toInt = (n : Int)) (hn6 : n ≤ 600) {k m q : Int32} {P0 : Nat} (h1 : ∀ z : Int32, z.toInt = (P0 : Int) → Q none (SH b xs) (TX hp k z m z)) : ∀ (f P : Nat) (p : Int32), p.toInt = (P : Int) → P ≤ n → spE isBl (hp.1 6) n P = P0 → n - P < f → gG mX8_skipBlanks (d + 1) 0 0 (zQ 0 0 Q) 0 0 (8, [.ref 8], [], (SH b xs), (TX hp k p m q)) := by
  intro f
  induction f with
  | zero => intros; omega
  | succ f ih =>
    intro P p pE hP e0 hf
    refine g_run 5 rfl ?_
    refine gj_ge (kx := (P : Int)) (kz := (n : Int)) rfl pE hn (fun k1 => ?_) (fun k1 => ?_)
    · refine g_run 4 rfl ?_
      refine gG_hp tx_q ?_
      rw [spE_n (by first | exact Or.inl (by omega) | exact Or.inr (by simp only [isBl, decide_eq_false_iff_not]; omega))] at e0
      exact g_vret rfl rfl (h1 _ (by rw [← e0]; exact pE))
    · refine g_run 5 rfl ?_
      refine g_bald (j := P) rfl rfl ((show _ = (P : Int) from pE).trans (by omega)) (by omega) ?_
      refine g_callS0 rfl LX8_61 rfl rfl ?_
      refine c_X8_isBlank (nI := (hp.1 6 P).toInt) rfl (fun k2 => ?_) (fun k3 => ?_)
      · refine gz_eq (kx := 1) rfl (show (1 : Int32).toInt = 1 from by decide) (fun q => absurd q (by decide)) (fun _ => ?_)
        refine g_run 7 rfl ?_
        refine gG_hp tx_p ?_
        exact ih (P + 1) _ (inc1 pE (by omega)) (by omega) (by rw [← spE_y (by omega) (by simp only [isBl, decide_eq_true_eq]; omega)]; exact e0) (by omega)
      · refine gz_eq (kx := 0) rfl (show (0 : Int32).toInt = 0 from by decide) (fun _ => ?_) (fun q => absurd q (by decide))
        refine g_run 4 rfl ?_
        refine gG_hp tx_q ?_
        rw [spE_n (by first | exact Or.inl (by omega) | exact Or.inr (by simp only [isBl, decide_eq_false_iff_not]; omega))] at e0
        exact g_vret rfl rfl (h1 _ (by rw [← e0]; exact pE))
theorem c_X8_skipBlanks {n : Nat} (hn : (hp.1 5 1).toInt = (n : Int)) (hn6 : n ≤ 600) {k p m q : Int32} {e : Nat} (qE : q.toInt = (e : Int)) (he : e ≤ n) (h1 : ∀ z : Int32, z.toInt = (spE isBl (hp.1 6) n e : Int) → Q none (SH b xs) (TX hp k z m z)) : gC mX8_skipBlanks (d + 1) 0 0 [.ref 8] (SH b xs) (TX hp k p m q) Q := by
  refine g_enter okX8_skipBlanks (plainFor_of_name rfl) rfl ?_
  refine g_run 4 rfl ?_
  refine gG_hp tx_p ?_
  exact lp_X8_skipBlanks hn hn6 h1 601 e _ qE he rfl (by omega)
theorem lp_X8_goBehindWord  {n : Nat} (hn : (hp.1 5 1).toInt = (n : Int)) (hn6 : n ≤ 600) {k p m : Int32} {P0 : Nat} (h1 : ∀ z : Int32, z.toInt = (P0 : Int) → Q none (SH b xs) (TX hp k p m z)) : ∀ (f e : Nat) (q : Int32), q.toInt = (e : Int) → e ≤ n → spE isLe (hp.1 6) n e = P0 → n - e < f → gG mX8_goBehindWord (d + 2) 0 0 (zQ 0 0 Q) 0 0 (0, [.ref 8], [], (SH b xs), (TX hp k p m q)) := by
  intro f
  induction f with
  | zero => intros; omega
  | succ f ih =>
    intro e q qE hP e0 hf
    refine g_run 5 rfl ?_
    refine gj_ge (kx := (e : Int)) (kz := (n : Int)) rfl qE hn (fun k1 => ?_) (fun k1 => ?_)
    · rw [spE_n (by first | exact Or.inl (by omega) | exact Or.inr (by simp only [isLe, decide_eq_false_iff_not]; omega))] at e0
      exact g_vret rfl rfl (h1 _ (by rw [← e0]; exact qE))
    · refine g_run 5 rfl ?_
      refine g_bald (j := e) rfl rfl ((show _ = (e : Int) from qE).trans (by omega)) (by omega) ?_
      refine g_callS0 rfl LX8_41 rfl rfl ?_
      refine c_X8_isLetter (nI := (hp.1 6 e).toInt) rfl (fun k2 => ?_) (fun k3 => ?_)
      · refine gz_eq (kx := 1) rfl (show (1 : Int32).toInt = 1 from by decide) (fun q => absurd q (by decide)) (fun _ => ?_)
        refine g_run 7 rfl ?_
        refine gG_hp tx_q ?_
        exact ih (e + 1) _ (inc1 qE (by omega)) (by omega) (by rw [← spE_y (by omega) (by simp only [isLe, decide_eq_true_eq]; omega)]; exact e0) (by omega)
      · refine gz_eq (kx := 0) rfl (show (0 : Int32).toInt = 0 from by decide) (fun _ => ?_) (fun q => absurd q (by decide))
        rw [spE_n (by first | exact Or.inl (by omega) | exact Or.inr (by simp only [isLe, decide_eq_false_iff_not]; omega))] at e0
        exact g_vret rfl rfl (h1 _ (by rw [← e0]; exact qE))
theorem c_X8_goBehindWord {n : Nat} (hn : (hp.1 5 1).toInt = (n : Int)) (hn6 : n ≤ 600) {k p m q : Int32} {e : Nat} (qE : q.toInt = (e : Int)) (he : e ≤ n) (h1 : ∀ z : Int32, z.toInt = (spE isLe (hp.1 6) n e : Int) → Q none (SH b xs) (TX hp k p m z)) : gC mX8_goBehindWord (d + 2) 0 0 [.ref 8] (SH b xs) (TX hp k p m q) Q := by
  refine g_enter okX8_goBehindWord (plainFor_of_name rfl) rfl ?_
  exact lp_X8_goBehindWord hn hn6 h1 601 e _ qE he rfl (by omega)
theorem lp_X8_readNumber  {n : Nat} (hn : (hp.1 5 1).toInt = (n : Int)) (hn6 : n ≤ 600) {k p : Int32} {P P0 : Nat} (pE : p.toInt = (P : Int)) (h1 : ∀ z y : Int32, z.toInt = (P0 : Int) → y.toInt = nz (hp.1 6) P (P0 - P) → Q none (SH b xs) (TX hp k p y z)) : ∀ (f e : Nat) (q m : Int32), q.toInt = (e : Int) → e ≤ n → P ≤ e → m.toInt = nz (hp.1 6) P (e - P) → (∀ j, j < e - P → isDg (hp.1 6 (P + j)).toInt = true) → spE isDg (hp.1 6) n e = P0 → n - e < f → gG mX8_readNumber (d + 2) 0 0 (zQ 0 0 Q) 0 0 (5, [.ref 8], [], (SH b xs), (TX hp k p m q)) := by
  intro f
  induction f with
  | zero => intros; omega
  | succ f ih =>
    intro e q m qE hP hPe mE hd e0 hf
    have hb9 := nz_bd (t := hp.1 6) (p := P) (e - P) hd
    refine g_run 5 rfl ?_
    refine gj_ge (kx := (e : Int)) (kz := (n : Int)) rfl qE hn (fun k1 => ?_) (fun k1 => ?_)
    · rw [spE_n (by first | exact Or.inl (by omega) | exact Or.inr (by simp only [isDg, decide_eq_false_iff_not]; omega))] at e0
      exact g_vret rfl rfl (h1 _ _ (by rw [← e0]; exact qE) (by rw [← e0]; exact mE))
    · refine g_run 5 rfl ?_
      refine g_bald (j := e) rfl rfl ((show _ = (e : Int) from qE).trans (by omega)) (by omega) ?_
      refine g_callS0 rfl LX8_52 rfl rfl ?_
      refine c_X8_isDigit (nI := (hp.1 6 e).toInt) rfl (fun k2 => ?_) (fun k3 => ?_)
      · refine gz_eq (kx := 1) rfl (show (1 : Int32).toInt = 1 from by decide) (fun q => absurd q (by decide)) (fun _ => ?_)
        refine g_run 6 rfl ?_
        refine gj_ge (kx := ((e : Int) - (P : Int))) (kz := 4) rfl (ia_sub2 qE pE (by omega) (by omega)) (by decide) (fun k4 => ?_) (fun k4 => ?_)
        · refine g_run 7 rfl ?_
          refine gG_hp tx_q ?_
          exact ih (e + 1) _ _ (inc1 qE (by omega)) (by omega) (by omega) (by rw [show e + 1 - P = (e - P) + 1 by omega, nz, if_neg (by omega)]; exact mE) (fun j hj => (Nat.lt_or_ge j (e - P)).elim (fun q => hd j q) (fun q => by rw [show P + j = e by omega]; exact (by simp only [isDg, decide_eq_true_eq]; omega))) (by rw [← spE_y (by omega) (by simp only [isDg, decide_eq_true_eq]; omega)]; exact e0) (by omega)
        · refine g_run 10 rfl ?_
          refine g_bald (j := e) rfl rfl ((show _ = (e : Int) from qE).trans (by omega)) (by omega) ?_
          refine g_run 11 rfl ?_
          refine gG_hp (by rw [tx_m, tx_q]) ?_
          exact ih (e + 1) _ _ (inc1 qE (by omega)) (by omega) (by omega) (by rw [show e + 1 - P = (e - P) + 1 by omega, nz, if_pos (by omega), show P + (e - P) = e by omega]; exact ia_sub2 (ia_add2 (ia_mul2 mE (by decide : (10 : Int32).toInt = 10) (by omega) (by omega)) rfl (by omega) (by omega)) (by decide) (by omega) (by omega)) (fun j hj => (Nat.lt_or_ge j (e - P)).elim (fun q => hd j q) (fun q => by rw [show P + j = e by omega]; exact (by simp only [isDg, decide_eq_true_eq]; omega))) (by rw [← spE_y (by omega) (by simp only [isDg, decide_eq_true_eq]; omega)]; exact e0) (by omega)
      · refine gz_eq (kx := 0) rfl (show (0 : Int32).toInt = 0 from by decide) (fun _ => ?_) (fun q => absurd q (by decide))
        rw [spE_n (by first | exact Or.inl (by omega) | exact Or.inr (by simp only [isDg, decide_eq_false_iff_not]; omega))] at e0
        exact g_vret rfl rfl (h1 _ _ (by rw [← e0]; exact qE) (by rw [← e0]; exact mE))
theorem c_X8_readNumber {n : Nat} (hn : (hp.1 5 1).toInt = (n : Int)) (hn6 : n ≤ 600) {k p m q : Int32} {P : Nat} (pE : p.toInt = (P : Int)) (qE : q.toInt = (P : Int)) (he : P ≤ n) (h1 : ∀ z y : Int32, z.toInt = (spE isDg (hp.1 6) n P : Int) → y.toInt = nz (hp.1 6) P (spE isDg (hp.1 6) n P - P) → Q none (SH b xs) (TX hp k p y z)) : gC mX8_readNumber (d + 2) 0 0 [.ref 8] (SH b xs) (TX hp k p m q) Q := by
  refine g_enter okX8_readNumber (plainFor_of_name rfl) rfl ?_
  refine g_run 3 rfl ?_
  refine gG_hp tx_m ?_
  exact lp_X8_readNumber hn hn6 pE h1 601 P _ _ qE he (Nat.le_refl _) (by rw [Nat.sub_self]; rfl) (fun j hj => by omega) rfl (by omega)
theorem c_X8_kindOfSign {n : Int32} {nI : Int} (nE : n.toInt = nI) (h1 : ∀ r : Int32, r.toInt = ksn nI → Q (some (.int r)) sh hp) : gC mX8_kindOfSign d 0 0 [.int n] sh hp Q := by
  refine g_enter okX8_kindOfSign (plainFor_of_name rfl) rfl ?_
  refine g_run 1 rfl ?_
  rcases (show nI < 40 ∨ 61 < nI ∨ nI = 40 ∨ nI = 41 ∨ nI = 42 ∨ nI = 43 ∨ nI = 44 ∨ nI = 45 ∨ nI = 46 ∨ nI = 47 ∨ nI = 48 ∨ nI = 49 ∨ nI = 50 ∨ nI = 51 ∨ nI = 52 ∨ nI = 53 ∨ nI = 54 ∨ nI = 55 ∨ nI = 56 ∨ nI = 57 ∨ nI = 58 ∨ nI = 59 ∨ nI = 60 ∨ nI = 61 by omega) with k1 | k1 | k1 | k1 | k1 | k1 | k1 | k1 | k1 | k1 | k1 | k1 | k1 | k1 | k1 | k1 | k1 | k1 | k1 | k1 | k1 | k1 | k1 | k1
  · refine g_tabOut (tgt := 125) rfl (Or.inl (by rw [show _ = nI from nE]; omega)) (by decide) ?_
    refine g_run 1 rfl ?_
    exact g_iret rfl rfl (h1 _ (by unfold ksn; (repeat' split) <;> first | (exfalso; omega) | decide))
  · refine g_tabOut (tgt := 125) rfl (Or.inr (by rw [show _ = nI from nE]; omega)) (by decide) ?_
    refine g_run 1 rfl ?_
    exact g_iret rfl rfl (h1 _ (by unfold ksn; (repeat' split) <;> first | (exfalso; omega) | decide))
  · refine g_tabIn (i := 0) (tgt := 104) rfl ((show _ = nI from nE).trans (by omega)) (by decide) rfl (by decide) ?_
    refine g_run 1 rfl ?_
    exact g_iret rfl rfl (h1 _ (by unfold ksn; (repeat' split) <;> first | (exfalso; omega) | decide))
  · refine g_tabIn (i := 1) (tgt := 107) rfl ((show _ = nI from nE).trans (by omega)) (by decide) rfl (by decide) ?_
    refine g_run 1 rfl ?_
    exact g_iret rfl rfl (h1 _ (by unfold ksn; (repeat' split) <;> first | (exfalso; omega) | decide))
  · refine g_tabIn (i := 2) (tgt := 125) rfl ((show _ = nI from nE).trans (by omega)) (by decide) rfl (by decide) ?_
    refine g_run 1 rfl ?_
    exact g_iret rfl rfl (h1 _ (by unfold ksn; (repeat' split) <;> first | (exfalso; omega) | decide))
  · refine g_tabIn (i := 3) (tgt := 116) rfl ((show _ = nI from nE).trans (by omega)) (by decide) rfl (by decide) ?_
    refine g_run 1 rfl ?_
    exact g_iret rfl rfl (h1 _ (by unfold ksn; (repeat' split) <;> first | (exfalso; omega) | decide))
  · refine g_tabIn (i := 4) (tgt := 125) rfl ((show _ = nI from nE).trans (by omega)) (by decide) rfl (by decide) ?_
    refine g_run 1 rfl ?_
    exact g_iret rfl rfl (h1 _ (by unfold ksn; (repeat' split) <;> first | (exfalso; omega) | decide))
  · refine g_tabIn (i := 5) (tgt := 119) rfl ((show _ = nI from nE).trans (by omega)) (by decide) rfl (by decide) ?_
    refine g_run 1 rfl ?_
    exact g_iret rfl rfl (h1 _ (by unfold ksn; (repeat' split) <;> first | (exfalso; omega) | decide))
  · refine g_tabIn (i := 6) (tgt := 125) rfl ((show _ = nI from nE).trans (by omega)) (by decide) rfl (by decide) ?_
    refine g_run 1 rfl ?_
    exact g_iret rfl rfl (h1 _ (by unfold ksn; (repeat' split) <;> first | (exfalso; omega) | decide))
  · refine g_tabIn (i := 7) (tgt := 125) rfl ((show _ = nI from nE).trans (by omega)) (by decide) rfl (by decide) ?_
    refine g_run 1 rfl ?_
    exact g_iret rfl rfl (h1 _ (by unfold ksn; (repeat' split) <;> first | (exfalso; omega) | decide))
  · refine g_tabIn (i := 8) (tgt := 125) rfl ((show _ = nI from nE).trans (by omega)) (by decide) rfl (by decide) ?_
    refine g_run 1 rfl ?_
    exact g_iret rfl rfl (h1 _ (by unfold ksn; (repeat' split) <;> first | (exfalso; omega) | decide))
  · refine g_tabIn (i := 9) (tgt := 125) rfl ((show _ = nI from nE).trans (by omega)) (by decide) rfl (by decide) ?_
    refine g_run 1 rfl ?_
    exact g_iret rfl rfl (h1 _ (by unfold ksn; (repeat' split) <;> first | (exfalso; omega) | decide))
  · refine g_tabIn (i := 10) (tgt := 125) rfl ((show _ = nI from nE).trans (by omega)) (by decide) rfl (by decide) ?_
    refine g_run 1 rfl ?_
    exact g_iret rfl rfl (h1 _ (by unfold ksn; (repeat' split) <;> first | (exfalso; omega) | decide))
  · refine g_tabIn (i := 11) (tgt := 125) rfl ((show _ = nI from nE).trans (by omega)) (by decide) rfl (by decide) ?_
    refine g_run 1 rfl ?_
    exact g_iret rfl rfl (h1 _ (by unfold ksn; (repeat' split) <;> first | (exfalso; omega) | decide))
  · refine g_tabIn (i := 12) (tgt := 125) rfl ((show _ = nI from nE).trans (by omega)) (by decide) rfl (by decide) ?_
    refine g_run 1 rfl ?_
    exact g_iret rfl rfl (h1 _ (by unfold ksn; (repeat' split) <;> first | (exfalso; omega) | decide))
  · refine g_tabIn (i := 13) (tgt := 125) rfl ((show _ = nI from nE).trans (by omega)) (by decide) rfl (by decide) ?_
    refine g_run 1 rfl ?_
    exact g_iret rfl rfl (h1 _ (by unfold ksn; (repeat' split) <;> first | (exfalso; omega) | decide))
  · refine g_tabIn (i := 14) (tgt := 125) rfl ((show _ = nI from nE).trans (by omega)) (by decide) rfl (by decide) ?_
    refine g_run 1 rfl ?_
    exact g_iret rfl rfl (h1 _ (by unfold ksn; (repeat' split) <;> first | (exfalso; omega) | decide))
  · refine g_tabIn (i := 15) (tgt := 125) rfl ((show _ = nI from nE).trans (by omega)) (by decide) rfl (by decide) ?_
    refine g_run 1 rfl ?_
    exact g_iret rfl rfl (h1 _ (by unfold ksn; (repeat' split) <;> first | (exfalso; omega) | decide))
  · refine g_tabIn (i := 16) (tgt := 125) rfl ((show _ = nI from nE).trans (by omega)) (by decide) rfl (by decide) ?_
    refine g_run 1 rfl ?_
    exact g_iret rfl rfl (h1 _ (by unfold ksn; (repeat' split) <;> first | (exfalso; omega) | decide))
  · refine g_tabIn (i := 17) (tgt := 125) rfl ((show _ = nI from nE).trans (by omega)) (by decide) rfl (by decide) ?_
    refine g_run 1 rfl ?_
    exact g_iret rfl rfl (h1 _ (by unfold ksn; (repeat' split) <;> first | (exfalso; omega) | decide))
  · refine g_tabIn (i := 18) (tgt := 125) rfl ((show _ = nI from nE).trans (by omega)) (by decide) rfl (by decide) ?_
    refine g_run 1 rfl ?_
    exact g_iret rfl rfl (h1 _ (by unfold ksn; (repeat' split) <;> first | (exfalso; omega) | decide))
  · refine g_tabIn (i := 19) (tgt := 122) rfl ((show _ = nI from nE).trans (by omega)) (by decide) rfl (by decide) ?_
    refine g_run 1 rfl ?_
    exact g_iret rfl rfl (h1 _ (by unfold ksn; (repeat' split) <;> first | (exfalso; omega) | decide))
  · refine g_tabIn (i := 20) (tgt := 110) rfl ((show _ = nI from nE).trans (by omega)) (by decide) rfl (by decide) ?_
    refine g_run 1 rfl ?_
    exact g_iret rfl rfl (h1 _ (by unfold ksn; (repeat' split) <;> first | (exfalso; omega) | decide))
  · refine g_tabIn (i := 21) (tgt := 113) rfl ((show _ = nI from nE).trans (by omega)) (by decide) rfl (by decide) ?_
    refine g_run 1 rfl ?_
    exact g_iret rfl rfl (h1 _ (by unfold ksn; (repeat' split) <;> first | (exfalso; omega) | decide))
theorem lp_X8_isWord {n : Nat} (hn : (hp.1 5 1).toInt = (n : Int)) (hn6 : n ≤ 600) {k p m q : Int32} {P e : Nat} (pE : p.toInt = (P : Int)) (qE : q.toInt = (e : Int)) (hPe : P ≤ e) (hen : e ≤ n) {u : UInt32} (hu : u.toNat < 10) (h1 : eqw (hp.1 6) P (e - P) u.toNat = true → Q (some (.int 1)) (SH b xs) (TX hp k p m q)) (h0 : ¬ eqw (hp.1 6) P (e - P) u.toNat = true → Q (some (.int 0)) (SH b xs) (TX hp k p m q)) (hl : e - P = slen.getD u.toNat 0) : ∀ (f k9 : Nat) (i : Int32), i.toInt = (k9 : Int) → k9 ≤ slen.getD u.toNat 0 → (∀ j, j < k9 → hp.1 6 (P + j) = chS u.toNat j) → slen.getD u.toNat 0 - k9 < f → gG mX8_isWord (d + 4) 0 0 (zQ 0 0 Q) 0 0 (34, [.ref 8, .float u, .int i], [], (SH b xs), (TX hp k p m q)) := by
  have hsl := slen_ok u.toNat hu
  intro f
  induction f with
  | zero => intros; omega
  | succ f ih =>
    intro k9 i iE hk hA hf
    refine g_run 2 rfl ?_
    refine g_callVS rfl LX8_88 rfl hu rfl rfl ?_
    refine c_J0_length (d := d + 2) hu ?_
    refine gj_ge (kx := (k9 : Int)) (kz := ((slen.getD u.toNat 0 : Nat) : Int)) rfl iE (nI_toInt (by omega)) (fun c1 => ?_) (fun c1 => ?_)
    · obtain rfl : k9 = slen.getD u.toNat 0 := by omega
      refine g_run 1 rfl ?_
      exact g_zret rfl rfl (Or.inr rfl) (h1 (by simp only [eqw, decide_eq_true_eq]; exact ⟨hl, hA⟩))
    · refine g_run 7 rfl ?_
      refine g_bald (j := P + k9) rfl rfl ((ia_add2 pE iE (by omega) (by omega)).trans (by omega)) (by omega) ?_
      refine g_run 2 rfl ?_
      refine g_callVS rfl LX8_93 rfl hu rfl rfl ?_
      refine c_J0_charAt hu iE (by omega) ?_
      refine gj_eq (kx := (hp.1 6 (P + k9)).toInt) (kz := (chS u.toNat k9).toInt) rfl rfl rfl (fun c2 => ?_) (fun c2 => ?_)
      · refine g_run 2 rfl ?_
        exact ih (k9 + 1) _ (inc1 iE (by omega)) (by omega) (fun j hj => by
          by_cases c9 : j = k9
          · rw [c9]; exact (ia_eq _ _).mpr c2
          · exact hA j (by omega)) (by omega)
      · refine g_run 1 rfl ?_
        exact g_zret rfl rfl (Or.inl rfl) (h0 (fun z => by
          simp only [eqw, decide_eq_true_eq] at z
          exact c2 (by rw [z.2 k9 (by omega)])))
theorem c_X8_isWord {n : Nat} (hn : (hp.1 5 1).toInt = (n : Int)) (hn6 : n ≤ 600) {k p m q : Int32} {P e : Nat} (pE : p.toInt = (P : Int)) (qE : q.toInt = (e : Int)) (hPe : P ≤ e) (hen : e ≤ n) {u : UInt32} (hu : u.toNat < 10) (h1 : eqw (hp.1 6) P (e - P) u.toNat = true → Q (some (.int 1)) (SH b xs) (TX hp k p m q)) (h0 : ¬ eqw (hp.1 6) P (e - P) u.toNat = true → Q (some (.int 0)) (SH b xs) (TX hp k p m q)) : gC mX8_isWord (d + 4) 0 0 [.ref 8, .float u] (SH b xs) (TX hp k p m q) Q := by
  have hsl := slen_ok u.toNat hu
  refine g_enter okX8_isWord (plainFor_of_name rfl) rfl ?_
  refine g_run 6 rfl ?_
  refine g_callVS rfl LX8_88 rfl hu rfl rfl ?_
  refine c_J0_length (d := d + 2) hu ?_
  refine gj_ne (kx := (e : Int) - (P : Int)) (kz := ((slen.getD u.toNat 0 : Nat) : Int)) rfl (ia_sub2 qE pE (by omega) (by omega)) (nI_toInt (by omega)) (fun c1 => ?_) (fun c1 => ?_)
  · refine g_run 1 rfl ?_
    exact g_zret rfl rfl (Or.inl rfl) (h0 (fun z => by
      simp only [eqw, decide_eq_true_eq] at z
      omega))
  · refine g_run 5 rfl ?_
    refine gj_le (kx := (e : Int)) (kz := (n : Int)) rfl qE hn (fun c2 => ?_) (fun c2 => by exfalso; omega)
    refine g_run 2 rfl ?_
    exact lp_X8_isWord hn hn6 pE qE hPe hen hu h1 h0 (by omega) 10 0 0 (by decide) (by omega) (fun j hj => by omega) (by omega)
theorem c_X8_kindOfWord {n : Nat} (hn : (hp.1 5 1).toInt = (n : Int)) (hn6 : n ≤ 600) {k p m q : Int32} {P e : Nat} (pE : p.toInt = (P : Int)) (qE : q.toInt = (e : Int)) (hPe : P ≤ e) (hen : e ≤ n) {c : Int32} {cI : Int} (cE : (hp.1 6 P).toInt = cI) (cC : c.toInt = cI) (h1 : ∀ r : Int32, r.toInt = kwd (hp.1 6) P (e - P) → Q (some (.int r)) (SH b xs) (TX hp k p m q)) : gC mX8_kindOfWord (d + 5) 0 0 [.ref 8, .int c] (SH b xs) (TX hp k p m q) Q := by
  refine g_enter okX8_kindOfWord (plainFor_of_name rfl) rfl ?_
  refine g_run 1 rfl ?_
  rcases (show cI < 97 ∨ 119 < cI ∨ cI = 97 ∨ cI = 98 ∨ cI = 99 ∨ cI = 100 ∨ cI = 101 ∨ cI = 102 ∨ cI = 103 ∨ cI = 104 ∨ cI = 105 ∨ cI = 106 ∨ cI = 107 ∨ cI = 108 ∨ cI = 109 ∨ cI = 110 ∨ cI = 111 ∨ cI = 112 ∨ cI = 113 ∨ cI = 114 ∨ cI = 115 ∨ cI = 116 ∨ cI = 117 ∨ cI = 118 ∨ cI = 119 by omega) with k1 | k1 | k1 | k1 | k1 | k1 | k1 | k1 | k1 | k1 | k1 | k1 | k1 | k1 | k1 | k1 | k1 | k1 | k1 | k1 | k1 | k1 | k1 | k1 | k1
  · refine g_tabOut (tgt := 261) rfl (Or.inl (by rw [show _ = cI from cC]; omega)) (by decide) ?_
    refine g_run 1 rfl ?_
    exact g_iret rfl rfl (h1 _ (by rw [kw_o cE (by omega)]; decide))
  · refine g_tabOut (tgt := 261) rfl (Or.inr (by rw [show _ = cI from cC]; omega)) (by decide) ?_
    refine g_run 1 rfl ?_
    exact g_iret rfl rfl (h1 _ (by rw [kw_o cE (by omega)]; decide))
  · refine g_tabIn (i := 0) (tgt := 108) rfl ((show _ = cI from cC).trans (by omega)) (by decide) rfl (by decide) ?_
    refine g_run 1 rfl ?_
    refine g_ldcS (u := 0) rfl rfl (by decide) rfl ?_
    refine g_callV0 rfl LX8_66 rfl rfl rfl rfl ?_
    refine c_X8_isWord (u := 0) hn hn6 pE qE hPe hen (by decide) (fun w1 => ?_) (fun w1 => ?_)
    · refine gz_eq (kx := 1) rfl (show (1 : Int32).toInt = 1 from by decide) (fun q => absurd q (by decide)) (fun _ => ?_)
      refine g_run 2 rfl ?_
      exact g_iret rfl rfl (h1 _ (by rw [kw_a (by omega), if_pos (show eqw (hp.1 6) P (e - P) 0 = true from w1)]; decide))
    · refine gz_eq (kx := 0) rfl (show (0 : Int32).toInt = 0 from by decide) (fun _ => ?_) (fun q => absurd q (by decide))
      refine g_run 1 rfl ?_
      exact g_iret rfl rfl (h1 _ (by rw [kw_a (by omega), if_neg (show ¬ eqw (hp.1 6) P (e - P) 0 = true from w1)]; decide))
  · refine g_tabIn (i := 1) (tgt := 261) rfl ((show _ = cI from cC).trans (by omega)) (by decide) rfl (by decide) ?_
    refine g_run 1 rfl ?_
    exact g_iret rfl rfl (h1 _ (by rw [kw_o cE (by omega)]; decide))
  · refine g_tabIn (i := 2) (tgt := 261) rfl ((show _ = cI from cC).trans (by omega)) (by decide) rfl (by decide) ?_
    refine g_run 1 rfl ?_
    exact g_iret rfl rfl (h1 _ (by rw [kw_o cE (by omega)]; decide))
  · refine g_tabIn (i := 3) (tgt := 124) rfl ((show _ = cI from cC).trans (by omega)) (by decide) rfl (by decide) ?_
    refine g_run 1 rfl ?_
    refine g_ldcS (u := 1) rfl rfl (by decide) rfl ?_
    refine g_callV0 rfl LX8_66 rfl rfl rfl rfl ?_
    refine c_X8_isWord (u := 1) hn hn6 pE qE hPe hen (by decide) (fun w1 => ?_) (fun w1 => ?_)
    · refine gz_eq (kx := 1) rfl (show (1 : Int32).toInt = 1 from by decide) (fun q => absurd q (by decide)) (fun _ => ?_)
      refine g_run 2 rfl ?_
      exact g_iret rfl rfl (h1 _ (by rw [kw_d (by omega), if_pos (show eqw (hp.1 6) P (e - P) 1 = true from w1)]; decide))
    · refine gz_eq (kx := 0) rfl (show (0 : Int32).toInt = 0 from by decide) (fun _ => ?_) (fun q => absurd q (by decide))
      refine g_run 1 rfl ?_
      have w0 := w1
      refine g_ldcS (u := 2) rfl rfl (by decide) rfl ?_
      refine g_callV0 rfl LX8_66 rfl rfl rfl rfl ?_
      refine c_X8_isWord (u := 2) hn hn6 pE qE hPe hen (by decide) (fun w1 => ?_) (fun w1 => ?_)
      · refine gz_eq (kx := 1) rfl (show (1 : Int32).toInt = 1 from by decide) (fun q => absurd q (by decide)) (fun _ => ?_)
        refine g_run 2 rfl ?_
        exact g_iret rfl rfl (h1 _ (by rw [kw_d (by omega), if_neg (show ¬ eqw (hp.1 6) P (e - P) 1 = true from w0), if_pos (show eqw (hp.1 6) P (e - P) 2 = true from w1)]; decide))
      · refine gz_eq (kx := 0) rfl (show (0 : Int32).toInt = 0 from by decide) (fun _ => ?_) (fun q => absurd q (by decide))
        refine g_run 1 rfl ?_
        exact g_iret rfl rfl (h1 _ (by rw [kw_d (by omega), if_neg (show ¬ eqw (hp.1 6) P (e - P) 1 = true from w0), if_neg (show ¬ eqw (hp.1 6) P (e - P) 2 = true from w1)]; decide))
  · refine g_tabIn (i := 4) (tgt := 261) rfl ((show _ = cI from cC).trans (by omega)) (by decide) rfl (by decide) ?_
    refine g_run 1 rfl ?_
    exact g_iret rfl rfl (h1 _ (by rw [kw_o cE (by omega)]; decide))
  · refine g_tabIn (i := 5) (tgt := 152) rfl ((show _ = cI from cC).trans (by omega)) (by decide) rfl (by decide) ?_
    refine g_run 1 rfl ?_
    refine g_ldcS (u := 3) rfl rfl (by decide) rfl ?_
    refine g_callV0 rfl LX8_66 rfl rfl rfl rfl ?_
    refine c_X8_isWord (u := 3) hn hn6 pE qE hPe hen (by decide) (fun w1 => ?_) (fun w1 => ?_)
    · refine gz_eq (kx := 1) rfl (show (1 : Int32).toInt = 1 from by decide) (fun q => absurd q (by decide)) (fun _ => ?_)
      refine g_run 2 rfl ?_
      exact g_iret rfl rfl (h1 _ (by rw [kw_f (by omega), if_pos (show eqw (hp.1 6) P (e - P) 3 = true from w1)]; decide))
    · refine gz_eq (kx := 0) rfl (show (0 : Int32).toInt = 0 from by decide) (fun _ => ?_) (fun q => absurd q (by decide))
      refine g_run 1 rfl ?_
      exact g_iret rfl rfl (h1 _ (by rw [kw_f (by omega), if_neg (show ¬ eqw (hp.1 6) P (e - P) 3 = true from w1)]; decide))
  · refine g_tabIn (i := 6) (tgt := 167) rfl ((show _ = cI from cC).trans (by omega)) (by decide) rfl (by decide) ?_
    refine g_run 1 rfl ?_
    refine g_ldcS (u := 4) rfl rfl (by decide) rfl ?_
    refine g_callV0 rfl LX8_66 rfl rfl rfl rfl ?_
    refine c_X8_isWord (u := 4) hn hn6 pE qE hPe hen (by decide) (fun w1 => ?_) (fun w1 => ?_)
    · refine gz_eq (kx := 1) rfl (show (1 : Int32).toInt = 1 from by decide) (fun q => absurd q (by decide)) (fun _ => ?_)
      refine g_run 2 rfl ?_
      exact g_iret rfl rfl (h1 _ (by rw [kw_g (by omega), if_pos (show eqw (hp.1 6) P (e - P) 4 = true from w1)]; decide))
    · refine gz_eq (kx := 0) rfl (show (0 : Int32).toInt = 0 from by decide) (fun _ => ?_) (fun q => absurd q (by decide))
      refine g_run 1 rfl ?_
      exact g_iret rfl rfl (h1 _ (by rw [kw_g (by omega), if_neg (show ¬ eqw (hp.1 6) P (e - P) 4 = true from w1)]; decide))
  · refine g_tabIn (i := 7) (tgt := 261) rfl ((show _ = cI from cC).trans (by omega)) (by decide) rfl (by decide) ?_
    refine g_run 1 rfl ?_
    exact g_iret rfl rfl (h1 _ (by rw [kw_o cE (by omega)]; decide))
  · refine g_tabIn (i := 8) (tgt := 261) rfl ((show _ = cI from cC).trans (by omega)) (by decide) rfl (by decide) ?_
    refine g_run 1 rfl ?_
    exact g_iret rfl rfl (h1 _ (by rw [kw_o cE (by omega)]; decide))
  · refine g_tabIn (i := 9) (tgt := 261) rfl ((show _ = cI from cC).trans (by omega)) (by decide) rfl (by decide) ?_
    refine g_run 1 rfl ?_
    exact g_iret rfl rfl (h1 _ (by rw [kw_o cE (by omega)]; decide))
  · refine g_tabIn (i := 10) (tgt := 261) rfl ((show _ = cI from cC).trans (by omega)) (by decide) rfl (by decide) ?_
    refine g_run 1 rfl ?_
    exact g_iret rfl rfl (h1 _ (by rw [kw_o cE (by omega)]; decide))
  · refine g_tabIn (i := 11) (tgt := 261) rfl ((show _ = cI from cC).trans (by omega)) (by decide) rfl (by decide) ?_
    refine g_run 1 rfl ?_
    exact g_iret rfl rfl (h1 _ (by rw [kw_o cE (by omega)]; decide))
  · refine g_tabIn (i := 12) (tgt := 183) rfl ((show _ = cI from cC).trans (by omega)) (by decide) rfl (by decide) ?_
    refine g_run 1 rfl ?_
    refine g_ldcS (u := 5) rfl rfl (by decide) rfl ?_
    refine g_callV0 rfl LX8_66 rfl rfl rfl rfl ?_
    refine c_X8_isWord (u := 5) hn hn6 pE qE hPe hen (by decide) (fun w1 => ?_) (fun w1 => ?_)
    · refine gz_eq (kx := 1) rfl (show (1 : Int32).toInt = 1 from by decide) (fun q => absurd q (by decide)) (fun _ => ?_)
      refine g_run 2 rfl ?_
      exact g_iret rfl rfl (h1 _ (by rw [kw_m (by omega), if_pos (show eqw (hp.1 6) P (e - P) 5 = true from w1)]; decide))
    · refine gz_eq (kx := 0) rfl (show (0 : Int32).toInt = 0 from by decide) (fun _ => ?_) (fun q => absurd q (by decide))
      refine g_run 1 rfl ?_
      exact g_iret rfl rfl (h1 _ (by rw [kw_m (by omega), if_neg (show ¬ eqw (hp.1 6) P (e - P) 5 = true from w1)]; decide))
  · refine g_tabIn (i := 13) (tgt := 261) rfl ((show _ = cI from cC).trans (by omega)) (by decide) rfl (by decide) ?_
    refine g_run 1 rfl ?_
    exact g_iret rfl rfl (h1 _ (by rw [kw_o cE (by omega)]; decide))
  · refine g_tabIn (i := 14) (tgt := 261) rfl ((show _ = cI from cC).trans (by omega)) (by decide) rfl (by decide) ?_
    refine g_run 1 rfl ?_
    exact g_iret rfl rfl (h1 _ (by rw [kw_o cE (by omega)]; decide))
  · refine g_tabIn (i := 15) (tgt := 261) rfl ((show _ = cI from cC).trans (by omega)) (by decide) rfl (by decide) ?_
    refine g_run 1 rfl ?_
    exact g_iret rfl rfl (h1 _ (by rw [kw_o cE (by omega)]; decide))
  · refine g_tabIn (i := 16) (tgt := 261) rfl ((show _ = cI from cC).trans (by omega)) (by decide) rfl (by decide) ?_
    refine g_run 1 rfl ?_
    exact g_iret rfl rfl (h1 _ (by rw [kw_o cE (by omega)]; decide))
  · refine g_tabIn (i := 17) (tgt := 199) rfl ((show _ = cI from cC).trans (by omega)) (by decide) rfl (by decide) ?_
    refine g_run 1 rfl ?_
    refine g_ldcS (u := 6) rfl rfl (by decide) rfl ?_
    refine g_callV0 rfl LX8_66 rfl rfl rfl rfl ?_
    refine c_X8_isWord (u := 6) hn hn6 pE qE hPe hen (by decide) (fun w1 => ?_) (fun w1 => ?_)
    · refine gz_eq (kx := 1) rfl (show (1 : Int32).toInt = 1 from by decide) (fun q => absurd q (by decide)) (fun _ => ?_)
      refine g_run 2 rfl ?_
      exact g_iret rfl rfl (h1 _ (by rw [kw_r (by omega), if_pos (show eqw (hp.1 6) P (e - P) 6 = true from w1)]; decide))
    · refine gz_eq (kx := 0) rfl (show (0 : Int32).toInt = 0 from by decide) (fun _ => ?_) (fun q => absurd q (by decide))
      refine g_run 1 rfl ?_
      exact g_iret rfl rfl (h1 _ (by rw [kw_r (by omega), if_neg (show ¬ eqw (hp.1 6) P (e - P) 6 = true from w1)]; decide))
  · refine g_tabIn (i := 18) (tgt := 261) rfl ((show _ = cI from cC).trans (by omega)) (by decide) rfl (by decide) ?_
    refine g_run 1 rfl ?_
    exact g_iret rfl rfl (h1 _ (by rw [kw_o cE (by omega)]; decide))
  · refine g_tabIn (i := 19) (tgt := 215) rfl ((show _ = cI from cC).trans (by omega)) (by decide) rfl (by decide) ?_
    refine g_run 1 rfl ?_
    refine g_ldcS (u := 7) rfl rfl (by decide) rfl ?_
    refine g_callV0 rfl LX8_66 rfl rfl rfl rfl ?_
    refine c_X8_isWord (u := 7) hn hn6 pE qE hPe hen (by decide) (fun w1 => ?_) (fun w1 => ?_)
    · refine gz_eq (kx := 1) rfl (show (1 : Int32).toInt = 1 from by decide) (fun q => absurd q (by decide)) (fun _ => ?_)
      refine g_run 2 rfl ?_
      exact g_iret rfl rfl (h1 _ (by rw [kw_t (by omega), if_pos (show eqw (hp.1 6) P (e - P) 7 = true from w1)]; decide))
    · refine gz_eq (kx := 0) rfl (show (0 : Int32).toInt = 0 from by decide) (fun _ => ?_) (fun q => absurd q (by decide))
      refine g_run 1 rfl ?_
      exact g_iret rfl rfl (h1 _ (by rw [kw_t (by omega), if_neg (show ¬ eqw (hp.1 6) P (e - P) 7 = true from w1)]; decide))
  · refine g_tabIn (i := 20) (tgt := 261) rfl ((show _ = cI from cC).trans (by omega)) (by decide) rfl (by decide) ?_
    refine g_run 1 rfl ?_
    exact g_iret rfl rfl (h1 _ (by rw [kw_o cE (by omega)]; decide))
  · refine g_tabIn (i := 21) (tgt := 261) rfl ((show _ = cI from cC).trans (by omega)) (by decide) rfl (by decide) ?_
    refine g_run 1 rfl ?_
    exact g_iret rfl rfl (h1 _ (by rw [kw_o cE (by omega)]; decide))
  · refine g_tabIn (i := 22) (tgt := 231) rfl ((show _ = cI from cC).trans (by omega)) (by decide) rfl (by decide) ?_
    refine g_run 1 rfl ?_
    refine g_ldcS (u := 8) rfl rfl (by decide) rfl ?_
    refine g_callV0 rfl LX8_66 rfl rfl rfl rfl ?_
    refine c_X8_isWord (u := 8) hn hn6 pE qE hPe hen (by decide) (fun w1 => ?_) (fun w1 => ?_)
    · refine gz_eq (kx := 1) rfl (show (1 : Int32).toInt = 1 from by decide) (fun q => absurd q (by decide)) (fun _ => ?_)
      refine g_run 2 rfl ?_
      exact g_iret rfl rfl (h1 _ (by rw [kw_w (by omega), if_pos (show eqw (hp.1 6) P (e - P) 8 = true from w1)]; decide))
    · refine gz_eq (kx := 0) rfl (show (0 : Int32).toInt = 0 from by decide) (fun _ => ?_) (fun q => absurd q (by decide))
      refine g_run 1 rfl ?_
      have w0 := w1
      refine g_ldcS (u := 9) rfl rfl (by decide) rfl ?_
      refine g_callV0 rfl LX8_66 rfl rfl rfl rfl ?_
      refine c_X8_isWord (u := 9) hn hn6 pE qE hPe hen (by decide) (fun w1 => ?_) (fun w1 => ?_)
      · refine gz_eq (kx := 1) rfl (show (1 : Int32).toInt = 1 from by decide) (fun q => absurd q (by decide)) (fun _ => ?_)
        refine g_run 2 rfl ?_
        exact g_iret rfl rfl (h1 _ (by rw [kw_w (by omega), if_neg (show ¬ eqw (hp.1 6) P (e - P) 8 = true from w0), if_pos (show eqw (hp.1 6) P (e - P) 9 = true from w1)]; decide))
      · refine gz_eq (kx := 0) rfl (show (0 : Int32).toInt = 0 from by decide) (fun _ => ?_) (fun q => absurd q (by decide))
        refine g_run 1 rfl ?_
        exact g_iret rfl rfl (h1 _ (by rw [kw_w (by omega), if_neg (show ¬ eqw (hp.1 6) P (e - P) 8 = true from w0), if_neg (show ¬ eqw (hp.1 6) P (e - P) 9 = true from w1)]; decide))
theorem c_X8_advance {n : Nat} (hn : (hp.1 5 1).toInt = (n : Int)) (hn6 : n ≤ 600) {k p m q : Int32} {e : Nat} (qE : q.toInt = (e : Int)) (he : e ≤ n) (h1 : ∀ k2 p2 m2 q2 : Int32, k2.toInt = (tok (hp.1 6) n e).1 → p2.toInt = ((tok (hp.1 6) n e).2.1 : Int) → q2.toInt = ((tok (hp.1 6) n e).2.2 : Int) → ((tok (hp.1 6) n e).1 = 2 → m2.toInt = nz (hp.1 6) (tok (hp.1 6) n e).2.1 ((tok (hp.1 6) n e).2.2 - (tok (hp.1 6) n e).2.1)) → Q none (SH b xs) (TX hp k2 p2 m2 q2)) : gC mX8_advance (d + 6) 0 0 [.ref 8] (SH b xs) (TX hp k p m q) Q := by
  refine g_enter okX8_advance (plainFor_of_name rfl) rfl ?_
  refine g_run 1 rfl ?_
  refine g_callV0 rfl LX8_29 rfl rfl rfl rfl ?_
  refine c_X8_skipBlanks hn hn6 qE he (fun z pE => ?_)
  have hP1 : e ≤ spE isBl (hp.1 6) n e := spE_ge
  have hP2 : spE isBl (hp.1 6) n e ≤ n := spE_le he
  generalize hP : spE isBl (hp.1 6) n e = P at *
  have qE2 := pE
  refine g_run 5 rfl ?_
  refine gj_lt (kx := (P : Int)) (kz := (n : Int)) rfl pE hn (fun k1 => ?_) (fun k1 => ?_)
  · refine g_run 5 rfl ?_
    refine g_bald (j := P) rfl rfl ((show _ = (P : Int) from pE).trans (by omega)) (by omega) ?_
    refine g_callS0 rfl LX8_41 rfl rfl ?_
    refine c_X8_isLetter (nI := (hp.1 6 P).toInt) rfl (fun k2 => ?_) (fun k3 => ?_)
    · refine gz_eq (kx := 1) rfl (show (1 : Int32).toInt = 1 from by decide) (fun q => absurd q (by decide)) (fun _ => ?_)
      refine g_run 1 rfl ?_
      refine g_callV0 rfl LX8_45 rfl rfl rfl rfl ?_
      refine c_X8_goBehindWord hn hn6 qE2 (by omega) (fun y yE => ?_)
      have hE1 : P ≤ spE isLe (hp.1 6) n P := spE_ge
      have hE2 : spE isLe (hp.1 6) n P ≤ n := spE_le (by omega)
      generalize he2 : spE isLe (hp.1 6) n P = e2 at *
      refine g_run 7 rfl ?_
      refine g_bald (j := P) rfl rfl ((show _ = (P : Int) from pE).trans (by omega)) (by omega) ?_
      refine g_callV0 rfl LX8_48 rfl rfl rfl rfl ?_
      refine c_X8_kindOfWord hn hn6 pE yE (by omega) (by omega) rfl rfl (fun r rE => ?_)
      refine g_run 2 rfl ?_
      have hT := tok_w hP (by omega) (by simp only [isLe, decide_eq_true_eq]; omega) he2
      refine gG_hp tx_k ?_
      exact g_vret rfl rfl (h1 _ _ _ _ (by rw [hT]; exact rE) (by rw [hT]; exact pE) (by rw [hT]; exact yE) (fun z => by rw [hT] at z; exact absurd z (kwd_2 _ _ _)))
    · refine gz_eq (kx := 0) rfl (show (0 : Int32).toInt = 0 from by decide) (fun _ => ?_) (fun q => absurd q (by decide))
      refine g_run 5 rfl ?_
      refine g_bald (j := P) rfl rfl ((show _ = (P : Int) from pE).trans (by omega)) (by omega) ?_
      refine g_callS0 rfl LX8_52 rfl rfl ?_
      refine c_X8_isDigit (nI := (hp.1 6 P).toInt) rfl (fun k4 => ?_) (fun k5 => ?_)
      · refine gz_eq (kx := 1) rfl (show (1 : Int32).toInt = 1 from by decide) (fun q => absurd q (by decide)) (fun _ => ?_)
        refine g_run 1 rfl ?_
        refine g_callV0 rfl LX8_55 rfl rfl rfl rfl ?_
        refine c_X8_readNumber hn hn6 pE qE2 (by omega) (fun y x yE xE => ?_)
        have hE1 : P ≤ spE isDg (hp.1 6) n P := spE_ge
        have hE2 : spE isDg (hp.1 6) n P ≤ n := spE_le (by omega)
        generalize he2 : spE isDg (hp.1 6) n P = e2 at *
        refine g_run 7 rfl ?_
        refine gj_le (kx := ((e2 : Int) - (P : Int))) (kz := 4) rfl (ia_sub2 yE pE (by omega) (by omega)) (by decide) (fun k6 => ?_) (fun k6 => ?_)
        · refine g_run 3 rfl ?_
          have hT := tok_d hP (by omega) (by simp only [isDg, decide_eq_true_eq]; omega) he2
          refine gG_hp tx_k ?_
          exact g_vret rfl rfl (h1 _ _ _ _ (by rw [hT]; dsimp only; rw [if_neg (by omega)]; decide) (by rw [hT]; exact pE) (by rw [hT]; exact yE) (fun _ => by rw [hT]; exact xE))
        · refine g_run 4 rfl ?_
          have hT := tok_d hP (by omega) (by simp only [isDg, decide_eq_true_eq]; omega) he2
          refine gG_hp tx_k ?_
          exact g_vret rfl rfl (h1 _ _ _ _ (by rw [hT]; dsimp only; rw [if_pos (by omega)]; decide) (by rw [hT]; exact pE) (by rw [hT]; exact yE) (fun _ => by rw [hT]; exact xE))
      · refine gz_eq (kx := 0) rfl (show (0 : Int32).toInt = 0 from by decide) (fun _ => ?_) (fun q => absurd q (by decide))
        refine g_run 12 rfl ?_
        refine g_bald (j := P) rfl rfl ((show _ = (P : Int) from pE).trans (by omega)) (by omega) ?_
        refine g_callS0 rfl LX8_58 rfl rfl ?_
        refine c_X8_kindOfSign rfl (fun r rE => ?_)
        refine g_run 1 rfl ?_
        have hT := tok_s hP (by omega) (by simp only [isLe, decide_eq_false_iff_not]; omega) (by simp only [isDg, decide_eq_false_iff_not]; omega)
        refine gG_hp (by rw [tx_q, tx_k]) ?_
        exact g_vret rfl rfl (h1 _ _ _ _ (by rw [hT]; exact rE) (by rw [hT]; exact pE) (by rw [hT]; exact inc1 pE (by omega)) (fun z => by rw [hT] at z; exact absurd z (ksn_2 _)))
  · refine g_run 4 rfl ?_
    have hT := tok_0 hP (by omega)
    refine gG_hp tx_k ?_
    exact g_vret rfl rfl (h1 _ _ _ _ (by rw [hT]; rfl) (by rw [hT]; exact pE) (by rw [hT]; exact pE) (fun z => by rw [hT] at z; cases z))
end S39
