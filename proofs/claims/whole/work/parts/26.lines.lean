/-! a roast's lines in the class -/
/-- where a line's steps begin -/
def frX (hp : hp_T) (rc : Nat) (lI : Int) : Int := if lI = 0 then 0 else (hp.1 (rc + 3) (lI - 1).toNat).toInt
def acX (hp : hp_T) (rc k : Nat) (q : Int32 × Int32 × Int32) : Int32 × Int32 × Int32 := if (valX (vN (FQ hp q)) (hp.1 (rc + 4)) ((hp.1 (rc + 3) k).toInt - frX hp rc (k : Int)).toNat (frX hp rc (k : Int)).toNat).toInt ≠ 0 then (if (hp.1 (rc + 1) k).toInt = 3 then (hp.1 (rc + 2) k, q.2) else if (hp.1 (rc + 1) k).toInt = 4 then (q.1, hp.1 (rc + 2) k, q.2.2) else (q.1, q.2.1, 1)) else q
def gtX (hp : hp_T) (rc : Nat) : Nat → Nat → Int32 × Int32 × Int32 → Int32 × Int32 × Int32
  | 0, _, q => q
  | f + 1, k, q => if q.2.2.toInt = 0 then gtX hp rc f (k + 1) (acX hp rc k q) else q
theorem evS_le {vn : Int → Int32} {sp : Nat → Int32} : ∀ {f i : Nat} {z : (Nat → Int32) × Nat}, z.2 ≤ 16 → (evS vn sp f i z).2 ≤ 16
  | 0, _, _, h => h
  | f + 1, i, z, h => by
    rw [evS]
    refine evS_le ?_
    unfold ev1
    split
    · exact psh_le h
    · split
      · exact psh_le (pp2_le h)
      · exact psh_le h
theorem WX_WX9 {hp : hp_T} {z z1 : (Nat → Int32) × Nat} : WX (WX hp 9 z) 9 z1 = WX hp 9 z1 := by
  refine two_ext (fun c i => ?_) rfl
  simp only [WX, sI, sR]
  by_cases h1 : c = 9
  · subst h1
    by_cases hi : i = 7 <;> simp [va_up, hi]
  · by_cases h2 : c = 14
    · subst h2; simp [va_up]
    · simp [va_up, h1, h2]
theorem FQ_6_9 {hp : hp_T} {q : Int32 × Int32 × Int32} {m : Int32} {z : (Nat → Int32) × Nat} : sI (WX (FQ hp q) 9 z) 15 6 m = WX (FQ hp (m, q.2)) 9 z := by
  refine two_ext (fun c i => ?_) rfl
  simp only [WX, FQ, sI, sR]
  by_cases h1 : c = 15
  · subst h1
    by_cases h6 : i = 6
    · subst h6; simp [va_up]
    · by_cases h7 : i = 7
      · subst h7; simp [va_up]
      · by_cases h10 : i = 10
        · subst h10; simp [va_up]
        · simp [va_up, h6, h7, h10]
  · simp [va_up, h1]
theorem FQ_7_9 {hp : hp_T} {q : Int32 × Int32 × Int32} {m : Int32} {z : (Nat → Int32) × Nat} : sI (WX (FQ hp q) 9 z) 15 7 m = WX (FQ hp (q.1, m, q.2.2)) 9 z := by
  refine two_ext (fun c i => ?_) rfl
  simp only [WX, FQ, sI, sR]
  by_cases h1 : c = 15
  · subst h1
    by_cases h6 : i = 6
    · subst h6; simp [va_up]
    · by_cases h7 : i = 7
      · subst h7; simp [va_up]
      · by_cases h10 : i = 10
        · subst h10; simp [va_up]
        · simp [va_up, h6, h7, h10]
  · simp [va_up, h1]
theorem FQ_10_9 {hp : hp_T} {q : Int32 × Int32 × Int32} {m : Int32} {z : (Nat → Int32) × Nat} : sI (WX (FQ hp q) 9 z) 15 10 m = WX (FQ hp (q.1, q.2.1, m)) 9 z := by
  refine two_ext (fun c i => ?_) rfl
  simp only [WX, FQ, sI, sR]
  by_cases h1 : c = 15
  · subst h1
    by_cases h6 : i = 6
    · subst h6; simp [va_up]
    · by_cases h7 : i = 7
      · subst h7; simp [va_up]
      · by_cases h10 : i = 10
        · subst h10; simp [va_up]
        · simp [va_up, h6, h7, h10]
  · simp [va_up, h1]
theorem WX_WX37 {hp : hp_T} {z z1 : (Nat → Int32) × Nat} : WX (WX hp 37 z) 37 z1 = WX hp 37 z1 := by
  refine two_ext (fun c i => ?_) rfl
  simp only [WX, sI, sR]
  by_cases h1 : c = 37
  · subst h1
    by_cases hi : i = 7 <;> simp [va_up, hi]
  · by_cases h2 : c = 42
    · subst h2; simp [va_up]
    · simp [va_up, h1, h2]
theorem FQ_6_37 {hp : hp_T} {q : Int32 × Int32 × Int32} {m : Int32} {z : (Nat → Int32) × Nat} : sI (WX (FQ hp q) 37 z) 15 6 m = WX (FQ hp (m, q.2)) 37 z := by
  refine two_ext (fun c i => ?_) rfl
  simp only [WX, FQ, sI, sR]
  by_cases h1 : c = 15
  · subst h1
    by_cases h6 : i = 6
    · subst h6; simp [va_up]
    · by_cases h7 : i = 7
      · subst h7; simp [va_up]
      · by_cases h10 : i = 10
        · subst h10; simp [va_up]
        · simp [va_up, h6, h7, h10]
  · simp [va_up, h1]
theorem FQ_7_37 {hp : hp_T} {q : Int32 × Int32 × Int32} {m : Int32} {z : (Nat → Int32) × Nat} : sI (WX (FQ hp q) 37 z) 15 7 m = WX (FQ hp (q.1, m, q.2.2)) 37 z := by
  refine two_ext (fun c i => ?_) rfl
  simp only [WX, FQ, sI, sR]
  by_cases h1 : c = 15
  · subst h1
    by_cases h6 : i = 6
    · subst h6; simp [va_up]
    · by_cases h7 : i = 7
      · subst h7; simp [va_up]
      · by_cases h10 : i = 10
        · subst h10; simp [va_up]
        · simp [va_up, h6, h7, h10]
  · simp [va_up, h1]
theorem FQ_10_37 {hp : hp_T} {q : Int32 × Int32 × Int32} {m : Int32} {z : (Nat → Int32) × Nat} : sI (WX (FQ hp q) 37 z) 15 10 m = WX (FQ hp (q.1, q.2.1, m)) 37 z := by
  refine two_ext (fun c i => ?_) rfl
  simp only [WX, FQ, sI, sR]
  by_cases h1 : c = 15
  · subst h1
    by_cases h6 : i = 6
    · subst h6; simp [va_up]
    · by_cases h7 : i = 7
      · subst h7; simp [va_up]
      · by_cases h10 : i = 10
        · subst h10; simp [va_up]
        · simp [va_up, h6, h7, h10]
  · simp [va_up, h1]
section S26
variable {d : Nat} {sh : sh_T} {hp : hp_T} {Q : Option Value → sh_T → hp_T → Prop} {b : Bool} {xs : sh_T}
theorem lp_X4_goThrough_9  (hm : 0 ≤ (hp.1 15 4).toInt ∧ (hp.1 15 4).toInt < 20) {T : Nat} (hsp : T ≤ 600 ∧ ∀ i, i < T → -20 ≤ (hp.1 13 i).toInt) (hn : 0 ≤ (hp.1 9 0).toInt ∧ (hp.1 9 0).toInt ≤ 16) (hse : ∀ k : Nat, (k : Int) < (hp.1 9 0).toInt → 0 ≤ frX hp 9 (k : Int) ∧ frX hp 9 (k : Int) ≤ (hp.1 12 k).toInt ∧ (hp.1 12 k).toInt ≤ (T : Int)) {q0 : Int32 × Int32 × Int32} (h1 : ∀ z : (Nat → Int32) × Nat, z.2 ≤ 16 → Q none (SH b xs) (WX (FQ hp q0) 9 z)) : ∀ (f k : Nat) (i : Int32) (q : Int32 × Int32 × Int32) (z : (Nat → Int32) × Nat), i.toInt = (k : Int) → (k : Int) ≤ (hp.1 9 0).toInt → z.2 ≤ 16 → gtX hp 9 ((hp.1 9 0).toInt.toNat - k) k q = q0 → (hp.1 9 0).toInt.toNat - k < f → gG mX4_goThrough (d + 3) 0 0 (zQ 0 0 Q) 0 0 (2, [.ref 15, .ref 9, .int i], [], (SH b xs), (WX (FQ hp q) 9 z)) := by
  intro f
  induction f with
  | zero => intros; omega
  | succ f ih =>
    intro k i q z iE hk hz hE hf
    refine g_run 3 rfl ?_
    refine gj_ge (kx := (k : Int)) (kz := (hp.1 9 0).toInt) rfl iE rfl (fun k1 => ?_) (fun k1 => ?_)
    · first | (rw [show (hp.1 9 0).toInt.toNat - k = 0 by omega] at hE; subst hE; exact g_vret rfl rfl (h1 _ hz)) | (rw [show (hp.1 9 0).toInt.toNat - k = ((hp.1 9 0).toInt.toNat - (k + 1)) + 1 by omega, gtX, if_neg (by omega)] at hE; subst hE; exact g_vret rfl rfl (h1 _ hz))
    · refine g_run 2 rfl ?_
      refine gz_ne (kx := q.2.2.toInt) rfl rfl (fun k2 => ?_) (fun k2 => ?_)
      · first | (rw [show (hp.1 9 0).toInt.toNat - k = 0 by omega] at hE; subst hE; exact g_vret rfl rfl (h1 _ hz)) | (rw [show (hp.1 9 0).toInt.toNat - k = ((hp.1 9 0).toInt.toNat - (k + 1)) + 1 by omega, gtX, if_neg (by omega)] at hE; subst hE; exact g_vret rfl rfl (h1 _ hz))
      · refine g_run 3 rfl ?_
        refine g_callV0 rfl LX4_89 rfl rfl rfl rfl ?_
        have hsk := hse k (by omega)
        refine c_X6_valueOf_9 (hp := WX (FQ hp q) 9 z) (lI := (k : Int)) iE hm hsp (by omega) (show (hp.1 12 ((k : Int)).toNat).toInt ≤ (T : Int) from by rw [Int.toNat_natCast]; omega) (show 0 ≤ frX hp 9 (k : Int) ∧ frX hp 9 (k : Int) ≤ (hp.1 12 ((k : Int)).toNat).toInt from by rw [Int.toNat_natCast]; omega) ?_
        refine gG_hp WX_WX9 ?_
        refine gz_eq (kx := (valX (vN (FQ hp q)) (hp.1 13) ((hp.1 12 k).toInt - frX hp 9 (k : Int)).toNat (frX hp 9 (k : Int)).toNat).toInt) rfl (congrArg Int32.toInt val_ok) (fun k3 => ?_) (fun k3 => ?_)
        · refine g_run 2 rfl ?_
          rw [show (hp.1 9 0).toInt.toNat - k = ((hp.1 9 0).toInt.toNat - (k + 1)) + 1 by omega, gtX, if_pos (by omega)] at hE
          have ea : acX hp 9 k q = q := by unfold acX; rw [if_neg (by simpa using (show (valX (vN (FQ hp q)) (hp.1 13) ((hp.1 12 k).toInt - frX hp 9 (k : Int)).toNat (frX hp 9 (k : Int)).toNat).toInt = 0 from by assumption))]
          rw [ea] at hE
          exact ih (k + 1) _ _ _ (inc1 iE (by omega)) (by omega) (pp1_le (evS_le (by dsimp only; omega))) hE (by omega)
        · refine g_run 4 rfl ?_
          refine g_iald (j := k) rfl rfl ((show _ = (k : Int) from iE).trans (by omega)) (by omega) ?_
          refine g_run 3 rfl ?_
          refine g_iald (j := k) rfl rfl ((show _ = (k : Int) from iE).trans (by omega)) (by omega) ?_
          refine g_callV0 rfl LX4_99 rfl rfl rfl rfl ?_
          refine c_X4_doAct (aI := (hp.1 10 k).toInt) rfl rfl (fun k4 => ?_) (fun k4 => ?_) (fun k4 => ?_)
          · refine g_run 2 rfl ?_
            rw [show (hp.1 9 0).toInt.toNat - k = ((hp.1 9 0).toInt.toNat - (k + 1)) + 1 by omega, gtX, if_pos (by omega)] at hE
            refine gG_hp FQ_6_9 ?_
            have ea : acX hp 9 k q = (hp.1 11 k, q.2) := by unfold acX; rw [if_pos (show (valX (vN (FQ hp q)) (hp.1 13) ((hp.1 12 k).toInt - frX hp 9 (k : Int)).toNat (frX hp 9 (k : Int)).toNat).toInt ≠ 0 from by assumption)]; simp only [Nat.reduceAdd]; repeat (first | rw [if_pos (by omega)] | rw [if_neg (by omega)])
            rw [ea] at hE
            exact ih (k + 1) _ _ _ (inc1 iE (by omega)) (by omega) (pp1_le (evS_le (by dsimp only; omega))) hE (by omega)
          · refine g_run 2 rfl ?_
            rw [show (hp.1 9 0).toInt.toNat - k = ((hp.1 9 0).toInt.toNat - (k + 1)) + 1 by omega, gtX, if_pos (by omega)] at hE
            refine gG_hp FQ_7_9 ?_
            have ea : acX hp 9 k q = (q.1, hp.1 11 k, q.2.2) := by unfold acX; rw [if_pos (show (valX (vN (FQ hp q)) (hp.1 13) ((hp.1 12 k).toInt - frX hp 9 (k : Int)).toNat (frX hp 9 (k : Int)).toNat).toInt ≠ 0 from by assumption)]; simp only [Nat.reduceAdd]; repeat (first | rw [if_pos (by omega)] | rw [if_neg (by omega)])
            rw [ea] at hE
            exact ih (k + 1) _ _ _ (inc1 iE (by omega)) (by omega) (pp1_le (evS_le (by dsimp only; omega))) hE (by omega)
          · refine g_run 2 rfl ?_
            rw [show (hp.1 9 0).toInt.toNat - k = ((hp.1 9 0).toInt.toNat - (k + 1)) + 1 by omega, gtX, if_pos (by omega)] at hE
            refine gG_hp FQ_10_9 ?_
            have ea : acX hp 9 k q = (q.1, q.2.1, 1) := by unfold acX; rw [if_pos (show (valX (vN (FQ hp q)) (hp.1 13) ((hp.1 12 k).toInt - frX hp 9 (k : Int)).toNat (frX hp 9 (k : Int)).toNat).toInt ≠ 0 from by assumption)]; simp only [Nat.reduceAdd]; repeat (first | rw [if_pos (by omega)] | rw [if_neg (by omega)])
            rw [ea] at hE
            exact ih (k + 1) _ _ _ (inc1 iE (by omega)) (by omega) (pp1_le (evS_le (by dsimp only; omega))) hE (by omega)
theorem c_X4_goThrough_9 (hm : 0 ≤ (hp.1 15 4).toInt ∧ (hp.1 15 4).toInt < 20) {T : Nat} (hsp : T ≤ 600 ∧ ∀ i, i < T → -20 ≤ (hp.1 13 i).toInt) (hn : 0 ≤ (hp.1 9 0).toInt ∧ (hp.1 9 0).toInt ≤ 16) (hse : ∀ k : Nat, (k : Int) < (hp.1 9 0).toInt → 0 ≤ frX hp 9 (k : Int) ∧ frX hp 9 (k : Int) ≤ (hp.1 12 k).toInt ∧ (hp.1 12 k).toInt ≤ (T : Int)) {q : Int32 × Int32 × Int32} {z : (Nat → Int32) × Nat} (hz : z.2 ≤ 16) (h1 : ∀ z : (Nat → Int32) × Nat, z.2 ≤ 16 → Q none (SH b xs) (WX (FQ hp (gtX hp 9 (hp.1 9 0).toInt.toNat 0 q)) 9 z)) : gC mX4_goThrough (d + 3) 0 0 [.ref 15, .ref 9] (SH b xs) (WX (FQ hp q) 9 z) Q := by
  refine g_enter okX4_goThrough (plainFor_of_name rfl) rfl ?_
  refine g_run 2 rfl ?_
  exact lp_X4_goThrough_9 hm hsp hn hse h1 17 0 0 q z (by decide) (by omega) hz rfl (by omega)
theorem lp_X4_goThrough_37  (hm : 0 ≤ (hp.1 15 4).toInt ∧ (hp.1 15 4).toInt < 20) {T : Nat} (hsp : T ≤ 600 ∧ ∀ i, i < T → -20 ≤ (hp.1 41 i).toInt) (hn : 0 ≤ (hp.1 37 0).toInt ∧ (hp.1 37 0).toInt ≤ 16) (hse : ∀ k : Nat, (k : Int) < (hp.1 37 0).toInt → 0 ≤ frX hp 37 (k : Int) ∧ frX hp 37 (k : Int) ≤ (hp.1 40 k).toInt ∧ (hp.1 40 k).toInt ≤ (T : Int)) {q0 : Int32 × Int32 × Int32} (h1 : ∀ z : (Nat → Int32) × Nat, z.2 ≤ 16 → Q none (SH b xs) (WX (FQ hp q0) 37 z)) : ∀ (f k : Nat) (i : Int32) (q : Int32 × Int32 × Int32) (z : (Nat → Int32) × Nat), i.toInt = (k : Int) → (k : Int) ≤ (hp.1 37 0).toInt → z.2 ≤ 16 → gtX hp 37 ((hp.1 37 0).toInt.toNat - k) k q = q0 → (hp.1 37 0).toInt.toNat - k < f → gG mX4_goThrough (d + 3) 0 0 (zQ 0 0 Q) 0 0 (2, [.ref 15, .ref 37, .int i], [], (SH b xs), (WX (FQ hp q) 37 z)) := by
  intro f
  induction f with
  | zero => intros; omega
  | succ f ih =>
    intro k i q z iE hk hz hE hf
    refine g_run 3 rfl ?_
    refine gj_ge (kx := (k : Int)) (kz := (hp.1 37 0).toInt) rfl iE rfl (fun k1 => ?_) (fun k1 => ?_)
    · first | (rw [show (hp.1 37 0).toInt.toNat - k = 0 by omega] at hE; subst hE; exact g_vret rfl rfl (h1 _ hz)) | (rw [show (hp.1 37 0).toInt.toNat - k = ((hp.1 37 0).toInt.toNat - (k + 1)) + 1 by omega, gtX, if_neg (by omega)] at hE; subst hE; exact g_vret rfl rfl (h1 _ hz))
    · refine g_run 2 rfl ?_
      refine gz_ne (kx := q.2.2.toInt) rfl rfl (fun k2 => ?_) (fun k2 => ?_)
      · first | (rw [show (hp.1 37 0).toInt.toNat - k = 0 by omega] at hE; subst hE; exact g_vret rfl rfl (h1 _ hz)) | (rw [show (hp.1 37 0).toInt.toNat - k = ((hp.1 37 0).toInt.toNat - (k + 1)) + 1 by omega, gtX, if_neg (by omega)] at hE; subst hE; exact g_vret rfl rfl (h1 _ hz))
      · refine g_run 3 rfl ?_
        refine g_callV0 rfl LX4_89 rfl rfl rfl rfl ?_
        have hsk := hse k (by omega)
        refine c_X6_valueOf_37 (hp := WX (FQ hp q) 37 z) (lI := (k : Int)) iE hm hsp (by omega) (show (hp.1 40 ((k : Int)).toNat).toInt ≤ (T : Int) from by rw [Int.toNat_natCast]; omega) (show 0 ≤ frX hp 37 (k : Int) ∧ frX hp 37 (k : Int) ≤ (hp.1 40 ((k : Int)).toNat).toInt from by rw [Int.toNat_natCast]; omega) ?_
        refine gG_hp WX_WX37 ?_
        refine gz_eq (kx := (valX (vN (FQ hp q)) (hp.1 41) ((hp.1 40 k).toInt - frX hp 37 (k : Int)).toNat (frX hp 37 (k : Int)).toNat).toInt) rfl (congrArg Int32.toInt val_ok) (fun k3 => ?_) (fun k3 => ?_)
        · refine g_run 2 rfl ?_
          rw [show (hp.1 37 0).toInt.toNat - k = ((hp.1 37 0).toInt.toNat - (k + 1)) + 1 by omega, gtX, if_pos (by omega)] at hE
          have ea : acX hp 37 k q = q := by unfold acX; rw [if_neg (by simpa using (show (valX (vN (FQ hp q)) (hp.1 41) ((hp.1 40 k).toInt - frX hp 37 (k : Int)).toNat (frX hp 37 (k : Int)).toNat).toInt = 0 from by assumption))]
          rw [ea] at hE
          exact ih (k + 1) _ _ _ (inc1 iE (by omega)) (by omega) (pp1_le (evS_le (by dsimp only; omega))) hE (by omega)
        · refine g_run 4 rfl ?_
          refine g_iald (j := k) rfl rfl ((show _ = (k : Int) from iE).trans (by omega)) (by omega) ?_
          refine g_run 3 rfl ?_
          refine g_iald (j := k) rfl rfl ((show _ = (k : Int) from iE).trans (by omega)) (by omega) ?_
          refine g_callV0 rfl LX4_99 rfl rfl rfl rfl ?_
          refine c_X4_doAct (aI := (hp.1 38 k).toInt) rfl rfl (fun k4 => ?_) (fun k4 => ?_) (fun k4 => ?_)
          · refine g_run 2 rfl ?_
            rw [show (hp.1 37 0).toInt.toNat - k = ((hp.1 37 0).toInt.toNat - (k + 1)) + 1 by omega, gtX, if_pos (by omega)] at hE
            refine gG_hp FQ_6_37 ?_
            have ea : acX hp 37 k q = (hp.1 39 k, q.2) := by unfold acX; rw [if_pos (show (valX (vN (FQ hp q)) (hp.1 41) ((hp.1 40 k).toInt - frX hp 37 (k : Int)).toNat (frX hp 37 (k : Int)).toNat).toInt ≠ 0 from by assumption)]; simp only [Nat.reduceAdd]; repeat (first | rw [if_pos (by omega)] | rw [if_neg (by omega)])
            rw [ea] at hE
            exact ih (k + 1) _ _ _ (inc1 iE (by omega)) (by omega) (pp1_le (evS_le (by dsimp only; omega))) hE (by omega)
          · refine g_run 2 rfl ?_
            rw [show (hp.1 37 0).toInt.toNat - k = ((hp.1 37 0).toInt.toNat - (k + 1)) + 1 by omega, gtX, if_pos (by omega)] at hE
            refine gG_hp FQ_7_37 ?_
            have ea : acX hp 37 k q = (q.1, hp.1 39 k, q.2.2) := by unfold acX; rw [if_pos (show (valX (vN (FQ hp q)) (hp.1 41) ((hp.1 40 k).toInt - frX hp 37 (k : Int)).toNat (frX hp 37 (k : Int)).toNat).toInt ≠ 0 from by assumption)]; simp only [Nat.reduceAdd]; repeat (first | rw [if_pos (by omega)] | rw [if_neg (by omega)])
            rw [ea] at hE
            exact ih (k + 1) _ _ _ (inc1 iE (by omega)) (by omega) (pp1_le (evS_le (by dsimp only; omega))) hE (by omega)
          · refine g_run 2 rfl ?_
            rw [show (hp.1 37 0).toInt.toNat - k = ((hp.1 37 0).toInt.toNat - (k + 1)) + 1 by omega, gtX, if_pos (by omega)] at hE
            refine gG_hp FQ_10_37 ?_
            have ea : acX hp 37 k q = (q.1, q.2.1, 1) := by unfold acX; rw [if_pos (show (valX (vN (FQ hp q)) (hp.1 41) ((hp.1 40 k).toInt - frX hp 37 (k : Int)).toNat (frX hp 37 (k : Int)).toNat).toInt ≠ 0 from by assumption)]; simp only [Nat.reduceAdd]; repeat (first | rw [if_pos (by omega)] | rw [if_neg (by omega)])
            rw [ea] at hE
            exact ih (k + 1) _ _ _ (inc1 iE (by omega)) (by omega) (pp1_le (evS_le (by dsimp only; omega))) hE (by omega)
theorem c_X4_goThrough_37 (hm : 0 ≤ (hp.1 15 4).toInt ∧ (hp.1 15 4).toInt < 20) {T : Nat} (hsp : T ≤ 600 ∧ ∀ i, i < T → -20 ≤ (hp.1 41 i).toInt) (hn : 0 ≤ (hp.1 37 0).toInt ∧ (hp.1 37 0).toInt ≤ 16) (hse : ∀ k : Nat, (k : Int) < (hp.1 37 0).toInt → 0 ≤ frX hp 37 (k : Int) ∧ frX hp 37 (k : Int) ≤ (hp.1 40 k).toInt ∧ (hp.1 40 k).toInt ≤ (T : Int)) {q : Int32 × Int32 × Int32} {z : (Nat → Int32) × Nat} (hz : z.2 ≤ 16) (h1 : ∀ z : (Nat → Int32) × Nat, z.2 ≤ 16 → Q none (SH b xs) (WX (FQ hp (gtX hp 37 (hp.1 37 0).toInt.toNat 0 q)) 37 z)) : gC mX4_goThrough (d + 3) 0 0 [.ref 15, .ref 37] (SH b xs) (WX (FQ hp q) 37 z) Q := by
  refine g_enter okX4_goThrough (plainFor_of_name rfl) rfl ?_
  refine g_run 2 rfl ?_
  exact lp_X4_goThrough_37 hm hsp hn hse h1 17 0 0 q z (by decide) (by omega) hz rfl (by omega)
end S26
