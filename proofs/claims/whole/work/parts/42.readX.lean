/-! the class reads a text: parts, sums, tests -/
def PY (hp : hp_T) (rc : Nat) (f : Int32) (sp : Nat → Int32) (c : Nat) : hp_T := sI (sI (sR hp (rc + 4) sp) rc 5 (nI c)) 7 2 f
def PX (hp : hp_T) (rc : Nat) (k p m q f : Int32) (sp : Nat → Int32) (c : Nat) : hp_T := TX (PY hp rc f sp c) k p m q
/-- the class stands at token i -/
def tkA (t : Nat → Int32) (n : Nat) (k p m q : Int32) (i : Nat) : Prop := k.toInt = kd t n i ∧ p.toInt = (pl t n i : Int) ∧ q.toInt = (bh t n (i + 1) : Int) ∧ (kd t n i = 2 → m.toInt = nv t n i)
theorem kd_bd {t : Nat → Int32} {n i : Nat} : 0 ≤ kd t n i ∧ kd t n i ≤ 19 := by
  have hb : bh t n i ≤ n := bh_le i
  show 0 ≤ (tok t n (bh t n i)).1 ∧ (tok t n (bh t n i)).1 ≤ 19
  generalize bh t n i = b at *
  generalize hP : spE isBl t n b = P at *
  by_cases c0 : n ≤ P
  · rw [tok_0 hP c0]; dsimp only; omega
  · by_cases c1 : isLe (t P).toInt = true
    · rw [tok_w hP (by omega) c1 rfl]
      have := kwd_bd (t := t) (p := P) (L := spE isLe t n P - P)
      dsimp only
      omega
    · by_cases c2 : isDg (t P).toInt = true
      · rw [tok_d hP (by omega) c2 rfl]; dsimp only; split <;> decide
      · rw [tok_s hP (by omega) (by simpa using c1) (by simpa using c2)]
        dsimp only
        unfold ksn
        repeat' split
        all_goals decide
theorem pl_le {t : Nat → Int32} {n i : Nat} : pl t n i ≤ n := by
  have := tok_le (t := t) (n := n) (bh_le (t := t) i)
  show (tok t n (bh t n i)).2.1 ≤ n
  omega
theorem neg_of {k : Int32} {x : Int} (h : k.toInt = x) (h1 : -100 ≤ x ∧ x ≤ 100) : -k = Int32.ofInt (-x) := (ia_eq _ _).mpr (by rw [ia_neg2 h (by omega), ia_ofI (by omega) (by omega)])
theorem num_of {k : Int32} {x : Int} (h : k.toInt = x) (h1 : 0 ≤ x ∧ x ≤ 10000) : k = Int32.ofInt x := (ia_eq _ _).mpr (by rw [h, ia_ofI (by omega) (by omega)])
theorem c_X5_isPlusOrMinus {d : Nat} {sh : sh_T} {hp : hp_T} {Q : Option Value → sh_T → hp_T → Prop} {n : Int32} {nI : Int} (nE : n.toInt = nI) (h1 : nI = 17 ∨ nI = 18 → Q (some (.int 1)) sh hp) (h0 : nI ≠ 17 ∧ nI ≠ 18 → Q (some (.int 0)) sh hp) : gC mX5_isPlusOrMinus d 0 0 [.int n] sh hp Q := by
  refine g_enter okX5_isPlusOrMinus (plainFor_of_name rfl) rfl ?_
  refine g_run 2 rfl ?_
  refine gj_eq (kx := nI) (kz := 17) rfl nE (by decide) (fun k1 => ?_) (fun k1 => ?_)
  · refine g_run 2 rfl ?_
    exact g_zret rfl rfl (Or.inr rfl) (h1 (by omega))
  · refine g_run 2 rfl ?_
    refine gj_ne (kx := nI) (kz := 18) rfl nE (by decide) (fun k2 => ?_) (fun k2 => ?_)
    · refine g_run 1 rfl ?_
      exact g_zret rfl rfl (Or.inl rfl) (h0 (by omega))
    · refine g_run 2 rfl ?_
      exact g_zret rfl rfl (Or.inr rfl) (h1 (by omega))
theorem c_X5_isName {d : Nat} {sh : sh_T} {hp : hp_T} {Q : Option Value → sh_T → hp_T → Prop} {n : Int32} {nI : Int} (nE : n.toInt = nI) (h1 : nI = 3 ∨ nI = 4 ∨ (8 ≤ nI ∧ nI ≤ 12) → Q (some (.int 1)) sh hp) (h0 : nI ≠ 3 ∧ nI ≠ 4 ∧ (nI < 8 ∨ 12 < nI) → Q (some (.int 0)) sh hp) : gC mX5_isName (d + 1) 0 0 [.int n] sh hp Q := by
  refine g_enter okX5_isName (plainFor_of_name rfl) rfl ?_
  refine g_run 2 rfl ?_
  refine gj_eq (kx := nI) (kz := 3) rfl nE (by decide) (fun k1 => ?_) (fun k1 => ?_)
  · refine g_run 2 rfl ?_
    exact g_zret rfl rfl (Or.inr rfl) (h1 (by omega))
  · refine g_run 2 rfl ?_
    refine gj_eq (kx := nI) (kz := 4) rfl nE (by decide) (fun k2 => ?_) (fun k2 => ?_)
    · refine g_run 2 rfl ?_
      exact g_zret rfl rfl (Or.inr rfl) (h1 (by omega))
    · refine g_run 3 rfl ?_
      refine g_callS0 rfl LX5_95 rfl rfl ?_
      refine c_X9_within (nI := nI) (lI := 8) (uI := 12) nE (by decide) (by decide) (fun k3 => ?_) (fun k3 => ?_)
      · refine gz_eq (kx := 1) rfl (show (1 : Int32).toInt = 1 from by decide) (fun q => absurd q (by decide)) (fun _ => ?_)
        refine g_run 2 rfl ?_
        exact g_zret rfl rfl (Or.inr rfl) (h1 (by omega))
      · refine gz_eq (kx := 0) rfl (show (0 : Int32).toInt = 0 from by decide) (fun _ => ?_) (fun q => absurd q (by decide))
        refine g_run 1 rfl ?_
        exact g_zret rfl rfl (Or.inl rfl) (h0 (by omega))
section S42_9
variable {d : Nat} {hp : hp_T} {Q : Option Value → sh_T → hp_T → Prop} {xs : sh_T} {k p m q f : Int32} {sp : Nat → Int32} {c n N : Nat}
theorem px_f9 {v : Int32} : sI (PX hp 9 k p m q f sp c) 7 2 v = PX hp 9 k p m q v sp c := by
  refine two_ext (fun z i => ?_) rfl
  by_cases h1 : z = 7
  · subst h1; by_cases hi : i = 2 <;> simp [PX, TX, PY, sI, sR, va_up, hi]
  · simp [PX, TX, PY, sI, sR, va_up, h1]
theorem px_a9 {v : Int32} : sI (sI (PX hp 9 k p m q f sp c) 13 c v) 9 5 (nI c + 1) = PX hp 9 k p m q f (va_up sp c v) (c + 1) := by
  rw [nI_1]
  refine two_ext (fun z i => ?_) rfl
  by_cases h1 : z = 9
  · subst h1; by_cases hi : i = 5 <;> simp [PX, TX, PY, sI, sR, va_up, hi]
  · by_cases h2 : z = 13
    · subst h2; simp [PX, TX, PY, sI, sR, va_up]
    · simp [PX, TX, PY, sI, sR, va_up, h1, h2]
theorem c_adv9 {j : Nat} (hn : (hp.1 5 1).toInt = (n : Int)) (hn6 : n ≤ 600) (hT : tkA (hp.1 6) n k p m q j) (h1 : ∀ k2 p2 m2 q2 : Int32, tkA (hp.1 6) n k2 p2 m2 q2 (j + 1) → Q none (SH false xs) (PX hp 9 k2 p2 m2 q2 f sp c)) : gC mX8_advance (d + 6) 0 0 [.ref 8] (SH false xs) (PX hp 9 k p m q f sp c) Q := c_X8_advance (hp := PY hp 9 f sp c) hn hn6 hT.2.2.1 (bh_le _) (fun k2 p2 m2 q2 a1 a2 a3 a4 => h1 k2 p2 m2 q2 ⟨a1, a2, a3, a4⟩)
theorem c_addN9 {v : Int32} (hc : c < 600) (h1 : Q none (SH false xs) (PX hp 9 k p m q f (va_up sp c v) (c + 1))) : gC mX6_addNumber d 0 0 [.ref 9, .int v] (SH false xs) (PX hp 9 k p m q f sp c) Q := by
  refine g_enter okX6_addNumber (plainFor_of_name rfl) rfl ?_
  refine g_run 5 rfl ?_
  refine gj_ge (kx := (c : Int)) (kz := 600) rfl (nI_toInt (by omega)) (by decide) (fun k1 => by exfalso; omega) (fun _ => ?_)
  refine g_run 5 rfl ?_
  refine g_iast (j := c) rfl rfl (nI_toInt (by omega)) (by omega) ?_
  refine g_run 6 rfl ?_
  refine gG_hp px_a9 ?_
  exact g_vret rfl rfl h1
theorem c_addK9 {v : Int32} {x : Int} (vE : v.toInt = x) (hx : -100 ≤ x ∧ x ≤ 100) (hc : c < 600) (h1 : Q none (SH false xs) (PX hp 9 k p m q f (va_up sp c (Int32.ofInt (-x))) (c + 1))) : gC mX6_addKind (d + 1) 0 0 [.ref 9, .int v] (SH false xs) (PX hp 9 k p m q f sp c) Q := by
  refine g_enter okX6_addKind (plainFor_of_name rfl) rfl ?_
  refine g_run 3 rfl ?_
  refine g_callV0 rfl LX6_37 rfl rfl rfl rfl ?_
  rw [neg_of vE hx]
  refine c_addN9 hc ?_
  exact g_vret rfl rfl h1
theorem c_wrong9 {v : Int32} {x P : Int} (vE : v.toInt = x) (hx : 0 ≤ x ∧ x ≤ 100) (pE : p.toInt = P) (hP : 0 ≤ P ∧ P ≤ 600) (h1 : ∀ f2 : Int32, f2.toInt = x + 16 * P → Q (some (.int 0)) (SH false xs) (PX hp 9 k p m q f2 sp c)) : gC mX5_wrong d 0 0 [.ref 7, .int v] (SH false xs) (PX hp 9 k p m q f sp c) Q := by
  refine g_enter okX5_wrong (plainFor_of_name rfl) rfl ?_
  refine g_run 10 rfl ?_
  refine gG_hp px_f9 ?_
  exact g_zret rfl rfl (Or.inl rfl) (h1 _ (ia_add2 vE (ia_mul2 (by decide : (16 : Int32).toInt = 16) pE (by omega) (by omega)) (by omega) (by omega)))
theorem c_pass9 {v : Int32} {x : Int} {j : Nat} (vE : v.toInt = x) (hn : (hp.1 5 1).toInt = (n : Int)) (hn6 : n ≤ 600) (hT : tkA (hp.1 6) n k p m q j) (h1 : kd (hp.1 6) n j = x → ∀ k2 p2 m2 q2 : Int32, tkA (hp.1 6) n k2 p2 m2 q2 (j + 1) → Q (some (.int 1)) (SH false xs) (PX hp 9 k2 p2 m2 q2 f sp c)) (h0 : kd (hp.1 6) n j ≠ x → ∀ f2 : Int32, f2.toInt = 1 + 16 * (pl (hp.1 6) n j : Int) → Q (some (.int 0)) (SH false xs) (PX hp 9 k p m q f2 sp c)) : gC mX5_pass (d + 7) 0 0 [.ref 7, .int v] (SH false xs) (PX hp 9 k p m q f sp c) Q := by
  have hpl := pl_le (t := hp.1 6) (n := n) (i := j)
  refine g_enter okX5_pass (plainFor_of_name rfl) rfl ?_
  refine g_run 4 rfl ?_
  refine gj_eq (kx := kd (hp.1 6) n j) (kz := x) rfl hT.1 vE (fun k1 => ?_) (fun k1 => ?_)
  · refine g_run 2 rfl ?_
    refine g_callV0 rfl LX5_35 rfl rfl rfl rfl ?_
    refine c_adv9 hn hn6 hT (fun k2 p2 m2 q2 hT2 => ?_)
    refine g_run 1 rfl ?_
    exact g_zret rfl rfl (Or.inr rfl) (h1 k1 k2 p2 m2 q2 hT2)
  · refine g_run 2 rfl ?_
    refine g_callV0 rfl LX5_48 rfl rfl rfl rfl ?_
    refine c_wrong9 (by decide : (1 : Int32).toInt = 1) (by omega) hT.2.1 (by omega) (fun f2 hf => ?_)
    exact g_zret rfl rfl (Or.inl rfl) (h0 k1 f2 hf)
/-- what is wanted behind a reading -/
def rdP9 (hp : hp_T) (xs : sh_T) (n : Nat) (r : pr_T) (f : Int32) (sp : Nat → Int32) (c : Nat) (Q : Option Value → sh_T → hp_T → Prop) : Prop :=
  (r.1 = 0 → ∀ k p m q : Int32, tkA (hp.1 6) n k p m q r.2.1 → Q (some (.int 1)) (SH false xs) (PX hp 9 k p m q f (apL sp c r.2.2) (c + r.2.2.length))) ∧ (r.1 ≠ 0 → ∀ (k p m q f2 : Int32) (sp2 : Nat → Int32) (c2 : Nat), f2.toInt = r.1 → Q (some (.int 0)) (SH false xs) (PX hp 9 k p m q f2 sp2 c2))
def rdC9 (y : mt_T) (d : Nat) (hp : hp_T) (xs : sh_T) (n N : Nat) (dep : Int32) (R : Nat → pr_T) : Prop :=
  ∀ (Q : Option Value → sh_T → hp_T → Prop) (i : Nat) (k p m q f : Int32) (sp : Nat → Int32) (c : Nat), i ≤ N → c ≤ i → tkA (hp.1 6) n k p m q i → rdP9 hp xs n (R i) f sp c Q → gC y d 0 0 [.ref 7, .int dep] (SH false xs) (PX hp 9 k p m q f sp c) Q
/-- the tape's tokens: N of them, all in front of the end -/
def okE (hp : hp_T) (n N : Nat) : Prop := (hp.1 5 1).toInt = (n : Int) ∧ n ≤ 600 ∧ N ≤ 600 ∧ ∀ j, j ≤ N → kd (hp.1 6) n j ≠ 0 → j < N
theorem lp_sum9 {part : Nat → pr_T} {dep : Int32} (hE : okE hp n N) (hpart : rdC9 mX5_readPart (d + 7) hp xs n N dep part) (hok : okR N part) {r : pr_T} (hQ : rdP9 hp xs n r f sp c Q) : ∀ (fu j : Nat) (l : List Int32) (cn k p m q : Int32) (w3 : Value), cn.toInt = 600 - (fu : Int) → fu ≤ 600 → j ≤ N → c + l.length ≤ j → tkA (hp.1 6) n k p m q j → sumL (kd (hp.1 6) n) part fu j l = r → gG mX5_readSum (d + 8) 0 0 (zQ 0 0 Q) 0 0 (12, [.ref 7, .int dep, .int cn, w3], [], SH false xs, PX hp 9 k p m q f (apL sp c l) (c + l.length)) := by
  intro fu
  induction fu with
  | zero =>
    intro j l cn k p m q w3 cE hfu hj hcl hT hR
    refine g_run 2 rfl ?_
    refine gj_ge (kx := cn.toInt) (kz := 600) rfl rfl (by decide) (fun k1 => ?_) (fun k1 => by exfalso; omega)
    refine g_run 1 rfl ?_
    subst hR
    exact g_zret rfl rfl (Or.inr rfl) (hQ.1 rfl k p m q hT)
  | succ fu ih =>
    intro j l cn k p m q w3 cE hfu hj hcl hT hR
    refine g_run 2 rfl ?_
    refine gj_ge (kx := cn.toInt) (kz := 600) rfl rfl (by decide) (fun k1 => by exfalso; omega) (fun k1 => ?_)
    refine g_run 3 rfl ?_
    refine g_callS0 rfl LX5_86 rfl rfl ?_
    rw [sumL] at hR
    refine c_X5_isPlusOrMinus (nI := kd (hp.1 6) n j) hT.1 (fun k2 => ?_) (fun k2 => ?_)
    · refine gz_eq (kx := 1) rfl (show (1 : Int32).toInt = 1 from by decide) (fun q => absurd q (by decide)) (fun _ => ?_)
      rw [if_pos k2] at hR
      have hj2 := hE.2.2.2 j hj (by omega)
      have hN := hE.2.2.1
      refine g_run 6 rfl ?_
      refine g_callV0 rfl LX5_35 rfl rfl rfl rfl ?_
      refine c_adv9 (d := d + 1) hE.1 hE.2.1 hT (fun k3 p3 m3 q3 hT3 => ?_)
      refine g_run 2 rfl ?_
      refine g_callV0 rfl LX5_83 rfl rfl rfl rfl ?_
      refine hpart _ (j + 1) k3 p3 m3 q3 f _ _ (by omega) (by omega) hT3 ⟨fun r0 k4 p4 m4 q4 hT4 => ?_, fun r1 k4 p4 m4 q4 f4 sp4 c4 hf4 => ?_⟩
      · refine gz_ne (kx := 1) rfl (show (1 : Int32).toInt = 1 from by decide) (fun _ => ?_) (fun q => absurd q (by decide))
        rw [if_pos r0] at hR
        obtain ⟨o1, o2, o3⟩ := hok (j + 1) (by omega) r0
        refine g_run 3 rfl ?_
        refine g_callV0 rfl LX5_76 rfl rfl rfl rfl ?_
        refine c_addK9 (d := d + 6) hT.1 (by have := kd_bd (t := hp.1 6) (n := n) (i := j); omega) (by omega) ?_
        refine g_run 2 rfl ?_
        refine gG_hp (h2 := PX hp 9 k4 p4 m4 q4 f (apL sp c (l ++ ((part (j + 1)).2.2 ++ [Int32.ofInt (-kd (hp.1 6) n j)]))) (c + (l ++ ((part (j + 1)).2.2 ++ [Int32.ofInt (-kd (hp.1 6) n j)])).length)) (by rw [apL_3, len_3]) ?_
        exact ih _ _ _ k4 p4 m4 q4 _ ((ia_add2 rfl (by decide : (1 : Int32).toInt = 1) (by omega) (by omega)).trans (by omega)) (by omega) o2 (by simp only [List.length_append, List.length_cons, List.length_nil]; omega) hT4 hR
      · refine gz_ne (kx := 0) rfl (show (0 : Int32).toInt = 0 from by decide) (fun q => absurd rfl q) (fun _ => ?_)
        rw [if_neg r1] at hR
        refine g_run 1 rfl ?_
        subst hR
        exact g_zret rfl rfl (Or.inl rfl) (hQ.2 r1 _ _ _ _ _ _ _ hf4)
    · refine gz_eq (kx := 0) rfl (show (0 : Int32).toInt = 0 from by decide) (fun _ => ?_) (fun q => absurd rfl q)
      rw [if_neg (by omega)] at hR
      refine g_run 1 rfl ?_
      subst hR
      exact g_zret rfl rfl (Or.inr rfl) (hQ.1 rfl k p m q hT)
theorem rd_sum9 {part : Nat → pr_T} {dep : Int32} (hE : okE hp n N) (hpart : rdC9 mX5_readPart (d + 7) hp xs n N dep part) (hok : okR N part) : rdC9 mX5_readSum (d + 8) hp xs n N dep (sumP (kd (hp.1 6) n) part) := by
  intro Q i k p m q f sp c hi hc hT hQ
  refine g_enter okX5_readSum (plainFor_of_name rfl) rfl ?_
  refine g_run 2 rfl ?_
  refine g_callV0 rfl LX5_83 rfl rfl rfl rfl ?_
  refine hpart _ i k p m q f sp c hi hc hT ⟨fun r0 k2 p2 m2 q2 hT2 => ?_, fun r1 k2 p2 m2 q2 f2 sp2 c2 hf => ?_⟩
  · refine gz_ne (kx := 1) rfl (show (1 : Int32).toInt = 1 from by decide) (fun _ => ?_) (fun q => absurd q (by decide))
    obtain ⟨o1, o2, o3⟩ := hok i hi r0
    refine g_run 2 rfl ?_
    exact lp_sum9 hE hpart hok hQ 600 _ _ 0 k2 p2 m2 q2 _ (by decide) (by omega) o2 (by omega) hT2 (by rw [sumP, if_pos r0])
  · refine gz_ne (kx := 0) rfl (show (0 : Int32).toInt = 0 from by decide) (fun q => absurd rfl q) (fun _ => ?_)
    refine g_run 1 rfl ?_
    have e : sumP (kd (hp.1 6) n) part i = part i := by rw [sumP, if_neg r1]
    rw [e] at hQ
    exact g_zret rfl rfl (Or.inl rfl) (hQ.2 r1 _ _ _ _ _ _ _ hf)
theorem rd_tst9 {sm : Nat → pr_T} {dep : Int32} (hE : okE hp n N) (hsm : rdC9 mX5_readSum (d + 8) hp xs n N dep sm) (hok : okR N sm) : rdC9 mX5_readTest (d + 9) hp xs n N dep (tstP (kd (hp.1 6) n) sm) := by
  intro Q i k p m q f sp c hi hc hT hQ
  refine g_enter okX5_readTest (plainFor_of_name rfl) rfl ?_
  refine g_run 2 rfl ?_
  refine g_callV0 rfl LX5_80 rfl rfl rfl rfl ?_
  refine hsm _ i k p m q f sp c hi hc hT ⟨fun r0 k2 p2 m2 q2 hT2 => ?_, fun r1 k2 p2 m2 q2 f2 sp2 c2 hf => ?_⟩
  · refine gz_ne (kx := 1) rfl (show (1 : Int32).toInt = 1 from by decide) (fun _ => ?_) (fun q => absurd q (by decide))
    obtain ⟨o1, o2, o3⟩ := hok i hi r0
    have hN := hE.2.2.1
    have hK := kd_bd (t := hp.1 6) (n := n) (i := (sm i).2.1)
    rw [tstP, if_pos r0, ts2] at hQ
    refine g_run 6 rfl ?_
    have k30 : (kd (hp.1 6) n (sm i).2.1 = 15 ∨ kd (hp.1 6) n (sm i).2.1 = 16) → gG mX5_readTest (d + 9) 0 0 (zQ 0 0 Q) 0 0 (30, [.ref 7, .int dep, .int k2], [], SH false xs, PX hp 9 k2 p2 m2 q2 f (apL sp c (sm i).2.2) (c + (sm i).2.2.length)) := by
      intro hk
      rw [if_pos hk] at hQ
      have hj2 := hE.2.2.2 _ o2 (by omega)
      refine g_run 2 rfl ?_
      refine g_callV0 rfl LX5_35 rfl rfl rfl rfl ?_
      refine c_adv9 (d := d + 2) hE.1 hE.2.1 hT2 (fun k3 p3 m3 q3 hT3 => ?_)
      refine g_run 2 rfl ?_
      refine g_callV0 rfl LX5_80 rfl rfl rfl rfl ?_
      refine hsm _ _ k3 p3 m3 q3 f _ _ (by omega) (by omega) hT3 ⟨fun s0 k4 p4 m4 q4 hT4 => ?_, fun s1 k4 p4 m4 q4 f4 sp4 c4 hf4 => ?_⟩
      · refine gz_ne (kx := 1) rfl (show (1 : Int32).toInt = 1 from by decide) (fun _ => ?_) (fun q => absurd q (by decide))
        obtain ⟨b1, b2, b3⟩ := hok _ (by omega) s0
        rw [if_pos s0] at hQ
        refine g_run 3 rfl ?_
        refine g_callV0 rfl LX5_76 rfl rfl rfl rfl ?_
        refine c_addK9 (d := d + 7) hT2.1 (by omega) (by omega) ?_
        refine g_run 1 rfl ?_
        rw [apL_3, len_3]
        exact g_zret rfl rfl (Or.inr rfl) (hQ.1 rfl k4 p4 m4 q4 hT4)
      · refine gz_ne (kx := 0) rfl (show (0 : Int32).toInt = 0 from by decide) (fun q => absurd rfl q) (fun _ => ?_)
        rw [if_neg s1] at hQ
        refine g_run 1 rfl ?_
        exact g_zret rfl rfl (Or.inl rfl) (hQ.2 s1 _ _ _ _ _ _ _ hf4)
    refine gj_eq (kx := kd (hp.1 6) n (sm i).2.1) (kz := 15) rfl hT2.1 (by decide) (fun k1 => k30 (by omega)) (fun k1 => ?_)
    refine g_run 2 rfl ?_
    refine gj_ne (kx := kd (hp.1 6) n (sm i).2.1) (kz := 16) rfl hT2.1 (by decide) (fun k3 => ?_) (fun k3 => k30 (by omega))
    rw [if_neg (by omega)] at hQ
    refine g_run 1 rfl ?_
    exact g_zret rfl rfl (Or.inr rfl) (hQ.1 rfl k2 p2 m2 q2 hT2)
  · refine gz_ne (kx := 0) rfl (show (0 : Int32).toInt = 0 from by decide) (fun q => absurd rfl q) (fun _ => ?_)
    refine g_run 1 rfl ?_
    rw [tstP, if_neg r1] at hQ
    exact g_zret rfl rfl (Or.inl rfl) (hQ.2 r1 _ _ _ _ _ _ _ hf)
theorem lp_and9 {tst : Nat → pr_T} {dep : Int32} (hE : okE hp n N) (htst : rdC9 mX5_readTest (d + 9) hp xs n N dep tst) (hok : okR N tst) {r : pr_T} (hQ : rdP9 hp xs n r f sp c Q) : ∀ (fu j : Nat) (l : List Int32) (cn k p m q : Int32), cn.toInt = 600 - (fu : Int) → fu ≤ 600 → j ≤ N → c + l.length ≤ j → tkA (hp.1 6) n k p m q j → andL (kd (hp.1 6) n) tst fu j l = r → gG mX5_readTests (d + 10) 0 0 (zQ 0 0 Q) 0 0 (12, [.ref 7, .int dep, .int cn], [], SH false xs, PX hp 9 k p m q f (apL sp c l) (c + l.length)) := by
  intro fu
  induction fu with
  | zero =>
    intro j l cn k p m q cE hfu hj hcl hT hR
    refine g_run 2 rfl ?_
    refine gj_ge (kx := cn.toInt) (kz := 600) rfl rfl (by decide) (fun k1 => ?_) (fun k1 => by exfalso; omega)
    refine g_run 1 rfl ?_
    subst hR
    exact g_zret rfl rfl (Or.inr rfl) (hQ.1 rfl k p m q hT)
  | succ fu ih =>
    intro j l cn k p m q cE hfu hj hcl hT hR
    refine g_run 2 rfl ?_
    refine gj_ge (kx := cn.toInt) (kz := 600) rfl rfl (by decide) (fun k1 => by exfalso; omega) (fun k1 => ?_)
    refine g_run 4 rfl ?_
    rw [andL] at hR
    refine gj_ne (kx := kd (hp.1 6) n j) (kz := 7) rfl hT.1 (by decide) (fun k2 => ?_) (fun k2 => ?_)
    · rw [if_neg k2] at hR
      refine g_run 1 rfl ?_
      subst hR
      exact g_zret rfl rfl (Or.inr rfl) (hQ.1 rfl k p m q hT)
    · rw [if_pos k2] at hR
      have hj2 := hE.2.2.2 j hj (by omega)
      have hN := hE.2.2.1
      refine g_run 2 rfl ?_
      refine g_callV0 rfl LX5_35 rfl rfl rfl rfl ?_
      refine c_adv9 (d := d + 3) hE.1 hE.2.1 hT (fun k3 p3 m3 q3 hT3 => ?_)
      refine g_run 2 rfl ?_
      refine g_callV0 rfl LX5_71 rfl rfl rfl rfl ?_
      refine htst _ (j + 1) k3 p3 m3 q3 f _ _ (by omega) (by omega) hT3 ⟨fun r0 k4 p4 m4 q4 hT4 => ?_, fun r1 k4 p4 m4 q4 f4 sp4 c4 hf4 => ?_⟩
      · refine gz_ne (kx := 1) rfl (show (1 : Int32).toInt = 1 from by decide) (fun _ => ?_) (fun q => absurd q (by decide))
        rw [if_pos r0] at hR
        obtain ⟨o1, o2, o3⟩ := hok (j + 1) (by omega) r0
        refine g_run 3 rfl ?_
        refine g_callV0 rfl LX5_76 rfl rfl rfl rfl ?_
        refine c_addK9 (d := d + 8) (by decide : (7 : Int32).toInt = 7) (by omega) (by omega) ?_
        refine g_run 2 rfl ?_
        refine gG_hp (h2 := PX hp 9 k4 p4 m4 q4 f (apL sp c (l ++ ((tst (j + 1)).2.2 ++ [Int32.ofInt (-7)]))) (c + (l ++ ((tst (j + 1)).2.2 ++ [Int32.ofInt (-7)])).length)) (by rw [apL_3, len_3]) ?_
        exact ih _ _ _ k4 p4 m4 q4 ((ia_add2 rfl (by decide : (1 : Int32).toInt = 1) (by omega) (by omega)).trans (by omega)) (by omega) o2 (by simp only [List.length_append, List.length_cons, List.length_nil]; omega) hT4 hR
      · refine gz_ne (kx := 0) rfl (show (0 : Int32).toInt = 0 from by decide) (fun q => absurd rfl q) (fun _ => ?_)
        rw [if_neg r1] at hR
        refine g_run 1 rfl ?_
        subst hR
        exact g_zret rfl rfl (Or.inl rfl) (hQ.2 r1 _ _ _ _ _ _ _ hf4)
theorem rd_and9 {tst : Nat → pr_T} {dep : Int32} (hE : okE hp n N) (htst : rdC9 mX5_readTest (d + 9) hp xs n N dep tst) (hok : okR N tst) : rdC9 mX5_readTests (d + 10) hp xs n N dep (andP (kd (hp.1 6) n) tst) := by
  intro Q i k p m q f sp c hi hc hT hQ
  refine g_enter okX5_readTests (plainFor_of_name rfl) rfl ?_
  refine g_run 2 rfl ?_
  refine g_callV0 rfl LX5_71 rfl rfl rfl rfl ?_
  refine htst _ i k p m q f sp c hi hc hT ⟨fun r0 k2 p2 m2 q2 hT2 => ?_, fun r1 k2 p2 m2 q2 f2 sp2 c2 hf => ?_⟩
  · refine gz_ne (kx := 1) rfl (show (1 : Int32).toInt = 1 from by decide) (fun _ => ?_) (fun q => absurd q (by decide))
    obtain ⟨o1, o2, o3⟩ := hok i hi r0
    refine g_run 2 rfl ?_
    exact lp_and9 hE htst hok hQ 600 _ _ 0 k2 p2 m2 q2 (by decide) (by omega) o2 (by omega) hT2 (by rw [andP, if_pos r0])
  · refine gz_ne (kx := 0) rfl (show (0 : Int32).toInt = 0 from by decide) (fun q => absurd rfl q) (fun _ => ?_)
    refine g_run 1 rfl ?_
    have e : andP (kd (hp.1 6) n) tst i = tst i := by rw [andP, if_neg r1]
    rw [e] at hQ
    exact g_zret rfl rfl (Or.inl rfl) (hQ.2 r1 _ _ _ _ _ _ _ hf)
theorem rd_tss9 {part : Nat → pr_T} {dep : Int32} (hE : okE hp n N) (hpart : rdC9 mX5_readPart (d + 7) hp xs n N dep part) (hok : okR N part) : rdC9 mX5_readTests (d + 10) hp xs n N dep (tssP (kd (hp.1 6) n) part) := rd_and9 hE (rd_tst9 hE (rd_sum9 hE hpart hok) (okR_sum hE.2.2.2 hok)) (okR_tst hE.2.2.2 (okR_sum hE.2.2.2 hok))
/-- the way of readPart up to its place 32 -/
theorem rd_p329 {dep : Int32} {i : Nat} (hT : tkA (hp.1 6) n k p m q i) (hn6 : n ≤ 600) (h1 : isPt (kd (hp.1 6) n i) = true → gG mX5_readPart (d + 7) 0 0 (zQ 0 0 Q) 0 0 (32, [.ref 7, .int dep, .int k, .retAddr 0], [], SH false xs, PX hp 9 k p m q f sp c)) (h0 : ¬ isPt (kd (hp.1 6) n i) = true → ∀ f2 : Int32, f2.toInt = 1 + 16 * (pl (hp.1 6) n i : Int) → Q (some (.int 0)) (SH false xs) (PX hp 9 k p m q f2 sp c)) : gC mX5_readPart (d + 7) 0 0 [.ref 7, .int dep] (SH false xs) (PX hp 9 k p m q f sp c) Q := by
  have hpl := pl_le (t := hp.1 6) (n := n) (i := i)
  simp only [isPt, decide_eq_true_eq] at h1 h0
  refine g_enter okX5_readPart (plainFor_of_name rfl) rfl ?_
  refine g_run 6 rfl ?_
  refine gj_eq (kx := kd (hp.1 6) n i) (kz := 2) rfl hT.1 (by decide) (fun k1 => h1 (by omega)) (fun k1 => ?_)
  refine g_run 2 rfl ?_
  refine gj_eq (kx := kd (hp.1 6) n i) (kz := 13) rfl hT.1 (by decide) (fun k2 => h1 (by omega)) (fun k2 => ?_)
  refine g_run 1 rfl ?_
  refine g_callS0 rfl LX5_89 rfl rfl ?_
  refine c_X5_isName (nI := kd (hp.1 6) n i) hT.1 (fun k3 => ?_) (fun k3 => ?_)
  · refine gz_ne (kx := 1) rfl (show (1 : Int32).toInt = 1 from by decide) (fun _ => h1 (by omega)) (fun q => absurd q (by decide))
  · refine gz_ne (kx := 0) rfl (show (0 : Int32).toInt = 0 from by decide) (fun q => absurd rfl q) (fun _ => ?_)
    refine g_run 2 rfl ?_
    refine g_callV0 rfl LX5_48 rfl rfl rfl rfl ?_
    refine c_wrong9 (by decide : (1 : Int32).toInt = 1) (by omega) hT.2.1 (by omega) (fun f2 hf => ?_)
    exact g_zret rfl rfl (Or.inl rfl) (h0 (by omega) f2 hf)
theorem rd_part09 {dep : Int32} (hE : okE hp n N) (hd : dep.toInt = 5) : rdC9 mX5_readPart (d + 7) hp xs n N dep (parD (kd (hp.1 6) n) (pl (hp.1 6) n) (nv (hp.1 6) n) 0) := by
  intro Q i k p m q f sp c hi hc hT hQ
  have hpl := pl_le (t := hp.1 6) (n := n) (i := i)
  have hn6 := hE.2.1
  rw [parD] at hQ
  dsimp only at hQ
  refine rd_p329 hT hE.2.1 (fun hp1 => ?_) (fun hp1 f2 hf => ?_)
  · rw [if_pos hp1] at hQ
    refine g_run 2 rfl ?_
    refine gj_lt (kx := 5) (kz := 5) rfl hd (by decide) (fun k1 => absurd k1 (by decide)) (fun _ => ?_)
    refine g_run 2 rfl ?_
    refine g_callV0 rfl LX5_48 rfl rfl rfl rfl ?_
    refine c_wrong9 (by decide : (5 : Int32).toInt = 5) (by omega) hT.2.1 (by omega) (fun f2 hf => ?_)
    exact g_zret rfl rfl (Or.inl rfl) (hQ.2 (by dsimp only; omega) _ _ _ _ _ _ _ hf)
  · rw [if_neg hp1] at hQ
    exact hQ.2 (by dsimp only; omega) _ _ _ _ _ _ _ hf
theorem rd_partS9 {dep : Int32} {dI : Int} {tss : Nat → pr_T} (hE : okE hp n N) (hd : dep.toInt = dI) (hd5 : 0 ≤ dI ∧ dI < 5) (htss : rdC9 mX5_readTests (d + 10) hp xs n N (dep + 1) tss) (hok : okR N tss) : rdC9 mX5_readPart (d + 11) hp xs n N dep (parE (kd (hp.1 6) n) (pl (hp.1 6) n) (nv (hp.1 6) n) tss) := by
  intro Q i k p m q f sp c hi hc hT hQ
  have hpl := pl_le (t := hp.1 6) (n := n) (i := i)
  have hn6 := hE.2.1
  have hN := hE.2.2.1
  have hK := kd_bd (t := hp.1 6) (n := n) (i := i)
  rw [parE] at hQ
  refine rd_p329 (d := d + 4) hT hE.2.1 (fun hp1 => ?_) (fun hp1 f2 hf => ?_)
  · rw [if_pos hp1] at hQ
    have hj := hE.2.2.2 i hi (by simp only [isPt, decide_eq_true_eq] at hp1; omega)
    refine g_run 2 rfl ?_
    refine gj_lt (kx := dI) (kz := 5) rfl hd (by decide) (fun _ => ?_) (fun k1 => by exfalso; omega)
    refine g_run 6 rfl ?_
    refine g_callV0 rfl LX5_35 rfl rfl rfl rfl ?_
    refine c_adv9 (d := d + 4) hE.1 hE.2.1 hT (fun k3 p3 m3 q3 hT3 => ?_)
    refine g_run 2 rfl ?_
    refine gj_ne (kx := kd (hp.1 6) n i) (kz := 13) rfl hT.1 (by decide) (fun k2 => ?_) (fun k2 => ?_)
    · rw [if_neg k2] at hQ
      refine g_run 2 rfl ?_
      refine gj_ne (kx := kd (hp.1 6) n i) (kz := 2) rfl hT.1 (by decide) (fun k4 => ?_) (fun k4 => ?_)
      · rw [if_neg k4] at hQ
        refine g_run 3 rfl ?_
        refine g_callV0 rfl LX5_76 rfl rfl rfl rfl ?_
        refine c_addK9 (d := d + 9) hT.1 (by omega) (by omega) ?_
        refine g_run 1 rfl ?_
        exact g_zret rfl rfl (Or.inr rfl) (hQ.1 rfl k3 p3 m3 q3 hT3)
      · rw [if_pos k4] at hQ
        have hnv := nv_bd k4
        refine g_run 3 rfl ?_
        refine g_callV0 rfl LX5_92 rfl rfl rfl rfl ?_
        refine c_addN9 (by omega) ?_
        refine g_run 2 rfl ?_
        rw [num_of (hT.2.2.2 k4) (by omega)]
        exact g_zret rfl rfl (Or.inr rfl) (hQ.1 rfl k3 p3 m3 q3 hT3)
    · rw [if_pos k2, cls2] at hQ
      refine g_run 4 rfl ?_
      refine g_callV0 rfl LX5_64 rfl rfl rfl rfl ?_
      refine htss _ (i + 1) k3 p3 m3 q3 f sp c (by omega) (by omega) hT3 ⟨fun r0 k4 p4 m4 q4 hT4 => ?_, fun r1 k4 p4 m4 q4 f4 sp4 c4 hf4 => ?_⟩
      · refine gz_eq (kx := 1) rfl (show (1 : Int32).toInt = 1 from by decide) (fun q => absurd q (by decide)) (fun _ => ?_)
        obtain ⟨o1, o2, o3⟩ := hok (i + 1) (by omega) r0
        rw [if_pos r0] at hQ
        refine g_run 2 rfl ?_
        refine g_callV0 rfl LX5_61 rfl rfl rfl rfl ?_
        refine c_pass9 (d := d + 3) (by decide : (14 : Int32).toInt = 14) hE.1 hE.2.1 hT4 (fun k5 k6 p6 m6 q6 hT6 => ?_) (fun k5 f6 hf6 => ?_)
        · rw [if_pos k5] at hQ
          refine gz_eq (kx := 1) rfl (show (1 : Int32).toInt = 1 from by decide) (fun q => absurd q (by decide)) (fun _ => ?_)
          refine g_run 2 rfl ?_
          exact g_zret rfl rfl (Or.inr rfl) (hQ.1 rfl k6 p6 m6 q6 hT6)
        · rw [if_neg k5] at hQ
          refine gz_eq (kx := 0) rfl (show (0 : Int32).toInt = 0 from by decide) (fun _ => ?_) (fun q => absurd rfl q)
          refine g_run 1 rfl ?_
          exact g_zret rfl rfl (Or.inl rfl) (hQ.2 (by dsimp only; omega) _ _ _ _ _ _ _ hf6)
      · refine gz_eq (kx := 0) rfl (show (0 : Int32).toInt = 0 from by decide) (fun _ => ?_) (fun q => absurd rfl q)
        rw [if_neg r1] at hQ
        refine g_run 1 rfl ?_
        exact g_zret rfl rfl (Or.inl rfl) (hQ.2 r1 _ _ _ _ _ _ _ hf4)
  · rw [if_neg hp1] at hQ
    exact hQ.2 (by dsimp only; omega) _ _ _ _ _ _ _ hf
theorem rd_parD9 (hE : okE hp n N) : ∀ (e : Nat) (dep : Int32), e ≤ 5 → dep.toInt = 5 - (e : Int) → rdC9 mX5_readPart (d + 4 * e + 7) hp xs n N dep (parD (kd (hp.1 6) n) (pl (hp.1 6) n) (nv (hp.1 6) n) e)
  | 0, dep, _, hd => rd_part09 hE hd
  | e + 1, dep, he, hd => by
    rw [parD]
    refine rd_partS9 (d := d + 4 * e) hE hd (by omega) (rd_tss9 hE (rd_parD9 hE e (dep + 1) (by omega) ((ia_add2 hd (by decide : (1 : Int32).toInt = 1) (by omega) (by omega)).trans (by omega))) (okR_parD hE.2.2.2 e)) (okR_tss hE.2.2.2 (okR_parD hE.2.2.2 e))
end S42_9
section S42_37
variable {d : Nat} {hp : hp_T} {Q : Option Value → sh_T → hp_T → Prop} {xs : sh_T} {k p m q f : Int32} {sp : Nat → Int32} {c n N : Nat}
theorem px_f37 {v : Int32} : sI (PX hp 37 k p m q f sp c) 7 2 v = PX hp 37 k p m q v sp c := by
  refine two_ext (fun z i => ?_) rfl
  by_cases h1 : z = 7
  · subst h1; by_cases hi : i = 2 <;> simp [PX, TX, PY, sI, sR, va_up, hi]
  · simp [PX, TX, PY, sI, sR, va_up, h1]
theorem px_a37 {v : Int32} : sI (sI (PX hp 37 k p m q f sp c) 41 c v) 37 5 (nI c + 1) = PX hp 37 k p m q f (va_up sp c v) (c + 1) := by
  rw [nI_1]
  refine two_ext (fun z i => ?_) rfl
  by_cases h1 : z = 37
  · subst h1; by_cases hi : i = 5 <;> simp [PX, TX, PY, sI, sR, va_up, hi]
  · by_cases h2 : z = 41
    · subst h2; simp [PX, TX, PY, sI, sR, va_up]
    · simp [PX, TX, PY, sI, sR, va_up, h1, h2]
theorem c_adv37 {j : Nat} (hn : (hp.1 5 1).toInt = (n : Int)) (hn6 : n ≤ 600) (hT : tkA (hp.1 6) n k p m q j) (h1 : ∀ k2 p2 m2 q2 : Int32, tkA (hp.1 6) n k2 p2 m2 q2 (j + 1) → Q none (SH true xs) (PX hp 37 k2 p2 m2 q2 f sp c)) : gC mX8_advance (d + 6) 0 0 [.ref 8] (SH true xs) (PX hp 37 k p m q f sp c) Q := c_X8_advance (hp := PY hp 37 f sp c) hn hn6 hT.2.2.1 (bh_le _) (fun k2 p2 m2 q2 a1 a2 a3 a4 => h1 k2 p2 m2 q2 ⟨a1, a2, a3, a4⟩)
theorem c_addN37 {v : Int32} (hc : c < 600) (h1 : Q none (SH true xs) (PX hp 37 k p m q f (va_up sp c v) (c + 1))) : gC mX6_addNumber d 0 0 [.ref 37, .int v] (SH true xs) (PX hp 37 k p m q f sp c) Q := by
  refine g_enter okX6_addNumber (plainFor_of_name rfl) rfl ?_
  refine g_run 5 rfl ?_
  refine gj_ge (kx := (c : Int)) (kz := 600) rfl (nI_toInt (by omega)) (by decide) (fun k1 => by exfalso; omega) (fun _ => ?_)
  refine g_run 5 rfl ?_
  refine g_iast (j := c) rfl rfl (nI_toInt (by omega)) (by omega) ?_
  refine g_run 6 rfl ?_
  refine gG_hp px_a37 ?_
  exact g_vret rfl rfl h1
theorem c_addK37 {v : Int32} {x : Int} (vE : v.toInt = x) (hx : -100 ≤ x ∧ x ≤ 100) (hc : c < 600) (h1 : Q none (SH true xs) (PX hp 37 k p m q f (va_up sp c (Int32.ofInt (-x))) (c + 1))) : gC mX6_addKind (d + 1) 0 0 [.ref 37, .int v] (SH true xs) (PX hp 37 k p m q f sp c) Q := by
  refine g_enter okX6_addKind (plainFor_of_name rfl) rfl ?_
  refine g_run 3 rfl ?_
  refine g_callV0 rfl LX6_37 rfl rfl rfl rfl ?_
  rw [neg_of vE hx]
  refine c_addN37 hc ?_
  exact g_vret rfl rfl h1
theorem c_wrong37 {v : Int32} {x P : Int} (vE : v.toInt = x) (hx : 0 ≤ x ∧ x ≤ 100) (pE : p.toInt = P) (hP : 0 ≤ P ∧ P ≤ 600) (h1 : ∀ f2 : Int32, f2.toInt = x + 16 * P → Q (some (.int 0)) (SH true xs) (PX hp 37 k p m q f2 sp c)) : gC mX5_wrong d 0 0 [.ref 7, .int v] (SH true xs) (PX hp 37 k p m q f sp c) Q := by
  refine g_enter okX5_wrong (plainFor_of_name rfl) rfl ?_
  refine g_run 10 rfl ?_
  refine gG_hp px_f37 ?_
  exact g_zret rfl rfl (Or.inl rfl) (h1 _ (ia_add2 vE (ia_mul2 (by decide : (16 : Int32).toInt = 16) pE (by omega) (by omega)) (by omega) (by omega)))
theorem c_pass37 {v : Int32} {x : Int} {j : Nat} (vE : v.toInt = x) (hn : (hp.1 5 1).toInt = (n : Int)) (hn6 : n ≤ 600) (hT : tkA (hp.1 6) n k p m q j) (h1 : kd (hp.1 6) n j = x → ∀ k2 p2 m2 q2 : Int32, tkA (hp.1 6) n k2 p2 m2 q2 (j + 1) → Q (some (.int 1)) (SH true xs) (PX hp 37 k2 p2 m2 q2 f sp c)) (h0 : kd (hp.1 6) n j ≠ x → ∀ f2 : Int32, f2.toInt = 1 + 16 * (pl (hp.1 6) n j : Int) → Q (some (.int 0)) (SH true xs) (PX hp 37 k p m q f2 sp c)) : gC mX5_pass (d + 7) 0 0 [.ref 7, .int v] (SH true xs) (PX hp 37 k p m q f sp c) Q := by
  have hpl := pl_le (t := hp.1 6) (n := n) (i := j)
  refine g_enter okX5_pass (plainFor_of_name rfl) rfl ?_
  refine g_run 4 rfl ?_
  refine gj_eq (kx := kd (hp.1 6) n j) (kz := x) rfl hT.1 vE (fun k1 => ?_) (fun k1 => ?_)
  · refine g_run 2 rfl ?_
    refine g_callV0 rfl LX5_35 rfl rfl rfl rfl ?_
    refine c_adv37 hn hn6 hT (fun k2 p2 m2 q2 hT2 => ?_)
    refine g_run 1 rfl ?_
    exact g_zret rfl rfl (Or.inr rfl) (h1 k1 k2 p2 m2 q2 hT2)
  · refine g_run 2 rfl ?_
    refine g_callV0 rfl LX5_48 rfl rfl rfl rfl ?_
    refine c_wrong37 (by decide : (1 : Int32).toInt = 1) (by omega) hT.2.1 (by omega) (fun f2 hf => ?_)
    exact g_zret rfl rfl (Or.inl rfl) (h0 k1 f2 hf)
/-- what is wanted behind a reading -/
def rdP37 (hp : hp_T) (xs : sh_T) (n : Nat) (r : pr_T) (f : Int32) (sp : Nat → Int32) (c : Nat) (Q : Option Value → sh_T → hp_T → Prop) : Prop :=
  (r.1 = 0 → ∀ k p m q : Int32, tkA (hp.1 6) n k p m q r.2.1 → Q (some (.int 1)) (SH true xs) (PX hp 37 k p m q f (apL sp c r.2.2) (c + r.2.2.length))) ∧ (r.1 ≠ 0 → ∀ (k p m q f2 : Int32) (sp2 : Nat → Int32) (c2 : Nat), f2.toInt = r.1 → Q (some (.int 0)) (SH true xs) (PX hp 37 k p m q f2 sp2 c2))
def rdC37 (y : mt_T) (d : Nat) (hp : hp_T) (xs : sh_T) (n N : Nat) (dep : Int32) (R : Nat → pr_T) : Prop :=
  ∀ (Q : Option Value → sh_T → hp_T → Prop) (i : Nat) (k p m q f : Int32) (sp : Nat → Int32) (c : Nat), i ≤ N → c ≤ i → tkA (hp.1 6) n k p m q i → rdP37 hp xs n (R i) f sp c Q → gC y d 0 0 [.ref 7, .int dep] (SH true xs) (PX hp 37 k p m q f sp c) Q
theorem lp_sum37 {part : Nat → pr_T} {dep : Int32} (hE : okE hp n N) (hpart : rdC37 mX5_readPart (d + 7) hp xs n N dep part) (hok : okR N part) {r : pr_T} (hQ : rdP37 hp xs n r f sp c Q) : ∀ (fu j : Nat) (l : List Int32) (cn k p m q : Int32) (w3 : Value), cn.toInt = 600 - (fu : Int) → fu ≤ 600 → j ≤ N → c + l.length ≤ j → tkA (hp.1 6) n k p m q j → sumL (kd (hp.1 6) n) part fu j l = r → gG mX5_readSum (d + 8) 0 0 (zQ 0 0 Q) 0 0 (12, [.ref 7, .int dep, .int cn, w3], [], SH true xs, PX hp 37 k p m q f (apL sp c l) (c + l.length)) := by
  intro fu
  induction fu with
  | zero =>
    intro j l cn k p m q w3 cE hfu hj hcl hT hR
    refine g_run 2 rfl ?_
    refine gj_ge (kx := cn.toInt) (kz := 600) rfl rfl (by decide) (fun k1 => ?_) (fun k1 => by exfalso; omega)
    refine g_run 1 rfl ?_
    subst hR
    exact g_zret rfl rfl (Or.inr rfl) (hQ.1 rfl k p m q hT)
  | succ fu ih =>
    intro j l cn k p m q w3 cE hfu hj hcl hT hR
    refine g_run 2 rfl ?_
    refine gj_ge (kx := cn.toInt) (kz := 600) rfl rfl (by decide) (fun k1 => by exfalso; omega) (fun k1 => ?_)
    refine g_run 3 rfl ?_
    refine g_callS0 rfl LX5_86 rfl rfl ?_
    rw [sumL] at hR
    refine c_X5_isPlusOrMinus (nI := kd (hp.1 6) n j) hT.1 (fun k2 => ?_) (fun k2 => ?_)
    · refine gz_eq (kx := 1) rfl (show (1 : Int32).toInt = 1 from by decide) (fun q => absurd q (by decide)) (fun _ => ?_)
      rw [if_pos k2] at hR
      have hj2 := hE.2.2.2 j hj (by omega)
      have hN := hE.2.2.1
      refine g_run 6 rfl ?_
      refine g_callV0 rfl LX5_35 rfl rfl rfl rfl ?_
      refine c_adv37 (d := d + 1) hE.1 hE.2.1 hT (fun k3 p3 m3 q3 hT3 => ?_)
      refine g_run 2 rfl ?_
      refine g_callV0 rfl LX5_83 rfl rfl rfl rfl ?_
      refine hpart _ (j + 1) k3 p3 m3 q3 f _ _ (by omega) (by omega) hT3 ⟨fun r0 k4 p4 m4 q4 hT4 => ?_, fun r1 k4 p4 m4 q4 f4 sp4 c4 hf4 => ?_⟩
      · refine gz_ne (kx := 1) rfl (show (1 : Int32).toInt = 1 from by decide) (fun _ => ?_) (fun q => absurd q (by decide))
        rw [if_pos r0] at hR
        obtain ⟨o1, o2, o3⟩ := hok (j + 1) (by omega) r0
        refine g_run 3 rfl ?_
        refine g_callV0 rfl LX5_76 rfl rfl rfl rfl ?_
        refine c_addK37 (d := d + 6) hT.1 (by have := kd_bd (t := hp.1 6) (n := n) (i := j); omega) (by omega) ?_
        refine g_run 2 rfl ?_
        refine gG_hp (h2 := PX hp 37 k4 p4 m4 q4 f (apL sp c (l ++ ((part (j + 1)).2.2 ++ [Int32.ofInt (-kd (hp.1 6) n j)]))) (c + (l ++ ((part (j + 1)).2.2 ++ [Int32.ofInt (-kd (hp.1 6) n j)])).length)) (by rw [apL_3, len_3]) ?_
        exact ih _ _ _ k4 p4 m4 q4 _ ((ia_add2 rfl (by decide : (1 : Int32).toInt = 1) (by omega) (by omega)).trans (by omega)) (by omega) o2 (by simp only [List.length_append, List.length_cons, List.length_nil]; omega) hT4 hR
      · refine gz_ne (kx := 0) rfl (show (0 : Int32).toInt = 0 from by decide) (fun q => absurd rfl q) (fun _ => ?_)
        rw [if_neg r1] at hR
        refine g_run 1 rfl ?_
        subst hR
        exact g_zret rfl rfl (Or.inl rfl) (hQ.2 r1 _ _ _ _ _ _ _ hf4)
    · refine gz_eq (kx := 0) rfl (show (0 : Int32).toInt = 0 from by decide) (fun _ => ?_) (fun q => absurd rfl q)
      rw [if_neg (by omega)] at hR
      refine g_run 1 rfl ?_
      subst hR
      exact g_zret rfl rfl (Or.inr rfl) (hQ.1 rfl k p m q hT)
theorem rd_sum37 {part : Nat → pr_T} {dep : Int32} (hE : okE hp n N) (hpart : rdC37 mX5_readPart (d + 7) hp xs n N dep part) (hok : okR N part) : rdC37 mX5_readSum (d + 8) hp xs n N dep (sumP (kd (hp.1 6) n) part) := by
  intro Q i k p m q f sp c hi hc hT hQ
  refine g_enter okX5_readSum (plainFor_of_name rfl) rfl ?_
  refine g_run 2 rfl ?_
  refine g_callV0 rfl LX5_83 rfl rfl rfl rfl ?_
  refine hpart _ i k p m q f sp c hi hc hT ⟨fun r0 k2 p2 m2 q2 hT2 => ?_, fun r1 k2 p2 m2 q2 f2 sp2 c2 hf => ?_⟩
  · refine gz_ne (kx := 1) rfl (show (1 : Int32).toInt = 1 from by decide) (fun _ => ?_) (fun q => absurd q (by decide))
    obtain ⟨o1, o2, o3⟩ := hok i hi r0
    refine g_run 2 rfl ?_
    exact lp_sum37 hE hpart hok hQ 600 _ _ 0 k2 p2 m2 q2 _ (by decide) (by omega) o2 (by omega) hT2 (by rw [sumP, if_pos r0])
  · refine gz_ne (kx := 0) rfl (show (0 : Int32).toInt = 0 from by decide) (fun q => absurd rfl q) (fun _ => ?_)
    refine g_run 1 rfl ?_
    have e : sumP (kd (hp.1 6) n) part i = part i := by rw [sumP, if_neg r1]
    rw [e] at hQ
    exact g_zret rfl rfl (Or.inl rfl) (hQ.2 r1 _ _ _ _ _ _ _ hf)
theorem rd_tst37 {sm : Nat → pr_T} {dep : Int32} (hE : okE hp n N) (hsm : rdC37 mX5_readSum (d + 8) hp xs n N dep sm) (hok : okR N sm) : rdC37 mX5_readTest (d + 9) hp xs n N dep (tstP (kd (hp.1 6) n) sm) := by
  intro Q i k p m q f sp c hi hc hT hQ
  refine g_enter okX5_readTest (plainFor_of_name rfl) rfl ?_
  refine g_run 2 rfl ?_
  refine g_callV0 rfl LX5_80 rfl rfl rfl rfl ?_
  refine hsm _ i k p m q f sp c hi hc hT ⟨fun r0 k2 p2 m2 q2 hT2 => ?_, fun r1 k2 p2 m2 q2 f2 sp2 c2 hf => ?_⟩
  · refine gz_ne (kx := 1) rfl (show (1 : Int32).toInt = 1 from by decide) (fun _ => ?_) (fun q => absurd q (by decide))
    obtain ⟨o1, o2, o3⟩ := hok i hi r0
    have hN := hE.2.2.1
    have hK := kd_bd (t := hp.1 6) (n := n) (i := (sm i).2.1)
    rw [tstP, if_pos r0, ts2] at hQ
    refine g_run 6 rfl ?_
    have k30 : (kd (hp.1 6) n (sm i).2.1 = 15 ∨ kd (hp.1 6) n (sm i).2.1 = 16) → gG mX5_readTest (d + 9) 0 0 (zQ 0 0 Q) 0 0 (30, [.ref 7, .int dep, .int k2], [], SH true xs, PX hp 37 k2 p2 m2 q2 f (apL sp c (sm i).2.2) (c + (sm i).2.2.length)) := by
      intro hk
      rw [if_pos hk] at hQ
      have hj2 := hE.2.2.2 _ o2 (by omega)
      refine g_run 2 rfl ?_
      refine g_callV0 rfl LX5_35 rfl rfl rfl rfl ?_
      refine c_adv37 (d := d + 2) hE.1 hE.2.1 hT2 (fun k3 p3 m3 q3 hT3 => ?_)
      refine g_run 2 rfl ?_
      refine g_callV0 rfl LX5_80 rfl rfl rfl rfl ?_
      refine hsm _ _ k3 p3 m3 q3 f _ _ (by omega) (by omega) hT3 ⟨fun s0 k4 p4 m4 q4 hT4 => ?_, fun s1 k4 p4 m4 q4 f4 sp4 c4 hf4 => ?_⟩
      · refine gz_ne (kx := 1) rfl (show (1 : Int32).toInt = 1 from by decide) (fun _ => ?_) (fun q => absurd q (by decide))
        obtain ⟨b1, b2, b3⟩ := hok _ (by omega) s0
        rw [if_pos s0] at hQ
        refine g_run 3 rfl ?_
        refine g_callV0 rfl LX5_76 rfl rfl rfl rfl ?_
        refine c_addK37 (d := d + 7) hT2.1 (by omega) (by omega) ?_
        refine g_run 1 rfl ?_
        rw [apL_3, len_3]
        exact g_zret rfl rfl (Or.inr rfl) (hQ.1 rfl k4 p4 m4 q4 hT4)
      · refine gz_ne (kx := 0) rfl (show (0 : Int32).toInt = 0 from by decide) (fun q => absurd rfl q) (fun _ => ?_)
        rw [if_neg s1] at hQ
        refine g_run 1 rfl ?_
        exact g_zret rfl rfl (Or.inl rfl) (hQ.2 s1 _ _ _ _ _ _ _ hf4)
    refine gj_eq (kx := kd (hp.1 6) n (sm i).2.1) (kz := 15) rfl hT2.1 (by decide) (fun k1 => k30 (by omega)) (fun k1 => ?_)
    refine g_run 2 rfl ?_
    refine gj_ne (kx := kd (hp.1 6) n (sm i).2.1) (kz := 16) rfl hT2.1 (by decide) (fun k3 => ?_) (fun k3 => k30 (by omega))
    rw [if_neg (by omega)] at hQ
    refine g_run 1 rfl ?_
    exact g_zret rfl rfl (Or.inr rfl) (hQ.1 rfl k2 p2 m2 q2 hT2)
  · refine gz_ne (kx := 0) rfl (show (0 : Int32).toInt = 0 from by decide) (fun q => absurd rfl q) (fun _ => ?_)
    refine g_run 1 rfl ?_
    rw [tstP, if_neg r1] at hQ
    exact g_zret rfl rfl (Or.inl rfl) (hQ.2 r1 _ _ _ _ _ _ _ hf)
theorem lp_and37 {tst : Nat → pr_T} {dep : Int32} (hE : okE hp n N) (htst : rdC37 mX5_readTest (d + 9) hp xs n N dep tst) (hok : okR N tst) {r : pr_T} (hQ : rdP37 hp xs n r f sp c Q) : ∀ (fu j : Nat) (l : List Int32) (cn k p m q : Int32), cn.toInt = 600 - (fu : Int) → fu ≤ 600 → j ≤ N → c + l.length ≤ j → tkA (hp.1 6) n k p m q j → andL (kd (hp.1 6) n) tst fu j l = r → gG mX5_readTests (d + 10) 0 0 (zQ 0 0 Q) 0 0 (12, [.ref 7, .int dep, .int cn], [], SH true xs, PX hp 37 k p m q f (apL sp c l) (c + l.length)) := by
  intro fu
  induction fu with
  | zero =>
    intro j l cn k p m q cE hfu hj hcl hT hR
    refine g_run 2 rfl ?_
    refine gj_ge (kx := cn.toInt) (kz := 600) rfl rfl (by decide) (fun k1 => ?_) (fun k1 => by exfalso; omega)
    refine g_run 1 rfl ?_
    subst hR
    exact g_zret rfl rfl (Or.inr rfl) (hQ.1 rfl k p m q hT)
  | succ fu ih =>
    intro j l cn k p m q cE hfu hj hcl hT hR
    refine g_run 2 rfl ?_
    refine gj_ge (kx := cn.toInt) (kz := 600) rfl rfl (by decide) (fun k1 => by exfalso; omega) (fun k1 => ?_)
    refine g_run 4 rfl ?_
    rw [andL] at hR
    refine gj_ne (kx := kd (hp.1 6) n j) (kz := 7) rfl hT.1 (by decide) (fun k2 => ?_) (fun k2 => ?_)
    · rw [if_neg k2] at hR
      refine g_run 1 rfl ?_
      subst hR
      exact g_zret rfl rfl (Or.inr rfl) (hQ.1 rfl k p m q hT)
    · rw [if_pos k2] at hR
      have hj2 := hE.2.2.2 j hj (by omega)
      have hN := hE.2.2.1
      refine g_run 2 rfl ?_
      refine g_callV0 rfl LX5_35 rfl rfl rfl rfl ?_
      refine c_adv37 (d := d + 3) hE.1 hE.2.1 hT (fun k3 p3 m3 q3 hT3 => ?_)
      refine g_run 2 rfl ?_
      refine g_callV0 rfl LX5_71 rfl rfl rfl rfl ?_
      refine htst _ (j + 1) k3 p3 m3 q3 f _ _ (by omega) (by omega) hT3 ⟨fun r0 k4 p4 m4 q4 hT4 => ?_, fun r1 k4 p4 m4 q4 f4 sp4 c4 hf4 => ?_⟩
      · refine gz_ne (kx := 1) rfl (show (1 : Int32).toInt = 1 from by decide) (fun _ => ?_) (fun q => absurd q (by decide))
        rw [if_pos r0] at hR
        obtain ⟨o1, o2, o3⟩ := hok (j + 1) (by omega) r0
        refine g_run 3 rfl ?_
        refine g_callV0 rfl LX5_76 rfl rfl rfl rfl ?_
        refine c_addK37 (d := d + 8) (by decide : (7 : Int32).toInt = 7) (by omega) (by omega) ?_
        refine g_run 2 rfl ?_
        refine gG_hp (h2 := PX hp 37 k4 p4 m4 q4 f (apL sp c (l ++ ((tst (j + 1)).2.2 ++ [Int32.ofInt (-7)]))) (c + (l ++ ((tst (j + 1)).2.2 ++ [Int32.ofInt (-7)])).length)) (by rw [apL_3, len_3]) ?_
        exact ih _ _ _ k4 p4 m4 q4 ((ia_add2 rfl (by decide : (1 : Int32).toInt = 1) (by omega) (by omega)).trans (by omega)) (by omega) o2 (by simp only [List.length_append, List.length_cons, List.length_nil]; omega) hT4 hR
      · refine gz_ne (kx := 0) rfl (show (0 : Int32).toInt = 0 from by decide) (fun q => absurd rfl q) (fun _ => ?_)
        rw [if_neg r1] at hR
        refine g_run 1 rfl ?_
        subst hR
        exact g_zret rfl rfl (Or.inl rfl) (hQ.2 r1 _ _ _ _ _ _ _ hf4)
theorem rd_and37 {tst : Nat → pr_T} {dep : Int32} (hE : okE hp n N) (htst : rdC37 mX5_readTest (d + 9) hp xs n N dep tst) (hok : okR N tst) : rdC37 mX5_readTests (d + 10) hp xs n N dep (andP (kd (hp.1 6) n) tst) := by
  intro Q i k p m q f sp c hi hc hT hQ
  refine g_enter okX5_readTests (plainFor_of_name rfl) rfl ?_
  refine g_run 2 rfl ?_
  refine g_callV0 rfl LX5_71 rfl rfl rfl rfl ?_
  refine htst _ i k p m q f sp c hi hc hT ⟨fun r0 k2 p2 m2 q2 hT2 => ?_, fun r1 k2 p2 m2 q2 f2 sp2 c2 hf => ?_⟩
  · refine gz_ne (kx := 1) rfl (show (1 : Int32).toInt = 1 from by decide) (fun _ => ?_) (fun q => absurd q (by decide))
    obtain ⟨o1, o2, o3⟩ := hok i hi r0
    refine g_run 2 rfl ?_
    exact lp_and37 hE htst hok hQ 600 _ _ 0 k2 p2 m2 q2 (by decide) (by omega) o2 (by omega) hT2 (by rw [andP, if_pos r0])
  · refine gz_ne (kx := 0) rfl (show (0 : Int32).toInt = 0 from by decide) (fun q => absurd rfl q) (fun _ => ?_)
    refine g_run 1 rfl ?_
    have e : andP (kd (hp.1 6) n) tst i = tst i := by rw [andP, if_neg r1]
    rw [e] at hQ
    exact g_zret rfl rfl (Or.inl rfl) (hQ.2 r1 _ _ _ _ _ _ _ hf)
theorem rd_tss37 {part : Nat → pr_T} {dep : Int32} (hE : okE hp n N) (hpart : rdC37 mX5_readPart (d + 7) hp xs n N dep part) (hok : okR N part) : rdC37 mX5_readTests (d + 10) hp xs n N dep (tssP (kd (hp.1 6) n) part) := rd_and37 hE (rd_tst37 hE (rd_sum37 hE hpart hok) (okR_sum hE.2.2.2 hok)) (okR_tst hE.2.2.2 (okR_sum hE.2.2.2 hok))
/-- the way of readPart up to its place 32 -/
theorem rd_p3237 {dep : Int32} {i : Nat} (hT : tkA (hp.1 6) n k p m q i) (hn6 : n ≤ 600) (h1 : isPt (kd (hp.1 6) n i) = true → gG mX5_readPart (d + 7) 0 0 (zQ 0 0 Q) 0 0 (32, [.ref 7, .int dep, .int k, .retAddr 0], [], SH true xs, PX hp 37 k p m q f sp c)) (h0 : ¬ isPt (kd (hp.1 6) n i) = true → ∀ f2 : Int32, f2.toInt = 1 + 16 * (pl (hp.1 6) n i : Int) → Q (some (.int 0)) (SH true xs) (PX hp 37 k p m q f2 sp c)) : gC mX5_readPart (d + 7) 0 0 [.ref 7, .int dep] (SH true xs) (PX hp 37 k p m q f sp c) Q := by
  have hpl := pl_le (t := hp.1 6) (n := n) (i := i)
  simp only [isPt, decide_eq_true_eq] at h1 h0
  refine g_enter okX5_readPart (plainFor_of_name rfl) rfl ?_
  refine g_run 6 rfl ?_
  refine gj_eq (kx := kd (hp.1 6) n i) (kz := 2) rfl hT.1 (by decide) (fun k1 => h1 (by omega)) (fun k1 => ?_)
  refine g_run 2 rfl ?_
  refine gj_eq (kx := kd (hp.1 6) n i) (kz := 13) rfl hT.1 (by decide) (fun k2 => h1 (by omega)) (fun k2 => ?_)
  refine g_run 1 rfl ?_
  refine g_callS0 rfl LX5_89 rfl rfl ?_
  refine c_X5_isName (nI := kd (hp.1 6) n i) hT.1 (fun k3 => ?_) (fun k3 => ?_)
  · refine gz_ne (kx := 1) rfl (show (1 : Int32).toInt = 1 from by decide) (fun _ => h1 (by omega)) (fun q => absurd q (by decide))
  · refine gz_ne (kx := 0) rfl (show (0 : Int32).toInt = 0 from by decide) (fun q => absurd rfl q) (fun _ => ?_)
    refine g_run 2 rfl ?_
    refine g_callV0 rfl LX5_48 rfl rfl rfl rfl ?_
    refine c_wrong37 (by decide : (1 : Int32).toInt = 1) (by omega) hT.2.1 (by omega) (fun f2 hf => ?_)
    exact g_zret rfl rfl (Or.inl rfl) (h0 (by omega) f2 hf)
theorem rd_part037 {dep : Int32} (hE : okE hp n N) (hd : dep.toInt = 5) : rdC37 mX5_readPart (d + 7) hp xs n N dep (parD (kd (hp.1 6) n) (pl (hp.1 6) n) (nv (hp.1 6) n) 0) := by
  intro Q i k p m q f sp c hi hc hT hQ
  have hpl := pl_le (t := hp.1 6) (n := n) (i := i)
  have hn6 := hE.2.1
  rw [parD] at hQ
  dsimp only at hQ
  refine rd_p3237 hT hE.2.1 (fun hp1 => ?_) (fun hp1 f2 hf => ?_)
  · rw [if_pos hp1] at hQ
    refine g_run 2 rfl ?_
    refine gj_lt (kx := 5) (kz := 5) rfl hd (by decide) (fun k1 => absurd k1 (by decide)) (fun _ => ?_)
    refine g_run 2 rfl ?_
    refine g_callV0 rfl LX5_48 rfl rfl rfl rfl ?_
    refine c_wrong37 (by decide : (5 : Int32).toInt = 5) (by omega) hT.2.1 (by omega) (fun f2 hf => ?_)
    exact g_zret rfl rfl (Or.inl rfl) (hQ.2 (by dsimp only; omega) _ _ _ _ _ _ _ hf)
  · rw [if_neg hp1] at hQ
    exact hQ.2 (by dsimp only; omega) _ _ _ _ _ _ _ hf
theorem rd_partS37 {dep : Int32} {dI : Int} {tss : Nat → pr_T} (hE : okE hp n N) (hd : dep.toInt = dI) (hd5 : 0 ≤ dI ∧ dI < 5) (htss : rdC37 mX5_readTests (d + 10) hp xs n N (dep + 1) tss) (hok : okR N tss) : rdC37 mX5_readPart (d + 11) hp xs n N dep (parE (kd (hp.1 6) n) (pl (hp.1 6) n) (nv (hp.1 6) n) tss) := by
  intro Q i k p m q f sp c hi hc hT hQ
  have hpl := pl_le (t := hp.1 6) (n := n) (i := i)
  have hn6 := hE.2.1
  have hN := hE.2.2.1
  have hK := kd_bd (t := hp.1 6) (n := n) (i := i)
  rw [parE] at hQ
  refine rd_p3237 (d := d + 4) hT hE.2.1 (fun hp1 => ?_) (fun hp1 f2 hf => ?_)
  · rw [if_pos hp1] at hQ
    have hj := hE.2.2.2 i hi (by simp only [isPt, decide_eq_true_eq] at hp1; omega)
    refine g_run 2 rfl ?_
    refine gj_lt (kx := dI) (kz := 5) rfl hd (by decide) (fun _ => ?_) (fun k1 => by exfalso; omega)
    refine g_run 6 rfl ?_
    refine g_callV0 rfl LX5_35 rfl rfl rfl rfl ?_
    refine c_adv37 (d := d + 4) hE.1 hE.2.1 hT (fun k3 p3 m3 q3 hT3 => ?_)
    refine g_run 2 rfl ?_
    refine gj_ne (kx := kd (hp.1 6) n i) (kz := 13) rfl hT.1 (by decide) (fun k2 => ?_) (fun k2 => ?_)
    · rw [if_neg k2] at hQ
      refine g_run 2 rfl ?_
      refine gj_ne (kx := kd (hp.1 6) n i) (kz := 2) rfl hT.1 (by decide) (fun k4 => ?_) (fun k4 => ?_)
      · rw [if_neg k4] at hQ
        refine g_run 3 rfl ?_
        refine g_callV0 rfl LX5_76 rfl rfl rfl rfl ?_
        refine c_addK37 (d := d + 9) hT.1 (by omega) (by omega) ?_
        refine g_run 1 rfl ?_
        exact g_zret rfl rfl (Or.inr rfl) (hQ.1 rfl k3 p3 m3 q3 hT3)
      · rw [if_pos k4] at hQ
        have hnv := nv_bd k4
        refine g_run 3 rfl ?_
        refine g_callV0 rfl LX5_92 rfl rfl rfl rfl ?_
        refine c_addN37 (by omega) ?_
        refine g_run 2 rfl ?_
        rw [num_of (hT.2.2.2 k4) (by omega)]
        exact g_zret rfl rfl (Or.inr rfl) (hQ.1 rfl k3 p3 m3 q3 hT3)
    · rw [if_pos k2, cls2] at hQ
      refine g_run 4 rfl ?_
      refine g_callV0 rfl LX5_64 rfl rfl rfl rfl ?_
      refine htss _ (i + 1) k3 p3 m3 q3 f sp c (by omega) (by omega) hT3 ⟨fun r0 k4 p4 m4 q4 hT4 => ?_, fun r1 k4 p4 m4 q4 f4 sp4 c4 hf4 => ?_⟩
      · refine gz_eq (kx := 1) rfl (show (1 : Int32).toInt = 1 from by decide) (fun q => absurd q (by decide)) (fun _ => ?_)
        obtain ⟨o1, o2, o3⟩ := hok (i + 1) (by omega) r0
        rw [if_pos r0] at hQ
        refine g_run 2 rfl ?_
        refine g_callV0 rfl LX5_61 rfl rfl rfl rfl ?_
        refine c_pass37 (d := d + 3) (by decide : (14 : Int32).toInt = 14) hE.1 hE.2.1 hT4 (fun k5 k6 p6 m6 q6 hT6 => ?_) (fun k5 f6 hf6 => ?_)
        · rw [if_pos k5] at hQ
          refine gz_eq (kx := 1) rfl (show (1 : Int32).toInt = 1 from by decide) (fun q => absurd q (by decide)) (fun _ => ?_)
          refine g_run 2 rfl ?_
          exact g_zret rfl rfl (Or.inr rfl) (hQ.1 rfl k6 p6 m6 q6 hT6)
        · rw [if_neg k5] at hQ
          refine gz_eq (kx := 0) rfl (show (0 : Int32).toInt = 0 from by decide) (fun _ => ?_) (fun q => absurd rfl q)
          refine g_run 1 rfl ?_
          exact g_zret rfl rfl (Or.inl rfl) (hQ.2 (by dsimp only; omega) _ _ _ _ _ _ _ hf6)
      · refine gz_eq (kx := 0) rfl (show (0 : Int32).toInt = 0 from by decide) (fun _ => ?_) (fun q => absurd rfl q)
        rw [if_neg r1] at hQ
        refine g_run 1 rfl ?_
        exact g_zret rfl rfl (Or.inl rfl) (hQ.2 r1 _ _ _ _ _ _ _ hf4)
  · rw [if_neg hp1] at hQ
    exact hQ.2 (by dsimp only; omega) _ _ _ _ _ _ _ hf
theorem rd_parD37 (hE : okE hp n N) : ∀ (e : Nat) (dep : Int32), e ≤ 5 → dep.toInt = 5 - (e : Int) → rdC37 mX5_readPart (d + 4 * e + 7) hp xs n N dep (parD (kd (hp.1 6) n) (pl (hp.1 6) n) (nv (hp.1 6) n) e)
  | 0, dep, _, hd => rd_part037 hE hd
  | e + 1, dep, he, hd => by
    rw [parD]
    refine rd_partS37 (d := d + 4 * e) hE hd (by omega) (rd_tss37 hE (rd_parD37 hE e (dep + 1) (by omega) ((ia_add2 hd (by decide : (1 : Int32).toInt = 1) (by omega) (by omega)).trans (by omega))) (okR_parD hE.2.2.2 e)) (okR_tss hE.2.2.2 (okR_parD hE.2.2.2 e))
end S42_37
