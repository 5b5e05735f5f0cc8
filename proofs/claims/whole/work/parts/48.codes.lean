/-! what is read is well formed; both sides reckon alike with it -/
def isJ (s : Int32) : Prop := -s.toInt = 7 ∨ (15 ≤ -s.toInt ∧ -s.toInt ≤ 18)
def isW (s : Int32) : Prop := 0 ≤ s.toInt ∨ -s.toInt = 3 ∨ -s.toInt = 4 ∨ (8 ≤ -s.toInt ∧ -s.toInt ≤ 12)
/-- steps that lead from a pile of h to one of h2, never above sixteen -/
def okC : List Int32 → Nat → Nat → Prop
  | [], h, h2 => h = h2
  | s :: r, h, h2 => (isW s ∧ h < 16 ∧ okC r (h + 1) h2) ∨ (isJ s ∧ 2 ≤ h ∧ okC r (h - 1) h2)
theorem okC_app : ∀ (a b : List Int32) (h m h2 : Nat), okC a h m → okC b m h2 → okC (a ++ b) h h2
  | [], b, h, m, h2, ha, hb => by
    have e : h = m := ha
    rw [e]
    exact hb
  | s :: r, b, h, m, h2, ha, hb => by
    rcases ha with ⟨h1, h2', h3⟩ | ⟨h1, h2', h3⟩
    · exact Or.inl ⟨h1, h2', okC_app r b _ _ _ h3 hb⟩
    · exact Or.inr ⟨h1, h2', okC_app r b _ _ _ h3 hb⟩
theorem okC_bd : ∀ (a : List Int32) (h h2 : Nat), okC a h h2 → ∀ s ∈ a, -20 ≤ s.toInt
  | [], _, _, _, s, hs => by cases hs
  | x :: r, h, h2, ho, s, hs => by
    have hx : -20 ≤ x.toInt ∧ (okC r (h + 1) h2 ∨ okC r (h - 1) h2) := by
      rcases ho with ⟨h1, -, h3⟩ | ⟨h1, -, h3⟩
      · simp only [isW] at h1
        exact ⟨by omega, Or.inl h3⟩
      · simp only [isJ] at h1
        exact ⟨by omega, Or.inr h3⟩
    rcases List.mem_cons.mp hs with rfl | hs
    · exact hx.1
    · rcases hx.2 with h3 | h3
      · exact okC_bd r _ _ h3 s hs
      · exact okC_bd r _ _ h3 s hs
def okH (B : Nat) (R : Nat → pr_T) : Prop := ∀ i, (R i).1 = 0 → ∀ h, h + B ≤ 16 → okC (R i).2.2 h (h + 1)
theorem okC_j {l l2 : List Int32} {h : Nat} {k : Int} (h1 : okC l h (h + 1)) (h2 : okC l2 (h + 1) (h + 2)) (hk : k = 17 ∨ k = 18 ∨ k = 15 ∨ k = 16 ∨ k = 7) : okC (l ++ (l2 ++ [Int32.ofInt (-k)])) h (h + 1) := by
  refine okC_app _ _ _ _ _ h1 (okC_app _ _ _ _ _ h2 (Or.inr ⟨?_, by omega, rfl⟩))
  simp only [isJ]
  rw [ia_ofI (by omega) (by omega)]
  omega
section OKH
variable {K : Nat → Int} {L : Nat → Nat} {V : Nat → Int}
theorem okH_sumL {part : Nat → pr_T} {B : Nat} (hp : okH B part) {h : Nat} (hh : h + (B + 1) ≤ 16) : ∀ (f j : Nat) (l : List Int32), okC l h (h + 1) → (sumL K part f j l).1 = 0 → okC (sumL K part f j l).2.2 h (h + 1)
  | 0, j, l, h1, _ => h1
  | f + 1, j, l, h1, h4 => by
    rw [sumL] at h4 ⊢
    by_cases c1 : K j = 17 ∨ K j = 18
    · rw [if_pos c1] at h4 ⊢
      by_cases c2 : (part (j + 1)).1 = 0
      · rw [if_pos c2] at h4 ⊢
        exact okH_sumL hp hh f _ _ (okC_j h1 (hp _ c2 (h + 1) (by omega)) (by omega)) h4
      · rw [if_neg c2] at h4; exact absurd h4 c2
    · rw [if_neg c1]; exact h1
theorem okH_sum {part : Nat → pr_T} {B : Nat} (hp : okH B part) : okH (B + 1) (sumP K part) := by
  intro i h0 h hh
  rw [sumP] at h0 ⊢
  by_cases c2 : (part i).1 = 0
  · rw [if_pos c2] at h0 ⊢
    exact okH_sumL hp hh 600 _ _ (hp i c2 h (by omega)) h0
  · rw [if_neg c2] at h0; exact absurd h0 c2
theorem okH_tst {sm : Nat → pr_T} {B : Nat} (hp : okH B sm) : okH (B + 1) (tstP K sm) := by
  intro i h0 h hh
  rw [tstP] at h0 ⊢
  by_cases c2 : (sm i).1 = 0
  · rw [if_pos c2, ts2] at h0 ⊢
    by_cases c1 : K (sm i).2.1 = 15 ∨ K (sm i).2.1 = 16
    · rw [if_pos c1] at h0 ⊢
      by_cases c3 : (sm ((sm i).2.1 + 1)).1 = 0
      · rw [if_pos c3]
        exact okC_j (hp i c2 h (by omega)) (hp _ c3 (h + 1) (by omega)) (by omega)
      · rw [if_neg c3] at h0; exact absurd h0 c3
    · rw [if_neg c1]; exact hp i c2 h (by omega)
  · rw [if_neg c2] at h0; exact absurd h0 c2
theorem okH_andL {tst : Nat → pr_T} {B : Nat} (hp : okH B tst) {h : Nat} (hh : h + (B + 1) ≤ 16) : ∀ (f j : Nat) (l : List Int32), okC l h (h + 1) → (andL K tst f j l).1 = 0 → okC (andL K tst f j l).2.2 h (h + 1)
  | 0, j, l, h1, _ => h1
  | f + 1, j, l, h1, h4 => by
    rw [andL] at h4 ⊢
    by_cases c1 : K j = 7
    · rw [if_pos c1] at h4 ⊢
      by_cases c2 : (tst (j + 1)).1 = 0
      · rw [if_pos c2] at h4 ⊢
        exact okH_andL hp hh f _ _ (okC_j h1 (hp _ c2 (h + 1) (by omega)) (by omega)) h4
      · rw [if_neg c2] at h4; exact absurd h4 c2
    · rw [if_neg c1]; exact h1
theorem okH_and {tst : Nat → pr_T} {B : Nat} (hp : okH B tst) : okH (B + 1) (andP K tst) := by
  intro i h0 h hh
  rw [andP] at h0 ⊢
  by_cases c2 : (tst i).1 = 0
  · rw [if_pos c2] at h0 ⊢
    exact okH_andL hp hh 600 _ _ (hp i c2 h (by omega)) h0
  · rw [if_neg c2] at h0; exact absurd h0 c2
theorem okH_tss {part : Nat → pr_T} {B : Nat} (hp : okH B part) : okH (B + 3) (tssP K part) := okH_and (okH_tst (okH_sum hp))
theorem okH_parE {tss : Nat → pr_T} {B : Nat} (hB : 1 ≤ B) (hV : ∀ i, K i = 2 → 0 ≤ V i ∧ V i ≤ 9999) (hp : okH B tss) : okH B (parE K L V tss) := by
  intro i h0 h hh
  rw [parE] at h0 ⊢
  by_cases c0 : isPt (K i) = true
  · rw [if_pos c0] at h0 ⊢
    simp only [isPt, decide_eq_true_eq] at c0
    by_cases c1 : K i = 13
    · rw [if_pos c1, cls2] at h0 ⊢
      by_cases c2 : (tss (i + 1)).1 = 0
      · rw [if_pos c2] at h0 ⊢
        by_cases c3 : K (tss (i + 1)).2.1 = 14
        · rw [if_pos c3]; exact hp _ c2 h hh
        · rw [if_neg c3] at h0; dsimp only at h0; omega
      · rw [if_neg c2] at h0; exact absurd h0 c2
    · rw [if_neg c1]
      by_cases c4 : K i = 2
      · rw [if_pos c4]
        refine Or.inl ⟨Or.inl ?_, by omega, rfl⟩
        have := hV i c4
        rw [ia_ofI (by omega) (by omega)]
        omega
      · rw [if_neg c4]
        refine Or.inl ⟨Or.inr ?_, by omega, rfl⟩
        rw [ia_ofI (by omega) (by omega)]
        omega
  · rw [if_neg c0] at h0; dsimp only at h0; omega
theorem okH_parD (hV : ∀ i, K i = 2 → 0 ≤ V i ∧ V i ≤ 9999) : ∀ e : Nat, okH (3 * e - 2) (parD K L V e)
  | 0 => by
    intro i h0
    rw [parD] at h0
    dsimp only at h0
    split at h0 <;> (dsimp only at h0; omega)
  | 1 => by
    rw [parD]
    refine okH_parE (by omega) hV ?_
    intro i h0
    exact absurd h0 (by
      have h2 : ∀ j, ¬ (parD K L V 0 j).1 = 0 := by
        intro j q
        rw [parD] at q
        dsimp only at q
        split at q <;> (dsimp only at q; omega)
      rw [tssP, andP, tstP, sumP, if_neg (h2 i), if_neg (h2 i), if_neg (h2 i)]
      exact h2 i)
  | e + 2 => by
    rw [parD]
    have := okH_tss (K := K) (okH_parD hV (e + 1))
    rw [show 3 * (e + 1) - 2 + 3 = 3 * (e + 2) - 2 by omega] at this
    exact okH_parE (by omega) hV this
end OKH
/-- a good line -/
def okLn (x : lt_T) : Prop := (x.1.toInt = 3 ∨ x.1.toInt = 4 ∨ x.1.toInt = 5) ∧ okC x.2.2 0 1
theorem lin_ok {K : Nat → Int} {L : Nat → Nat} {V : Nat → Int} {i ln : Nat} (hV : ∀ i, K i = 2 → 0 ≤ V i ∧ V i ≤ 9999) (h : (linP K L V (tssP K (parD K L V 5)) i ln).1 = 0) : okLn (linP K L V (tssP K (parD K L V 5)) i ln).2.2 := by
  have ha := lin_act h
  refine ⟨?_, ?_⟩
  · rw [ha]
    rw [linP] at h
    by_cases c0 : K i = 3 ∨ K i = 4 ∨ K i = 5
    · rw [ia_ofI (by omega) (by omega)]; exact c0
    · rw [if_neg c0] at h; dsimp only at h; omega
  · rw [linP] at h ⊢
    by_cases c0 : K i = 3 ∨ K i = 4 ∨ K i = 5
    · rw [if_pos c0] at h ⊢
      by_cases c1 : 16 ≤ ln
      · rw [if_pos c1] at h; dsimp only at h; omega
      · rw [if_neg c1] at h ⊢
        by_cases c2 : (amtP K L V i).1 = 0
        · rw [if_pos c2, lin2] at h ⊢
          by_cases c3 : K (amtP K L V i).2.1 = 6
          · rw [if_pos c3] at h ⊢
            by_cases c4 : (tssP K (parD K L V 5) ((amtP K L V i).2.1 + 1)).1 = 0
            · rw [if_pos c4] at h ⊢
              by_cases c5 : K (tssP K (parD K L V 5) ((amtP K L V i).2.1 + 1)).2.1 = 19
              · rw [if_pos c5]
                exact okH_tss (okH_parD hV 5) _ c4 0 (by omega)
              · rw [if_neg c5] at h; dsimp only at h; omega
            · rw [if_neg c4] at h; exact absurd h c4
          · rw [if_neg c3] at h; dsimp only at h; omega
        · rw [if_neg c2] at h; exact absurd h c2
    · rw [if_neg c0] at h; dsimp only at h; omega
theorem txt_ok {K : Nat → Int} {L : Nat → Nat} {V : Nat → Int} {N : Nat} (hE : ∀ j, j ≤ N → K j ≠ 0 → j < N) (hV : ∀ i, K i = 2 → 0 ≤ V i ∧ V i ≤ 9999) : ∀ (f i : Nat) (ls : List lt_T), i ≤ N → (flt ls).length ≤ i → ls.length ≤ 16 → (∀ x ∈ ls, okLn x) → (txtL K L V (tssP K (parD K L V 5)) f i ls).1 = 0 → (∀ x ∈ (txtL K L V (tssP K (parD K L V 5)) f i ls).2, okLn x) ∧ (flt (txtL K L V (tssP K (parD K L V 5)) f i ls).2).length ≤ N ∧ (txtL K L V (tssP K (parD K L V 5)) f i ls).2.length ≤ 16
  | 0, i, ls, hi, hl, h6, hx, _ => ⟨hx, by rw [txtL]; dsimp only; omega, h6⟩
  | f + 1, i, ls, hi, hl, h6, hx, h0 => by
    rw [txtL] at h0 ⊢
    by_cases c0 : K i = 0
    · rw [if_pos c0]; exact ⟨hx, by dsimp only; omega, h6⟩
    · rw [if_neg c0] at h0 ⊢
      by_cases c1 : (linP K L V (tssP K (parD K L V 5)) i ls.length).1 = 0
      · rw [if_pos c1] at h0 ⊢
        obtain ⟨p1, p2, p3, p4⟩ := okR_lin hE (okR_tss hE (okR_parD (L := L) (V := V) hE 5)) hi c1
        refine txt_ok hE hV f _ _ p2 (by rw [flt_app, List.length_append]; omega) (by rw [List.length_append, List.length_cons, List.length_nil]; omega) (fun x hx2 => ?_) h0
        rcases List.mem_append.mp hx2 with h | h
        · exact hx x h
        · rw [List.mem_singleton.mp h]; exact lin_ok hV c1
      · rw [if_neg c1] at h0; exact absurd h0 c1
/-- both sides reckon alike -/
theorem ev_eq {vn : Int → Int32} {kn sp op on : Nat → Int32} (hv : ∀ k : Int, (k = 3 ∨ k = 4 ∨ (8 ≤ k ∧ k ≤ 12)) → vn k = kn (pwM k).toInt.toNat) : ∀ (cs : List Int32) (p q : Nat) (l : List Int32) (h2 : Nat), (∀ (m : Nat) (v : Int32), cs[m]? = some v → sp (p + m) = v) → (∀ (m : Nat) (v : Int32), cs[m]? = some v → op (q + m) = opS v ∧ on (q + m) = onS v) → okC cs l.length h2 → l.length ≤ 16 → evLS vn sp cs.length p l = evMS kn op on cs.length q l
  | [], _, _, _, _, _, _, _, _ => rfl
  | s :: r, p, q, l, h2, hs, hm, ho, hl => by
    have e1 : sp p = s := hs 0 s rfl
    have e2 : op q = opS s ∧ on q = onS s := hm 0 s rfl
    show evLS vn sp r.length (p + 1) (evL1 vn (sp p) l) = evMS kn op on r.length (q + 1) (evM1 kn op on q l)
    have hs2 : ∀ (m : Nat) (v : Int32), r[m]? = some v → sp (p + 1 + m) = v := fun m v h => by rw [show p + 1 + m = p + (m + 1) by omega]; exact hs (m + 1) v (by simpa using h)
    have hm2 : ∀ (m : Nat) (v : Int32), r[m]? = some v → op (q + 1 + m) = opS v ∧ on (q + 1 + m) = onS v := fun m v h => by rw [show q + 1 + m = q + (m + 1) by omega]; exact hm (m + 1) v (by simpa using h)
    rw [e1]
    rcases ho with ⟨h1, h16, h3⟩ | ⟨h1, hl2, h3⟩
    · by_cases c0 : 0 ≤ s.toInt
      · have ex : evL1 vn s l = s :: l := by rw [evL1, if_pos c0, pL, if_pos h16]
        have em : evM1 kn op on q l = s :: l := by
          rw [evM1, e2.1, e2.2, opS, if_pos c0, onS, if_pos c0, if_pos (by decide), if_pos (by decide)]
        rw [ex, em]
        exact ev_eq hv r _ _ _ h2 hs2 hm2 (by rw [List.length_cons]; exact h3) (by rw [List.length_cons]; omega)
      · simp only [isW] at h1
        have hk : -s.toInt = 3 ∨ -s.toInt = 4 ∨ (8 ≤ -s.toInt ∧ -s.toInt ≤ 12) := by omega
        have ex : evL1 vn s l = vn (-s.toInt) :: l := by rw [evL1, if_neg c0, if_neg (by omega), pL, if_pos h16]
        have eo : opS s = 2 := by rw [opS, if_neg c0, if_neg (show ¬ -s.toInt = 17 by omega), if_neg (show ¬ -s.toInt = 18 by omega), if_neg (show ¬ -s.toInt = 15 by omega), if_neg (show ¬ -s.toInt = 16 by omega), if_neg (show ¬ -s.toInt = 7 by omega)]
        have en : onS s = pwM (-s.toInt) := by rw [onS, if_neg c0, if_neg (by omega)]
        have em : evM1 kn op on q l = vn (-s.toInt) :: l := by
          rw [evM1, e2.1, e2.2, eo, en, if_pos (by decide), if_neg (by decide), hv _ hk]
        rw [ex, em]
        exact ev_eq hv r _ _ _ h2 hs2 hm2 (by rw [List.length_cons]; exact h3) (by rw [List.length_cons]; omega)
    · simp only [isJ] at h1
      have ho : okC r (l.length - 1) h2 := h3
      have ej : (opS s).toInt ≠ 1 ∧ (opS s).toInt ≠ 2 ∧ kM (opS s).toInt = -s.toInt := by
        rw [opS, if_neg (by omega)]
        by_cases c17 : -s.toInt = 17
        · rw [if_pos c17, c17]; decide
        rw [if_neg c17]
        by_cases c18 : -s.toInt = 18
        · rw [if_pos c18, c18]; decide
        rw [if_neg c18]
        by_cases c15 : -s.toInt = 15
        · rw [if_pos c15, c15]; decide
        rw [if_neg c15]
        by_cases c16 : -s.toInt = 16
        · rw [if_pos c16, c16]; decide
        rw [if_neg c16, if_pos (by omega), show -s.toInt = 7 by omega]
        decide
      have em : evM1 kn op on q l = jd (-s.toInt) ((l.drop 1).headD 0) (l.headD 0) :: l.drop 2 := by
        rw [ev_j (by rw [e2.1]; exact ej.1) (by rw [e2.1]; exact ej.2.1), e2.1, ej.2.2]
      have c16 : (l.drop 2).length < 16 := by rw [List.length_drop]; omega
      have ex : evL1 vn s l = jd (-s.toInt) ((l.drop 1).headD 0) (l.headD 0) :: l.drop 2 := by rw [evL1, if_neg (by omega), if_pos (by omega), pL, if_pos c16]
      rw [ex, em]
      exact ev_eq hv r _ _ _ h2 hs2 hm2 (by rw [List.length_cons, List.length_drop, show l.length - 2 + 1 = l.length - 1 by omega]; exact ho) (by rw [List.length_cons, List.length_drop]; omega)
theorem okM_of {op on : Nat → Int32} : ∀ (cs : List Int32) (q h : Nat), (∀ (m : Nat) (v : Int32), cs[m]? = some v → op (q + m) = opS v ∧ on (q + m) = onS v) → op (q + cs.length) = 0 → okC cs h 1 → okM op on cs.length q h
  | [], q, h, _, h0, ho => ⟨by rw [show op q = 0 from h0]; decide, ho⟩
  | s :: r, q, h, hm, h0, ho => by
    have e2 : op q = opS s ∧ on q = onS s := hm 0 s rfl
    have hm2 : ∀ (m : Nat) (v : Int32), r[m]? = some v → op (q + 1 + m) = opS v ∧ on (q + 1 + m) = onS v := fun m v h => by rw [show q + 1 + m = q + (m + 1) by omega]; exact hm (m + 1) v (by simpa using h)
    have h02 : op (q + 1 + r.length) = 0 := by rw [show q + 1 + r.length = q + (r.length + 1) by omega]; exact h0
    show okM op on (r.length + 1) q h
    rcases ho with ⟨h1, h16, h3⟩ | ⟨h1, hl2, h3⟩
    · refine Or.inl ⟨?_, h16, okM_of r _ _ hm2 h02 h3⟩
      rw [e2.1, e2.2]
      by_cases c0 : 0 ≤ s.toInt
      · exact Or.inl (by rw [opS, if_pos c0]; decide)
      · simp only [isW] at h1
        have hk : -s.toInt = 3 ∨ -s.toInt = 4 ∨ (8 ≤ -s.toInt ∧ -s.toInt ≤ 12) := by omega
        refine Or.inr ⟨by rw [opS, if_neg c0, if_neg (by omega), if_neg (by omega), if_neg (by omega), if_neg (by omega), if_neg (by omega)]; decide, ?_⟩
        rw [onS, if_neg c0, if_neg (by omega)]
        exact pwM_y hk
    · refine Or.inr ⟨?_, ?_, hl2, okM_of r _ _ hm2 h02 h3⟩
      all_goals
        rw [e2.1]
        simp only [isJ] at h1
        rw [opS, if_neg (by omega)]
        repeat' split
        all_goals first | decide | (exfalso; omega)
/-- the class's rules rc hold the lines ls -/
def rulX (hp : hp_T) (rc : Nat) (ls : List lt_T) : Prop := hp.1 rc 0 = nI ls.length ∧ ∀ (k : Nat) (x : lt_T), ls[k]? = some x → hp.1 (rc + 1) k = x.1 ∧ hp.1 (rc + 2) k = x.2.1 ∧ hp.1 (rc + 3) k = nI (posX ls (k + 1)) ∧ ∀ (m : Nat) (v : Int32), x.2.2[m]? = some v → hp.1 (rc + 4) (posX ls k + m) = v
def rulM (hp : hp_T) (ho : Nat) (ls : List lt_T) : Prop := hp.1 49 ho = nI ls.length ∧ rowsM ho ls (hp.1 50) (hp.1 51) (hp.1 52) (hp.1 53) (hp.1 54)
def okTx (ls : List lt_T) : Prop := (∀ x ∈ ls, okLn x) ∧ (flt ls).length ≤ 600 ∧ ls.length ≤ 16
def lnL (ls : List lt_T) (k : Nat) : Nat := match ls[k]? with
  | some x => x.2.2.length
  | none => 0
theorem lnL_s {ls : List lt_T} {k : Nat} {x : lt_T} (h : ls[k]? = some x) : lnL ls k = x.2.2.length := by rw [lnL, h]
theorem get_of {ls : List lt_T} {k : Nat} (h : k < ls.length) : ∃ x, ls[k]? = some x ∧ x ∈ ls := ⟨ls[k], List.getElem?_eq_some_iff.mpr ⟨h, rfl⟩, List.getElem_mem h⟩
theorem lnP_cg {ac ac2 am am2 : Nat → Int32} {vl vl2 : Nat → q3 → Int32} {n : Nat} (h1 : ∀ k, k < n → (ac k).toInt = (ac2 k).toInt ∧ ((ac k).toInt ≠ 5 → am k = am2 k) ∧ ((ac k).toInt = 3 ∨ (ac k).toInt = 4 ∨ (ac k).toInt = 5) ∧ ∀ q, vl k q = vl2 k q) : ∀ (f k : Nat) (q : q3), k + f ≤ n → lnP ac am vl f k q = lnP ac2 am2 vl2 f k q
  | 0, _, _, _ => rfl
  | f + 1, k, q, h => by
    obtain ⟨e1, e2, e3, e4⟩ := h1 k (by omega)
    rw [lnP, lnP, ← e1, ← e4 q]
    have : (if (ac k).toInt = 3 then (am k, q.2) else if (ac k).toInt = 4 then (q.1, am k, q.2.2) else (q.1, q.2.1, 1)) = (if (ac k).toInt = 3 then (am2 k, q.2) else if (ac k).toInt = 4 then (q.1, am2 k, q.2.2) else (q.1, q.2.1, 1)) := by
      split
      · rw [e2 (by omega)]
      · split
        · rw [e2 (by omega)]
        · rfl
    rw [this]
    split
    · exact lnP_cg h1 f (k + 1) _ (by omega)
    · rfl
theorem mnP_cg {G G2 : Int32 → Int32 → Int32 → q3 → q3} {tw tw2 : Nat → Int32} (h1 : ∀ k, k < 20 → tw k = tw2 k) (h2 : ∀ k, k < 20 → ∀ w r q, G (nI k) w r q = G2 (nI k) w r q) : ∀ (f k : Nat) (s : s6), k + f ≤ 20 → mnP G tw f k s = mnP G2 tw2 f k s
  | 0, _, _, _ => rfl
  | f + 1, k, s, h => by
    rw [mnP, mnP, h2 k (by omega), h1 k (by omega)]
    split
    · rfl
    · exact mnP_cg h1 h2 f (k + 1) _ (by omega)
theorem vn_kn {tw : Nat → Int32} {m w r g : Int32} {q : q3} {t : Int32} (ht : tw m.toInt.toNat = t) (k : Int) (h : k = 3 ∨ k = 4 ∨ (8 ≤ k ∧ k ≤ 12)) : vnP tw m w r g q k = knP m w t r g q (pwM k).toInt.toNat := by
  have hk : k = 3 ∨ k = 4 ∨ k = 8 ∨ k = 9 ∨ k = 10 ∨ k = 11 ∨ k = 12 := by omega
  rcases hk with rfl | rfl | rfl | rfl | rfl | rfl | rfl
  · rw [show (pwM 3).toInt.toNat = 5 from by decide]; rfl
  · rw [show (pwM 4).toInt.toNat = 6 from by decide]; rfl
  · rw [show (pwM 8).toInt.toNat = 0 from by decide]; rfl
  · rw [show (pwM 9).toInt.toNat = 1 from by decide]; rfl
  · rw [show (pwM 10).toInt.toNat = 2 from by decide]; exact ht
  · rw [show (pwM 11).toInt.toNat = 3 from by decide]; rfl
  · rw [show (pwM 12).toInt.toNat = 4 from by decide]; rfl
theorem frX_of {hp : hp_T} {rc : Nat} {ls : List lt_T} (hx : rulX hp rc ls) (hk : okTx ls) {k : Nat} (h : k < ls.length) : frX hp rc (k : Int) = (posX ls k : Int) := by
  have hp6 : posX ls k ≤ 600 := by
    have : posX ls k ≤ posX ls ls.length := posX_le (by omega)
    rw [posX_all] at this
    have := hk.2.1
    omega
  rw [frX]
  by_cases e : k = 0
  · subst e; simp [posX, flt]
  · rw [if_neg (by omega), show ((k : Int) - 1).toNat = k - 1 by omega]
    obtain ⟨x, hx1, -⟩ := get_of (ls := ls) (k := k - 1) (by omega)
    rw [(hx.2 (k - 1) x hx1).2.2.1, show k - 1 + 1 = k by omega, nI_toInt (by omega)]
theorem ro_eq {hp : hp_T} {rc ho : Nat} (ho1 : ho ≤ 1) {ls : List lt_T} {g : Int32} (hx : rulX hp rc ls) (hm : rulM hp ho ls) (hk : okTx ls) (hc : ∀ k, k < 20 → hp.1 16 k = hp.1 66 k) : roX hp rc g = roM hp ho (lnL ls) g := by
  rw [roX, roM]
  refine mnP_cg hc (fun m hm20 w r q => ?_) 20 0 s_0 (by omega)
  have hln : (nI ls.length).toInt.toNat = ls.length := by rw [nI_toInt (by have := hk.2.2; omega)]; omega
  show lnP _ _ _ _ 0 q = lnM hp ho (lnL ls) g (nI m) w r _ 0 q
  rw [lnM, hx.1, hm.1, hln]
  refine lnP_cg (n := ls.length) (fun k hkl => ?_) _ _ _ (by omega)
  obtain ⟨x, hx1, hx2⟩ := get_of hkl
  obtain ⟨a1, a2, a3, a4⟩ := hx.2 k x hx1
  obtain ⟨b1, b2, b3, b4, b5⟩ := hm.2 k x hx1
  have ok := hk.1 x hx2
  have hpk : posX ls k + x.2.2.length ≤ 600 := by
    have h1 := posX_s hx1
    have h2 : posX ls (k + 1) ≤ posX ls ls.length := posX_le (by omega)
    rw [posX_all] at h2
    have := hk.2.1
    omega
  rw [a1, a2]
  refine ⟨?_, fun q5 => ?_, ok.1, fun q => ?_⟩
  · rw [b1]
    rcases ok.1 with e | e | e
    · rw [dsM, if_neg (by omega), if_pos e, e]; decide
    · rw [dsM, if_neg (by omega), if_neg (by omega), e]; decide
    · rw [dsM, if_pos e, e]; decide
  · exact (b2 q5).symm
  · show valX _ _ _ _ = vlM hp ho (lnL ls) g (nI m) w r k q
    have z1 : (nI (posX ls (k + 1))).toInt = ((posX ls k + x.2.2.length : Nat) : Int) := by rw [posX_s hx1, nI_toInt (by omega)]
    have z2 : (nI (660 * ho + (posX ls k + k))).toInt.toNat = 660 * ho + (posX ls k + k) := by rw [nI_toInt (by have := hk.2.2; omega)]; omega
    rw [valX, vlM, frX_of hx hk hkl, a3, b3, lnL_s hx1, z1, z2]
    rw [show (((posX ls k + x.2.2.length : Nat) : Int) - ((posX ls k : Nat) : Int)).toNat = x.2.2.length by omega, Int.toNat_natCast]
    exact congrArg (fun z => List.headD z 0) (ev_eq (kn := knP (nI m) w (hp.1 66 (nI m).toInt.toNat) r g q) (vn_kn (by rw [nI_toInt (by omega), Int.toNat_natCast]; exact hc m hm20)) x.2.2 _ (660 * ho + (posX ls k + k)) [] 1 a4 b4 ok.2 (by simp))
theorem flt_at : ∀ (ls : List lt_T) (i : Nat), i < (flt ls).length → ∃ (k : Nat) (x : lt_T) (m : Nat) (v : Int32), ls[k]? = some x ∧ x.2.2[m]? = some v ∧ i = posX ls k + m
  | [], i, h => by simp [flt] at h
  | y :: r, i, h => by
    by_cases c : i < y.2.2.length
    · exact ⟨0, y, i, y.2.2[i], rfl, List.getElem?_eq_some_iff.mpr ⟨c, rfl⟩, by simp [posX, flt]⟩
    · have h2 : (flt (y :: r)).length = y.2.2.length + (flt r).length := by simp [flt]
      obtain ⟨k, x, m, v, e1, e2, e3⟩ := flt_at r (i - y.2.2.length) (by omega)
      refine ⟨k + 1, x, m, v, by simpa using e1, e2, ?_⟩
      have h3 : posX (y :: r) (k + 1) = y.2.2.length + posX r k := by simp [posX, flt]
      omega
theorem roX_hyp {hp : hp_T} {rc : Nat} {ls : List lt_T} (hx : rulX hp rc ls) (hk : okTx ls) : ((flt ls).length ≤ 600 ∧ ∀ i, i < (flt ls).length → -20 ≤ (hp.1 (rc + 4) i).toInt) ∧ (0 ≤ (hp.1 rc 0).toInt ∧ (hp.1 rc 0).toInt ≤ 16) ∧ ∀ k : Nat, (k : Int) < (hp.1 rc 0).toInt → 0 ≤ frX hp rc (k : Int) ∧ frX hp rc (k : Int) ≤ (hp.1 (rc + 3) k).toInt ∧ (hp.1 (rc + 3) k).toInt ≤ ((flt ls).length : Int) := by
  have h6 := hk.2.1
  have h16 := hk.2.2
  have hl : (hp.1 rc 0).toInt = (ls.length : Int) := by rw [hx.1, nI_toInt (by omega)]
  refine ⟨⟨h6, fun i hi => ?_⟩, by omega, fun k hk2 => ?_⟩
  · obtain ⟨k, x, m, v, e1, e2, e3⟩ := flt_at ls i hi
    rw [e3, (hx.2 k x e1).2.2.2 m v e2]
    exact okC_bd _ _ _ (hk.1 x (List.mem_of_getElem? e1)).2 v (List.mem_of_getElem? e2)
  · have hkl : k < ls.length := by omega
    obtain ⟨x, hx1, -⟩ := get_of hkl
    have h1 := posX_s hx1
    have h2 : posX ls (k + 1) ≤ posX ls ls.length := posX_le (by omega)
    rw [posX_all] at h2
    rw [frX_of hx hk hkl, (hx.2 k x hx1).2.2.1, nI_toInt (by omega)]
    omega
theorem roM_hyp {hp : hp_T} {ho : Nat} {ls : List lt_T} (ho1 : ho ≤ 1) (hm : rulM hp ho ls) (hk : okTx ls) : (0 ≤ (hp.1 49 ho).toInt ∧ (hp.1 49 ho).toInt ≤ 16) ∧ ∀ k : Nat, (k : Int) < (hp.1 49 ho).toInt → okL hp ho (lnL ls k) k := by
  have h6 := hk.2.1
  have h16 := hk.2.2
  have hl : (hp.1 49 ho).toInt = (ls.length : Int) := by rw [hm.1, nI_toInt (by omega)]
  refine ⟨by omega, fun k hk2 => ?_⟩
  have hkl : k < ls.length := by omega
  obtain ⟨x, hx1, hx2⟩ := get_of hkl
  obtain ⟨b1, b2, b3, b4, b5⟩ := hm.2 k x hx1
  have ok := hk.1 x hx2
  have hpk : posX ls k + x.2.2.length ≤ 600 := by
    have h1 := posX_s hx1
    have h2 : posX ls (k + 1) ≤ posX ls ls.length := posX_le (by omega)
    rw [posX_all] at h2
    omega
  rw [okL, b1, b3, lnL_s hx1, nI_toInt (by omega)]
  refine ⟨?_, by omega, by omega, ?_⟩
  · rcases ok.1 with e | e | e
    · rw [dsM, if_neg (by omega), if_pos e]; decide
    · rw [dsM, if_neg (by omega), if_neg (by omega)]; decide
    · rw [dsM, if_pos e]; decide
  · rw [Int.toNat_natCast]
    exact okM_of _ _ _ b4 b5 ok.2
