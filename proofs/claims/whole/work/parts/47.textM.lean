/-! the reference reads a text: the whole of it -/
theorem apL_lt : ∀ (l : List Int32) (k : Nat) (sp : Nat → Int32) (j : Nat), j < k → apL sp k l j = sp j
  | [], _, _, _, _ => rfl
  | v :: r, k, sp, j, h => by
    rw [apL, apL_lt r (k + 1) _ j (by omega)]
    simp [va_up, Nat.ne_of_lt h]
theorem apL_at : ∀ (l : List Int32) (k : Nat) (sp : Nat → Int32) (m : Nat) (v : Int32), l[m]? = some v → apL sp k l (k + m) = v
  | [], _, _, m, v, h => by simp at h
  | x :: r, k, sp, 0, v, h => by
    show apL (va_up sp k x) (k + 1) r k = v
    rw [apL_lt r (k + 1) _ k (by omega)]
    simp at h
    simp [va_up, h]
  | x :: r, k, sp, m + 1, v, h => by
    rw [apL, show k + (m + 1) = (k + 1) + m by omega]
    exact apL_at r (k + 1) _ m v (by simpa using h)
theorem apL_ge : ∀ (l : List Int32) (k : Nat) (sp : Nat → Int32) (j : Nat), k + l.length ≤ j → apL sp k l j = sp j
  | [], _, _, _, _ => rfl
  | v :: r, k, sp, j, h => by
    rw [List.length_cons] at h
    rw [apL, apL_ge r (k + 1) _ j (by omega)]
    simp only [va_up, if_neg (show ¬ j = k by omega)]
def posX (ls : List lt_T) (k : Nat) : Nat := (flt (ls.take k)).length
theorem posX_app {ls : List lt_T} {x : lt_T} {k : Nat} (h : k ≤ ls.length) : posX (ls ++ [x]) k = posX ls k := by
  rw [posX, posX, List.take_append_of_le_length h]
theorem posX_all {ls : List lt_T} : posX ls ls.length = (flt ls).length := by rw [posX, List.take_length]
theorem posX_s {ls : List lt_T} {k : Nat} {x : lt_T} (h : ls[k]? = some x) : posX ls (k + 1) = posX ls k + x.2.2.length := by
  obtain ⟨hk, e⟩ := List.getElem?_eq_some_iff.mp h
  rw [posX, posX, List.take_succ, h]
  simp only [Option.toList_some, flt_app, List.length_append]
theorem posX_mono {ls : List lt_T} : ∀ k : Nat, posX ls k ≤ posX ls (k + 1) := by
  intro k
  cases h : ls[k]? with
  | none =>
    have hk := List.getElem?_eq_none_iff.mp h
    rw [posX, posX, List.take_of_length_le hk, List.take_of_length_le (by omega)]
    exact Nat.le_refl _
  | some x => rw [posX_s h]; omega
theorem posX_le {ls : List lt_T} {k j : Nat} (h : k ≤ j) : posX ls k ≤ posX ls j := by
  induction h with
  | refl => exact Nat.le_refl _
  | step _ ih => exact Nat.le_trans ih (posX_mono _)
/-- the rows of the reference's half nx hold the lines ls -/
def rowsM (nx : Nat) (ls : List lt_T) (ld lN la op on : Nat → Int32) : Prop := ∀ (k : Nat) (x : lt_T), ls[k]? = some x → ld (16 * nx + k) = dsM x.1 ∧ (x.1.toInt ≠ 5 → lN (16 * nx + k) = x.2.1) ∧ la (16 * nx + k) = nI (660 * nx + (posX ls k + k)) ∧ (∀ (m : Nat) (v : Int32), x.2.2[m]? = some v → op (660 * nx + (posX ls k + k) + m) = opS v ∧ on (660 * nx + (posX ls k + k) + m) = onS v) ∧ op (660 * nx + (posX ls k + k) + x.2.2.length) = 0
theorem rowsM_s {nx c : Nat} {ls : List lt_T} {x : lt_T} {ld lN la op on lN2 : Nat → Int32} (h : rowsM nx ls ld lN la op on) (hc : c = (flt ls).length + ls.length) (h1 : ∀ j, j ≠ 16 * nx + ls.length → lN2 j = lN j) (h2 : x.1.toInt ≠ 5 → lN2 (16 * nx + ls.length) = x.2.1) : rowsM nx (ls ++ [x]) (va_up ld (16 * nx + ls.length) (dsM x.1)) lN2 (va_up la (16 * nx + ls.length) (nI (660 * nx + c))) (va_up (apL op (660 * nx + c) (x.2.2.map opS)) (660 * nx + (c + x.2.2.length)) 0) (va_up (apL on (660 * nx + c) (x.2.2.map onS)) (660 * nx + (c + x.2.2.length)) 0) := by
  intro k y hy
  by_cases e : k < ls.length
  · rw [List.getElem?_append_left e] at hy
    obtain ⟨a1, a2, a3, a4, a5⟩ := h k y hy
    have hp1 := posX_s hy
    have hp2 : posX ls (k + 1) ≤ posX ls ls.length := posX_le (by omega)
    rw [posX_all] at hp2
    rw [posX_app (by omega)]
    refine ⟨?_, fun q => ?_, ?_, fun m v hm => ?_, ?_⟩
    · rw [up_ne (by omega)]; exact a1
    · rw [h1 _ (by omega)]; exact a2 q
    · rw [up_ne (by omega)]; exact a3
    · have hm2 := (List.getElem?_eq_some_iff.mp hm).1
      rw [up_ne (by omega), up_ne (by omega), apL_lt _ _ _ _ (by omega), apL_lt _ _ _ _ (by omega)]
      exact a4 m v hm
    · rw [up_ne (by omega), apL_lt _ _ _ _ (by omega)]; exact a5
  · have ek : k = ls.length := by
      have := (List.getElem?_eq_some_iff.mp hy).1
      simp at this
      omega
    subst ek
    simp at hy
    subst hy
    rw [posX_app (Nat.le_refl _), posX_all, ← hc]
    refine ⟨by simp [va_up], h2, by simp [va_up], fun m v hm => ?_, ?_⟩
    · have hm2 := (List.getElem?_eq_some_iff.mp hm).1
      rw [up_ne (by omega), up_ne (by omega)]
      exact ⟨apL_at _ _ _ m _ (by rw [List.getElem?_map, hm]; rfl), apL_at _ _ _ m _ (by rw [List.getElem?_map, hm]; rfl)⟩
    · rw [show 660 * nx + c + x.2.2.length = 660 * nx + (c + x.2.2.length) by omega]
      simp [va_up]
theorem lin_act {K : Nat → Int} {L : Nat → Nat} {V : Nat → Int} {tss : Nat → pr_T} {i ln : Nat} (h : (linP K L V tss i ln).1 = 0) : (linP K L V tss i ln).2.2.1 = Int32.ofInt (K i) := by
  rw [linP] at h ⊢
  by_cases c0 : K i = 3 ∨ K i = 4 ∨ K i = 5
  · rw [if_pos c0] at h ⊢
    by_cases c1 : 16 ≤ ln
    · rw [if_pos c1] at h; dsimp only at h; omega
    · rw [if_neg c1] at h ⊢
      by_cases c2 : (amtP K L V i).1 = 0
      · rw [if_pos c2] at h ⊢; exact lin2_a h
      · rw [if_neg c2] at h; exact absurd h c2
  · rw [if_neg c0] at h; dsimp only at h; omega
theorem nI_all (x : Int32) : ∃ D : Nat, nI D = x := ⟨x.toBitVec.toNat, Int32.toBitVec_inj.mp (by
  show (Int32.ofNat x.toBitVec.toNat).toBitVec = x.toBitVec
  simp [Int32.ofNat])⟩
section S47
variable {d : Nat} {hp : hp_T} {Q : Option Value → sh_T → hp_T → Prop} {b : Bool} {xs : sh_T} {t : Nat → Int32} {n N nx : Nat} {l0 d0 n0 a0 o0 p0 : Nat → Int32}
theorem lp_textM (hF : okF hp t n N nx) (hE0 : kd t n N = 0) {ef : Int × List lt_T}
    (h1 : ef.1 = 0 → ∀ (i c D : Nat) (w1 w2 w3 op on li ld lN la : Nat → Int32), (∀ j, j ≠ nx → li j = l0 j) → li nx = nI ef.2.length → rowsM nx ef.2 ld lN la op on → Q (some (.int 0)) (SH b xs) (sI (AM (MLn hp li ld lN la) i 0 c D w1 w2 w3 op on) 43 16 (hp.1 43 17)))
    (h0 : ef.1 ≠ 0 → ∀ (i c D : Nat) (w1 w2 w3 op on li ld lN la : Nat → Int32) (f2 : Int32), f2.toInt = ef.1 → (∀ j, j ≠ nx → li j = l0 j) → (∀ j, (j < 16 * nx ∨ 16 * nx + 16 ≤ j) → ld j = d0 j ∧ lN j = n0 j ∧ la j = a0 j) → kpM o0 p0 nx op on → Q (some (.int f2)) (SH b xs) (AM (MLn hp li ld lN la) i f2 c D w1 w2 w3 op on)) :
    ∀ (fu i : Nat) (ls : List lt_T) (c D : Nat) (w1 w2 w3 op on li ld lN la : Nat → Int32), ls.length + fu = 17 → i ≤ N → (flt ls).length ≤ i → ls.length ≤ 16 → c = (flt ls).length + ls.length → (∀ j, j ≠ nx → li j = l0 j) → li nx = nI ls.length → (∀ j, (j < 16 * nx ∨ 16 * nx + 16 ≤ j) → ld j = d0 j ∧ lN j = n0 j ∧ la j = a0 j) → kpM o0 p0 nx op on → rowsM nx ls ld lN la op on → txtL (kd t n) (pl t n) (nv t n) (tssP (kd t n) (parD (kd t n) (pl t n) (nv t n) 5)) fu i ls = ef → gG mX10_text (d + 4) 0 0 (zQ 0 0 Q) 0 0 (34, [.ref 43], [], SH b xs, (AM (MLn hp li ld lN la) i 0 c D w1 w2 w3 op on)) := by
  have hN := hF.2.2.2.2.1
  intro fu
  induction fu with
  | zero => intro i ls c D w1 w2 w3 op on li ld lN la hl; intros; omega
  | succ fu ih =>
    intro i ls c D w1 w2 w3 op on li ld lN la hl hi hfl hl6 hc hli hln hld hkp hrw hR
    have hT := (hF.1 i (by omega)).2
    rw [txtL] at hR
    refine g_run 2 rfl ?_
    refine gz_ne (kx := 0) rfl (show (0 : Int32).toInt = 0 from by decide) (fun q => absurd rfl q) (fun _ => ?_)
    refine g_run 4 rfl ?_
    refine g_iald (j := i) rfl rfl (nI_toInt (by omega)) (by omega) ?_
    refine gz_eq (kx := (hp.1 45 i).toInt) rfl rfl (fun k1 => ?_) (fun k1 => ?_)
    · have k2 : kd t n i = 0 := hT.1.mp k1
      rw [if_pos k2] at hR
      subst hR
      refine g_run 2 rfl ?_
      refine gz_ne (kx := 0) rfl (show (0 : Int32).toInt = 0 from by decide) (fun q => absurd rfl q) (fun _ => ?_)
      refine g_run 6 rfl ?_
      exact g_iret rfl rfl (h1 rfl i c D w1 w2 w3 op on li ld lN la hli hln hrw)
    · have k2 : ¬ kd t n i = 0 := fun q => k1 (hT.1.mpr q)
      rw [if_neg k2] at hR
      refine g_run 1 rfl ?_
      refine g_callV0 rfl LX10_195 rfl rfl rfl rfl ?_
      refine c_lineM (ln := ls.length) hF (by rw [hln]; exact nI_toInt (by omega)) hl6 hi (by omega) hkp (fun r0 lN2 u1 u2 u3 b1 b2 => ?_) (fun r1 => ?_)
      · rw [if_pos r0] at hR
        obtain ⟨p1, p2, p3, p4⟩ := okR_lin hF.2.2.2.2.2.2 (okR_tss hF.2.2.2.2.2.2 (okR_parD (L := pl t n) (V := nv t n) hF.2.2.2.2.2.2 5)) hi r0
        refine g_run 1 rfl ?_
        refine ih _ _ _ _ _ _ _ _ _ _ _ _ _ (by rw [List.length_append, List.length_cons, List.length_nil]; omega) p2 (by rw [flt_app, List.length_append]; omega) (by rw [List.length_append, List.length_cons, List.length_nil]; omega) (by rw [flt_app, List.length_append, List.length_append, List.length_cons, List.length_nil]; omega) (fun j hj => by rw [up_ne hj]; exact hli j hj) ?_ (fun j hj => ?_) (kp_up (kp_ap _ _ _ _ hkp (by omega)) (by omega)) (rowsM_s hrw hc b1 ?_) hR
        · simp only [va_up, if_true]
          rw [hln, nI_1, List.length_append, List.length_cons, List.length_nil]
        · rw [up_ne (by omega), up_ne (by omega), b1 j (by omega)]
          exact hld j hj
        · intro q
          refine b2 (fun q5 => q ?_)
          rw [lin_act r0, q5]
          decide
      · rw [if_neg r1] at hR
        subst hR
        intro li2 ld2 lN2 la2 i2 c2 D2 u1 u2 u3 op2 on2 f2 hf b1 b2 b3
        have hf0 : f2.toInt ≠ 0 := by rw [hf]; exact r1
        refine g_run 3 rfl ?_
        refine gz_ne (kx := f2.toInt) rfl rfl (fun _ => ?_) (fun q => absurd q hf0)
        refine g_run 2 rfl ?_
        refine gz_ne (kx := f2.toInt) rfl rfl (fun _ => ?_) (fun q => absurd q hf0)
        refine g_run 2 rfl ?_
        exact g_iret rfl rfl (h0 r1 _ _ _ _ _ _ _ _ _ _ _ _ f2 hf (fun j hj => by rw [b1 j hj]; exact hli j hj) (fun j hj => by
          have := b2 j hj
          have h3 := hld j hj
          exact ⟨this.1.trans h3.1, this.2.1.trans h3.2.1, this.2.2.trans h3.2.2⟩) b3)
def TM (hp : hp_T) (sa pa : Nat → Int32) (va : Nat → Int64) : hp_T := sI (CM (sI (sI (sI hp 43 0 0) 43 3 (hp.1 43 2)) 43 2 0) sa pa va) 43 17 (1 - hp.1 43 16)
theorem tm_0 {sa pa : Nat → Int32} {va : Nat → Int64} {D : Nat} (hD : nI D = hp.1 43 19) : sI (sI (sI (sI (sI (CM (sI (sI (sI hp 43 0 0) 43 3 ((sI hp 43 0 0).1 43 2)) 43 2 0) sa pa va) 43 7 0) 43 8 0) 43 17 (1 - hp.1 43 16)) 49 nx 0) 43 18 0 = AM (MLn (TM hp sa pa va) (va_up (hp.1 49) nx 0) (hp.1 50) (hp.1 51) (hp.1 52)) 0 0 0 D (hp.1 55) (hp.1 56) (hp.1 57) (hp.1 53) (hp.1 54) := by
  refine two_ext (fun z j => ?_) rfl
  by_cases h1 : z = 43
  · subst h1
    by_cases j19 : j = 19
    · subst j19; rw [show (AM (MLn (TM hp sa pa va) (va_up (hp.1 49) nx 0) (hp.1 50) (hp.1 51) (hp.1 52)) 0 0 0 D (hp.1 55) (hp.1 56) (hp.1 57) (hp.1 53) (hp.1 54)).1 43 19 = nI D from rfl, hD]; simp [TM, CM, sRL, sI, sR, va_up]
    by_cases j18 : j = 18
    · subst j18; simp [AM, MLn, TM, CM, sRL, sI, sR, va_up, nI_0]
    by_cases j17 : j = 17
    · subst j17; simp [AM, MLn, TM, CM, sRL, sI, sR, va_up, nI_0]
    by_cases j8 : j = 8
    · subst j8; simp [AM, MLn, TM, CM, sRL, sI, sR, va_up, nI_0]
    by_cases j7 : j = 7
    · subst j7; simp [AM, MLn, TM, CM, sRL, sI, sR, va_up, nI_0]
    simp [AM, MLn, TM, CM, sRL, sI, sR, va_up, j19, j18, j17, j8, j7]
  · by_cases z49 : z = 49
    · subst z49; simp [AM, MLn, TM, CM, sRL, sI, sR, va_up]
    by_cases z50 : z = 50
    · subst z50; simp [AM, MLn, TM, CM, sRL, sI, sR, va_up]
    by_cases z51 : z = 51
    · subst z51; simp [AM, MLn, TM, CM, sRL, sI, sR, va_up]
    by_cases z52 : z = 52
    · subst z52; simp [AM, MLn, TM, CM, sRL, sI, sR, va_up]
    by_cases z53 : z = 53
    · subst z53; simp [AM, MLn, TM, CM, sRL, sI, sR, va_up]
    by_cases z54 : z = 54
    · subst z54; simp [AM, MLn, TM, CM, sRL, sI, sR, va_up]
    by_cases z55 : z = 55
    · subst z55; simp [AM, MLn, TM, CM, sRL, sI, sR, va_up]
    by_cases z56 : z = 56
    · subst z56; simp [AM, MLn, TM, CM, sRL, sI, sR, va_up]
    by_cases z57 : z = 57
    · subst z57; simp [AM, MLn, TM, CM, sRL, sI, sR, va_up]
    simp [AM, MLn, TM, CM, sRL, sI, sR, va_up, h1, z49, z50, z51, z52, z53, z54, z55, z56, z57]
theorem c_textM {ho : Nat} (hho : (hp.1 43 16).toInt = (ho : Int)) (hnx : nx + ho = 1) (hn : (hp.1 43 2).toInt = (n : Int)) (hn6 : n ≤ 600) (hw : ∀ w, w < 10 → (hp.2 48 w).toInt = wvM.getD w 0)
    (h1 : (txtP (hp.1 44) n).1 = 0 → ∀ (sa pa : Nat → Int32) (va : Nat → Int64) (i c D : Nat) (w1 w2 w3 op on li ld lN la : Nat → Int32), (∀ j, j ≠ nx → li j = hp.1 49 j) → li nx = nI (txtP (hp.1 44) n).2.length → rowsM nx (txtP (hp.1 44) n).2 ld lN la op on → Q (some (.int 0)) (SH b xs) (sI (AM (MLn (TM hp sa pa va) li ld lN la) i 0 c D w1 w2 w3 op on) 43 16 (1 - hp.1 43 16)))
    (h0 : (txtP (hp.1 44) n).1 ≠ 0 → ∀ (sa pa : Nat → Int32) (va : Nat → Int64) (i c D : Nat) (w1 w2 w3 op on li ld lN la : Nat → Int32) (f2 : Int32), f2.toInt = (txtP (hp.1 44) n).1 → (∀ j, j ≠ nx → li j = hp.1 49 j) → (∀ j, (j < 16 * nx ∨ 16 * nx + 16 ≤ j) → ld j = hp.1 50 j ∧ lN j = hp.1 51 j ∧ la j = hp.1 52 j) → kpM (hp.1 53) (hp.1 54) nx op on → Q (some (.int f2)) (SH b xs) (AM (MLn (TM hp sa pa va) li ld lN la) i f2 c D w1 w2 w3 op on)) : gC mX10_text (d + 4) 0 0 [.ref 43] (SH b xs) hp Q := by
  obtain ⟨D0, hD0⟩ := nI_all (hp.1 43 19)
  have hnv : (1 - hp.1 43 16).toInt = (nx : Int) := (ia_sub2 (by decide : (1 : Int32).toInt = 1) hho (by omega) (by omega)).trans (by omega)
  refine g_enter okX10_text (plainFor_of_name rfl) rfl ?_
  refine g_run 3 rfl ?_
  refine g_run 1 rfl ?_
  refine g_callV0 rfl LX10_189 rfl rfl rfl rfl ?_
  refine c_X10_cutAll (d := d + 1) (hp := sI hp 43 0 0) (n := n) hn hn6 (fun N sa pa va hN hNe hN0 hok => ?_)
  refine g_run 6 rfl ?_
  refine g_run 5 rfl ?_
  refine g_iast (j := nx) rfl rfl hnv (by omega) ?_
  refine g_run 3 rfl ?_
  refine gG_hp (tm_0 hD0) ?_
  have hE : ∀ j, j ≤ N → kd (hp.1 44) n j ≠ 0 → j < N := fun j hj hk => Nat.lt_of_le_of_ne hj (fun e => hk (by rw [e]; exact hN0))
  refine lp_textM (hp := TM hp sa pa va) (t := hp.1 44) (n := n) (N := N) (nx := nx) (l0 := hp.1 49) (d0 := hp.1 50) (n0 := hp.1 51) (a0 := hp.1 52) (o0 := hp.1 53) (p0 := hp.1 54) (ef := txtP (hp.1 44) n) ⟨hok, hw, hnv, by omega, hN, hn6, hE⟩ hN0 (fun q i c D w1 w2 w3 op on li ld lN la b1 b2 b3 => h1 q sa pa va i c D w1 w2 w3 op on li ld lN la b1 b2 b3) (fun q i c D w1 w2 w3 op on li ld lN la f2 hf b1 b2 b3 => h0 q sa pa va i c D w1 w2 w3 op on li ld lN la f2 hf b1 b2 b3) 17 0 [] 0 D0 _ _ _ _ _ _ _ _ _ (by simp) (by omega) (by simp [flt]) (by simp) (by simp [flt]) (fun j hj => up_ne hj) ?_ (fun j _ => ⟨rfl, rfl, rfl⟩) (fun j _ => ⟨rfl, rfl⟩) (fun k x hx => by simp at hx) rfl
  simp only [va_up, if_true]
  exact nI_0.symm
end S47
