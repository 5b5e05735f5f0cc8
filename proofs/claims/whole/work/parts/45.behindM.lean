/-! the reference reads a text: what goes on behind a part, sums, tests -/
def gbG (d : Nat) (b : Bool) (xs : sh_T) (QL : Option Value → sh_T → hp_T → Prop) (pc : Nat) (h : hp_T) : Prop := gG mX10_goesOnBehind (d + 2) 0 0 (zQ 0 0 QL) 0 0 (pc, [.ref 43], [], SH b xs, h)
section S45
variable {d : Nat} {hp : hp_T} {QL : Option Value → sh_T → hp_T → Prop} {GP : hp_T → Prop} {b : Bool} {xs : sh_T} {t : Nat → Int32} {n N nx i j c D LN : Nat} {f : Int32} {w1 w2 w3 op on o0 p0 : Nat → Int32}
theorem b43 (hF : okF hp t n N nx) (hR : ∀ h, GP h → QL (some (.int 1)) (SH b xs) h) (hj : j ≤ N) (hD : D ≤ 5) (h17 : kd t n j = 17 → GP (AM hp (j + 1) 0 c D (va_up w1 D 3) w2 w3 op on)) (h18 : kd t n j = 18 → GP (AM hp (j + 1) 0 c D (va_up w1 D 4) w2 w3 op on)) (h0 : kd t n j ≠ 17 → kd t n j ≠ 18 → gbG d b xs QL 96 (AM hp j 0 c D w1 w2 w3 op on)) : gbG d b xs QL 43 (AM hp j 0 c D w1 w2 w3 op on) := by
  have hN := hF.2.2.2.2.1
  have hT := (hF.1 j (by omega)).2
  have k61 : (kd t n j = 17 ∨ kd t n j = 18) → gbG d b xs QL 61 (AM hp j 0 c D w1 w2 w3 op on) := by
    intro hk
    refine g_run 6 rfl ?_
    refine g_callV0 rfl LX10_170 rfl rfl rfl rfl ?_
    refine sgM hF hj (by decide : (43 : Int32).toInt = 43) hT.2.2.2.2.2.2.2.1 (fun k1 => ?_) (fun k1 => ?_)
    · refine gz_eq (kx := 1) rfl (show (1 : Int32).toInt = 1 from by decide) (fun q => absurd q (by decide)) (fun _ => ?_)
      refine g_run 2 rfl ?_
      refine g_iast (j := D) rfl rfl (nI_toInt (by omega)) (by omega) ?_
      refine gG_hp am_w1 ?_
      refine g_run 6 rfl ?_
      refine gG_hp am_i ?_
      refine g_run 1 rfl ?_
      exact g_zret rfl rfl (Or.inr rfl) (hR _ (h17 k1))
    · refine gz_eq (kx := 0) rfl (show (0 : Int32).toInt = 0 from by decide) (fun _ => ?_) (fun q => absurd rfl q)
      refine g_run 1 rfl ?_
      refine g_iast (j := D) rfl rfl (nI_toInt (by omega)) (by omega) ?_
      refine gG_hp am_w1 ?_
      refine g_run 6 rfl ?_
      refine gG_hp am_i ?_
      refine g_run 1 rfl ?_
      exact g_zret rfl rfl (Or.inr rfl) (hR _ (h18 (by omega)))
  refine g_run 2 rfl ?_
  refine g_callV0 rfl LX10_170 rfl rfl rfl rfl ?_
  refine sgM hF hj (by decide : (43 : Int32).toInt = 43) hT.2.2.2.2.2.2.2.1 (fun k1 => ?_) (fun k1 => ?_)
  · refine gz_ne (kx := 1) rfl (show (1 : Int32).toInt = 1 from by decide) (fun _ => k61 (Or.inl k1)) (fun q => absurd q (by decide))
  · refine gz_ne (kx := 0) rfl (show (0 : Int32).toInt = 0 from by decide) (fun q => absurd rfl q) (fun _ => ?_)
    refine g_run 2 rfl ?_
    refine g_callV0 rfl LX10_170 rfl rfl rfl rfl ?_
    refine sgM hF hj (by decide : (45 : Int32).toInt = 45) hT.2.2.2.2.2.2.2.2.1 (fun k2 => ?_) (fun k2 => ?_)
    · refine gz_eq (kx := 1) rfl (show (1 : Int32).toInt = 1 from by decide) (fun q => absurd q (by decide)) (fun _ => k61 (Or.inr k2))
    · refine gz_eq (kx := 0) rfl (show (0 : Int32).toInt = 0 from by decide) (fun _ => h0 k1 k2) (fun q => absurd rfl q)
theorem b0 (hF : okF hp t n N nx) (hD : D ≤ 5) (hc : c < 660) (h0 : (w1 D).toInt = 0 → gbG d b xs QL 43 (AM hp j 0 c D w1 w2 w3 op on)) (h1 : (w1 D).toInt ≠ 0 → gbG d b xs QL 43 (AM hp j 0 (c + 1) D (va_up w1 D 0) w2 w3 (va_up op (660 * nx + c) (w1 D)) (va_up on (660 * nx + c) 0))) : gbG d b xs QL 0 (AM hp j 0 c D w1 w2 w3 op on) := by
  refine g_run 2 rfl ?_
  refine gz_ne (kx := 0) rfl (show (0 : Int32).toInt = 0 from by decide) (fun q => absurd rfl q) (fun _ => ?_)
  refine g_run 4 rfl ?_
  refine g_iald (j := D) rfl rfl (nI_toInt (by omega)) (by omega) ?_
  refine gz_eq (kx := (w1 D).toInt) rfl rfl (fun k1 => h0 k1) (fun k1 => ?_)
  refine g_run 5 rfl ?_
  refine g_iald (j := D) rfl rfl (nI_toInt (by omega)) (by omega) ?_
  refine g_run 1 rfl ?_
  refine g_callV0 rfl LX10_216 rfl rfl rfl rfl ?_
  refine emM (hp := hp) hF hc ?_
  refine g_run 5 rfl ?_
  refine g_iast (j := D) rfl rfl (nI_toInt (by omega)) (by omega) ?_
  refine gG_hp am_w1 ?_
  exact h1 k1
theorem b96 (hF : okF hp t n N nx) (hR : ∀ h, GP h → QL (some (.int 1)) (SH b xs) h) (hj : j ≤ N) (hD : D ≤ 5) (hc : c < 660) (h2 : (w2 D).toInt ≠ 0 → gbG d b xs QL 189 (AM hp j 0 (c + 1) D w1 (va_up w2 D 0) w3 (va_up op (660 * nx + c) (w2 D)) (va_up on (660 * nx + c) 0))) (h15 : (w2 D).toInt = 0 → kd t n j = 15 → GP (AM hp (j + 1) 0 c D w1 (va_up w2 D 5) w3 op on)) (h16 : (w2 D).toInt = 0 → kd t n j = 16 → GP (AM hp (j + 1) 0 c D w1 (va_up w2 D 6) w3 op on)) (h0 : (w2 D).toInt = 0 → kd t n j ≠ 15 → kd t n j ≠ 16 → gbG d b xs QL 189 (AM hp j 0 c D w1 w2 w3 op on)) : gbG d b xs QL 96 (AM hp j 0 c D w1 w2 w3 op on) := by
  have hN := hF.2.2.2.2.1
  have hT := (hF.1 j (by omega)).2
  refine g_run 4 rfl ?_
  refine g_iald (j := D) rfl rfl (nI_toInt (by omega)) (by omega) ?_
  refine gz_eq (kx := (w2 D).toInt) rfl rfl (fun k1 => ?_) (fun k1 => ?_)
  · have k153 : (kd t n j = 15 ∨ kd t n j = 16) → gbG d b xs QL 153 (AM hp j 0 c D w1 w2 w3 op on) := by
      intro hk
      refine g_run 6 rfl ?_
      refine g_callV0 rfl LX10_170 rfl rfl rfl rfl ?_
      refine sgM hF hj (by decide : (60 : Int32).toInt = 60) hT.2.2.2.2.2.1 (fun k2 => ?_) (fun k2 => ?_)
      · refine gz_eq (kx := 1) rfl (show (1 : Int32).toInt = 1 from by decide) (fun q => absurd q (by decide)) (fun _ => ?_)
        refine g_run 2 rfl ?_
        refine g_iast (j := D) rfl rfl (nI_toInt (by omega)) (by omega) ?_
        refine gG_hp am_w2 ?_
        refine g_run 6 rfl ?_
        refine gG_hp am_i ?_
        refine g_run 1 rfl ?_
        exact g_zret rfl rfl (Or.inr rfl) (hR _ (h15 k1 k2))
      · refine gz_eq (kx := 0) rfl (show (0 : Int32).toInt = 0 from by decide) (fun _ => ?_) (fun q => absurd rfl q)
        refine g_run 1 rfl ?_
        refine g_iast (j := D) rfl rfl (nI_toInt (by omega)) (by omega) ?_
        refine gG_hp am_w2 ?_
        refine g_run 6 rfl ?_
        refine gG_hp am_i ?_
        refine g_run 1 rfl ?_
        exact g_zret rfl rfl (Or.inr rfl) (hR _ (h16 k1 (by omega)))
    refine g_run 2 rfl ?_
    refine g_callV0 rfl LX10_170 rfl rfl rfl rfl ?_
    refine sgM hF hj (by decide : (60 : Int32).toInt = 60) hT.2.2.2.2.2.1 (fun k2 => ?_) (fun k2 => ?_)
    · refine gz_ne (kx := 1) rfl (show (1 : Int32).toInt = 1 from by decide) (fun _ => k153 (Or.inl k2)) (fun q => absurd q (by decide))
    · refine gz_ne (kx := 0) rfl (show (0 : Int32).toInt = 0 from by decide) (fun q => absurd rfl q) (fun _ => ?_)
      refine g_run 2 rfl ?_
      refine g_callV0 rfl LX10_170 rfl rfl rfl rfl ?_
      refine sgM hF hj (by decide : (61 : Int32).toInt = 61) hT.2.2.2.2.2.2.1 (fun k3 => ?_) (fun k3 => ?_)
      · refine gz_eq (kx := 1) rfl (show (1 : Int32).toInt = 1 from by decide) (fun q => absurd q (by decide)) (fun _ => k153 (Or.inr k3))
      · refine gz_eq (kx := 0) rfl (show (0 : Int32).toInt = 0 from by decide) (fun _ => h0 k1 k2 k3) (fun q => absurd rfl q)
  · refine g_run 5 rfl ?_
    refine g_iald (j := D) rfl rfl (nI_toInt (by omega)) (by omega) ?_
    refine g_run 1 rfl ?_
    refine g_callV0 rfl LX10_216 rfl rfl rfl rfl ?_
    refine emM (hp := hp) hF hc ?_
    refine g_run 5 rfl ?_
    refine g_iast (j := D) rfl rfl (nI_toInt (by omega)) (by omega) ?_
    refine gG_hp am_w2 ?_
    refine g_run 1 rfl ?_
    exact h2 k1
theorem b189 (hF : okF hp t n N nx) (hD : D ≤ 5) (hc : c < 660) (h0 : (w3 D).toInt = 0 → gbG d b xs QL 218 (AM hp j 0 c D w1 w2 w3 op on)) (h1 : (w3 D).toInt ≠ 0 → gbG d b xs QL 218 (AM hp j 0 (c + 1) D w1 w2 (va_up w3 D 0) (va_up op (660 * nx + c) 7) (va_up on (660 * nx + c) 0))) : gbG d b xs QL 189 (AM hp j 0 c D w1 w2 w3 op on) := by
  refine g_run 4 rfl ?_
  refine g_iald (j := D) rfl rfl (nI_toInt (by omega)) (by omega) ?_
  refine gz_eq (kx := (w3 D).toInt) rfl rfl (fun k1 => h0 k1) (fun k1 => ?_)
  refine g_run 3 rfl ?_
  refine g_callV0 rfl LX10_216 rfl rfl rfl rfl ?_
  refine emM (hp := hp) hF hc ?_
  refine g_run 5 rfl ?_
  refine g_iast (j := D) rfl rfl (nI_toInt (by omega)) (by omega) ?_
  refine gG_hp am_w3 ?_
  exact h1 k1
theorem b218 (hF : okF hp t n N nx) (hR : ∀ h, GP h → QL (some (.int 1)) (SH b xs) h) (hj : j ≤ N) (hD : D ≤ 5) (h7 : kd t n j = 7 → GP (AM hp (j + 1) 0 c D w1 w2 (va_up w3 D 7) op on)) (h0 : kd t n j ≠ 7 → gbG d b xs QL 249 (AM hp j 0 c D w1 w2 w3 op on)) : gbG d b xs QL 218 (AM hp j 0 c D w1 w2 w3 op on) := by
  refine g_run 2 rfl ?_
  refine g_callV0 rfl LX10_177 rfl rfl rfl rfl ?_
  refine wdM (w := 4) hF hj (by decide) (by omega) (fun k1 => ?_) (fun k1 => ?_)
  · refine gz_eq (kx := 1) rfl (show (1 : Int32).toInt = 1 from by decide) (fun q => absurd q (by decide)) (fun _ => ?_)
    refine g_run 5 rfl ?_
    refine g_iast (j := D) rfl rfl (nI_toInt (by omega)) (by omega) ?_
    refine gG_hp am_w3 ?_
    refine g_run 6 rfl ?_
    refine gG_hp am_i ?_
    refine g_run 1 rfl ?_
    exact g_zret rfl rfl (Or.inr rfl) (hR _ (h7 k1))
  · refine gz_eq (kx := 0) rfl (show (0 : Int32).toInt = 0 from by decide) (fun _ => h0 k1) (fun q => absurd rfl q)
theorem b249 (hF : okF hp t n N nx) (hj : j ≤ N) (hD1 : 1 ≤ D) (hD : D ≤ 5) (h14 : kd t n j = 14 → gbG d b xs QL 0 (AM hp (j + 1) 0 c (D - 1) w1 w2 w3 op on)) (h0 : kd t n j ≠ 14 → ∀ f2 : Int32, f2.toInt = 1 + 16 * (pl t n j : Int) → QL (some (.int 0)) (SH b xs) (AM hp j f2 c (D - 1) w1 w2 w3 op on)) : gbG d b xs QL 249 (AM hp j 0 c D w1 w2 w3 op on) := by
  have hN := hF.2.2.2.2.1
  have hT := (hF.1 j (by omega)).2
  refine g_run 2 rfl ?_
  refine gz_ne (kx := (D : Int)) rfl (nI_toInt (by omega)) (fun _ => ?_) (fun q => by exfalso; omega)
  refine g_run 2 rfl ?_
  refine g_callV0 rfl LX10_220 rfl rfl rfl rfl ?_
  refine tkM hF hj (by decide : (41 : Int32).toInt = 41) hT.2.2.2.2.1 (fun k1 => ?_) (fun k1 f2 hf => ?_)
  · refine g_run 6 rfl ?_
    refine gG_hp (am_Dm hD1 (by omega)) ?_
    refine g_run 1 rfl ?_
    exact h14 k1
  · refine g_run 6 rfl ?_
    refine gG_hp (am_Dm hD1 (by omega)) ?_
    refine g_run 3 rfl ?_
    refine gz_ne (kx := f2.toInt) rfl rfl (fun _ => ?_) (fun q => by exfalso; omega)
    refine g_run 1 rfl ?_
    exact g_zret rfl rfl (Or.inl rfl) (h0 k1 f2 hf)
theorem b249z (h0 : QL (some (.int 0)) (SH b xs) (AM hp j 0 c 0 w1 w2 w3 op on)) : gbG d b xs QL 249 (AM hp j 0 c 0 w1 w2 w3 op on) := by
  refine g_run 2 rfl ?_
  refine gz_ne (kx := 0) rfl (show (nI 0).toInt = 0 from by decide) (fun q => absurd rfl q) (fun _ => ?_)
  refine g_run 1 rfl ?_
  exact g_zret rfl rfl (Or.inl rfl) h0
/-- the other half of the rows of steps is as it was -/
def kpM (o0 p0 : Nat → Int32) (nx : Nat) (op on : Nat → Int32) : Prop := ∀ j, (j < 660 * nx ∨ 660 * nx + 660 ≤ j) → op j = o0 j ∧ on j = p0 j
theorem kp_up {o0 p0 : Nat → Int32} {o a : Int32} (h : kpM o0 p0 nx op on) (hc : c < 660) : kpM o0 p0 nx (va_up op (660 * nx + c) o) (va_up on (660 * nx + c) a) := by
  intro j hj
  simp only [va_up, if_neg (show ¬ j = 660 * nx + c by omega)]
  exact h j hj
theorem kp_ap {o0 p0 : Nat → Int32} {F G : Int32 → Int32} : ∀ (l : List Int32) (c : Nat) (op on : Nat → Int32), kpM o0 p0 nx op on → c + l.length ≤ 660 → kpM o0 p0 nx (apL op (660 * nx + c) (l.map F)) (apL on (660 * nx + c) (l.map G))
  | [], _, _, _, h, _ => h
  | v :: r, c, op, on, h, hc => by
    rw [List.length_cons] at hc
    exact kp_ap r (c + 1) _ _ (kp_up h (by omega)) (by omega)
/-- the reference's end of a line with a fault -/
def fxP (hp : hp_T) (b : Bool) (xs : sh_T) (o0 p0 : Nat → Int32) (nx : Nat) (QL : Option Value → sh_T → hp_T → Prop) (fI : Int) : Prop := ∀ (i c D : Nat) (w1 w2 w3 op on : Nat → Int32) (f2 : Int32), f2.toInt = fI → c < 660 → kpM o0 p0 nx op on → QL (some (.int 0)) (SH b xs) (AM hp i f2 c D w1 w2 w3 op on)
/-- how a part begins: what part() leads to -/
def goP (d : Nat) (hp : hp_T) (b : Bool) (xs : sh_T) (t : Nat → Int32) (n N nx : Nat) (QL : Option Value → sh_T → hp_T → Prop) (GP : hp_T → Prop) : Prop := ∀ (i c D : Nat) (w1 w2 w3 op on : Nat → Int32), i ≤ N → D ≤ 5 → c < 660 →
    (¬ isPt (kd t n i) = true → ∀ f2 : Int32, f2.toInt = 1 + 16 * (pl t n i : Int) → QL (some (.int 0)) (SH b xs) (AM hp i f2 c D w1 w2 w3 op on)) →
    (isPt (kd t n i) = true → D = 5 → ∀ f2 : Int32, f2.toInt = 5 + 16 * (pl t n i : Int) → QL (some (.int 0)) (SH b xs) (AM hp i f2 c D w1 w2 w3 op on)) →
    (D < 5 → kd t n i = 13 → GP (AM hp (i + 1) 0 c (D + 1) (va_up w1 (D + 1) 0) (va_up w2 (D + 1) 0) (va_up w3 (D + 1) 0) op on)) →
    (D < 5 → isPt (kd t n i) = true → kd t n i ≠ 13 → ∀ s : Int32, s = (if kd t n i = 2 then Int32.ofInt (nv t n i) else Int32.ofInt (-kd t n i)) → gbG d b xs QL 0 (AM hp (i + 1) 0 (c + 1) D w1 w2 w3 (va_up op (660 * nx + c) (opS s)) (va_up on (660 * nx + c) (onS s)))) → GP (AM hp i 0 c D w1 w2 w3 op on)
def agW (w1 w2 w3 v1 v2 v3 : Nat → Int32) (D : Nat) : Prop := ∀ l, l ≤ D → v1 l = w1 l ∧ v2 l = w2 l ∧ v3 l = w3 l
/-- a reading R at depth D, that leads on to place pc of goesOnBehind -/
def rdM (d : Nat) (hp : hp_T) (b : Bool) (xs : sh_T) (o0 p0 : Nat → Int32) (N nx LN : Nat) (QL : Option Value → sh_T → hp_T → Prop) (GP : hp_T → Prop) (R : Nat → pr_T) (D pc : Nat) (Z : Int32 → Int32 → Int32 → Prop) : Prop :=
  ∀ (i c : Nat) (w1 w2 w3 op on : Nat → Int32), i ≤ N → c ≤ i + LN → kpM o0 p0 nx op on → Z (w1 D) (w2 D) (w3 D) → ((R i).1 ≠ 0 → fxP hp b xs o0 p0 nx QL (R i).1) →
    ((R i).1 = 0 → ∀ v1 v2 v3 : Nat → Int32, agW w1 w2 w3 v1 v2 v3 D → gbG d b xs QL pc (AM hp (R i).2.1 0 (c + (R i).2.2.length) D v1 v2 v3 (apL op (660 * nx + c) ((R i).2.2.map opS)) (apL on (660 * nx + c) ((R i).2.2.map onS)))) → GP (AM hp i 0 c D w1 w2 w3 op on)
theorem apM_3 {sp : Nat → Int32} {F : Int32 → Int32} {k : Nat} {l l2 : List Int32} {v : Int32} : va_up (apL (apL sp (k + c) (l.map F)) (k + (c + l.length)) (l2.map F)) (k + (c + l.length + l2.length)) (F v) = apL sp (k + c) ((l ++ (l2 ++ [v])).map F) := by
  have h := apL_3 (sp := sp) (c := k + c) (l := l.map F) (l2 := l2.map F) (v := F v)
  rw [List.length_map, List.length_map] at h
  rw [List.map_append, List.map_append, show k + (c + l.length) = k + c + l.length by omega, show k + (c + l.length + l2.length) = k + c + l.length + l2.length by omega]
  exact h
theorem st_j {k : Int} (h : k = 17 ∨ k = 18 ∨ k = 15 ∨ k = 16 ∨ k = 7) : onS (Int32.ofInt (-k)) = 0 ∧ opS (Int32.ofInt (-k)) = (if k = 17 then 3 else if k = 18 then 4 else if k = 15 then 5 else if k = 16 then 6 else 7) := by
  have e : (Int32.ofInt (-k)).toInt = -k := ia_ofI (by omega) (by omega)
  refine ⟨by rw [onS, e, if_neg (by omega), if_pos (by omega)], ?_⟩
  rw [opS, e, if_neg (by omega)]
  rcases h with rfl | rfl | rfl | rfl | rfl <;> decide
def Z0 : Int32 → Int32 → Int32 → Prop := fun _ _ _ => True
def Z1 : Int32 → Int32 → Int32 → Prop := fun a _ _ => a.toInt = 0
def Z2 : Int32 → Int32 → Int32 → Prop := fun a b _ => a.toInt = 0 ∧ b.toInt = 0
def Z3 : Int32 → Int32 → Int32 → Prop := fun a b c => a.toInt = 0 ∧ b.toInt = 0 ∧ c.toInt = 0
theorem m_part0 (hg : goP d hp b xs t n N nx QL GP) (hF : okF hp t n N nx) (hL : LN ≤ 16) : rdM d hp b xs o0 p0 N nx LN QL GP (parD (kd t n) (pl t n) (nv t n) 0) 5 0 Z0 := by
  intro i c w1 w2 w3 op on hi hc hkp _ hX hG
  have hN := hF.2.2.2.2.1
  rw [parD] at hX
  dsimp only at hX
  refine hg i c 5 w1 w2 w3 op on hi (Nat.le_refl _) (by omega) (fun q f2 hf => ?_) (fun q _ f2 hf => ?_) (fun q => absurd q (by omega)) (fun q => absurd q (by omega))
  · rw [if_neg q] at hX
    exact hX (by dsimp only; omega) _ _ _ _ _ _ _ _ _ hf (by omega) hkp
  · rw [if_pos q] at hX
    exact hX (by dsimp only; omega) _ _ _ _ _ _ _ _ _ hf (by omega) hkp
theorem m_partS {tss : Nat → pr_T} (hg : goP d hp b xs t n N nx QL GP) (hF : okF hp t n N nx) (hL : LN ≤ 16) (hD : D < 5) (hok : okR N tss) (hts : rdM d hp b xs o0 p0 N nx LN QL GP tss (D + 1) 249 Z3) : rdM d hp b xs o0 p0 N nx LN QL GP (parE (kd t n) (pl t n) (nv t n) tss) D 0 Z0 := by
  intro i c w1 w2 w3 op on hi hc hkp _ hX hG
  have hN := hF.2.2.2.2.1
  rw [parE] at hX hG
  refine hg i c D w1 w2 w3 op on hi (by omega) (by omega) (fun q f2 hf => ?_) (fun q q5 => by omega) (fun _ q13 => ?_) (fun _ q q13 s hs => ?_)
  · rw [if_neg q] at hX
    exact hX (by dsimp only; omega) _ _ _ _ _ _ _ _ _ hf (by omega) hkp
  · have hp1 : isPt (kd t n i) = true := by simp only [isPt, decide_eq_true_eq]; omega
    have hj := hF.2.2.2.2.2.2 i hi (by omega)
    rw [if_pos hp1, if_pos q13, cls2] at hX hG
    refine hts (i + 1) c _ _ _ op on (by omega) (by omega) hkp ⟨by simp [va_up], by simp [va_up], by simp [va_up]⟩ (fun r1 => ?_) (fun r0 v1 v2 v3 ha => ?_)
    · rw [if_neg r1] at hX; exact hX r1
    · rw [if_pos r0] at hX hG
      obtain ⟨o1, o2, o3⟩ := hok (i + 1) (by omega) r0
      refine b249 hF o2 (by omega) (by omega) (fun k1 => ?_) (fun k1 f2 hf => ?_)
      · rw [if_pos k1] at hG
        refine hG rfl v1 v2 v3 (fun l hl => ?_)
        have := ha l (by omega)
        simp only [va_up, if_neg (show ¬ l = D + 1 by omega)] at this
        exact this
      · rw [if_neg k1] at hX
        exact hX (by dsimp only; omega) _ _ _ _ _ _ _ _ _ hf (by omega) (kp_ap _ _ _ _ hkp (by omega))
  · rw [if_pos q, if_neg q13] at hG
    have e : (if kd t n i = 2 then ((0 : Int), i + 1, [Int32.ofInt (nv t n i)]) else (0, i + 1, [Int32.ofInt (-kd t n i)])) = (0, i + 1, [s]) := by
      rw [hs]; split <;> rfl
    rw [e] at hG
    exact hG rfl w1 w2 w3 (fun l _ => ⟨rfl, rfl, rfl⟩)
theorem lp_m43 {part : Nat → pr_T} (hF : okF hp t n N nx) (hR : ∀ h, GP h → QL (some (.int 1)) (SH b xs) h) (hL : LN ≤ 16) (hD : D ≤ 5) (hok : okR N part) (hpt : rdM d hp b xs o0 p0 N nx LN QL GP part D 0 Z0) {r : pr_T} (hX : r.1 ≠ 0 → fxP hp b xs o0 p0 nx QL r.1) (hG : r.1 = 0 → ∀ v1 v2 v3 : Nat → Int32, agW w1 w2 w3 v1 v2 v3 D → gbG d b xs QL 96 (AM hp r.2.1 0 (c + r.2.2.length) D v1 v2 v3 (apL op (660 * nx + c) (r.2.2.map opS)) (apL on (660 * nx + c) (r.2.2.map onS)))) (hw : (w1 D).toInt = 0) (hkp : kpM o0 p0 nx op on) : ∀ (fu j : Nat) (l : List Int32) (v1 v2 v3 : Nat → Int32), j ≤ N → N < j + fu → c + l.length ≤ j + LN → agW w1 w2 w3 v1 v2 v3 D → sumL (kd t n) part fu j l = r → gbG d b xs QL 43 (AM hp j 0 (c + l.length) D v1 v2 v3 (apL op (660 * nx + c) (l.map opS)) (apL on (660 * nx + c) (l.map onS))) := by
  have hN := hF.2.2.2.2.1
  intro fu
  induction fu with
  | zero => intros; omega
  | succ fu ih =>
    intro j l v1 v2 v3 hj hfu hcl ha hS
    rw [sumL] at hS
    have hw1 : v1 D = w1 D := (ha D (Nat.le_refl _)).1
    have go : ∀ (o : Int32), (kd t n j = 17 ∨ kd t n j = 18) → opS (Int32.ofInt (-kd t n j)) = o → o.toInt ≠ 0 → GP (AM hp (j + 1) 0 (c + l.length) D (va_up v1 D o) v2 v3 (apL op (660 * nx + c) (l.map opS)) (apL on (660 * nx + c) (l.map onS))) := by
      intro o hk ho ho0
      have hj2 := hF.2.2.2.2.2.2 j hj (by omega)
      rw [if_pos hk] at hS
      refine hpt (j + 1) (c + l.length) _ _ _ _ _ (by omega) (by omega) (kp_ap _ _ _ _ hkp (by omega)) trivial (fun r1 => ?_) (fun r0 u1 u2 u3 hu => ?_)
      · rw [if_neg r1] at hS; rw [← hS] at hX; exact hX r1
      · rw [if_pos r0] at hS
        obtain ⟨o1, o2, o3⟩ := hok (j + 1) (by omega) r0
        have hu1 : u1 D = o := by rw [(hu D (Nat.le_refl _)).1]; simp [va_up]
        refine b0 hF hD (by omega) (fun q => absurd q (by rw [hu1]; exact ho0)) (fun _ => ?_)
        rw [hu1, ← ho]
        have e0 : (0 : Int32) = onS (Int32.ofInt (-kd t n j)) := (st_j (by omega)).1.symm
        have := ih (part (j + 1)).2.1 (l ++ ((part (j + 1)).2.2 ++ [Int32.ofInt (-kd t n j)])) (va_up u1 D 0) u2 u3 o2 (by omega) (by simp only [List.length_append, List.length_cons, List.length_nil]; omega) (fun m hm => ?_) hS
        · rw [← apM_3, ← apM_3, ← len_3, ← e0] at this
          exact this
        · have h1 := hu m hm
          have h2 := ha m hm
          refine ⟨?_, h1.2.1.trans h2.2.1, h1.2.2.trans h2.2.2⟩
          by_cases e : m = D
          · rw [e]; simp only [va_up, if_true]; exact ((ia_eq _ _).mpr (by rw [hw]; decide)).symm
          · simp only [va_up, if_neg e]
            have h1a := h1.1
            simp only [va_up, if_neg e] at h1a
            exact h1a.trans h2.1
    refine b43 hF hR hj hD (fun k1 => go 3 (Or.inl k1) (by rw [(st_j (by omega)).2, if_pos k1]) (by decide)) (fun k1 => go 4 (Or.inr k1) (by rw [(st_j (by omega)).2, if_neg (by omega), if_pos k1]) (by decide)) (fun k1 k2 => ?_)
    rw [if_neg (by omega)] at hS
    subst hS
    exact hG rfl v1 v2 v3 ha
theorem m_sum {part : Nat → pr_T} (hF : okF hp t n N nx) (hR : ∀ h, GP h → QL (some (.int 1)) (SH b xs) h) (hL : LN ≤ 16) (hD : D ≤ 5) (hok : okR N part) (hpt : rdM d hp b xs o0 p0 N nx LN QL GP part D 0 Z0) : rdM d hp b xs o0 p0 N nx LN QL GP (sumP (kd t n) part) D 96 Z1 := by
  intro i c w1 w2 w3 op on hi hc hkp hz hX hG
  have hN := hF.2.2.2.2.1
  refine hpt i c w1 w2 w3 op on hi hc hkp trivial (fun r1 => ?_) (fun r0 v1 v2 v3 ha => ?_)
  · rw [sumP, if_neg r1] at hX; exact hX r1
  · obtain ⟨o1, o2, o3⟩ := hok i hi r0
    have hz1 : (v1 D).toInt = 0 := by rw [(ha D (Nat.le_refl _)).1]; exact hz
    refine b0 hF hD (by omega) (fun _ => ?_) (fun q => absurd hz1 q)
    exact lp_m43 hF hR hL hD hok hpt hX hG hz hkp 600 _ _ v1 v2 v3 o2 (by omega) (by omega) ha (by rw [sumP, if_pos r0])
theorem m_tst {sm : Nat → pr_T} (hF : okF hp t n N nx) (hR : ∀ h, GP h → QL (some (.int 1)) (SH b xs) h) (hL : LN ≤ 16) (hD : D ≤ 5) (hok : okR N sm) (hsm : rdM d hp b xs o0 p0 N nx LN QL GP sm D 96 Z1) : rdM d hp b xs o0 p0 N nx LN QL GP (tstP (kd t n) sm) D 189 Z2 := by
  intro i c w1 w2 w3 op on hi hc hkp hz hX hG
  have hN := hF.2.2.2.2.1
  refine hsm i c w1 w2 w3 op on hi hc hkp hz.1 (fun r1 => ?_) (fun r0 v1 v2 v3 ha => ?_)
  · rw [tstP, if_neg r1] at hX; exact hX r1
  · obtain ⟨o1, o2, o3⟩ := hok i hi r0
    have hz1 : (v1 D).toInt = 0 := by rw [(ha D (Nat.le_refl _)).1]; exact hz.1
    have hz2 : (v2 D).toInt = 0 := by rw [(ha D (Nat.le_refl _)).2.1]; exact hz.2
    rw [tstP, if_pos r0, ts2] at hX hG
    have go : ∀ (o : Int32), (kd t n (sm i).2.1 = 15 ∨ kd t n (sm i).2.1 = 16) → opS (Int32.ofInt (-kd t n (sm i).2.1)) = o → o.toInt ≠ 0 → GP (AM hp ((sm i).2.1 + 1) 0 (c + (sm i).2.2.length) D v1 (va_up v2 D o) v3 (apL op (660 * nx + c) ((sm i).2.2.map opS)) (apL on (660 * nx + c) ((sm i).2.2.map onS))) := by
      intro o hk ho ho0
      have hj2 := hF.2.2.2.2.2.2 _ o2 (by omega)
      rw [if_pos hk] at hX hG
      refine hsm ((sm i).2.1 + 1) (c + (sm i).2.2.length) _ _ _ _ _ (by omega) (by omega) (kp_ap _ _ _ _ hkp (by omega)) hz1 (fun s1 => ?_) (fun s0 u1 u2 u3 hu => ?_)
      · rw [if_neg s1] at hX; exact hX s1
      · rw [if_pos s0] at hG
        obtain ⟨p1, p2, p3⟩ := hok _ (by omega) s0
        have hu2 : u2 D = o := by rw [(hu D (Nat.le_refl _)).2.1]; simp [va_up]
        have e0 : (0 : Int32) = onS (Int32.ofInt (-kd t n (sm i).2.1)) := (st_j (by omega)).1.symm
        refine b96 hF hR p2 hD (by omega) (fun _ => ?_) (fun q => absurd q (by rw [hu2]; exact ho0)) (fun q => absurd q (by rw [hu2]; exact ho0)) (fun q => absurd q (by rw [hu2]; exact ho0))
        rw [hu2, ← ho]
        have := hG rfl u1 (va_up u2 D 0) u3 (fun m hm => ?_)
        · rw [← apM_3, ← apM_3, ← len_3, ← e0] at this
          exact this
        · have h1 := hu m hm
          have h2 := ha m hm
          refine ⟨h1.1.trans h2.1, ?_, h1.2.2.trans h2.2.2⟩
          by_cases e : m = D
          · rw [e]; simp only [va_up, if_true]; exact ((ia_eq _ _).mpr (by rw [hz.2]; decide)).symm
          · simp only [va_up, if_neg e]
            have h1a := h1.2.1
            simp only [va_up, if_neg e] at h1a
            exact h1a.trans h2.2.1
    refine b96 hF hR o2 hD (by omega) (fun q => absurd hz2 q) (fun _ k1 => go 5 (Or.inl k1) (by rw [(st_j (by omega)).2, if_neg (by omega), if_neg (by omega), if_pos k1]) (by decide)) (fun _ k1 => go 6 (Or.inr k1) (by rw [(st_j (by omega)).2, if_neg (by omega), if_neg (by omega), if_neg (by omega), if_pos k1]) (by decide)) (fun _ k1 k2 => ?_)
    rw [if_neg (by omega)] at hG
    exact hG rfl v1 v2 v3 ha
theorem lp_m218 {tst : Nat → pr_T} (hF : okF hp t n N nx) (hR : ∀ h, GP h → QL (some (.int 1)) (SH b xs) h) (hL : LN ≤ 16) (hD : D ≤ 5) (hok : okR N tst) (hts : rdM d hp b xs o0 p0 N nx LN QL GP tst D 189 Z2) {r : pr_T} (hX : r.1 ≠ 0 → fxP hp b xs o0 p0 nx QL r.1) (hG : r.1 = 0 → ∀ v1 v2 v3 : Nat → Int32, agW w1 w2 w3 v1 v2 v3 D → gbG d b xs QL 249 (AM hp r.2.1 0 (c + r.2.2.length) D v1 v2 v3 (apL op (660 * nx + c) (r.2.2.map opS)) (apL on (660 * nx + c) (r.2.2.map onS)))) (hw : Z3 (w1 D) (w2 D) (w3 D)) (hkp : kpM o0 p0 nx op on) : ∀ (fu j : Nat) (l : List Int32) (v1 v2 v3 : Nat → Int32), j ≤ N → N < j + fu → c + l.length ≤ j + LN → agW w1 w2 w3 v1 v2 v3 D → andL (kd t n) tst fu j l = r → gbG d b xs QL 218 (AM hp j 0 (c + l.length) D v1 v2 v3 (apL op (660 * nx + c) (l.map opS)) (apL on (660 * nx + c) (l.map onS))) := by
  have hN := hF.2.2.2.2.1
  intro fu
  induction fu with
  | zero => intros; omega
  | succ fu ih =>
    intro j l v1 v2 v3 hj hfu hcl ha hS
    rw [andL] at hS
    have hv1 : (v1 D).toInt = 0 := by rw [(ha D (Nat.le_refl _)).1]; exact hw.1
    have hv2 : (v2 D).toInt = 0 := by rw [(ha D (Nat.le_refl _)).2.1]; exact hw.2.1
    refine b218 hF hR hj hD (fun k1 => ?_) (fun k1 => ?_)
    · have hj2 := hF.2.2.2.2.2.2 j hj (by omega)
      rw [if_pos k1] at hS
      refine hts (j + 1) (c + l.length) _ _ _ _ _ (by omega) (by omega) (kp_ap _ _ _ _ hkp (by omega)) ⟨hv1, hv2⟩ (fun r1 => ?_) (fun r0 u1 u2 u3 hu => ?_)
      · rw [if_neg r1] at hS; rw [← hS] at hX; exact hX r1
      · rw [if_pos r0] at hS
        obtain ⟨o1, o2, o3⟩ := hok (j + 1) (by omega) r0
        have hu3 : u3 D = 7 := by rw [(hu D (Nat.le_refl _)).2.2]; simp [va_up]
        refine b189 hF hD (by omega) (fun q => absurd q (by rw [hu3]; decide)) (fun _ => ?_)
        have e0 : (0 : Int32) = onS (Int32.ofInt (-7)) := by decide
        have e7 : (7 : Int32) = opS (Int32.ofInt (-7)) := by decide
        have := ih (tst (j + 1)).2.1 (l ++ ((tst (j + 1)).2.2 ++ [Int32.ofInt (-7)])) u1 u2 (va_up u3 D 0) o2 (by omega) (by simp only [List.length_append, List.length_cons, List.length_nil]; omega) (fun m hm => ?_) hS
        · rw [← apM_3, ← apM_3, ← len_3, ← e0, ← e7] at this
          exact this
        · have h1 := hu m hm
          have h2 := ha m hm
          refine ⟨h1.1.trans h2.1, h1.2.1.trans h2.2.1, ?_⟩
          by_cases e : m = D
          · rw [e]; simp only [va_up, if_true]; exact ((ia_eq _ _).mpr (by rw [hw.2.2]; decide)).symm
          · simp only [va_up, if_neg e]
            have h1a := h1.2.2
            simp only [va_up, if_neg e] at h1a
            exact h1a.trans h2.2.2
    · rw [if_neg k1] at hS
      subst hS
      exact hG rfl v1 v2 v3 ha
theorem m_and {tst : Nat → pr_T} (hF : okF hp t n N nx) (hR : ∀ h, GP h → QL (some (.int 1)) (SH b xs) h) (hL : LN ≤ 16) (hD : D ≤ 5) (hok : okR N tst) (hts : rdM d hp b xs o0 p0 N nx LN QL GP tst D 189 Z2) : rdM d hp b xs o0 p0 N nx LN QL GP (andP (kd t n) tst) D 249 Z3 := by
  intro i c w1 w2 w3 op on hi hc hkp hz hX hG
  have hN := hF.2.2.2.2.1
  refine hts i c w1 w2 w3 op on hi hc hkp ⟨hz.1, hz.2.1⟩ (fun r1 => ?_) (fun r0 v1 v2 v3 ha => ?_)
  · rw [andP, if_neg r1] at hX; exact hX r1
  · obtain ⟨o1, o2, o3⟩ := hok i hi r0
    have hz3 : (v3 D).toInt = 0 := by rw [(ha D (Nat.le_refl _)).2.2]; exact hz.2.2
    refine b189 hF hD (by omega) (fun _ => ?_) (fun q => absurd hz3 q)
    exact lp_m218 hF hR hL hD hok hts hX hG hz hkp 600 _ _ v1 v2 v3 o2 (by omega) (by omega) ha (by rw [andP, if_pos r0])
theorem m_tss {part : Nat → pr_T} (hF : okF hp t n N nx) (hR : ∀ h, GP h → QL (some (.int 1)) (SH b xs) h) (hL : LN ≤ 16) (hD : D ≤ 5) (hok : okR N part) (hpt : rdM d hp b xs o0 p0 N nx LN QL GP part D 0 Z0) : rdM d hp b xs o0 p0 N nx LN QL GP (tssP (kd t n) part) D 249 Z3 := m_and hF hR hL hD (okR_tst hF.2.2.2.2.2.2 (okR_sum hF.2.2.2.2.2.2 hok)) (m_tst hF hR hL hD (okR_sum hF.2.2.2.2.2.2 hok) (m_sum hF hR hL hD hok hpt))
theorem m_parD (hg : goP d hp b xs t n N nx QL GP) (hF : okF hp t n N nx) (hR : ∀ h, GP h → QL (some (.int 1)) (SH b xs) h) (hL : LN ≤ 16) : ∀ e : Nat, e ≤ 5 → rdM d hp b xs o0 p0 N nx LN QL GP (parD (kd t n) (pl t n) (nv t n) e) (5 - e) 0 Z0
  | 0, _ => m_part0 hg hF hL
  | e + 1, he => by
    rw [parD]
    refine m_partS hg hF hL (by omega) (okR_tss hF.2.2.2.2.2.2 (okR_parD hF.2.2.2.2.2.2 e)) ?_
    rw [show 5 - (e + 1) + 1 = 5 - e by omega]
    exact m_tss hF hR hL (by omega) (okR_parD hF.2.2.2.2.2.2 e) (m_parD hg hF hR hL e (by omega))
end S45
