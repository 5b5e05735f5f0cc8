/-! the reference reads a text: a line, the whole -/
def MLn (hp : hp_T) (li ld lN la : Nat → Int32) : hp_T := sR (sR (sR (sR hp 49 li) 50 ld) 51 lN) 52 la
section S46
variable {d : Nat} {hp : hp_T} {Q : Option Value → sh_T → hp_T → Prop} {b : Bool} {xs : sh_T} {t : Nat → Int32} {n N nx i j c D LN lX ln : Nat} {f ds lx : Int32} {w1 w2 w3 op on o0 p0 li ld lN la : Nat → Int32}
theorem ml_li {j : Nat} {v : Int32} : sI (AM (MLn hp li ld lN la) i f c D w1 w2 w3 op on) 49 j v = (AM (MLn hp (va_up li j v) ld lN la) i f c D w1 w2 w3 op on) := by
  refine two_ext (fun z i => ?_) rfl
  by_cases h1 : z = 43
  · subst h1; simp [AM, MLn, sI, sR, va_up]
  · by_cases h2 : z = 49
    · subst h2; simp [AM, MLn, sI, sR, va_up]
    · simp [AM, MLn, sI, sR, va_up, h1, h2]
theorem ml_ld {j : Nat} {v : Int32} : sI (AM (MLn hp li ld lN la) i f c D w1 w2 w3 op on) 50 j v = (AM (MLn hp li (va_up ld j v) lN la) i f c D w1 w2 w3 op on) := by
  refine two_ext (fun z i => ?_) rfl
  by_cases h1 : z = 43
  · subst h1; simp [AM, MLn, sI, sR, va_up]
  · by_cases h2 : z = 50
    · subst h2; simp [AM, MLn, sI, sR, va_up]
    · simp [AM, MLn, sI, sR, va_up, h1, h2]
theorem ml_lN {j : Nat} {v : Int32} : sI (AM (MLn hp li ld lN la) i f c D w1 w2 w3 op on) 51 j v = (AM (MLn hp li ld (va_up lN j v) la) i f c D w1 w2 w3 op on) := by
  refine two_ext (fun z i => ?_) rfl
  by_cases h1 : z = 43
  · subst h1; simp [AM, MLn, sI, sR, va_up]
  · by_cases h2 : z = 51
    · subst h2; simp [AM, MLn, sI, sR, va_up]
    · simp [AM, MLn, sI, sR, va_up, h1, h2]
theorem ml_la {j : Nat} {v : Int32} : sI (AM (MLn hp li ld lN la) i f c D w1 w2 w3 op on) 52 j v = (AM (MLn hp li ld lN (va_up la j v)) i f c D w1 w2 w3 op on) := by
  refine two_ext (fun z i => ?_) rfl
  by_cases h1 : z = 43
  · subst h1; simp [AM, MLn, sI, sR, va_up]
  · by_cases h2 : z = 52
    · subst h2; simp [AM, MLn, sI, sR, va_up]
    · simp [AM, MLn, sI, sR, va_up, h1, h2]
theorem l276 {w : Value} (hF : okF hp t n N nx) (h1 : Q none (SH b xs) (AM (MLn hp (va_up li nx (li nx + 1)) ld lN la) i f c D w1 w2 w3 op on)) : gG mX10_line (d + 3) 0 0 (zQ 0 0 Q) 0 0 (276, [.ref 43, .int ds, .int lx, w], [], SH b xs, (AM (MLn hp li ld lN la) i f c D w1 w2 w3 op on)) := by
  have hx1 := hF.2.2.2.1
  refine g_run 5 rfl ?_
  refine g_iald (j := nx) rfl rfl hF.2.2.1 (by omega) ?_
  refine g_run 2 rfl ?_
  refine g_iast (j := nx) rfl rfl hF.2.2.1 (by omega) ?_
  refine gG_hp ml_li ?_
  exact g_vret rfl rfl h1
theorem l264 {w : Value} (hF : okF hp t n N nx) (hj : j ≤ N) (hc : c < 660) (hS : kd t n j = 19 → Q none (SH b xs) (AM (MLn hp (va_up li nx (li nx + 1)) ld lN la) (j + 1) 0 (c + 1) D w1 w2 w3 (va_up op (660 * nx + c) 0) (va_up on (660 * nx + c) 0))) (hX : kd t n j ≠ 19 → ∀ f2 : Int32, f2.toInt = 1 + 16 * (pl t n j : Int) → Q none (SH b xs) (AM (MLn hp (va_up li nx (li nx + 1)) ld lN la) j f2 (c + 1) D w1 w2 w3 (va_up op (660 * nx + c) 0) (va_up on (660 * nx + c) 0))) : gG mX10_line (d + 3) 0 0 (zQ 0 0 Q) 0 0 (264, [.ref 43, .int ds, .int lx, w], [], SH b xs, (AM (MLn hp li ld lN la) j 0 c D w1 w2 w3 op on)) := by
  have hN := hF.2.2.2.2.1
  have hT := (hF.1 j (by omega)).2
  refine g_run 3 rfl ?_
  refine g_callV0 rfl LX10_216 rfl rfl rfl rfl ?_
  refine emM (hp := MLn hp li ld lN la) hF hc ?_
  refine g_run 2 rfl ?_
  refine g_callV0 rfl LX10_220 rfl rfl rfl rfl ?_
  refine tkM (hp := MLn hp li ld lN la) (d := d + 1) hF hj (by decide : (59 : Int32).toInt = 59) hT.2.2.2.2.2.2.2.2.2.1 (fun k1 => ?_) (fun k1 f2 hf => ?_)
  · exact l276 hF (hS k1)
  · exact l276 hF (hX k1 f2 hf)
theorem l264f {w : Value} (hF : okF hp t n N nx) (hf : f.toInt ≠ 0) (hc : c < 660) (hX : Q none (SH b xs) (AM (MLn hp (va_up li nx (li nx + 1)) ld lN la) i f (c + 1) D w1 w2 w3 (va_up op (660 * nx + c) 0) (va_up on (660 * nx + c) 0))) : gG mX10_line (d + 3) 0 0 (zQ 0 0 Q) 0 0 (264, [.ref 43, .int ds, .int lx, w], [], SH b xs, (AM (MLn hp li ld lN la) i f c D w1 w2 w3 op on)) := by
  refine g_run 3 rfl ?_
  refine g_callV0 rfl LX10_216 rfl rfl rfl rfl ?_
  refine emM (hp := MLn hp li ld lN la) hF hc ?_
  refine g_run 2 rfl ?_
  refine g_callV0 rfl LX10_220 rfl rfl rfl rfl ?_
  refine tkM1 (hp := MLn hp li ld lN la) (d := d + 1) hf ?_
  exact l276 hF hX
theorem l200 {w : Value} (hF : okF hp t n N nx) (lxE : lx.toInt = (lX : Int)) (hlx : lX < 32) (hc : c < 660) (hG : gG mX10_line (d + 3) 0 0 (zQ 0 0 Q) 0 0 (230, [.ref 43, .int ds, .int lx, .int 1], [], SH b xs, (AM (MLn hp li ld lN (va_up la lX (nI (660 * nx + c)))) i f c 0 (va_up w1 0 0) (va_up w2 0 0) (va_up w3 0 0) op on))) : gG mX10_line (d + 3) 0 0 (zQ 0 0 Q) 0 0 (200, [.ref 43, .int ds, .int lx, w], [], SH b xs, (AM (MLn hp li ld lN la) i f c D w1 w2 w3 op on)) := by
  have hx := hF.2.2.1
  have hx1 := hF.2.2.2.1
  have hv : ((660 : Int32) * (hp.1 43 17) + nI c) = nI (660 * nx + c) := (ia_eq _ _).mpr (by rw [ia_add2 (ia_mul2 (by decide : (660 : Int32).toInt = 660) hx (by omega) (by omega)) (nI_toInt (n := c) (by omega)) (by omega) (by omega), nI_toInt (by omega)]; omega)
  refine g_run 10 rfl ?_
  refine g_iast (j := lX) rfl rfl lxE (by omega) ?_
  refine gG_hp (h2 := (AM (MLn hp li ld lN (va_up la lX (nI (660 * nx + c)))) i f c D w1 w2 w3 op on)) (by rw [ml_la]; exact congrArg (fun z => (AM (MLn hp li ld lN (va_up la lX z)) i f c D w1 w2 w3 op on)) hv) ?_
  refine g_run 3 rfl ?_
  refine gG_hp am_D0 ?_
  refine g_run 1 rfl ?_
  refine g_callV0 rfl LX10_206 rfl rfl rfl rfl ?_
  refine opM (by omega) ?_
  refine g_run 2 rfl ?_
  exact hG
theorem l195f {w : Value} (hF : okF hp t n N nx) (lxE : lx.toInt = (lX : Int)) (hlx : lX < 32) (hf : f.toInt ≠ 0) (hc : c < 660) (hX : Q none (SH b xs) (AM (MLn hp (va_up li nx (li nx + 1)) ld lN (va_up la lX (nI (660 * nx + c)))) i f (c + 1) 0 (va_up w1 0 0) (va_up w2 0 0) (va_up w3 0 0) (va_up op (660 * nx + c) 0) (va_up on (660 * nx + c) 0))) : gG mX10_line (d + 3) 0 0 (zQ 0 0 Q) 0 0 (195, [.ref 43, .int ds, .int lx, w], [], SH b xs, (AM (MLn hp li ld lN la) i f c D w1 w2 w3 op on)) := by
  refine g_run 2 rfl ?_
  refine g_callV0 rfl LX10_200 rfl rfl rfl rfl ?_
  refine twM1 (hp := MLn hp li ld lN la) (d := d) hf ?_
  refine l200 hF lxE hlx hc ?_
  refine g_run 1 rfl ?_
  refine gz_eq (kx := 1) rfl (show (1 : Int32).toInt = 1 from by decide) (fun q => absurd q (by decide)) (fun _ => ?_)
  refine g_run 2 rfl ?_
  refine gz_ne (kx := f.toInt) rfl rfl (fun _ => ?_) (fun q => absurd q hf)
  exact l264f hF hf hc hX
theorem gopM (hF : okF hp t n N nx) : goP d (MLn hp li ld lN la) b xs t n N nx (fun ans sh' h => gG mX10_line (d + 3) 0 0 (zQ 0 0 Q) 0 0 (252, [.ref 43, .int ds, .int lx, .int 1], ans.toList ++ [], sh', h)) (fun h => gG mX10_line (d + 3) 0 0 (zQ 0 0 Q) 0 0 (230, [.ref 43, .int ds, .int lx, .int 1], [], SH b xs, h)) := by
  intro i c D w1 w2 w3 op on hi hD hc h0 h5 h1 h2
  have fb : ∀ f2 : Int32, f2.toInt ≠ 0 → gG mX10_line (d + 3) 0 0 (zQ 0 0 Q) 0 0 (252, [.ref 43, .int ds, .int lx, .int 1], [.int 0], SH b xs, (AM (MLn hp li ld lN la) i f2 c D w1 w2 w3 op on)) → gG mX10_line (d + 3) 0 0 (zQ 0 0 Q) 0 0 (248, [.ref 43, .int ds, .int lx, .int 1], [], SH b xs, (AM (MLn hp li ld lN la) i f2 c D w1 w2 w3 op on)) := by
    intro f2 hf hq
    refine g_run 1 rfl ?_
    refine g_callV0 rfl LX10_213 rfl rfl rfl rfl ?_
    refine g_enter okX10_goesOnBehind (plainFor_of_name rfl) rfl ?_
    refine g_run 2 rfl ?_
    refine gz_ne (kx := f2.toInt) rfl rfl (fun _ => ?_) (fun q => absurd q hf)
    refine g_run 1 rfl ?_
    exact g_zret rfl rfl (Or.inl rfl) hq
  refine g_run 1 rfl ?_
  refine gz_eq (kx := 1) rfl (show (1 : Int32).toInt = 1 from by decide) (fun q => absurd q (by decide)) (fun _ => ?_)
  refine g_run 2 rfl ?_
  refine gz_ne (kx := 0) rfl (show (0 : Int32).toInt = 0 from by decide) (fun q => absurd rfl q) (fun _ => ?_)
  refine g_run 1 rfl ?_
  refine g_callV0 rfl LX10_209 rfl rfl rfl rfl ?_
  refine ptM (hp := MLn hp li ld lN la) (d := d) hF hi hD hc (fun q f2 hf => ?_) (fun q q5 f2 hf => ?_) (fun q q13 => ?_) (fun q q1 q13 s hs => ?_)
  · refine gz_ne (kx := 0) rfl (show (0 : Int32).toInt = 0 from by decide) (fun q => absurd rfl q) (fun _ => ?_)
    exact fb f2 (by omega) (h0 q f2 hf)
  · refine gz_ne (kx := 0) rfl (show (0 : Int32).toInt = 0 from by decide) (fun q => absurd rfl q) (fun _ => ?_)
    exact fb f2 (by omega) (h5 q q5 f2 hf)
  · refine gz_ne (kx := 1) rfl (show (1 : Int32).toInt = 1 from by decide) (fun _ => ?_) (fun q => absurd q (by decide))
    refine g_run 4 rfl ?_
    exact h1 q q13
  · refine gz_ne (kx := 0) rfl (show (0 : Int32).toInt = 0 from by decide) (fun q => absurd rfl q) (fun _ => ?_)
    refine g_run 1 rfl ?_
    refine g_callV0 rfl LX10_213 rfl rfl rfl rfl ?_
    refine g_enter okX10_goesOnBehind (plainFor_of_name rfl) rfl ?_
    exact h2 q q1 q13 s hs
theorem l195 {w : Value} {a m : Int} (hF : okF hp t n N nx) (lxE : lx.toInt = (lX : Int)) (hlx : lX < 32) (hj : j ≤ N) (hL : LN ≤ 16) (hc : c ≤ j + LN) (hkp : kpM o0 p0 nx op on)
    (hS : (lin2 (kd t n) (pl t n) (tssP (kd t n) (parD (kd t n) (pl t n) (nv t n) 5)) j a m).1 = 0 → ∀ w1 w2 w3 : Nat → Int32, Q none (SH b xs) (AM (MLn hp (va_up li nx (li nx + 1)) ld lN (va_up la lX (nI (660 * nx + c)))) (lin2 (kd t n) (pl t n) (tssP (kd t n) (parD (kd t n) (pl t n) (nv t n) 5)) j a m).2.1 0 (c + (lin2 (kd t n) (pl t n) (tssP (kd t n) (parD (kd t n) (pl t n) (nv t n) 5)) j a m).2.2.2.2.length + 1) 0 w1 w2 w3 (va_up (apL op (660 * nx + c) ((lin2 (kd t n) (pl t n) (tssP (kd t n) (parD (kd t n) (pl t n) (nv t n) 5)) j a m).2.2.2.2.map opS)) (660 * nx + (c + (lin2 (kd t n) (pl t n) (tssP (kd t n) (parD (kd t n) (pl t n) (nv t n) 5)) j a m).2.2.2.2.length)) 0) (va_up (apL on (660 * nx + c) ((lin2 (kd t n) (pl t n) (tssP (kd t n) (parD (kd t n) (pl t n) (nv t n) 5)) j a m).2.2.2.2.map onS)) (660 * nx + (c + (lin2 (kd t n) (pl t n) (tssP (kd t n) (parD (kd t n) (pl t n) (nv t n) 5)) j a m).2.2.2.2.length)) 0)))
    (hX : (lin2 (kd t n) (pl t n) (tssP (kd t n) (parD (kd t n) (pl t n) (nv t n) 5)) j a m).1 ≠ 0 → ∀ (i c2 D : Nat) (w1 w2 w3 op on : Nat → Int32) (f2 : Int32), f2.toInt = (lin2 (kd t n) (pl t n) (tssP (kd t n) (parD (kd t n) (pl t n) (nv t n) 5)) j a m).1 → kpM o0 p0 nx op on → Q none (SH b xs) (AM (MLn hp (va_up li nx (li nx + 1)) ld lN (va_up la lX (nI (660 * nx + c)))) i f2 c2 D w1 w2 w3 op on)) : gG mX10_line (d + 3) 0 0 (zQ 0 0 Q) 0 0 (195, [.ref 43, .int ds, .int lx, w], [], SH b xs, (AM (MLn hp li ld lN la) j 0 c D w1 w2 w3 op on)) := by
  have hN := hF.2.2.2.2.1
  rw [lin2] at hS hX
  refine g_run 2 rfl ?_
  refine g_callV0 rfl LX10_200 rfl rfl rfl rfl ?_
  refine twM (hp := MLn hp li ld lN la) (d := d) (w := 3) hF hj (by decide) (by omega) (fun k1 => ?_) (fun k1 f2 hf => ?_)
  · have k1 : kd t n j = 6 := k1
    rw [if_pos k1] at hS hX
    have hj2 := hF.2.2.2.2.2.2 j hj (by omega)
    refine l200 hF lxE hlx (by omega) ?_
    have hR : ∀ h, (fun h => gG mX10_line (d + 3) 0 0 (zQ 0 0 Q) 0 0 (230, [.ref 43, .int ds, .int lx, .int 1], [], SH b xs, h)) h → (fun ans sh' h => gG mX10_line (d + 3) 0 0 (zQ 0 0 Q) 0 0 (252, [.ref 43, .int ds, .int lx, .int 1], Option.toList ans ++ [], sh', h)) (some (.int 1)) (SH b xs) h := by
      intro h hg
      refine gz_eq (kx := 1) rfl (show (1 : Int32).toInt = 1 from by decide) (fun q => absurd q (by decide)) (fun _ => ?_)
      refine g_run 4 rfl ?_
      exact hg
    have ex : ∀ h, gG mX10_line (d + 3) 0 0 (zQ 0 0 Q) 0 0 (264, [.ref 43, .int ds, .int lx, .int 0], [], SH b xs, h) → (fun ans sh' h => gG mX10_line (d + 3) 0 0 (zQ 0 0 Q) 0 0 (252, [.ref 43, .int ds, .int lx, .int 1], Option.toList ans ++ [], sh', h)) (some (.int 0)) (SH b xs) h := by
      intro h hg
      refine gz_eq (kx := 0) rfl (show (0 : Int32).toInt = 0 from by decide) (fun _ => ?_) (fun q => absurd rfl q)
      refine g_run 4 rfl ?_
      refine gz_eq (kx := 0) rfl (show (0 : Int32).toInt = 0 from by decide) (fun _ => hg) (fun q => absurd rfl q)
    have hm := m_tss (D := 0) (LN := LN) (o0 := o0) (p0 := p0) (hp := MLn hp li ld lN (va_up la lX (nI (660 * nx + c)))) (b := b) (xs := xs) (d := d) hF hR hL (by omega) (okR_parD hF.2.2.2.2.2.2 5) (m_parD (gopM hF) hF hR hL 5 (by omega))
    refine hm (j + 1) c _ _ _ op on (by omega) (by omega) hkp ⟨by simp [va_up], by simp [va_up], by simp [va_up]⟩ (fun r1 => ?_) (fun r0 v1 v2 v3 ha => ?_)
    · rw [if_neg r1] at hX
      intro i2 c2 D2 u1 u2 u3 op2 on2 f2 hf hc2 hk2
      refine ex _ ?_
      have hf0 : f2.toInt ≠ 0 := by rw [hf]; exact r1
      exact l264f hF hf0 hc2 (hX r1 _ _ _ _ _ _ _ _ _ hf (kp_up hk2 hc2))
    · rw [if_pos r0] at hS hX
      obtain ⟨o1, o2, o3⟩ := okR_tss hF.2.2.2.2.2.2 (okR_parD (L := pl t n) (V := nv t n) hF.2.2.2.2.2.2 5) (j + 1) (by omega) r0
      refine b249z (ex _ ?_)
      refine l264 hF o2 (by omega) (fun k2 => ?_) (fun k2 f2 hf => ?_)
      · rw [if_pos k2] at hS
        exact hS rfl v1 v2 v3
      · rw [if_neg k2] at hX
        exact hX (by dsimp only; omega) _ _ _ _ _ _ _ _ _ hf (kp_up (kp_ap _ _ _ _ hkp (by omega)) (by omega))
  · have k1 : ¬ kd t n j = 6 := k1
    rw [if_neg k1] at hX
    have hf0 : f2.toInt ≠ 0 := by omega
    refine l200 hF lxE hlx (by omega) ?_
    refine g_run 1 rfl ?_
    refine gz_eq (kx := 1) rfl (show (1 : Int32).toInt = 1 from by decide) (fun q => absurd q (by decide)) (fun _ => ?_)
    refine g_run 2 rfl ?_
    refine gz_ne (kx := f2.toInt) rfl rfl (fun _ => ?_) (fun q => absurd q hf0)
    exact l264f hF hf0 (by omega) (hX (by dsimp only; omega) _ _ _ _ _ _ _ _ _ hf (kp_up hkp (by omega)))
theorem lgc_le9 {v : Int64} (h : (lg_cmp v 9).toInt ≤ 0) : v.toInt ≤ 9 := by
  unfold lg_cmp at h
  split at h <;> rename_i q
  · simp at h
  · have := Int64.not_lt.mp q
    rw [Int64.le_iff_toInt_le] at this
    simpa using this
theorem lgc_gt9 {v : Int64} (h : 0 < (lg_cmp v 9).toInt) : 9 < v.toInt := by
  unfold lg_cmp at h
  split at h <;> rename_i q
  · have := Int64.lt_iff_toInt_lt.mp q
    simpa using this
  · split at h <;> simp at h
theorem lin2_a {K : Nat → Int} {L : Nat → Nat} {tss : Nat → pr_T} {j : Nat} {a m : Int} (h : (lin2 K L tss j a m).1 = 0) : (lin2 K L tss j a m).2.2.1 = Int32.ofInt a := by
  unfold lin2 at h ⊢
  split
  · split
    · split
      · rfl
      · next q1 q2 q3 => rw [if_pos q1, if_pos q2, if_neg q3] at h; dsimp only at h; omega
    · next q1 q2 => rw [if_pos q1, if_neg q2] at h; exact absurd h q2
  · next q1 => rw [if_neg q1] at h; dsimp only at h; omega
theorem lin2_m {K : Nat → Int} {L : Nat → Nat} {tss : Nat → pr_T} {j : Nat} {a m : Int} (h : (lin2 K L tss j a m).1 = 0) : (lin2 K L tss j a m).2.2.2.1 = Int32.ofInt m := by
  unfold lin2 at h ⊢
  split
  · split
    · split
      · rfl
      · next q1 q2 q3 => rw [if_pos q1, if_pos q2, if_neg q3] at h; dsimp only at h; omega
    · next q1 q2 => rw [if_pos q1, if_neg q2] at h; exact absurd h q2
  · next q1 => rw [if_neg q1] at h; dsimp only at h; omega
/-- a line's act as the reference has it -/
def dsM (a : Int32) : Int32 := if a.toInt = 5 then 0 else if a.toInt = 3 then 1 else 2
def flP (hp : hp_T) (b : Bool) (xs : sh_T) (o0 p0 : Nat → Int32) (nx : Nat) (li ld lN la : Nat → Int32) (Q : Option Value → sh_T → hp_T → Prop) (fI : Int) : Prop := ∀ (li2 ld2 lN2 la2 : Nat → Int32) (i c D : Nat) (w1 w2 w3 op on : Nat → Int32) (f2 : Int32), f2.toInt = fI → (∀ j, j ≠ nx → li2 j = li j) → (∀ j, (j < 16 * nx ∨ 16 * nx + 16 ≤ j) → ld2 j = ld j ∧ lN2 j = lN j ∧ la2 j = la j) → kpM o0 p0 nx op on → Q none (SH b xs) (AM (MLn hp li2 ld2 lN2 la2) i f2 c D w1 w2 w3 op on)
theorem up_ne {w : Nat → Int32} {k j : Nat} {v : Int32} (h : j ≠ k) : va_up w k v j = w j := by simp [va_up, h]
theorem c_lineM (hF : okF hp t n N nx) (hln : (li nx).toInt = (ln : Int)) (hl : ln ≤ 16) (hi : i ≤ N) (hc : c ≤ i + ln) (hkp : kpM o0 p0 nx op on)
    (hS : (linP (kd t n) (pl t n) (nv t n) (tssP (kd t n) (parD (kd t n) (pl t n) (nv t n) 5)) i ln).1 = 0 → ∀ lN2 w1 w2 w3 : Nat → Int32, (∀ j, j ≠ 16 * nx + ln → lN2 j = lN j) → (kd t n i ≠ 5 → lN2 (16 * nx + ln) = (linP (kd t n) (pl t n) (nv t n) (tssP (kd t n) (parD (kd t n) (pl t n) (nv t n) 5)) i ln).2.2.2.1) → Q none (SH b xs) (AM (MLn hp (va_up li nx (li nx + 1)) (va_up ld (16 * nx + ln) (dsM (linP (kd t n) (pl t n) (nv t n) (tssP (kd t n) (parD (kd t n) (pl t n) (nv t n) 5)) i ln).2.2.1)) lN2 (va_up la (16 * nx + ln) (nI (660 * nx + c)))) (linP (kd t n) (pl t n) (nv t n) (tssP (kd t n) (parD (kd t n) (pl t n) (nv t n) 5)) i ln).2.1 0 (c + (linP (kd t n) (pl t n) (nv t n) (tssP (kd t n) (parD (kd t n) (pl t n) (nv t n) 5)) i ln).2.2.2.2.length + 1) 0 w1 w2 w3 (va_up (apL op (660 * nx + c) ((linP (kd t n) (pl t n) (nv t n) (tssP (kd t n) (parD (kd t n) (pl t n) (nv t n) 5)) i ln).2.2.2.2.map opS)) (660 * nx + (c + (linP (kd t n) (pl t n) (nv t n) (tssP (kd t n) (parD (kd t n) (pl t n) (nv t n) 5)) i ln).2.2.2.2.length)) 0) (va_up (apL on (660 * nx + c) ((linP (kd t n) (pl t n) (nv t n) (tssP (kd t n) (parD (kd t n) (pl t n) (nv t n) 5)) i ln).2.2.2.2.map onS)) (660 * nx + (c + (linP (kd t n) (pl t n) (nv t n) (tssP (kd t n) (parD (kd t n) (pl t n) (nv t n) 5)) i ln).2.2.2.2.length)) 0)))
    (hX : (linP (kd t n) (pl t n) (nv t n) (tssP (kd t n) (parD (kd t n) (pl t n) (nv t n) 5)) i ln).1 ≠ 0 → flP hp b xs o0 p0 nx li ld lN la Q (linP (kd t n) (pl t n) (nv t n) (tssP (kd t n) (parD (kd t n) (pl t n) (nv t n) 5)) i ln).1) : gC mX10_line (d + 3) 0 0 [.ref 43] (SH b xs) (AM (MLn hp li ld lN la) i 0 c D w1 w2 w3 op on) Q := by
  have hN := hF.2.2.2.2.1
  have hn6 := hF.2.2.2.2.2.1
  have hx := hF.2.2.1
  have hx1 := hF.2.2.2.1
  have hpl := pl_le (t := t) (n := n) (i := i)
  have hK := kd_bd (t := t) (n := n) (i := i)
  rw [linP] at hS hX
  refine g_enter okX10_line (plainFor_of_name rfl) rfl ?_
  have k38 : ∀ v : Int32, (kd t n i = 3 ∨ kd t n i = 4 ∨ kd t n i = 5) → dsM (Int32.ofInt (kd t n i)) = v → 0 ≤ v.toInt → (v.toInt = 0 ↔ kd t n i = 5) → gG mX10_line (d + 3) 0 0 (zQ 0 0 Q) 0 0 (38, [.ref 43, .int v, .retAddr 0, .retAddr 0], [], SH b xs, (AM (MLn hp li ld lN la) i 0 c D w1 w2 w3 op on)) := by
    intro v hk hv hv0 hv5
    rw [if_pos hk] at hS hX
    have hj := hF.2.2.2.2.2.2 i hi (by omega)
    refine g_run 1 rfl ?_
    refine gz_ge (kx := v.toInt) rfl rfl (fun _ => ?_) (fun q => by exfalso; omega)
    refine g_run 4 rfl ?_
    refine g_iald (j := nx) rfl rfl hx (by omega) ?_
    refine g_run 1 rfl ?_
    refine gj_ne (kx := (ln : Int)) (kz := 16) rfl hln (by decide) (fun k1 => ?_) (fun k1 => ?_)
    · rw [if_neg (by omega)] at hS hX
      refine g_run 2 rfl ?_
      refine gz_le (kx := 0) rfl (show (0 : Int32).toInt = 0 from by decide) (fun _ => ?_) (fun q => absurd q (by decide))
      refine g_run 6 rfl ?_
      refine gG_hp am_i ?_
      refine g_run 8 rfl ?_
      refine g_iald (j := nx) rfl rfl hx (by omega) ?_
      refine g_run 2 rfl ?_
      have lxE : ((16 : Int32) * (hp.1 43 17) + li nx).toInt = ((16 * nx + ln : Nat) : Int) := (ia_add2 (ia_mul2 (by decide : (16 : Int32).toInt = 16) hx (by omega) (by omega)) hln (by omega) (by omega)).trans (by omega)
      refine g_run 4 rfl ?_
      refine g_iast (j := 16 * nx + ln) rfl rfl lxE (by omega) ?_
      refine gG_hp ml_ld ?_
      refine g_run 1 rfl ?_
      rw [amtP] at hS hX
      refine gz_eq (kx := v.toInt) rfl rfl (fun k2 => ?_) (fun k2 => ?_)
      · have k5 := hv5.mp k2
        rw [if_pos k5, if_pos rfl] at hS hX
        refine l195 (a := kd t n i) (m := 0) (LN := ln) hF lxE (by omega) (by omega) hl (by omega) hkp (fun r0 u1 u2 u3 => ?_) (fun r1 i2 c2 D2 u1 u2 u3 op2 on2 f2 hf hk2 => ?_)
        · have ea := lin2_a r0
          have := hS r0 lN u1 u2 u3 (fun _ _ => rfl) (fun q => absurd k5 q)
          rw [ea, hv] at this
          exact this
        · exact hX r1 _ _ _ _ _ _ _ _ _ _ _ _ _ hf (fun q hq => up_ne hq) (fun q hq => ⟨up_ne (by omega), rfl, up_ne (by omega)⟩) hk2
      · have k5 : kd t n i ≠ 5 := fun q => k2 (hv5.mpr q)
        rw [if_neg k5] at hS hX
        have hT := (hF.1 (i + 1) (by omega)).2
        have hT1 : (hp.1 45 (i + 1)).toInt = 2 ↔ kd t n (i + 1) = 2 := hT.2.1
        have hpl1 := pl_le (t := t) (n := n) (i := i + 1)
        have flt : ∀ (f2 : Int32), 0 < f2.toInt → (∀ (li2 ld2 lN2 la2 : Nat → Int32) (i c D : Nat) (w1 w2 w3 op on : Nat → Int32), (∀ j, j ≠ nx → li2 j = li j) → (∀ j, (j < 16 * nx ∨ 16 * nx + 16 ≤ j) → ld2 j = ld j ∧ lN2 j = lN j ∧ la2 j = la j) → kpM o0 p0 nx op on → Q none (SH b xs) (AM (MLn hp li2 ld2 lN2 la2) i f2 c D w1 w2 w3 op on)) → gG mX10_line (d + 3) 0 0 (zQ 0 0 Q) 0 0 (158, [.ref 43, .int v, .int ((16 : Int32) * (hp.1 43 17) + li nx), .retAddr 0], [], SH b xs, (AM (MLn hp li (va_up ld (16 * nx + ln) v) lN la) (i + 1) f2 c D w1 w2 w3 op on)) := by
          intro f2 hf hq
          refine g_run 5 rfl ?_
          refine gz_le (kx := f2.toInt) rfl rfl (fun q => by exfalso; omega) (fun _ => ?_)
          refine g_run 2 rfl ?_
          refine g_iast (j := 16 * nx + ln) rfl rfl lxE (by omega) ?_
          refine gG_hp ml_lN ?_
          refine g_run 6 rfl ?_
          refine gG_hp am_i ?_
          refine l195f hF lxE (by omega) (by omega) (by omega) ?_
          exact hq _ _ _ _ _ _ _ _ _ _ _ _ (fun q hq => up_ne hq) (fun q hq => ⟨up_ne (by omega), up_ne (by omega), up_ne (by omega)⟩) (kp_up hkp (by omega))
        refine g_run 4 rfl ?_
        refine g_iald (j := i + 1) rfl rfl (nI_toInt (by omega)) (by omega) ?_
        refine g_run 1 rfl ?_
        refine gj_eq (kx := (hp.1 45 (i + 1)).toInt) (kz := 2) rfl rfl (by decide) (fun k3 => ?_) (fun k3 => ?_)
        · have k4 := hT1.mp k3
          have hnv := nv_bd k4
          have hj2 := hF.2.2.2.2.2.2 (i + 1) (by omega) (by omega)
          have hval : (hp.2 47 (i + 1)).toInt = nv t n (i + 1) := hT.2.2.1 k4
          rw [if_pos k4] at hS hX
          refine g_run 4 rfl ?_
          refine g_lald (j := i + 1) rfl rfl (nI_toInt (by omega)) (by omega) ?_
          refine g_run 2 rfl ?_
          refine gz_le (kx := (lg_cmp (hp.2 47 (i + 1)) 9).toInt) rfl rfl (fun k6 => ?_) (fun k6 => ?_)
          · have k7 : nv t n (i + 1) ≤ 9 := by
              rw [← hval]
              exact lgc_le9 k6
            rw [if_neg (show ¬ 9 < nv t n (i + 1) by omega), if_pos rfl] at hS hX
            refine g_run 5 rfl ?_
            refine gz_le (kx := 0) rfl (show (0 : Int32).toInt = 0 from by decide) (fun _ => ?_) (fun q => absurd q (by decide))
            refine g_run 4 rfl ?_
            refine g_lald (j := i + 1) rfl rfl (nI_toInt (by omega)) (by omega) ?_
            refine g_run 1 rfl ?_
            refine g_iast (j := 16 * nx + ln) rfl rfl lxE (by omega) ?_
            refine gG_hp ml_lN ?_
            refine g_run 6 rfl ?_
            refine gG_hp am_i ?_
            have e3 : (hp.2 47 (i + 1)).toInt32 = Int32.ofInt (nv t n (i + 1)) := (ia_eq _ _).mpr (by rw [l2i_s hval (by omega), ia_ofI (by omega) (by omega)])
            refine l195 (a := kd t n i) (m := nv t n (i + 1)) (LN := ln) hF lxE (by omega) (by omega) hl (by omega) hkp (fun r0 u1 u2 u3 => ?_) (fun r1 i2 c2 D2 u1 u2 u3 op2 on2 f2 hf hk2 => ?_)
            · have ea := lin2_a r0
              have em := lin2_m r0
              have := hS r0 (va_up lN (16 * nx + ln) (hp.2 47 (i + 1)).toInt32) u1 u2 u3 (fun _ hq => up_ne hq) (fun _ => by rw [em, ← e3]; simp [va_up])
              rw [ea, hv] at this
              exact this
            · exact hX r1 _ _ _ _ _ _ _ _ _ _ _ _ _ hf (fun q hq => up_ne hq) (fun q hq => ⟨up_ne (by omega), up_ne (by omega), up_ne (by omega)⟩) hk2
          · have k7 : 9 < nv t n (i + 1) := by
              rw [← hval]
              exact lgc_gt9 k6
            rw [if_pos k7, if_neg (by dsimp only; omega)] at hX
            refine g_run 2 rfl ?_
            refine g_callV0 rfl LX10_173 rfl rfl rfl rfl ?_
            refine wrM0 (hp := MLn hp li (va_up ld (16 * nx + ln) v) lN la) hF (show i + 1 ≤ N by omega) (by decide : (4 : Int32).toInt = 4) (by omega) (fun f2 hf => ?_)
            exact flt f2 (by omega) (fun li2 ld2 lN2 la2 i c D w1 w2 w3 op on a1 a2 a3 => hX (by dsimp only; omega) _ _ _ _ _ _ _ _ _ _ _ _ _ hf a1 a2 a3)
        · have k4 : ¬ kd t n (i + 1) = 2 := fun q => k3 (hT1.mpr q)
          rw [if_neg k4, if_neg (by dsimp only; omega)] at hX
          refine g_run 2 rfl ?_
          refine g_callV0 rfl LX10_173 rfl rfl rfl rfl ?_
          refine wrM0 (hp := MLn hp li (va_up ld (16 * nx + ln) v) lN la) hF (show i + 1 ≤ N by omega) (by decide : (1 : Int32).toInt = 1) (by omega) (fun f2 hf => ?_)
          refine g_run 1 rfl ?_
          exact flt f2 (by omega) (fun li2 ld2 lN2 la2 i c D w1 w2 w3 op on a1 a2 a3 => hX (by dsimp only; omega) _ _ _ _ _ _ _ _ _ _ _ _ _ hf a1 a2 a3)
    · rw [if_pos (by omega)] at hX
      refine g_run 2 rfl ?_
      refine g_callV0 rfl LX10_173 rfl rfl rfl rfl ?_
      refine wrM0 (hp := MLn hp li ld lN la) hF hi (by decide : (5 : Int32).toInt = 5) (by omega) (fun f2 hf => ?_)
      refine g_run 2 rfl ?_
      refine gz_le (kx := f2.toInt) rfl rfl (fun q => by exfalso; omega) (fun _ => ?_)
      exact g_vret rfl rfl (hX (by dsimp only; omega) _ _ _ _ _ _ _ _ _ _ _ _ _ hf (fun _ _ => rfl) (fun _ _ => ⟨rfl, rfl, rfl⟩) hkp)
  refine g_run 2 rfl ?_
  refine g_callV0 rfl LX10_177 rfl rfl rfl rfl ?_
  refine wdM (hp := MLn hp li ld lN la) (w := 0) hF hi (by decide) (by omega) (fun q5 => ?_) (fun q5 => ?_)
  · have q5 : kd t n i = 5 := q5
    refine gz_eq (kx := 1) rfl (show (1 : Int32).toInt = 1 from by decide) (fun q => absurd q (by decide)) (fun _ => ?_)
    refine g_run 3 rfl ?_
    exact k38 0 (by omega) (by rw [q5]; decide) (by decide) ⟨fun _ => q5, fun _ => by decide⟩
  · have q5 : kd t n i ≠ 5 := q5
    refine gz_eq (kx := 0) rfl (show (0 : Int32).toInt = 0 from by decide) (fun _ => ?_) (fun q => absurd rfl q)
    refine g_run 2 rfl ?_
    refine g_callV0 rfl LX10_177 rfl rfl rfl rfl ?_
    refine wdM (hp := MLn hp li ld lN la) (w := 1) hF hi (by decide) (by omega) (fun q3 => ?_) (fun q3 => ?_)
    · have q3 : kd t n i = 3 := q3
      refine gz_eq (kx := 1) rfl (show (1 : Int32).toInt = 1 from by decide) (fun q => absurd q (by decide)) (fun _ => ?_)
      refine g_run 3 rfl ?_
      exact k38 1 (by omega) (by rw [q3]; decide) (by decide) ⟨fun q => absurd q (by decide), fun q => absurd q q5⟩
    · have q3 : kd t n i ≠ 3 := q3
      refine gz_eq (kx := 0) rfl (show (0 : Int32).toInt = 0 from by decide) (fun _ => ?_) (fun q => absurd rfl q)
      refine g_run 2 rfl ?_
      refine g_callV0 rfl LX10_177 rfl rfl rfl rfl ?_
      refine wdM (hp := MLn hp li ld lN la) (w := 2) hF hi (by decide) (by omega) (fun q4 => ?_) (fun q4 => ?_)
      · have q4 : kd t n i = 4 := q4
        refine gz_eq (kx := 1) rfl (show (1 : Int32).toInt = 1 from by decide) (fun q => absurd q (by decide)) (fun _ => ?_)
        refine g_run 3 rfl ?_
        exact k38 2 (by omega) (by rw [q4]; decide) (by decide) ⟨fun q => absurd q (by decide), fun q => absurd q q5⟩
      · have q4 : kd t n i ≠ 4 := q4
        refine gz_eq (kx := 0) rfl (show (0 : Int32).toInt = 0 from by decide) (fun _ => ?_) (fun q => absurd rfl q)
        rw [if_neg (by omega)] at hX
        refine g_run 3 rfl ?_
        refine gz_ge (kx := -1) rfl (by decide) (fun q => absurd q (by decide)) (fun _ => ?_)
        refine g_run 2 rfl ?_
        refine g_callV0 rfl LX10_173 rfl rfl rfl rfl ?_
        refine wrM0 (hp := MLn hp li ld lN la) hF hi (by decide : (1 : Int32).toInt = 1) (by omega) (fun f2 hf => ?_)
        refine g_run 3 rfl ?_
        refine gz_le (kx := f2.toInt) rfl rfl (fun q => by exfalso; omega) (fun _ => ?_)
        exact g_vret rfl rfl (hX (by dsimp only; omega) _ _ _ _ _ _ _ _ _ _ _ _ _ hf (fun _ _ => rfl) (fun _ _ => ⟨rfl, rfl, rfl⟩) hkp)
end S46
