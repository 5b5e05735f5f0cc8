/-! the pair of best -/
def cntN (bt : Nat → Bool) : Nat → Nat
  | 0 => 0
  | k + 1 => if bt k = true then cntN bt k + 1 else cntN bt k
theorem shr_t {a : Int32} {k : Nat} (hk : k ≤ 12) : (a >>> (nI k &&& 31)).toInt = a.toInt / ((2 ^ k : Nat) : Int) := by
  have e : ((nI k &&& 31).toBitVec.smod 32).toNat = k := (by decide : ∀ k, k < 13 → ((nI k &&& 31).toBitVec.smod 32).toNat = k) k (by omega)
  show (BitVec.sshiftRight' a.toBitVec ((nI k &&& 31).toBitVec.smod 32)).toInt = _
  rw [BitVec.toInt_sshiftRight', e, Int.shiftRight_eq_div_pow]
  rfl
theorem se_lt {se : Int32} {k : Nat} (hk : k ≤ 12) (h : 0 < se.toInt) : (se >>> (nI k &&& 31)).toInt = 0 ↔ se.toInt < (1 <<< (nI k &&& 31) : Int32).toInt := by
  have e1 : (1 <<< (nI k &&& 31) : Int32).toInt = ((2 ^ k : Nat) : Int) := (by decide : ∀ k, k < 13 → (1 <<< (nI k &&& 31) : Int32).toInt = ((2 ^ k : Nat) : Int)) k (by omega)
  rw [shr_t hk, e1]
  have e3 : 0 < 2 ^ k := Nat.two_pow_pos k
  clear e1
  generalize 2 ^ k = p at e3 ⊢
  constructor
  · intro e
    have h1 := Int.mul_ediv_add_emod se.toInt (p : Int)
    have h2 := Int.emod_lt_of_pos se.toInt (b := (p : Int)) (by omega)
    rw [e] at h1
    omega
  · intro e
    exact Int.ediv_eq_zero_of_lt (by omega) e
theorem pop_b : ∀ n : Nat, n < 64 → ∀ m : Nat, m < 64 → popX (nI (64 * n + m)) = nI (cntN (btX (nI (64 * n + m))) 12) := by decide +kernel
theorem pop_a (n : Nat) (h : n < 4096) : popX (nI n) = nI (cntN (btX (nI n)) 12) := by
  have := pop_b (n / 64) (by omega) (n % 64) (by omega)
  rw [show 64 * (n / 64) + n % 64 = n by omega] at this
  exact this
theorem cnt_k {bt : Nat → Bool} {k : Nat} (h : ∀ j, k ≤ j → j < 12 → bt j = false) : ∀ n : Nat, k + n ≤ 12 → cntN bt (k + n) = cntN bt k
  | 0, _ => rfl
  | n + 1, hn => by
    rw [← Nat.add_assoc, cntN, h (k + n) (by omega) (by omega), if_neg (by decide), cnt_k h n (by omega)]
theorem cnt_le {bt : Nat → Bool} : ∀ k : Nat, cntN bt k ≤ k
  | 0 => by rw [cntN]; omega
  | k + 1 => by
    rw [cntN]
    have := cnt_le (bt := bt) k
    split <;> omega
theorem se_pop {se : Int32} {k : Nat} (hk : k ≤ 12) (h : 0 < se.toInt) (h2 : (se >>> (nI k &&& 31)).toInt = 0) : (popX se).toInt = (cntN (btX se) k : Int) := by
  have h3 := (se_lt hk h).mp h2
  have e1 : (1 <<< (nI k &&& 31) : Int32).toInt ≤ 4096 := (by decide : ∀ k, k < 13 → (1 <<< (nI k &&& 31) : Int32).toInt ≤ 4096) k (by omega)
  have e2 : se = nI se.toInt.toNat := (ia_eq _ _).mpr (by rw [nI_toInt (by omega)]; omega)
  have e3 := pop_a se.toInt.toNat (by omega)
  rw [← e2] at e3
  have e4 : cntN (btX se) (k + (12 - k)) = cntN (btX se) k := cnt_k (fun j h4 h5 => by
    have h6 : (se >>> (nI j &&& 31)).toInt = 0 := by
      have h7 := (se_lt (k := j) (by omega) h).mpr
      apply h7
      have h8 : (1 <<< (nI k &&& 31) : Int32).toInt ≤ (1 <<< (nI j &&& 31) : Int32).toInt := (by decide : ∀ j, j < 13 → ∀ k, k ≤ j → (1 <<< (nI k &&& 31) : Int32).toInt ≤ (1 <<< (nI j &&& 31) : Int32).toInt) j (by omega) k h4
      omega
    have h9 : se >>> (nI j &&& 31) = 0 := (ia_eq _ _).mpr (by rw [h6]; decide)
    rw [btX, h9]
    decide) (12 - k) (by omega)
  rw [show k + (12 - k) = 12 by omega] at e4
  have := cnt_le (bt := btX se) k
  rw [e3, e4, nI_toInt (by omega)]
theorem gm_c {bt : Nat → Bool} {z : Nat → Int32} : ∀ k : Nat, (gmS bt z k).1 = cntN bt k
  | 0 => rfl
  | k + 1 => by
    rw [gmS, cntN]
    split
    · dsimp only; rw [gm_c k]
    · exact gm_c k
theorem ga_gm {bt : Nat → Bool} {mo : Nat → Int32} {z : (Nat → Int32) × (Nat → Int32)} {z2 : Nat → Int32} : ∀ k : Nat, cntN bt k ≤ 6 → (gaS bt mo z k).1 = cntN bt k ∧ ∀ i, i < cntN bt k → (gaS bt mo z k).2.1 i = (gmS bt z2 k).2 i ∧ ∃ j, j < k ∧ (gaS bt mo z k).2.1 i = nI j ∧ (gaS bt mo z k).2.2 i = mo j
  | 0, _ => ⟨rfl, fun i hi => absurd hi (Nat.not_lt_zero i)⟩
  | k + 1, h => by
    have hg : (gmS bt z2 k).1 = cntN bt k := gm_c k
    rw [cntN] at h ⊢
    by_cases c : bt k = true
    · rw [if_pos c] at h ⊢
      obtain ⟨i1, i2⟩ := ga_gm (bt := bt) (mo := mo) (z := z) (z2 := z2) k (by omega)
      rw [gaS, gmS, if_pos ⟨c, by omega⟩, if_pos c]
      dsimp only
      rw [if_pos (by omega), i1, hg]
      refine ⟨rfl, fun i hi => ?_⟩
      by_cases e : i = cntN bt k
      · subst e
        exact ⟨by simp [va_up], k, by omega, by simp [va_up], by simp [va_up]⟩
      · rw [up_ne e, up_ne e, up_ne e]
        obtain ⟨j1, j, j2, j3, j4⟩ := i2 i (by omega)
        exact ⟨j1, j, by omega, j3, j4⟩
    · rw [if_neg c] at h ⊢
      obtain ⟨i1, i2⟩ := ga_gm (bt := bt) (mo := mo) (z := z) (z2 := z2) k h
      rw [gaS, gmS, if_neg (fun q => c q.1), if_neg c]
      refine ⟨i1, fun i hi => ?_⟩
      obtain ⟨j1, j, j2, j3, j4⟩ := i2 i hi
      exact ⟨j1, j, by omega, j3, j4⟩
theorem fitP_cg {fr to : Nat → Int32} {ta t2 : Nat → Nat → Int32} {M : Nat} {tr : Nat → Int32} (h : ∀ i t, i < M → ta i t = t2 i t) : fitP fr to ta M tr = fitP fr to t2 M tr := by
  have : ∀ t : Nat, sumI (fun i => tr i * ta i t) M = sumI (fun i => tr i * t2 i t) M := fun t => sumI_cg M (fun i hi => by rw [h i t hi])
  simp only [fitP, this]
theorem al_iff {L t : Int32} {tI : Int} {n : Nat} (tE : t.toInt = tI) (ht : 1 ≤ tI) (hL : 0 ≤ L.toInt) (hn : n ≤ 10) : (n : Int) ≤ (minI 10 (L / t)).toInt ↔ (n : Int) * tI ≤ L.toInt := by
  have e := divc (g := L) (gI := L.toInt) rfl hL tE ht
  have e2 := Int.le_ediv_iff_mul_le (a := (n : Int)) (b := L.toInt) (c := tI) (by omega)
  have e3 : (10 : Int32).toInt = 10 := by decide
  rw [← e2, minI]
  split
  · next q => rw [e3] at q ⊢; rw [e] at q; omega
  · rw [e]
theorem mo_0 {L : Nat → Int32} {t : Int32} {tI : Int} {j : Nat} (tE : t.toInt = tI) (ht : 1 ≤ tI) (hL : 0 ≤ (L j).toInt) : 0 ≤ (moX L t j).toInt := by
  have e := divc (g := L j) (gI := (L j).toInt) rfl hL tE ht
  have e2 := Int.ediv_nonneg (a := (L j).toInt) (b := tI) hL (by omega)
  have e3 : (10 : Int32).toInt = 10 := by decide
  rw [moX, minI]
  split
  · omega
  · omega
def bsC (se g : Int32) (N : Nat) : Prop := 0 < se.toInt ∧ (se >>> (nI N &&& 31)).toInt = 0 ∧ (cntN (btX se) N) ≤ 6 ∧ 10 ≤ g.toInt ∧ g.toInt ≤ 100000 ∧ (g - g / 10 * 10).toInt = 0
section S54
variable {hp hp1 : hp_T} {b : Bool} {xs : sh_T} {d : Nat} {Q : Option Value → sh_T → hp_T → Prop} {pr : Nat → Int32} {al : Nat → Nat → Bool} {fit : (Nat → Int32) → Bool} {N : Nat} {se g : Int32} {s : bs_T} {kp0 : Nat → Int32}
theorem x_best (e1 : hp.1 1 0 = nI N) (hN : N ≤ 12) (hOk : bsC se g N → okS (GX hp (gaS (btX se) (moX (hp.1 2) (g / 10)) (hp.1 32, hp.1 33) N)) pr al fit (cntN (btX se) N)) (hs : rfT al fit pr (cntN (btX se) N) (cntN (btX se) N) 10 (hp.1 34) (-1, hp.1 35) = s) (h1 : bsC se g N → ∀ (tr kp : Nat → Int32) (lc : Int32), lc.toInt = s.1 → (∀ i, i < (cntN (btX se) N) → kp i = s.2 i) → (s.1 = -1 → Q (some (.int lc)) (SH b xs) (BX (GX hp (gaS (btX se) (moX (hp.1 2) (g / 10)) (hp.1 32, hp.1 33) N)) tr kp lc)) ∧ (s.1 ≠ -1 → ∀ L : Nat → Int32, (∀ j, j < 12 → L j = latF (gaS (btX se) (moX (hp.1 2) (g / 10)) (hp.1 32, hp.1 33) N).2.1 kp (cntN (btX se) N) j) → Q (some (.int lc)) (SH b xs) (sR (sI (BX (GX hp (gaS (btX se) (moX (hp.1 2) (g / 10)) (hp.1 32, hp.1 33) N)) tr kp lc) 28 0 1) 29 L))) (h0 : ¬ bsC se g N → Q (some (.int (-1))) (SH b xs) hp) : gC mX9_best (d + 10) 0 0 [.ref 0, .int se, .int g] (SH b xs) hp Q := by
  have eI : (hp.1 1 0).toInt = (N : Int) := by rw [e1, nI_toInt (by omega)]
  have eN : (hp.1 1 0).toInt.toNat = N := by omega
  refine c_X9_best (pr := pr) (al := al) (fit := fit) rfl rfl (by omega) (fun q => ?_) (fun q => ?_) (fun q => ?_)
  · rw [e1] at q
    have hc := se_pop hN q.1 q.2.1
    have hq : bsC se g N := ⟨q.1, q.2.1, by omega, q.2.2.2⟩
    rw [eN, (ga_gm (z2 := hp.1 73) N hq.2.2.1).1]
    exact hOk hq
  · rw [e1] at q
    have hc := se_pop hN q.1 q.2.1
    have hq : bsC se g N := ⟨q.1, q.2.1, by omega, q.2.2.2⟩
    rw [eN, (ga_gm (z2 := hp.1 73) N hq.2.2.1).1, hs]
    exact h1 hq
  · refine h0 (fun hq => ?_)
    have hc := se_pop hN hq.1 hq.2.1
    obtain ⟨k1, k2, k3, k4, k5, k6⟩ := hq
    rw [e1] at q
    omega
theorem m_best (e1 : hp1.1 43 26 = nI N) (hN : N ≤ 12) (hOk : bsC se g N → okSM (GM hp1 (gmS (btX se) (hp1.1 73) N)) (g.toInt / 10) pr al fit (cntN (btX se) N)) (hs : rfT al fit pr (cntN (btX se) N) (cntN (btX se) N) 10 (hp1.1 74) (-1, kp0) = s) (h1 : bsC se g N → ∀ (tr w : Nat → Int32) (lc wb : Int32), lc.toInt = s.1 → isB (GM hp1 (gmS (btX se) (hp1.1 73) N)) (cntN (btX se) N) (hp1.1 75) (hp1.1 43 56) s w wb → Q (some (.int lc)) (SH b xs) (BM (GM hp1 (gmS (btX se) (hp1.1 73) N)) tr w lc wb)) (h0 : ¬ bsC se g N → Q (some (.int (-1))) (SH b xs) (GM hp1 (gmS (btX se) (hp1.1 73) N))) : gC mX10_best (d + 10) 0 0 [.ref 43, .int se, .int g] (SH b xs) hp1 Q := by
  have eI : (hp1.1 43 26).toInt = (N : Int) := by rw [e1, nI_toInt (by omega)]
  have eN : (hp1.1 43 26).toInt.toNat = N := by omega
  have hg : (gmS (btX se) (hp1.1 73) N).1 = (cntN (btX se) N) := gm_c N
  refine c_X10_best (pr := pr) (al := al) (fit := fit) (kp0 := kp0) rfl rfl (by omega) (fun q => ?_) (fun q => ?_) (fun q => ?_)
  · rw [eN, e1, hg] at q
    have hq : bsC se g N := ⟨by omega, (se_lt hN (by omega)).mpr q.2.1, q.2.2⟩
    rw [eN, hg]
    exact hOk hq
  · rw [eN, e1, hg] at q
    have hq : bsC se g N := ⟨by omega, (se_lt hN (by omega)).mpr q.2.1, q.2.2⟩
    rw [eN, hg, hs]
    exact h1 hq
  · rw [eN, e1, hg] at q
    rw [eN]
    refine h0 (fun hq => ?_)
    have hc := (se_lt hN hq.1).mp hq.2.1
    obtain ⟨k1, k2, k3, k4, k5, k6⟩ := hq
    omega
theorem pr_best (hR : Rel b hp) : prP mX9_best mX10_best [.ref 0, .int se, .int g] [.ref 43, .int se, .int g] b xs hp := by
  have hR0 := rel_0 hR
  obtain ⟨h_lot, h_now, h_cur, h_tap, h_rul, h_roa, h_bag, h_cup, h_spa, h_bes, h_kee, h_wor⟩ := hR
  obtain ⟨b1, b2, b3, b4, b5, b6, b7, b8, b9, b10, b11, b12, b13, b14, b15, b16⟩ := h_bag
  obtain ⟨l1, l2, l3, l4, l5, l6⟩ := id h_lot
  obtain ⟨N, e1, hN⟩ : ∃ N : Nat, hp.1 1 0 = nI N ∧ N ≤ 12 := ⟨(hp.1 1 0).toInt.toNat, (ia_eq _ _).mpr (by rw [nI_toInt (by omega)]; omega), by omega⟩
  have e26 : hp.1 43 26 = nI N := l1.symm.trans e1
  have hgm : bsC se g N → (gaS (btX se) (moX (hp.1 2) (g / 10)) (hp.1 32, hp.1 33) N).1 = (cntN (btX se) N) ∧ ∀ i, i < (cntN (btX se) N) → (gaS (btX se) (moX (hp.1 2) (g / 10)) (hp.1 32, hp.1 33) N).2.1 i = (gmS (btX se) (hp.1 73) N).2 i ∧ ∃ j, j < N ∧ (gaS (btX se) (moX (hp.1 2) (g / 10)) (hp.1 32, hp.1 33) N).2.1 i = nI j ∧ (gaS (btX se) (moX (hp.1 2) (g / 10)) (hp.1 32, hp.1 33) N).2.2 i = moX (hp.1 2) (g / 10) j := fun q => ga_gm (z2 := hp.1 73) N q.2.2.1
  have hcl := cnt_le (bt := btX se) N
  obtain ⟨ga, hga⟩ : ∃ z, (gaS (btX se) (moX (hp.1 2) (g / 10)) (hp.1 32, hp.1 33) N) = z := ⟨_, rfl⟩
  rw [hga] at hgm
  obtain ⟨gm, hgmE⟩ : ∃ z, gmS (btX se) (hp.1 73) N = z := ⟨_, rfl⟩
  rw [hgmE] at hgm
  have hgm1 : gm.1 = (cntN (btX se) N) := by rw [← hgmE]; exact gm_c N
  obtain ⟨pr, hpr⟩ : ∃ f : Nat → Int32, ∀ i, f i = hp.1 3 (ga.2.1 i).toInt.toNat := ⟨_, fun _ => rfl⟩
  obtain ⟨al, hal⟩ : ∃ f : Nat → Nat → Bool, ∀ i n, f i n = decide ((n : Int) ≤ (ga.2.2 i).toInt) := ⟨_, fun _ _ => rfl⟩
  obtain ⟨fit, hft⟩ : ∃ f : (Nat → Int32) → Bool, ∀ tr, f tr = fitP (hp.1 30) (hp.1 31) (fun i t => hp.1 4 (((ga.2.1 i).toInt * 3) + (t : Int)).toNat) (cntN (btX se) N) tr := ⟨_, fun _ => rfl⟩
  obtain ⟨s, hs⟩ : ∃ s, rfT al fit pr (cntN (btX se) N) (cntN (btX se) N) 10 (hp.1 34) (-1, hp.1 35) = s := ⟨_, rfl⟩
  have hmb : bsC se g N → ∀ i, i < (cntN (btX se) N) → 0 ≤ (ga.2.1 i).toInt ∧ (ga.2.1 i).toInt < 12 := fun q i hi => by
    obtain ⟨j0, j, j1, j2, j3⟩ := (hgm q).2 i hi
    rw [j2, nI_toInt (by omega)]
    omega
  have hTs : ∀ tr2 : Nat → Int32, rfT al fit pr (cntN (btX se) N) (cntN (btX se) N) 10 tr2 (-1, hp.1 35) = s := fun tr2 => (rfT_cg (cntN (btX se) N) 10 tr2 (hp.1 34) _ (Nat.le_refl _) (fun i hi => by omega)).trans hs
  have okM : ∀ h3 : hp_T, (h3.1 43 57).toInt = ((cntN (btX se) N) : Int) → h3.1 73 = gm.2 → h3.1 71 = hp.1 30 → h3.1 72 = hp.1 31 → h3.1 61 = hp.1 3 → h3.1 60 = hp.1 2 → h3.1 62 = hp.1 4 → bsC se g N → okSM h3 (g.toInt / 10) pr al fit (cntN (btX se) N) := by
    intro h3 a1 a2 a3 a4 a5 a6 a7 q
    obtain ⟨k1, k2, k3, k4, k5, k6⟩ := id q
    have hi1 : ∀ i, i < (cntN (btX se) N) → gm.2 i = ga.2.1 i := fun i hi => ((hgm q).2 i hi).1.symm
    refine ⟨a1, k3, fun i hi => ?_, fun i hi => ?_, fun i hi => ?_, fun i n hi hn => ?_, by omega, fun tr => ?_⟩
    · rw [a2, hi1 i hi]; exact hmb q i hi
    · rw [a3, a4]; exact ⟨(h_spa.2.2.1 i).1, (h_spa.2.2.1 i).2, h_spa.2.2.2 i⟩
    · rw [a5, a2, hi1 i hi, hpr]; exact ⟨(l6 _).1, (l6 _).2, rfl⟩
    · rw [a6, a2, hi1 i hi, hal]
      obtain ⟨j0, j, j1, j2, j3⟩ := (hgm q).2 i hi
      rw [j2, j3, nI_toInt (by omega), decide_eq_true_iff]
      have hL := (b12 j (by omega)).1
      exact al_iff (div10 rfl (by omega)) (by omega) hL hn
    · rw [a3, a4, hft]
      refine fitP_cg (fun i t hi => ?_)
      rw [a7, a2, hi1 i hi, Int.mul_comm]
  intro K h
  refine x_best (b := b) (d := 2037) (pr := pr) (al := al) (fit := fit) e1 hN (fun q => ?_) hs (fun q tr kp lc qE hk => ⟨fun s1 => ?_, fun s1 L hL => ?_⟩) (fun q => ?_)
  · rw [hga]
    obtain ⟨k1, k2, k3, k4, k5, k6⟩ := id q
    refine ⟨show (nI ga.1).toInt = _ from by rw [(hgm q).1, nI_toInt (by omega)], k3, hmb q, fun i _ => ⟨(h_spa.2.2.1 i).1, (h_spa.2.2.1 i).2, h_spa.2.2.2 i⟩, fun i hi => ⟨by rw [hpr]; exact (l6 _).1, by rw [hpr]; exact (l6 _).2, hpr i⟩, fun i n hi hn => by rw [hal, decide_eq_true_iff]; exact Iff.rfl, fun i hi => ?_, hft⟩
    obtain ⟨j0, j, j1, j2, j3⟩ := (hgm q).2 i hi
    show 0 ≤ (ga.2.2 i).toInt
    rw [j3]
    exact mo_0 (div10 rfl (by omega)) (by omega) (b12 j (by omega)).1
  · rw [hga]
    refine h _ _ _ (fun KM hK => ?_)
    refine m_best (hp1 := BX (GX hp ga) tr kp lc) (kp0 := hp.1 35) (d := 2037) (pr := pr) (al := al) (fit := fit) e26 hN (fun q2 => ?_) (hTs _) (fun q2 tr2 w lc2 wb qE2 hI => ?_) (fun q2 => absurd q q2)
    · exact okM _ (show (nI (gmS (btX se) (hp.1 73) N).1).toInt = _ from by rw [hgmE, hgm1, nI_toInt (by omega)]) (congrArg Prod.snd hgmE) h_spa.1.symm h_spa.2.1.symm l4.symm l3.symm l5.symm q
    · have ew : w = hp.1 75 := (hI.1 s1).1
      have ewb : wb = hp.1 43 56 := (hI.1 s1).2
      exact kq ((ia_eq _ _).mpr (qE2.trans qE.symm)) (hK _ ⟨h_lot, h_now, h_cur, h_tap, rul_k h_rul rfl rfl rfl rfl rfl rfl rfl rfl rfl rfl rfl rfl rfl rfl rfl rfl rfl rfl rfl, h_roa, ⟨b1, b2, b3, b4, b5, b6, b7, b8, b9, b10, b11, b12, b13, b14, b15, b16⟩, h_cup, h_spa, ⟨show hp.1 28 0 = wb from by rw [ewb]; exact h_bes.1, fun j hj => show hp.1 29 j = w j from by rw [ew]; exact h_bes.2 j hj⟩, h_kee, h_wor⟩)
  · rw [hga] at hL ⊢
    refine h _ _ _ (fun KM hK => ?_)
    refine m_best (hp1 := sR (sI (BX (GX hp ga) tr kp lc) 28 0 1) 29 L) (kp0 := hp.1 35) (d := 2037) (pr := pr) (al := al) (fit := fit) e26 hN (fun q2 => ?_) (hTs _) (fun q2 tr2 w lc2 wb qE2 hI => ?_) (fun q2 => absurd q q2)
    · exact okM _ (show (nI (gmS (btX se) (hp.1 73) N).1).toInt = _ from by rw [hgmE, hgm1, nI_toInt (by omega)]) (congrArg Prod.snd hgmE) h_spa.1.symm h_spa.2.1.symm l4.symm l3.symm l5.symm q
    · have ewb : wb = 1 := (hI.2 s1).1
      have ew : ∀ j, j < 12 → w j = latF (gmS (btX se) (hp.1 73) N).2 s.2 (cntN (btX se) N) j := (hI.2 s1).2
      exact kq ((ia_eq _ _).mpr (qE2.trans qE.symm)) (hK _ ⟨h_lot, h_now, h_cur, h_tap, rul_k h_rul rfl rfl rfl rfl rfl rfl rfl rfl rfl rfl rfl rfl rfl rfl rfl rfl rfl rfl rfl, h_roa, ⟨b1, b2, b3, b4, b5, b6, b7, b8, b9, b10, b11, b12, b13, b14, b15, b16⟩, h_cup, h_spa, ⟨show (1 : Int32) = wb from ewb.symm, fun j hj => show L j = w j from by rw [hL j hj, ew j hj, hgmE]; exact latF_cg _ (fun i hi => ⟨((hgm q).2 i hi).1, hk i hi⟩)⟩, h_kee, h_wor⟩)
  · refine h _ _ _ (fun KM hK => ?_)
    refine m_best (hp1 := hp) (kp0 := hp.1 35) (d := 2037) (pr := pr) (al := al) (fit := fit) e26 hN (fun q2 => absurd q2 q) (hTs _) (fun q2 => absurd q2 q) (fun _ => ?_)
    exact hK _ ⟨h_lot, h_now, h_cur, h_tap, rul_k h_rul rfl rfl rfl rfl rfl rfl rfl rfl rfl rfl rfl rfl rfl rfl rfl rfl rfl rfl rfl, h_roa, ⟨b1, b2, b3, b4, b5, b6, b7, b8, b9, b10, b11, b12, b13, b14, b15, b16⟩, h_cup, h_spa, h_bes, h_kee, h_wor⟩
end S54
