/-! the class reads a text: lines, the whole -/
abbrev lt_T : Type := Int32 × Int32 × List Int32
def amtP (K : Nat → Int) (L : Nat → Nat) (V : Nat → Int) (i : Nat) : Int × Nat × Int := if K i = 5 then (0, i + 1, 0) else if K (i + 1) = 2 then (if 9 < V (i + 1) then (4 + 16 * (L (i + 1) : Int), 0, 0) else (0, i + 2, V (i + 1))) else (1 + 16 * (L (i + 1) : Int), 0, 0)
def lin2 (K : Nat → Int) (L : Nat → Nat) (tss : Nat → pr_T) (j : Nat) (a m : Int) : Int × Nat × lt_T := if K j = 6 then (if (tss (j + 1)).1 = 0 then (if K (tss (j + 1)).2.1 = 19 then (0, (tss (j + 1)).2.1 + 1, Int32.ofInt a, Int32.ofInt m, (tss (j + 1)).2.2) else (1 + 16 * (L (tss (j + 1)).2.1 : Int), 0, 0, 0, [])) else ((tss (j + 1)).1, 0, 0, 0, [])) else (1 + 16 * (L j : Int), 0, 0, 0, [])
/-- a line, ln lines being there -/
def linP (K : Nat → Int) (L : Nat → Nat) (V : Nat → Int) (tss : Nat → pr_T) (i ln : Nat) : Int × Nat × lt_T := if K i = 3 ∨ K i = 4 ∨ K i = 5 then (if 16 ≤ ln then (5 + 16 * (L i : Int), 0, 0, 0, []) else if (amtP K L V i).1 = 0 then lin2 K L tss (amtP K L V i).2.1 (K i) (amtP K L V i).2.2 else ((amtP K L V i).1, 0, 0, 0, [])) else (1 + 16 * (L i : Int), 0, 0, 0, [])
def txtL (K : Nat → Int) (L : Nat → Nat) (V : Nat → Int) (tss : Nat → pr_T) : Nat → Nat → List lt_T → Int × List lt_T
  | 0, _, ls => (0, ls)
  | f + 1, i, ls => if K i = 0 then (0, ls) else if (linP K L V tss i ls.length).1 = 0 then txtL K L V tss f (linP K L V tss i ls.length).2.1 (ls ++ [(linP K L V tss i ls.length).2.2]) else ((linP K L V tss i ls.length).1, ls)
def txtP (t : Nat → Int32) (n : Nat) : Int × List lt_T := txtL (kd t n) (pl t n) (nv t n) (tssP (kd t n) (parD (kd t n) (pl t n) (nv t n) 5)) 17 0 []
def flt (ls : List lt_T) : List Int32 := ls.flatMap (fun x => x.2.2)
def endsF : List lt_T → Nat → List Int32
  | [], _ => []
  | x :: r, c => nI (c + x.2.2.length) :: endsF r (c + x.2.2.length)
theorem flt_app {ls : List lt_T} {x : lt_T} : flt (ls ++ [x]) = flt ls ++ x.2.2 := by simp [flt]
theorem endsF_app : ∀ (ls : List lt_T) (c : Nat) (x : lt_T), endsF (ls ++ [x]) c = endsF ls c ++ [nI (c + (flt ls).length + x.2.2.length)]
  | [], c, x => by simp [endsF, flt]
  | y :: r, c, x => by
    show nI (c + y.2.2.length) :: endsF (r ++ [x]) (c + y.2.2.length) = _
    rw [endsF_app r, endsF]
    simp only [List.cons_append, flt, List.flatMap_cons, List.length_append]
    rw [show c + (y.2.2.length + (List.flatMap (fun x => x.2.2) r).length) + x.2.2.length = c + y.2.2.length + (List.flatMap (fun x => x.2.2) r).length + x.2.2.length by omega]
theorem endsF_len : ∀ (ls : List lt_T) (c : Nat), (endsF ls c).length = ls.length
  | [], _ => rfl
  | x :: r, c => by rw [endsF, List.length_cons, List.length_cons, endsF_len r]
theorem ap_1 {sp : Nat → Int32} {l : List Int32} {v : Int32} {m : Nat} (h : l.length = m) : va_up (apL sp 0 l) m v = apL sp 0 (l ++ [v]) := by
  rw [apL_app, h, Nat.zero_add]
  rfl
theorem okR_lin {K : Nat → Int} {L : Nat → Nat} {V : Nat → Int} {N : Nat} {tss : Nat → pr_T} (hE : ∀ j, j ≤ N → K j ≠ 0 → j < N) (hp : okR N tss) {i ln : Nat} (hi : i ≤ N) (h : (linP K L V tss i ln).1 = 0) : i < (linP K L V tss i ln).2.1 ∧ (linP K L V tss i ln).2.1 ≤ N ∧ (linP K L V tss i ln).2.2.2.2.length ≤ (linP K L V tss i ln).2.1 - i ∧ ln < 16 := by
  rw [linP] at h ⊢
  by_cases c0 : K i = 3 ∨ K i = 4 ∨ K i = 5
  · rw [if_pos c0] at h ⊢
    have hj := hE i hi (by omega)
    by_cases c1 : 16 ≤ ln
    · rw [if_pos c1] at h; dsimp only at h; omega
    · rw [if_neg c1] at h ⊢
      by_cases c2 : (amtP K L V i).1 = 0
      · rw [if_pos c2] at h ⊢
        have ha : i < (amtP K L V i).2.1 ∧ (amtP K L V i).2.1 ≤ N := by
          rw [amtP] at c2 ⊢
          by_cases d0 : K i = 5
          · rw [if_pos d0]; dsimp only; omega
          · rw [if_neg d0] at c2 ⊢
            by_cases d1 : K (i + 1) = 2
            · rw [if_pos d1] at c2 ⊢
              have := hE (i + 1) (by omega) (by omega)
              by_cases d2 : 9 < V (i + 1)
              · rw [if_pos d2] at c2; dsimp only at c2; omega
              · rw [if_neg d2]; dsimp only; omega
            · rw [if_neg d1] at c2; dsimp only at c2; omega
        rw [lin2] at h ⊢
        by_cases c3 : K (amtP K L V i).2.1 = 6
        · rw [if_pos c3] at h ⊢
          have hj2 := hE _ ha.2 (by omega)
          by_cases c4 : (tss ((amtP K L V i).2.1 + 1)).1 = 0
          · rw [if_pos c4] at h ⊢
            obtain ⟨a1, a2, a3⟩ := hp _ (by omega) c4
            by_cases c5 : K (tss ((amtP K L V i).2.1 + 1)).2.1 = 19
            · rw [if_pos c5]
              have hj3 := hE _ a2 (by omega)
              dsimp only
              omega
            · rw [if_neg c5] at h; dsimp only at h; omega
          · rw [if_neg c4] at h; exact absurd h c4
        · rw [if_neg c3] at h; dsimp only at h; omega
      · rw [if_neg c2] at h; exact absurd h c2
  · rw [if_neg c0] at h; dsimp only at h; omega
def RLn (hp : hp_T) (rc : Nat) (ac am se : Nat → Int32) (ln : Nat) : hp_T := sI (sR (sR (sR hp (rc + 1) ac) (rc + 2) am) (rc + 3) se) rc 0 (nI ln)
section GPR
variable {y : mt_T} {d mc ms : Nat} {Q : zt} {cells slots : Nat} {pc : Nat} {lo st : List Value} {sh : sh_T} {hp : hp_T} {ia : Instr} {nx a b j0 : Nat} {v0 : Int32} {w0 : Int64}
theorem g_putR {c k r : Nat} {ks : List Value} {ty : FieldType} {q : vw_C} (h : lk pc y.2.2.2.2 = some (pc, ia, .putfield k, nx, a, b, v0, w0, j0)) (hc : nth sh c = some (.inr (a, ks))) (hq : kcls[a]? = some q) (hfin : (q.2.1 k).2.2.2 = false ∨ ((q.2.1 k).2.2.2 = true ∧ y.1.name = "<init>" ∧ (q.2.1 k).1 = y.1.cls)) (hty : parseFieldDescriptor (q.2.1 k).2.2.1 = some ty) (hn : ∀ E, narrow ty (cv E (.ref r)) = cv E (.ref r)) (hfit : ∀ E, fits ty (cv E (.ref r)) = true) (hkl : k < ks.length) (kk : gG y d mc ms Q cells slots (nx, lo, st, sh.set c (.inr (a, ks.set k (.ref r))), hp)) : gG y d mc ms Q cells slots (pc, lo, .ref r :: .ref c :: st, sh, hp) := by
  intro ok
  obtain ⟨hb, -⟩ := lk_ok ok h
  simp only [okb, Bool.and_eq_true] at hb
  obtain ⟨hd, ⟨hnx, hb3⟩, hm⟩ := hb
  have hnx := Nat.eq_of_beq_eq_true hnx
  have hb3 := Nat.eq_of_beq_eq_true hb3
  subst hnx
  subst hb3
  cases ia with
  | putfield x =>
    simp only [Bool.and_eq_true] at hm
    obtain ⟨ht, hk⟩ := hm
    rw [hq] at hk
    have hk := bl_of hk
    rw [fk_of hq hk] at ht
    exact g1_putR (dec_of hd) (by rw [← nth_eq]; exact hc) hq hk (tb_of ht) hfin hty hn hfit hkl rfl kk ok
  | _ => cases hm
end GPR
section S43_9
variable {d : Nat} {hp : hp_T} {Q : Option Value → sh_T → hp_T → Prop} {xs : sh_T} {k p m q f : Int32} {sp ac am se : Nat → Int32} {c n N ln : Nat}
theorem rl_e9 {a v : Int32} : sI (sI (sI (sI (PX (RLn hp 9 ac am se ln) 9 k p m q f sp c) 10 ln a) 11 ln v) 12 ln (nI c)) 9 0 (nI ln + 1) = PX (RLn hp 9 (va_up ac ln a) (va_up am ln v) (va_up se ln (nI c)) (ln + 1)) 9 k p m q f sp c := by
  rw [nI_1]
  refine two_ext (fun z i => ?_) rfl
  by_cases h1 : z = 9
  · subst h1; by_cases hi : i = 0
    · subst hi; simp [PX, RLn, TX, PY, sI, sR, va_up]
    · simp [PX, RLn, TX, PY, sI, sR, va_up, hi]
  · by_cases h2 : z = 10
    · subst h2; simp [PX, RLn, TX, PY, sI, sR, va_up]
    · by_cases h3 : z = 11
      · subst h3; simp [PX, RLn, TX, PY, sI, sR, va_up]
      · by_cases h4 : z = 12
        · subst h4; simp [PX, RLn, TX, PY, sI, sR, va_up]
        · simp [PX, RLn, TX, PY, sI, sR, va_up, h1, h2, h3, h4]
theorem c_end9 {a v : Int32} (hl : ln < 16) (h1 : Q none (SH false xs) (PX (RLn hp 9 (va_up ac ln a) (va_up am ln v) (va_up se ln (nI c)) (ln + 1)) 9 k p m q f sp c)) : gC mX6_endLine d 0 0 [.ref 9, .int a, .int v] (SH false xs) (PX (RLn hp 9 ac am se ln) 9 k p m q f sp c) Q := by
  refine g_enter okX6_endLine (plainFor_of_name rfl) rfl ?_
  refine g_run 3 rfl ?_
  refine gj_ge (kx := (ln : Int)) (kz := 16) rfl (nI_toInt (by omega)) (by decide) (fun k1 => by exfalso; omega) (fun _ => ?_)
  refine g_run 5 rfl ?_
  refine g_iast (j := ln) rfl rfl (nI_toInt (by omega)) (by omega) ?_
  refine g_run 5 rfl ?_
  refine g_iast (j := ln) rfl rfl (nI_toInt (by omega)) (by omega) ?_
  refine g_run 6 rfl ?_
  refine g_iast (j := ln) rfl rfl (nI_toInt (by omega)) (by omega) ?_
  refine g_run 6 rfl ?_
  refine gG_hp rl_e9 ?_
  exact g_vret rfl rfl h1
theorem c_pA9 {j : Nat} (hn : (hp.1 5 1).toInt = (n : Int)) (hn6 : n ≤ 600) (hT : tkA (hp.1 6) n k p m q j) (h1 : kd (hp.1 6) n j = 2 → nv (hp.1 6) n j ≤ 9 → ∀ k2 p2 m2 q2 : Int32, tkA (hp.1 6) n k2 p2 m2 q2 (j + 1) → Q (some (.int 1)) (SH false xs) (PX hp 9 k2 p2 m2 q2 f sp c)) (h4 : kd (hp.1 6) n j = 2 → 9 < nv (hp.1 6) n j → ∀ f2 : Int32, f2.toInt = 4 + 16 * (pl (hp.1 6) n j : Int) → Q (some (.int 0)) (SH false xs) (PX hp 9 k p m q f2 sp c)) (h0 : kd (hp.1 6) n j ≠ 2 → ∀ f2 : Int32, f2.toInt = 1 + 16 * (pl (hp.1 6) n j : Int) → Q (some (.int 0)) (SH false xs) (PX hp 9 k p m q f2 sp c)) : gC mX5_passAmount (d + 8) 0 0 [.ref 7] (SH false xs) (PX hp 9 k p m q f sp c) Q := by
  have hpl := pl_le (t := hp.1 6) (n := n) (i := j)
  refine g_enter okX5_passAmount (plainFor_of_name rfl) rfl ?_
  have k29 : (kd (hp.1 6) n j = 2 → nv (hp.1 6) n j ≤ 9) → gG mX5_passAmount (d + 8) 0 0 (zQ 0 0 Q) 0 0 (29, [.ref 7], [], SH false xs, PX hp 9 k p m q f sp c) := by
    intro hh
    refine g_run 2 rfl ?_
    refine g_callV0 rfl LX5_61 rfl rfl rfl rfl ?_
    refine c_pass9 (by decide : (2 : Int32).toInt = 2) hn hn6 hT (fun k5 k6 p6 m6 q6 hT6 => ?_) (fun k5 f6 hf6 => ?_)
    · exact g_zret rfl rfl (Or.inr rfl) (h1 k5 (hh k5) k6 p6 m6 q6 hT6)
    · exact g_zret rfl rfl (Or.inl rfl) (h0 k5 f6 hf6)
  refine g_run 4 rfl ?_
  refine gj_ne (kx := kd (hp.1 6) n j) (kz := 2) rfl hT.1 (by decide) (fun k1 => k29 (fun q => absurd q k1)) (fun k1 => ?_)
  refine g_run 4 rfl ?_
  refine gj_le (kx := nv (hp.1 6) n j) (kz := 9) rfl (hT.2.2.2 k1) (by decide) (fun k2 => k29 (fun _ => k2)) (fun k2 => ?_)
  refine g_run 2 rfl ?_
  refine g_callV0 rfl LX5_48 rfl rfl rfl rfl ?_
  refine c_wrong9 (by decide : (4 : Int32).toInt = 4) (by omega) hT.2.1 (by omega) (fun f2 hf => ?_)
  exact g_zret rfl rfl (Or.inl rfl) (h4 k1 k2 f2 hf)
/-- what is wanted behind a line -/
def rlP9 (hp : hp_T) (xs : sh_T) (n : Nat) (r : Int × Nat × lt_T) (f : Int32) (ac am se sp : Nat → Int32) (ln c : Nat) (Q : Option Value → sh_T → hp_T → Prop) : Prop :=
  (r.1 = 0 → ∀ k p m q : Int32, tkA (hp.1 6) n k p m q r.2.1 → Q (some (.int 1)) (SH false xs) (PX (RLn hp 9 (va_up ac ln r.2.2.1) (va_up am ln r.2.2.2.1) (va_up se ln (nI (c + r.2.2.2.2.length))) (ln + 1)) 9 k p m q f (apL sp c r.2.2.2.2) (c + r.2.2.2.2.length))) ∧ (r.1 ≠ 0 → ∀ (k p m q f2 : Int32) (sp2 : Nat → Int32) (c2 : Nat), f2.toInt = r.1 → Q (some (.int 0)) (SH false xs) (PX (RLn hp 9 ac am se ln) 9 k p m q f2 sp2 c2))
theorem rl789 {tss : Nat → pr_T} {j : Nat} {a v : Int32} {aI vI : Int} (hE : okE hp n N) (hts : rdC9 mX5_readTests (d + 10) (RLn hp 9 ac am se ln) xs n N 0 tss) (hok : okR N tss) (hj : j ≤ N) (hc : c ≤ j) (hl : ln < 16) (aE : a = Int32.ofInt aI) (vE : v = Int32.ofInt vI) (hT : tkA (hp.1 6) n k p m q j) (hQ : rlP9 hp xs n (lin2 (kd (hp.1 6) n) (pl (hp.1 6) n) tss j aI vI) f ac am se sp ln c Q) : gG mX5_readLine (d + 11) 0 0 (zQ 0 0 Q) 0 0 (78, [.ref 7, .int a, .int v], [], SH false xs, PX (RLn hp 9 ac am se ln) 9 k p m q f sp c) := by
  subst aE
  subst vE
  rw [lin2] at hQ
  refine g_run 2 rfl ?_
  refine g_callV0 rfl LX5_61 rfl rfl rfl rfl ?_
  refine c_pass9 (hp := RLn hp 9 ac am se ln) (d := d + 3) (by decide : (6 : Int32).toInt = 6) hE.1 hE.2.1 hT (fun k5 k6 p6 m6 q6 hT6 => ?_) (fun k5 f6 hf6 => ?_)
  · have k5 : kd (hp.1 6) n j = 6 := k5
    rw [if_pos k5] at hQ
    have hj2 := hE.2.2.2 j hj (by omega)
    refine gz_eq (kx := 1) rfl (show (1 : Int32).toInt = 1 from by decide) (fun q => absurd q (by decide)) (fun _ => ?_)
    refine g_run 2 rfl ?_
    refine g_callV0 rfl LX5_64 rfl rfl rfl rfl ?_
    refine hts _ (j + 1) k6 p6 m6 q6 f sp c (by omega) (by omega) hT6 ⟨fun r0 k4 p4 m4 q4 hT4 => ?_, fun r1 k4 p4 m4 q4 f4 sp4 c4 hf4 => ?_⟩
    · rw [if_pos r0] at hQ
      obtain ⟨o1, o2, o3⟩ := hok (j + 1) (by omega) r0
      refine gz_eq (kx := 1) rfl (show (1 : Int32).toInt = 1 from by decide) (fun q => absurd q (by decide)) (fun _ => ?_)
      refine g_run 2 rfl ?_
      refine g_callV0 rfl LX5_61 rfl rfl rfl rfl ?_
      refine c_pass9 (hp := RLn hp 9 ac am se ln) (d := d + 3) (by decide : (19 : Int32).toInt = 19) hE.1 hE.2.1 hT4 (fun k7 k8 p8 m8 q8 hT8 => ?_) (fun k7 f8 hf8 => ?_)
      · have k7 : kd (hp.1 6) n (tss (j + 1)).2.1 = 19 := k7
        rw [if_pos k7] at hQ
        refine gz_ne (kx := 1) rfl (show (1 : Int32).toInt = 1 from by decide) (fun _ => ?_) (fun q => absurd q (by decide))
        refine g_run 4 rfl ?_
        refine g_callV0 rfl LX5_67 rfl rfl rfl rfl ?_
        refine c_end9 hl ?_
        refine g_run 1 rfl ?_
        exact g_zret rfl rfl (Or.inr rfl) (hQ.1 rfl k8 p8 m8 q8 hT8)
      · have k7 : ¬ kd (hp.1 6) n (tss (j + 1)).2.1 = 19 := k7
        rw [if_neg k7] at hQ
        refine gz_ne (kx := 0) rfl (show (0 : Int32).toInt = 0 from by decide) (fun q => absurd rfl q) (fun _ => ?_)
        refine g_run 1 rfl ?_
        exact g_zret rfl rfl (Or.inl rfl) (hQ.2 (by dsimp only; omega) _ _ _ _ _ _ _ hf8)
    · rw [if_neg r1] at hQ
      refine gz_eq (kx := 0) rfl (show (0 : Int32).toInt = 0 from by decide) (fun _ => ?_) (fun q => absurd rfl q)
      refine g_run 1 rfl ?_
      exact g_zret rfl rfl (Or.inl rfl) (hQ.2 r1 _ _ _ _ _ _ _ hf4)
  · have k5 : ¬ kd (hp.1 6) n j = 6 := k5
    rw [if_neg k5] at hQ
    refine gz_eq (kx := 0) rfl (show (0 : Int32).toInt = 0 from by decide) (fun _ => ?_) (fun q => absurd rfl q)
    refine g_run 1 rfl ?_
    exact g_zret rfl rfl (Or.inl rfl) (hQ.2 (by dsimp only; omega) _ _ _ _ _ _ _ hf6)
theorem c_line9 {tss : Nat → pr_T} {i : Nat} (hE : okE hp n N) (hts : rdC9 mX5_readTests (d + 10) (RLn hp 9 ac am se ln) xs n N 0 tss) (hok : okR N tss) (hi : i ≤ N) (hc : c ≤ i) (hl : ln ≤ 16) (hT : tkA (hp.1 6) n k p m q i) (hQ : rlP9 hp xs n (linP (kd (hp.1 6) n) (pl (hp.1 6) n) (nv (hp.1 6) n) tss i ln) f ac am se sp ln c Q) : gC mX5_readLine (d + 11) 0 0 [.ref 7] (SH false xs) (PX (RLn hp 9 ac am se ln) 9 k p m q f sp c) Q := by
  have hpl := pl_le (t := hp.1 6) (n := n) (i := i)
  have hn6 := hE.2.1
  have hK := kd_bd (t := hp.1 6) (n := n) (i := i)
  rw [linP] at hQ
  refine g_enter okX5_readLine (plainFor_of_name rfl) rfl ?_
  have k29 : (kd (hp.1 6) n i = 3 ∨ kd (hp.1 6) n i = 4 ∨ kd (hp.1 6) n i = 5) → gG mX5_readLine (d + 11) 0 0 (zQ 0 0 Q) 0 0 (29, [.ref 7, .int k, .retAddr 0], [], SH false xs, PX (RLn hp 9 ac am se ln) 9 k p m q f sp c) := by
    intro hk
    rw [if_pos hk] at hQ
    have hj := hE.2.2.2 i hi (by omega)
    refine g_run 4 rfl ?_
    refine gj_lt (kx := (ln : Int)) (kz := 16) rfl (nI_toInt (by omega)) (by decide) (fun k1 => ?_) (fun k1 => ?_)
    · rw [if_neg (by omega)] at hQ
      refine g_run 2 rfl ?_
      refine g_callV0 rfl LX5_35 rfl rfl rfl rfl ?_
      refine c_adv9 (hp := RLn hp 9 ac am se ln) (d := d + 4) hE.1 hE.2.1 hT (fun k3 p3 m3 q3 hT3 => ?_)
      refine g_run 4 rfl ?_
      rw [amtP] at hQ
      refine gj_eq (kx := kd (hp.1 6) n i) (kz := 5) rfl hT.1 (by decide) (fun k2 => ?_) (fun k2 => ?_)
      · rw [if_pos k2, if_pos rfl] at hQ
        exact rl789 hE hts hok (by omega) (by omega) (by omega) (num_of hT.1 (by omega)) (show (0 : Int32) = Int32.ofInt 0 from by decide) hT3 hQ
      · rw [if_neg k2] at hQ
        refine g_run 5 rfl ?_
        refine g_callV0 rfl LX5_58 rfl rfl rfl rfl ?_
        refine c_pA9 (hp := RLn hp 9 ac am se ln) (d := d + 2) hE.1 hE.2.1 hT3 (fun k5 k5b k6 p6 m6 q6 hT6 => ?_) (fun k5 k5b f6 hf6 => ?_) (fun k5 f6 hf6 => ?_)
        · have k5 : kd (hp.1 6) n (i + 1) = 2 := k5
          have k5b : nv (hp.1 6) n (i + 1) ≤ 9 := k5b
          have hnv := nv_bd k5
          have hj2 := hE.2.2.2 (i + 1) (by omega) (by omega)
          rw [if_pos k5, if_neg (show ¬ 9 < nv (hp.1 6) n (i + 1) from by omega), if_pos rfl] at hQ
          refine gz_ne (kx := 1) rfl (show (1 : Int32).toInt = 1 from by decide) (fun _ => ?_) (fun q => absurd q (by decide))
          exact rl789 hE hts hok (by omega) (by omega) (by omega) (num_of hT.1 (by omega)) (num_of (hT3.2.2.2 k5) (show 0 ≤ nv (hp.1 6) n (i + 1) ∧ nv (hp.1 6) n (i + 1) ≤ 10000 from by omega)) hT6 hQ
        · have k5 : kd (hp.1 6) n (i + 1) = 2 := k5
          have k5b : 9 < nv (hp.1 6) n (i + 1) := k5b
          rw [if_pos k5, if_pos k5b, if_neg (by dsimp only; omega)] at hQ
          refine gz_ne (kx := 0) rfl (show (0 : Int32).toInt = 0 from by decide) (fun q => absurd rfl q) (fun _ => ?_)
          refine g_run 1 rfl ?_
          exact g_zret rfl rfl (Or.inl rfl) (hQ.2 (by dsimp only; omega) _ _ _ _ _ _ _ hf6)
        · have k5 : ¬ kd (hp.1 6) n (i + 1) = 2 := k5
          rw [if_neg k5, if_neg (by dsimp only; omega)] at hQ
          refine gz_ne (kx := 0) rfl (show (0 : Int32).toInt = 0 from by decide) (fun q => absurd rfl q) (fun _ => ?_)
          refine g_run 1 rfl ?_
          exact g_zret rfl rfl (Or.inl rfl) (hQ.2 (by dsimp only; omega) _ _ _ _ _ _ _ hf6)
    · rw [if_pos (by omega)] at hQ
      refine g_run 2 rfl ?_
      refine g_callV0 rfl LX5_48 rfl rfl rfl rfl ?_
      refine c_wrong9 (hp := RLn hp 9 ac am se ln) (by decide : (5 : Int32).toInt = 5) (by omega) hT.2.1 (by omega) (fun f2 hf => ?_)
      exact g_zret rfl rfl (Or.inl rfl) (hQ.2 (by dsimp only; omega) _ _ _ _ _ _ _ hf)
  refine g_run 6 rfl ?_
  refine gj_eq (kx := kd (hp.1 6) n i) (kz := 3) rfl hT.1 (by decide) (fun k1 => k29 (by omega)) (fun k1 => ?_)
  refine g_run 2 rfl ?_
  refine gj_eq (kx := kd (hp.1 6) n i) (kz := 4) rfl hT.1 (by decide) (fun k2 => k29 (by omega)) (fun k2 => ?_)
  refine g_run 2 rfl ?_
  refine gj_eq (kx := kd (hp.1 6) n i) (kz := 5) rfl hT.1 (by decide) (fun k3 => k29 (by omega)) (fun k3 => ?_)
  rw [if_neg (by omega)] at hQ
  refine g_run 2 rfl ?_
  refine g_callV0 rfl LX5_48 rfl rfl rfl rfl ?_
  refine c_wrong9 (hp := RLn hp 9 ac am se ln) (by decide : (1 : Int32).toInt = 1) (by omega) hT.2.1 (by omega) (fun f2 hf => ?_)
  exact g_zret rfl rfl (Or.inl rfl) (hQ.2 (by dsimp only; omega) _ _ _ _ _ _ _ hf)
/-- the class with a text of these lines read into its spare rules -/
def TZ9 (hp : hp_T) (ls : List lt_T) (k p m q f : Int32) : hp_T := PX (RLn hp 9 (apL (hp.1 10) 0 (ls.map (fun x => x.1))) (apL (hp.1 11) 0 (ls.map (fun x => x.2.1))) (apL (hp.1 12) 0 (endsF ls 0)) ls.length) 9 k p m q f (apL (hp.1 13) 0 (flt ls)) (flt ls).length
theorem tz_s9 {ls : List lt_T} {x : lt_T} : PX (RLn hp 9 (va_up (apL (hp.1 10) 0 (ls.map (fun x => x.1))) ls.length x.1) (va_up (apL (hp.1 11) 0 (ls.map (fun x => x.2.1))) ls.length x.2.1) (va_up (apL (hp.1 12) 0 (endsF ls 0)) ls.length (nI ((flt ls).length + x.2.2.length))) (ls.length + 1)) 9 k p m q f (apL (apL (hp.1 13) 0 (flt ls)) (flt ls).length x.2.2) ((flt ls).length + x.2.2.length) = TZ9 hp (ls ++ [x]) k p m q f := by
  have e1 : apL (hp.1 13) 0 (flt (ls ++ [x])) = apL (apL (hp.1 13) 0 (flt ls)) (flt ls).length x.2.2 := by rw [flt_app, apL_app, Nat.zero_add]
  rw [TZ9, ap_1 (by simp), ap_1 (by simp), ap_1 (endsF_len ls 0), e1, flt_app, endsF_app, Nat.zero_add, List.map_append, List.map_append, List.length_append, List.length_append]
  rfl
theorem lp_tape9 {ef : Int × List lt_T} (hE : okE hp n N) (hts : ∀ (ac am se : Nat → Int32) (ln : Nat), rdC9 mX5_readTests (d + 10) (RLn hp 9 ac am se ln) xs n N 0 (tssP (kd (hp.1 6) n) (parD (kd (hp.1 6) n) (pl (hp.1 6) n) (nv (hp.1 6) n) 5))) (h1 : ef.1 = 0 → ∀ k p m q : Int32, Q (some (.int 0)) (SH false xs) (TZ9 hp ef.2 k p m q 0)) (h0 : ef.1 ≠ 0 → ∀ (k p m q f2 : Int32) (ac am se sp : Nat → Int32) (ln c : Nat), f2.toInt = ef.1 → Q (some (.int f2)) (SH false xs) (PX (RLn hp 9 ac am se ln) 9 k p m q f2 sp c)) : ∀ (fu i : Nat) (ls : List lt_T) (cn k p m q : Int32), cn.toInt = 17 - (fu : Int) → ls.length + fu = 17 → i ≤ N → (flt ls).length ≤ i → ls.length ≤ 16 → tkA (hp.1 6) n k p m q i → txtL (kd (hp.1 6) n) (pl (hp.1 6) n) (nv (hp.1 6) n) (tssP (kd (hp.1 6) n) (parD (kd (hp.1 6) n) (pl (hp.1 6) n) (nv (hp.1 6) n) 5)) fu i ls = ef → gG mX5_readTape (d + 12) 0 0 (zQ 0 0 Q) 0 0 (28, [.ref 7, .int cn], [], SH false xs, TZ9 hp ls k p m q 0) := by
  intro fu
  induction fu with
  | zero => intro i ls cn k p m q cE hl; intros; omega
  | succ fu ih =>
    intro i ls cn k p m q cE hl hi hfl hl6 hT hR
    rw [txtL] at hR
    refine g_run 2 rfl ?_
    refine gj_gt (kx := cn.toInt) (kz := 16) rfl rfl (by decide) (fun k1 => by exfalso; omega) (fun k1 => ?_)
    refine g_run 3 rfl ?_
    refine gz_eq (kx := kd (hp.1 6) n i) rfl hT.1 (fun k2 => ?_) (fun k2 => ?_)
    · rw [if_pos k2] at hR
      subst hR
      refine g_run 2 rfl ?_
      exact g_iret rfl rfl (h1 rfl k p m q)
    · rw [if_neg k2] at hR
      refine g_run 1 rfl ?_
      refine g_callV0 rfl LX5_41 rfl rfl rfl rfl ?_
      refine c_line9 (hp := hp) hE (hts _ _ _ _) (okR_tss hE.2.2.2 (okR_parD hE.2.2.2 5)) hi hfl hl6 hT ⟨fun r0 k3 p3 m3 q3 hT3 => ?_, fun r1 k3 p3 m3 q3 f3 sp3 c3 hf3 => ?_⟩
      · rw [if_pos r0] at hR
        obtain ⟨o1, o2, o3, o4⟩ := okR_lin hE.2.2.2 (okR_tss hE.2.2.2 (okR_parD hE.2.2.2 5)) hi r0
        refine gz_ne (kx := 1) rfl (show (1 : Int32).toInt = 1 from by decide) (fun _ => ?_) (fun q => absurd q (by decide))
        refine g_run 2 rfl ?_
        rw [tz_s9]
        exact ih _ _ _ k3 p3 m3 q3 ((ia_add2 rfl (by decide : (1 : Int32).toInt = 1) (by omega) (by omega)).trans (by omega)) (by rw [List.length_append, List.length_cons, List.length_nil]; omega) o2 (by rw [flt_app, List.length_append]; omega) (by rw [List.length_append, List.length_cons, List.length_nil]; omega) hT3 hR
      · rw [if_neg r1] at hR
        subst hR
        refine gz_ne (kx := 0) rfl (show (0 : Int32).toInt = 0 from by decide) (fun q => absurd rfl q) (fun _ => ?_)
        refine g_run 2 rfl ?_
        exact g_iret rfl rfl (h0 r1 _ _ _ _ _ _ _ _ _ _ _ hf3)
theorem tz_09 : PX (RLn hp 9 (hp.1 10) (hp.1 11) (hp.1 12) 0) 9 k p m q 0 (hp.1 13) 0 = TX (sI (sI (sI hp 9 0 0) 9 5 0) 7 2 0) k p m q := by
  refine two_ext (fun z i => ?_) rfl
  by_cases h0 : z = 8
  · subst h0; simp [PX, RLn, TX, PY, sI, sR, va_up]
  · by_cases h1 : z = 9
    · subst h1; by_cases hi : i = 0
      · subst hi; simp [PX, RLn, TX, PY, sI, sR, va_up, nI_0]
      · by_cases hj : i = 5 <;> simp [PX, RLn, TX, PY, sI, sR, va_up, hi, hj, nI_0]
    · by_cases h2 : z = 10
      · subst h2; simp [PX, RLn, TX, PY, sI, sR, va_up]
      · by_cases h3 : z = 11
        · subst h3; simp [PX, RLn, TX, PY, sI, sR, va_up]
        · by_cases h4 : z = 12
          · subst h4; simp [PX, RLn, TX, PY, sI, sR, va_up]
          · by_cases h5 : z = 13
            · subst h5; simp [PX, RLn, TX, PY, sI, sR, va_up]
            · simp [PX, RLn, TX, PY, sI, sR, va_up, h0, h1, h2, h3, h4, h5]
theorem c_tape9 (hE : okE hp n N) (h1 : (txtP (hp.1 6) n).1 = 0 → ∀ k p m q : Int32, Q (some (.int 0)) (SH false xs) (TZ9 hp (txtP (hp.1 6) n).2 k p m q 0)) (h0 : (txtP (hp.1 6) n).1 ≠ 0 → ∀ (k p m q f2 : Int32) (ac am se sp : Nat → Int32) (ln c : Nat), f2.toInt = (txtP (hp.1 6) n).1 → Q (some (.int f2)) (SH false xs) (PX (RLn hp 9 ac am se ln) 9 k p m q f2 sp c)) : gC mX5_readTape (d + 32) 0 0 [.ref 7] (SH false xs) hp Q := by
  refine g_enter okX5_readTape (plainFor_of_name rfl) rfl ?_
  refine g_run 2 rfl ?_
  refine g_callV0 rfl LX5_29 rfl rfl rfl rfl ?_
  refine g_enter okX6_clear (plainFor_of_name rfl) rfl ?_
  refine g_run 6 rfl ?_
  refine g_vret rfl rfl ?_
  refine g_run 5 rfl ?_
  refine g_callV0 rfl LX5_32 rfl rfl rfl rfl ?_
  refine gC_hp tx_id.symm ?_
  refine c_X8_begin ?_
  refine g_run 2 rfl ?_
  refine g_callV0 rfl LX5_35 rfl rfl rfl rfl ?_
  refine c_X8_advance (d := d + 25) (hp := sI (sI (sI hp 9 0 0) 9 5 0) 7 2 0) (n := n) (k := 0) (p := 0) (m := 0) (q := 0) (e := 0) hE.1 hE.2.1 (show (0 : Int32).toInt = ((0 : Nat) : Int) from by decide) (Nat.zero_le n) (fun k2 p2 m2 q2 a1 a2 a3 a4 => ?_)
  refine g_run 2 rfl ?_
  refine gG_hp (h2 := TZ9 hp [] k2 p2 m2 q2 0) (tz_09 (hp := hp)).symm ?_
  refine lp_tape9 (d := d + 20) (ef := txtP (hp.1 6) n) hE (fun ac am se ln => ?_) h1 h0 17 0 [] 0 k2 p2 m2 q2 (by decide) (by simp) (by omega) (by simp [flt]) (by simp) ⟨a1, a2, a3, a4⟩ rfl
  exact rd_tss9 (hp := RLn hp 9 ac am se ln) (d := d + 20) hE (rd_parD9 (hp := RLn hp 9 ac am se ln) (d := d) hE 5 0 (by omega) (by decide)) (okR_parD hE.2.2.2 5)
theorem c_text9 (hE : okE hp n N) (h1 : (txtP (hp.1 6) n).1 = 0 → ∀ k p m q : Int32, Q (some (.int 0)) (SH true xs) (sI (TZ9 hp (txtP (hp.1 6) n).2 k p m q 0) 5 1 0)) (h0 : (txtP (hp.1 6) n).1 ≠ 0 → ∀ (k p m q f2 : Int32) (ac am se sp : Nat → Int32) (ln c : Nat), f2.toInt = (txtP (hp.1 6) n).1 → Q (some (.int f2)) (SH false xs) (sI (PX (RLn hp 9 ac am se ln) 9 k p m q f2 sp c) 5 1 0)) : gC mX9_text (d + 33) 0 0 [.ref 0] (SH false xs) hp Q := by
  refine g_enter okX9_text (plainFor_of_name rfl) rfl ?_
  refine g_run 2 rfl ?_
  refine g_callV0 rfl LX9_104 rfl rfl rfl rfl ?_
  refine c_tape9 hE (fun r0 k p m q => ?_) (fun r1 k p m q f2 ac am se sp ln c hf => ?_)
  · refine g_run 6 rfl ?_
    refine gz_ne (kx := 0) rfl (show (0 : Int32).toInt = 0 from by decide) (fun q => absurd rfl q) (fun _ => ?_)
    refine g_run 5 rfl ?_
    refine g_callV0 rfl LX9_108 rfl rfl rfl rfl ?_
    refine g_enter okX5_exchange (plainFor_of_name rfl) rfl ?_
    refine g_run 5 rfl ?_
    refine g_putR (ty := .object "RoastHouse$Rules") rfl rfl rfl (Or.inl rfl) (by decide +kernel) (fun E => rfl) (fun E => rfl) (by decide) ?_
    refine g_run 1 rfl ?_
    refine g_aret rfl rfl ?_
    refine g_putR (ty := .object "RoastHouse$Rules") rfl rfl rfl (Or.inl rfl) (by decide +kernel) (fun E => rfl) (fun E => rfl) (by decide) ?_
    refine g_run 1 rfl ?_
    exact g_iret rfl rfl (h1 r0 k p m q)
  · refine g_run 6 rfl ?_
    refine gz_ne (kx := (txtP (hp.1 6) n).1) rfl hf (fun _ => ?_) (fun q => absurd q r1)
    refine g_run 1 rfl ?_
    exact g_iret rfl rfl (h0 r1 k p m q f2 ac am se sp ln c hf)
end S43_9
section S43_37
variable {d : Nat} {hp : hp_T} {Q : Option Value → sh_T → hp_T → Prop} {xs : sh_T} {k p m q f : Int32} {sp ac am se : Nat → Int32} {c n N ln : Nat}
theorem rl_e37 {a v : Int32} : sI (sI (sI (sI (PX (RLn hp 37 ac am se ln) 37 k p m q f sp c) 38 ln a) 39 ln v) 40 ln (nI c)) 37 0 (nI ln + 1) = PX (RLn hp 37 (va_up ac ln a) (va_up am ln v) (va_up se ln (nI c)) (ln + 1)) 37 k p m q f sp c := by
  rw [nI_1]
  refine two_ext (fun z i => ?_) rfl
  by_cases h1 : z = 37
  · subst h1; by_cases hi : i = 0
    · subst hi; simp [PX, RLn, TX, PY, sI, sR, va_up]
    · simp [PX, RLn, TX, PY, sI, sR, va_up, hi]
  · by_cases h2 : z = 38
    · subst h2; simp [PX, RLn, TX, PY, sI, sR, va_up]
    · by_cases h3 : z = 39
      · subst h3; simp [PX, RLn, TX, PY, sI, sR, va_up]
      · by_cases h4 : z = 40
        · subst h4; simp [PX, RLn, TX, PY, sI, sR, va_up]
        · simp [PX, RLn, TX, PY, sI, sR, va_up, h1, h2, h3, h4]
theorem c_end37 {a v : Int32} (hl : ln < 16) (h1 : Q none (SH true xs) (PX (RLn hp 37 (va_up ac ln a) (va_up am ln v) (va_up se ln (nI c)) (ln + 1)) 37 k p m q f sp c)) : gC mX6_endLine d 0 0 [.ref 37, .int a, .int v] (SH true xs) (PX (RLn hp 37 ac am se ln) 37 k p m q f sp c) Q := by
  refine g_enter okX6_endLine (plainFor_of_name rfl) rfl ?_
  refine g_run 3 rfl ?_
  refine gj_ge (kx := (ln : Int)) (kz := 16) rfl (nI_toInt (by omega)) (by decide) (fun k1 => by exfalso; omega) (fun _ => ?_)
  refine g_run 5 rfl ?_
  refine g_iast (j := ln) rfl rfl (nI_toInt (by omega)) (by omega) ?_
  refine g_run 5 rfl ?_
  refine g_iast (j := ln) rfl rfl (nI_toInt (by omega)) (by omega) ?_
  refine g_run 6 rfl ?_
  refine g_iast (j := ln) rfl rfl (nI_toInt (by omega)) (by omega) ?_
  refine g_run 6 rfl ?_
  refine gG_hp rl_e37 ?_
  exact g_vret rfl rfl h1
theorem c_pA37 {j : Nat} (hn : (hp.1 5 1).toInt = (n : Int)) (hn6 : n ≤ 600) (hT : tkA (hp.1 6) n k p m q j) (h1 : kd (hp.1 6) n j = 2 → nv (hp.1 6) n j ≤ 9 → ∀ k2 p2 m2 q2 : Int32, tkA (hp.1 6) n k2 p2 m2 q2 (j + 1) → Q (some (.int 1)) (SH true xs) (PX hp 37 k2 p2 m2 q2 f sp c)) (h4 : kd (hp.1 6) n j = 2 → 9 < nv (hp.1 6) n j → ∀ f2 : Int32, f2.toInt = 4 + 16 * (pl (hp.1 6) n j : Int) → Q (some (.int 0)) (SH true xs) (PX hp 37 k p m q f2 sp c)) (h0 : kd (hp.1 6) n j ≠ 2 → ∀ f2 : Int32, f2.toInt = 1 + 16 * (pl (hp.1 6) n j : Int) → Q (some (.int 0)) (SH true xs) (PX hp 37 k p m q f2 sp c)) : gC mX5_passAmount (d + 8) 0 0 [.ref 7] (SH true xs) (PX hp 37 k p m q f sp c) Q := by
  have hpl := pl_le (t := hp.1 6) (n := n) (i := j)
  refine g_enter okX5_passAmount (plainFor_of_name rfl) rfl ?_
  have k29 : (kd (hp.1 6) n j = 2 → nv (hp.1 6) n j ≤ 9) → gG mX5_passAmount (d + 8) 0 0 (zQ 0 0 Q) 0 0 (29, [.ref 7], [], SH true xs, PX hp 37 k p m q f sp c) := by
    intro hh
    refine g_run 2 rfl ?_
    refine g_callV0 rfl LX5_61 rfl rfl rfl rfl ?_
    refine c_pass37 (by decide : (2 : Int32).toInt = 2) hn hn6 hT (fun k5 k6 p6 m6 q6 hT6 => ?_) (fun k5 f6 hf6 => ?_)
    · exact g_zret rfl rfl (Or.inr rfl) (h1 k5 (hh k5) k6 p6 m6 q6 hT6)
    · exact g_zret rfl rfl (Or.inl rfl) (h0 k5 f6 hf6)
  refine g_run 4 rfl ?_
  refine gj_ne (kx := kd (hp.1 6) n j) (kz := 2) rfl hT.1 (by decide) (fun k1 => k29 (fun q => absurd q k1)) (fun k1 => ?_)
  refine g_run 4 rfl ?_
  refine gj_le (kx := nv (hp.1 6) n j) (kz := 9) rfl (hT.2.2.2 k1) (by decide) (fun k2 => k29 (fun _ => k2)) (fun k2 => ?_)
  refine g_run 2 rfl ?_
  refine g_callV0 rfl LX5_48 rfl rfl rfl rfl ?_
  refine c_wrong37 (by decide : (4 : Int32).toInt = 4) (by omega) hT.2.1 (by omega) (fun f2 hf => ?_)
  exact g_zret rfl rfl (Or.inl rfl) (h4 k1 k2 f2 hf)
/-- what is wanted behind a line -/
def rlP37 (hp : hp_T) (xs : sh_T) (n : Nat) (r : Int × Nat × lt_T) (f : Int32) (ac am se sp : Nat → Int32) (ln c : Nat) (Q : Option Value → sh_T → hp_T → Prop) : Prop :=
  (r.1 = 0 → ∀ k p m q : Int32, tkA (hp.1 6) n k p m q r.2.1 → Q (some (.int 1)) (SH true xs) (PX (RLn hp 37 (va_up ac ln r.2.2.1) (va_up am ln r.2.2.2.1) (va_up se ln (nI (c + r.2.2.2.2.length))) (ln + 1)) 37 k p m q f (apL sp c r.2.2.2.2) (c + r.2.2.2.2.length))) ∧ (r.1 ≠ 0 → ∀ (k p m q f2 : Int32) (sp2 : Nat → Int32) (c2 : Nat), f2.toInt = r.1 → Q (some (.int 0)) (SH true xs) (PX (RLn hp 37 ac am se ln) 37 k p m q f2 sp2 c2))
theorem rl7837 {tss : Nat → pr_T} {j : Nat} {a v : Int32} {aI vI : Int} (hE : okE hp n N) (hts : rdC37 mX5_readTests (d + 10) (RLn hp 37 ac am se ln) xs n N 0 tss) (hok : okR N tss) (hj : j ≤ N) (hc : c ≤ j) (hl : ln < 16) (aE : a = Int32.ofInt aI) (vE : v = Int32.ofInt vI) (hT : tkA (hp.1 6) n k p m q j) (hQ : rlP37 hp xs n (lin2 (kd (hp.1 6) n) (pl (hp.1 6) n) tss j aI vI) f ac am se sp ln c Q) : gG mX5_readLine (d + 11) 0 0 (zQ 0 0 Q) 0 0 (78, [.ref 7, .int a, .int v], [], SH true xs, PX (RLn hp 37 ac am se ln) 37 k p m q f sp c) := by
  subst aE
  subst vE
  rw [lin2] at hQ
  refine g_run 2 rfl ?_
  refine g_callV0 rfl LX5_61 rfl rfl rfl rfl ?_
  refine c_pass37 (hp := RLn hp 37 ac am se ln) (d := d + 3) (by decide : (6 : Int32).toInt = 6) hE.1 hE.2.1 hT (fun k5 k6 p6 m6 q6 hT6 => ?_) (fun k5 f6 hf6 => ?_)
  · have k5 : kd (hp.1 6) n j = 6 := k5
    rw [if_pos k5] at hQ
    have hj2 := hE.2.2.2 j hj (by omega)
    refine gz_eq (kx := 1) rfl (show (1 : Int32).toInt = 1 from by decide) (fun q => absurd q (by decide)) (fun _ => ?_)
    refine g_run 2 rfl ?_
    refine g_callV0 rfl LX5_64 rfl rfl rfl rfl ?_
    refine hts _ (j + 1) k6 p6 m6 q6 f sp c (by omega) (by omega) hT6 ⟨fun r0 k4 p4 m4 q4 hT4 => ?_, fun r1 k4 p4 m4 q4 f4 sp4 c4 hf4 => ?_⟩
    · rw [if_pos r0] at hQ
      obtain ⟨o1, o2, o3⟩ := hok (j + 1) (by omega) r0
      refine gz_eq (kx := 1) rfl (show (1 : Int32).toInt = 1 from by decide) (fun q => absurd q (by decide)) (fun _ => ?_)
      refine g_run 2 rfl ?_
      refine g_callV0 rfl LX5_61 rfl rfl rfl rfl ?_
      refine c_pass37 (hp := RLn hp 37 ac am se ln) (d := d + 3) (by decide : (19 : Int32).toInt = 19) hE.1 hE.2.1 hT4 (fun k7 k8 p8 m8 q8 hT8 => ?_) (fun k7 f8 hf8 => ?_)
      · have k7 : kd (hp.1 6) n (tss (j + 1)).2.1 = 19 := k7
        rw [if_pos k7] at hQ
        refine gz_ne (kx := 1) rfl (show (1 : Int32).toInt = 1 from by decide) (fun _ => ?_) (fun q => absurd q (by decide))
        refine g_run 4 rfl ?_
        refine g_callV0 rfl LX5_67 rfl rfl rfl rfl ?_
        refine c_end37 hl ?_
        refine g_run 1 rfl ?_
        exact g_zret rfl rfl (Or.inr rfl) (hQ.1 rfl k8 p8 m8 q8 hT8)
      · have k7 : ¬ kd (hp.1 6) n (tss (j + 1)).2.1 = 19 := k7
        rw [if_neg k7] at hQ
        refine gz_ne (kx := 0) rfl (show (0 : Int32).toInt = 0 from by decide) (fun q => absurd rfl q) (fun _ => ?_)
        refine g_run 1 rfl ?_
        exact g_zret rfl rfl (Or.inl rfl) (hQ.2 (by dsimp only; omega) _ _ _ _ _ _ _ hf8)
    · rw [if_neg r1] at hQ
      refine gz_eq (kx := 0) rfl (show (0 : Int32).toInt = 0 from by decide) (fun _ => ?_) (fun q => absurd rfl q)
      refine g_run 1 rfl ?_
      exact g_zret rfl rfl (Or.inl rfl) (hQ.2 r1 _ _ _ _ _ _ _ hf4)
  · have k5 : ¬ kd (hp.1 6) n j = 6 := k5
    rw [if_neg k5] at hQ
    refine gz_eq (kx := 0) rfl (show (0 : Int32).toInt = 0 from by decide) (fun _ => ?_) (fun q => absurd rfl q)
    refine g_run 1 rfl ?_
    exact g_zret rfl rfl (Or.inl rfl) (hQ.2 (by dsimp only; omega) _ _ _ _ _ _ _ hf6)
theorem c_line37 {tss : Nat → pr_T} {i : Nat} (hE : okE hp n N) (hts : rdC37 mX5_readTests (d + 10) (RLn hp 37 ac am se ln) xs n N 0 tss) (hok : okR N tss) (hi : i ≤ N) (hc : c ≤ i) (hl : ln ≤ 16) (hT : tkA (hp.1 6) n k p m q i) (hQ : rlP37 hp xs n (linP (kd (hp.1 6) n) (pl (hp.1 6) n) (nv (hp.1 6) n) tss i ln) f ac am se sp ln c Q) : gC mX5_readLine (d + 11) 0 0 [.ref 7] (SH true xs) (PX (RLn hp 37 ac am se ln) 37 k p m q f sp c) Q := by
  have hpl := pl_le (t := hp.1 6) (n := n) (i := i)
  have hn6 := hE.2.1
  have hK := kd_bd (t := hp.1 6) (n := n) (i := i)
  rw [linP] at hQ
  refine g_enter okX5_readLine (plainFor_of_name rfl) rfl ?_
  have k29 : (kd (hp.1 6) n i = 3 ∨ kd (hp.1 6) n i = 4 ∨ kd (hp.1 6) n i = 5) → gG mX5_readLine (d + 11) 0 0 (zQ 0 0 Q) 0 0 (29, [.ref 7, .int k, .retAddr 0], [], SH true xs, PX (RLn hp 37 ac am se ln) 37 k p m q f sp c) := by
    intro hk
    rw [if_pos hk] at hQ
    have hj := hE.2.2.2 i hi (by omega)
    refine g_run 4 rfl ?_
    refine gj_lt (kx := (ln : Int)) (kz := 16) rfl (nI_toInt (by omega)) (by decide) (fun k1 => ?_) (fun k1 => ?_)
    · rw [if_neg (by omega)] at hQ
      refine g_run 2 rfl ?_
      refine g_callV0 rfl LX5_35 rfl rfl rfl rfl ?_
      refine c_adv37 (hp := RLn hp 37 ac am se ln) (d := d + 4) hE.1 hE.2.1 hT (fun k3 p3 m3 q3 hT3 => ?_)
      refine g_run 4 rfl ?_
      rw [amtP] at hQ
      refine gj_eq (kx := kd (hp.1 6) n i) (kz := 5) rfl hT.1 (by decide) (fun k2 => ?_) (fun k2 => ?_)
      · rw [if_pos k2, if_pos rfl] at hQ
        exact rl7837 hE hts hok (by omega) (by omega) (by omega) (num_of hT.1 (by omega)) (show (0 : Int32) = Int32.ofInt 0 from by decide) hT3 hQ
      · rw [if_neg k2] at hQ
        refine g_run 5 rfl ?_
        refine g_callV0 rfl LX5_58 rfl rfl rfl rfl ?_
        refine c_pA37 (hp := RLn hp 37 ac am se ln) (d := d + 2) hE.1 hE.2.1 hT3 (fun k5 k5b k6 p6 m6 q6 hT6 => ?_) (fun k5 k5b f6 hf6 => ?_) (fun k5 f6 hf6 => ?_)
        · have k5 : kd (hp.1 6) n (i + 1) = 2 := k5
          have k5b : nv (hp.1 6) n (i + 1) ≤ 9 := k5b
          have hnv := nv_bd k5
          have hj2 := hE.2.2.2 (i + 1) (by omega) (by omega)
          rw [if_pos k5, if_neg (show ¬ 9 < nv (hp.1 6) n (i + 1) from by omega), if_pos rfl] at hQ
          refine gz_ne (kx := 1) rfl (show (1 : Int32).toInt = 1 from by decide) (fun _ => ?_) (fun q => absurd q (by decide))
          exact rl7837 hE hts hok (by omega) (by omega) (by omega) (num_of hT.1 (by omega)) (num_of (hT3.2.2.2 k5) (show 0 ≤ nv (hp.1 6) n (i + 1) ∧ nv (hp.1 6) n (i + 1) ≤ 10000 from by omega)) hT6 hQ
        · have k5 : kd (hp.1 6) n (i + 1) = 2 := k5
          have k5b : 9 < nv (hp.1 6) n (i + 1) := k5b
          rw [if_pos k5, if_pos k5b, if_neg (by dsimp only; omega)] at hQ
          refine gz_ne (kx := 0) rfl (show (0 : Int32).toInt = 0 from by decide) (fun q => absurd rfl q) (fun _ => ?_)
          refine g_run 1 rfl ?_
          exact g_zret rfl rfl (Or.inl rfl) (hQ.2 (by dsimp only; omega) _ _ _ _ _ _ _ hf6)
        · have k5 : ¬ kd (hp.1 6) n (i + 1) = 2 := k5
          rw [if_neg k5, if_neg (by dsimp only; omega)] at hQ
          refine gz_ne (kx := 0) rfl (show (0 : Int32).toInt = 0 from by decide) (fun q => absurd rfl q) (fun _ => ?_)
          refine g_run 1 rfl ?_
          exact g_zret rfl rfl (Or.inl rfl) (hQ.2 (by dsimp only; omega) _ _ _ _ _ _ _ hf6)
    · rw [if_pos (by omega)] at hQ
      refine g_run 2 rfl ?_
      refine g_callV0 rfl LX5_48 rfl rfl rfl rfl ?_
      refine c_wrong37 (hp := RLn hp 37 ac am se ln) (by decide : (5 : Int32).toInt = 5) (by omega) hT.2.1 (by omega) (fun f2 hf => ?_)
      exact g_zret rfl rfl (Or.inl rfl) (hQ.2 (by dsimp only; omega) _ _ _ _ _ _ _ hf)
  refine g_run 6 rfl ?_
  refine gj_eq (kx := kd (hp.1 6) n i) (kz := 3) rfl hT.1 (by decide) (fun k1 => k29 (by omega)) (fun k1 => ?_)
  refine g_run 2 rfl ?_
  refine gj_eq (kx := kd (hp.1 6) n i) (kz := 4) rfl hT.1 (by decide) (fun k2 => k29 (by omega)) (fun k2 => ?_)
  refine g_run 2 rfl ?_
  refine gj_eq (kx := kd (hp.1 6) n i) (kz := 5) rfl hT.1 (by decide) (fun k3 => k29 (by omega)) (fun k3 => ?_)
  rw [if_neg (by omega)] at hQ
  refine g_run 2 rfl ?_
  refine g_callV0 rfl LX5_48 rfl rfl rfl rfl ?_
  refine c_wrong37 (hp := RLn hp 37 ac am se ln) (by decide : (1 : Int32).toInt = 1) (by omega) hT.2.1 (by omega) (fun f2 hf => ?_)
  exact g_zret rfl rfl (Or.inl rfl) (hQ.2 (by dsimp only; omega) _ _ _ _ _ _ _ hf)
/-- the class with a text of these lines read into its spare rules -/
def TZ37 (hp : hp_T) (ls : List lt_T) (k p m q f : Int32) : hp_T := PX (RLn hp 37 (apL (hp.1 38) 0 (ls.map (fun x => x.1))) (apL (hp.1 39) 0 (ls.map (fun x => x.2.1))) (apL (hp.1 40) 0 (endsF ls 0)) ls.length) 37 k p m q f (apL (hp.1 41) 0 (flt ls)) (flt ls).length
theorem tz_s37 {ls : List lt_T} {x : lt_T} : PX (RLn hp 37 (va_up (apL (hp.1 38) 0 (ls.map (fun x => x.1))) ls.length x.1) (va_up (apL (hp.1 39) 0 (ls.map (fun x => x.2.1))) ls.length x.2.1) (va_up (apL (hp.1 40) 0 (endsF ls 0)) ls.length (nI ((flt ls).length + x.2.2.length))) (ls.length + 1)) 37 k p m q f (apL (apL (hp.1 41) 0 (flt ls)) (flt ls).length x.2.2) ((flt ls).length + x.2.2.length) = TZ37 hp (ls ++ [x]) k p m q f := by
  have e1 : apL (hp.1 41) 0 (flt (ls ++ [x])) = apL (apL (hp.1 41) 0 (flt ls)) (flt ls).length x.2.2 := by rw [flt_app, apL_app, Nat.zero_add]
  rw [TZ37, ap_1 (by simp), ap_1 (by simp), ap_1 (endsF_len ls 0), e1, flt_app, endsF_app, Nat.zero_add, List.map_append, List.map_append, List.length_append, List.length_append]
  rfl
theorem lp_tape37 {ef : Int × List lt_T} (hE : okE hp n N) (hts : ∀ (ac am se : Nat → Int32) (ln : Nat), rdC37 mX5_readTests (d + 10) (RLn hp 37 ac am se ln) xs n N 0 (tssP (kd (hp.1 6) n) (parD (kd (hp.1 6) n) (pl (hp.1 6) n) (nv (hp.1 6) n) 5))) (h1 : ef.1 = 0 → ∀ k p m q : Int32, Q (some (.int 0)) (SH true xs) (TZ37 hp ef.2 k p m q 0)) (h0 : ef.1 ≠ 0 → ∀ (k p m q f2 : Int32) (ac am se sp : Nat → Int32) (ln c : Nat), f2.toInt = ef.1 → Q (some (.int f2)) (SH true xs) (PX (RLn hp 37 ac am se ln) 37 k p m q f2 sp c)) : ∀ (fu i : Nat) (ls : List lt_T) (cn k p m q : Int32), cn.toInt = 17 - (fu : Int) → ls.length + fu = 17 → i ≤ N → (flt ls).length ≤ i → ls.length ≤ 16 → tkA (hp.1 6) n k p m q i → txtL (kd (hp.1 6) n) (pl (hp.1 6) n) (nv (hp.1 6) n) (tssP (kd (hp.1 6) n) (parD (kd (hp.1 6) n) (pl (hp.1 6) n) (nv (hp.1 6) n) 5)) fu i ls = ef → gG mX5_readTape (d + 12) 0 0 (zQ 0 0 Q) 0 0 (28, [.ref 7, .int cn], [], SH true xs, TZ37 hp ls k p m q 0) := by
  intro fu
  induction fu with
  | zero => intro i ls cn k p m q cE hl; intros; omega
  | succ fu ih =>
    intro i ls cn k p m q cE hl hi hfl hl6 hT hR
    rw [txtL] at hR
    refine g_run 2 rfl ?_
    refine gj_gt (kx := cn.toInt) (kz := 16) rfl rfl (by decide) (fun k1 => by exfalso; omega) (fun k1 => ?_)
    refine g_run 3 rfl ?_
    refine gz_eq (kx := kd (hp.1 6) n i) rfl hT.1 (fun k2 => ?_) (fun k2 => ?_)
    · rw [if_pos k2] at hR
      subst hR
      refine g_run 2 rfl ?_
      exact g_iret rfl rfl (h1 rfl k p m q)
    · rw [if_neg k2] at hR
      refine g_run 1 rfl ?_
      refine g_callV0 rfl LX5_41 rfl rfl rfl rfl ?_
      refine c_line37 (hp := hp) hE (hts _ _ _ _) (okR_tss hE.2.2.2 (okR_parD hE.2.2.2 5)) hi hfl hl6 hT ⟨fun r0 k3 p3 m3 q3 hT3 => ?_, fun r1 k3 p3 m3 q3 f3 sp3 c3 hf3 => ?_⟩
      · rw [if_pos r0] at hR
        obtain ⟨o1, o2, o3, o4⟩ := okR_lin hE.2.2.2 (okR_tss hE.2.2.2 (okR_parD hE.2.2.2 5)) hi r0
        refine gz_ne (kx := 1) rfl (show (1 : Int32).toInt = 1 from by decide) (fun _ => ?_) (fun q => absurd q (by decide))
        refine g_run 2 rfl ?_
        rw [tz_s37]
        exact ih _ _ _ k3 p3 m3 q3 ((ia_add2 rfl (by decide : (1 : Int32).toInt = 1) (by omega) (by omega)).trans (by omega)) (by rw [List.length_append, List.length_cons, List.length_nil]; omega) o2 (by rw [flt_app, List.length_append]; omega) (by rw [List.length_append, List.length_cons, List.length_nil]; omega) hT3 hR
      · rw [if_neg r1] at hR
        subst hR
        refine gz_ne (kx := 0) rfl (show (0 : Int32).toInt = 0 from by decide) (fun q => absurd rfl q) (fun _ => ?_)
        refine g_run 2 rfl ?_
        exact g_iret rfl rfl (h0 r1 _ _ _ _ _ _ _ _ _ _ _ hf3)
theorem tz_037 : PX (RLn hp 37 (hp.1 38) (hp.1 39) (hp.1 40) 0) 37 k p m q 0 (hp.1 41) 0 = TX (sI (sI (sI hp 37 0 0) 37 5 0) 7 2 0) k p m q := by
  refine two_ext (fun z i => ?_) rfl
  by_cases h0 : z = 8
  · subst h0; simp [PX, RLn, TX, PY, sI, sR, va_up]
  · by_cases h1 : z = 37
    · subst h1; by_cases hi : i = 0
      · subst hi; simp [PX, RLn, TX, PY, sI, sR, va_up, nI_0]
      · by_cases hj : i = 5 <;> simp [PX, RLn, TX, PY, sI, sR, va_up, hi, hj, nI_0]
    · by_cases h2 : z = 38
      · subst h2; simp [PX, RLn, TX, PY, sI, sR, va_up]
      · by_cases h3 : z = 39
        · subst h3; simp [PX, RLn, TX, PY, sI, sR, va_up]
        · by_cases h4 : z = 40
          · subst h4; simp [PX, RLn, TX, PY, sI, sR, va_up]
          · by_cases h5 : z = 41
            · subst h5; simp [PX, RLn, TX, PY, sI, sR, va_up]
            · simp [PX, RLn, TX, PY, sI, sR, va_up, h0, h1, h2, h3, h4, h5]
theorem c_tape37 (hE : okE hp n N) (h1 : (txtP (hp.1 6) n).1 = 0 → ∀ k p m q : Int32, Q (some (.int 0)) (SH true xs) (TZ37 hp (txtP (hp.1 6) n).2 k p m q 0)) (h0 : (txtP (hp.1 6) n).1 ≠ 0 → ∀ (k p m q f2 : Int32) (ac am se sp : Nat → Int32) (ln c : Nat), f2.toInt = (txtP (hp.1 6) n).1 → Q (some (.int f2)) (SH true xs) (PX (RLn hp 37 ac am se ln) 37 k p m q f2 sp c)) : gC mX5_readTape (d + 32) 0 0 [.ref 7] (SH true xs) hp Q := by
  refine g_enter okX5_readTape (plainFor_of_name rfl) rfl ?_
  refine g_run 2 rfl ?_
  refine g_callV0 rfl LX5_29 rfl rfl rfl rfl ?_
  refine g_enter okX6_clear (plainFor_of_name rfl) rfl ?_
  refine g_run 6 rfl ?_
  refine g_vret rfl rfl ?_
  refine g_run 5 rfl ?_
  refine g_callV0 rfl LX5_32 rfl rfl rfl rfl ?_
  refine gC_hp tx_id.symm ?_
  refine c_X8_begin ?_
  refine g_run 2 rfl ?_
  refine g_callV0 rfl LX5_35 rfl rfl rfl rfl ?_
  refine c_X8_advance (d := d + 25) (hp := sI (sI (sI hp 37 0 0) 37 5 0) 7 2 0) (n := n) (k := 0) (p := 0) (m := 0) (q := 0) (e := 0) hE.1 hE.2.1 (show (0 : Int32).toInt = ((0 : Nat) : Int) from by decide) (Nat.zero_le n) (fun k2 p2 m2 q2 a1 a2 a3 a4 => ?_)
  refine g_run 2 rfl ?_
  refine gG_hp (h2 := TZ37 hp [] k2 p2 m2 q2 0) (tz_037 (hp := hp)).symm ?_
  refine lp_tape37 (d := d + 20) (ef := txtP (hp.1 6) n) hE (fun ac am se ln => ?_) h1 h0 17 0 [] 0 k2 p2 m2 q2 (by decide) (by simp) (by omega) (by simp [flt]) (by simp) ⟨a1, a2, a3, a4⟩ rfl
  exact rd_tss37 (hp := RLn hp 37 ac am se ln) (d := d + 20) hE (rd_parD37 (hp := RLn hp 37 ac am se ln) (d := d) hE 5 0 (by omega) (by decide)) (okR_parD hE.2.2.2 5)
theorem c_text37 (hE : okE hp n N) (h1 : (txtP (hp.1 6) n).1 = 0 → ∀ k p m q : Int32, Q (some (.int 0)) (SH false xs) (sI (TZ37 hp (txtP (hp.1 6) n).2 k p m q 0) 5 1 0)) (h0 : (txtP (hp.1 6) n).1 ≠ 0 → ∀ (k p m q f2 : Int32) (ac am se sp : Nat → Int32) (ln c : Nat), f2.toInt = (txtP (hp.1 6) n).1 → Q (some (.int f2)) (SH true xs) (sI (PX (RLn hp 37 ac am se ln) 37 k p m q f2 sp c) 5 1 0)) : gC mX9_text (d + 33) 0 0 [.ref 0] (SH true xs) hp Q := by
  refine g_enter okX9_text (plainFor_of_name rfl) rfl ?_
  refine g_run 2 rfl ?_
  refine g_callV0 rfl LX9_104 rfl rfl rfl rfl ?_
  refine c_tape37 hE (fun r0 k p m q => ?_) (fun r1 k p m q f2 ac am se sp ln c hf => ?_)
  · refine g_run 6 rfl ?_
    refine gz_ne (kx := 0) rfl (show (0 : Int32).toInt = 0 from by decide) (fun q => absurd rfl q) (fun _ => ?_)
    refine g_run 5 rfl ?_
    refine g_callV0 rfl LX9_108 rfl rfl rfl rfl ?_
    refine g_enter okX5_exchange (plainFor_of_name rfl) rfl ?_
    refine g_run 5 rfl ?_
    refine g_putR (ty := .object "RoastHouse$Rules") rfl rfl rfl (Or.inl rfl) (by decide +kernel) (fun E => rfl) (fun E => rfl) (by decide) ?_
    refine g_run 1 rfl ?_
    refine g_aret rfl rfl ?_
    refine g_putR (ty := .object "RoastHouse$Rules") rfl rfl rfl (Or.inl rfl) (by decide +kernel) (fun E => rfl) (fun E => rfl) (by decide) ?_
    refine g_run 1 rfl ?_
    exact g_iret rfl rfl (h1 r0 k p m q)
  · refine g_run 6 rfl ?_
    refine gz_ne (kx := (txtP (hp.1 6) n).1) rfl hf (fun _ => ?_) (fun q => absurd q r1)
    refine g_run 1 rfl ?_
    exact g_iret rfl rfl (h0 r1 k p m q f2 ac am se sp ln c hf)
end S43_37
