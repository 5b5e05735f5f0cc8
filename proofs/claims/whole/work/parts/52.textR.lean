/-! pairs: feed and text -/
theorem by_b (x : BitVec 64) (s : Nat) (hs : s ≤ 56) : ((x >>> s).signExtend 32 &&& 255#32) = ((x.sshiftRight s).signExtend 32 &&& 255#32) := by
  apply BitVec.eq_of_getLsbD_eq
  intro i hi
  have hz : ∀ i, i < 32 → 8 ≤ i → (255#32).getLsbD i = false := by decide
  by_cases c : i < 8
  · simp only [BitVec.getLsbD_and, BitVec.getLsbD_signExtend, BitVec.getLsbD_ushiftRight, BitVec.getLsbD_sshiftRight]
    simp [show s + i < 64 by omega, show ¬ 64 ≤ i by omega, show i < 64 by omega, hi]
  · rw [BitVec.getLsbD_and, BitVec.getLsbD_and, hz i hi (by omega)]
    simp
theorem byt_eq {v : Int64} : ∀ j : Nat, j < 8 → bX v (nI (8 * j)) = bM v (nI (8 * j))
  | 0, _ => Int32.toBitVec_inj.mp (by_b v.toBitVec 0 (by omega))
  | 1, _ => Int32.toBitVec_inj.mp (by_b v.toBitVec 8 (by omega))
  | 2, _ => Int32.toBitVec_inj.mp (by_b v.toBitVec 16 (by omega))
  | 3, _ => Int32.toBitVec_inj.mp (by_b v.toBitVec 24 (by omega))
  | 4, _ => Int32.toBitVec_inj.mp (by_b v.toBitVec 32 (by omega))
  | 5, _ => Int32.toBitVec_inj.mp (by_b v.toBitVec 40 (by omega))
  | 6, _ => Int32.toBitVec_inj.mp (by_b v.toBitVec 48 (by omega))
  | 7, _ => Int32.toBitVec_inj.mp (by_b v.toBitVec 56 (by omega))
  | k + 8, h => by omega
theorem layN_cg {f g : Nat → Int32} : ∀ (m : Nat) (z : (Nat → Int32) × Nat), (∀ j, j < m → f j = g j) → layN f m z = layN g m z
  | 0, _, _ => rfl
  | m + 1, z, h => by
    rw [layN, layN, h m (by omega)]
    exact layN_cg m _ (fun j hj => h j (by omega))
theorem flt_get : ∀ (ls : List lt_T) (k m : Nat) (x : lt_T) (v : Int32), ls[k]? = some x → x.2.2[m]? = some v → (flt ls)[posX ls k + m]? = some v
  | [], k, m, x, v, h, _ => by simp at h
  | y :: r, 0, m, x, v, h, h2 => by
    simp at h
    subst h
    have hm := (List.getElem?_eq_some_iff.mp h2).1
    have e : posX (y :: r) 0 = 0 := by simp [posX, flt]
    rw [e, Nat.zero_add, show flt (y :: r) = y.2.2 ++ flt r from by simp [flt], List.getElem?_append_left hm]
    exact h2
  | y :: r, k + 1, m, x, v, h, h2 => by
    have e : posX (y :: r) (k + 1) = y.2.2.length + posX r k := by simp [posX, flt]
    rw [e, show flt (y :: r) = y.2.2 ++ flt r from by simp [flt], List.getElem?_append_right (by omega), show y.2.2.length + posX r k + m - y.2.2.length = posX r k + m by omega]
    exact flt_get r k m x v (by simpa using h) h2
theorem ends_get : ∀ (ls : List lt_T) (c k : Nat) (x : lt_T), ls[k]? = some x → (endsF ls c)[k]? = some (nI (c + posX ls (k + 1)))
  | [], _, k, x, h => by simp at h
  | y :: r, c, 0, x, h => by
    have e : posX (y :: r) (0 + 1) = y.2.2.length := by simp [posX, flt]
    rw [e, endsF]
    rfl
  | y :: r, c, k + 1, x, h => by
    have e : posX (y :: r) (k + 1 + 1) = y.2.2.length + posX r (k + 1) := by simp [posX, flt]
    rw [e, endsF, ← Nat.add_assoc]
    simp only [List.getElem?_cons_succ]
    exact ends_get r _ k x (by simpa using h)
theorem rulX_ap {a m e s : Nat → Int32} {ls : List lt_T} : rulXf (nI ls.length) (apL a 0 (ls.map (fun x => x.1))) (apL m 0 (ls.map (fun x => x.2.1))) (apL e 0 (endsF ls 0)) (apL s 0 (flt ls)) ls := by
  refine ⟨rfl, fun k x hx => ⟨?_, ?_, ?_, fun m v hm => ?_⟩⟩
  · have := apL_at (ls.map (fun x => x.1)) 0 a k x.1 (by rw [List.getElem?_map, hx]; rfl)
    rwa [Nat.zero_add] at this
  · have := apL_at (ls.map (fun x => x.2.1)) 0 m k x.2.1 (by rw [List.getElem?_map, hx]; rfl)
    rwa [Nat.zero_add] at this
  · have := apL_at (endsF ls 0) 0 e k _ (ends_get ls 0 k x hx)
    rwa [Nat.zero_add, Nat.zero_add] at this
  · have := apL_at (flt ls) 0 s (posX ls k + m) v (flt_get ls k m x v hx hm)
    rwa [Nat.zero_add] at this
theorem rows_k {ho nx : Nat} {ls : List lt_T} {d n a o p d2 n2 a2 o2 p2 : Nat → Int32} (hn : nx + ho = 1) (hk : okTx ls) (h : rowsM ho ls d n a o p) (h1 : ∀ j, (j < 16 * nx ∨ 16 * nx + 16 ≤ j) → d2 j = d j ∧ n2 j = n j ∧ a2 j = a j) (h2 : kpM o p nx o2 p2) : rowsM ho ls d2 n2 a2 o2 p2 := by
  intro k x hx
  obtain ⟨c1, c2, c3, c4, c5⟩ := h k x hx
  have hkl := (List.getElem?_eq_some_iff.mp hx).1
  have h16 := hk.2.2
  have hpk : posX ls k + x.2.2.length ≤ 600 := by
    have q1 := posX_s hx
    have q2 : posX ls (k + 1) ≤ posX ls ls.length := posX_le (by omega)
    rw [posX_all] at q2
    have := hk.2.1
    omega
  have z := h1 (16 * ho + k) (by omega)
  refine ⟨z.1.trans c1, fun q => z.2.1.trans (c2 q), z.2.2.trans c3, fun m v hm => ?_, ?_⟩
  · have hm2 := (List.getElem?_eq_some_iff.mp hm).1
    have y := h2 (660 * ho + (posX ls k + k) + m) (by omega)
    exact ⟨y.1.trans (c4 m v hm).1, y.2.trans (c4 m v hm).2⟩
  · exact (h2 (660 * ho + (posX ls k + k) + x.2.2.length) (by omega)).1.trans c5
theorem end_ex {t : Nat → Int32} {n : Nat} : ∀ m : Nat, (∀ j, j < m → kd t n j ≠ 0) ∨ ∃ N, N < m ∧ kd t n N = 0 ∧ ∀ j, j < N → kd t n j ≠ 0
  | 0 => Or.inl (fun j h => by omega)
  | m + 1 => by
    rcases end_ex (t := t) (n := n) m with h | ⟨N, h1, h2⟩
    · by_cases c : kd t n m = 0
      · exact Or.inr ⟨m, by omega, c, h⟩
      · exact Or.inl (fun j hj => by
          by_cases e : j = m
          · rw [e]; exact c
          · exact h j (by omega))
    · exact Or.inr ⟨N, by omega, h2⟩
theorem end_N (t : Nat → Int32) (n : Nat) : ∃ N, N ≤ n ∧ ∀ j, j ≤ N → kd t n j ≠ 0 → j < N := by
  rcases end_ex (t := t) (n := n) (n + 1) with h | ⟨N, h1, h2, h3⟩
  · have := bh_ge (t := t) (n := n) (n + 1) h
    have h2 := bh_le (t := t) (n := n) (n + 1)
    omega
  · exact ⟨N, by omega, fun j hj hk => Nat.lt_of_le_of_ne hj (fun e => hk (by rw [e]; exact h2))⟩
theorem txt_good {t : Nat → Int32} {n : Nat} (hn : n ≤ 600) (h : (txtP t n).1 = 0) : okTx (txtP t n).2 := by
  obtain ⟨N, h1, h2⟩ := end_N t n
  have := txt_ok (K := kd t n) (L := pl t n) (V := nv t n) h2 (fun i hi => nv_bd hi) 17 0 [] (by omega) (by simp [flt]) (by simp) (fun x hx => by cases hx) h
  refine ⟨this.1, ?_, this.2.2⟩
  have h3 : (flt (txtP t n).2).length ≤ N := this.2.1
  omega
section S52
variable {hp : hp_T} {b : Bool} {xs : sh_T}
theorem pr_feed {a c e : Int64} (hR : Rel b hp) : prP mX9_feed mX10_feed [.ref 0, .long a, .long c, .long e] [.ref 43, .long a, .long c, .long e] b xs hp := by
  obtain ⟨h_lot, h_now, h_cur, h_tap, h_rul, h_roa, h_bag, h_cup, h_spa, h_bes, h_kee, h_wor⟩ := hR
  intro K h
  refine c_X9_feed (d := 2044) h_tap.2.2 ?_
  have e2 : (hp.1 43 2).toInt = (hp.1 5 1).toInt := by rw [h_tap.2.1]
  have ht := h_tap.2.2
  have eL : layN (fun j => bM e (nI (8 * j))) 8 (layN (fun j => bM c (nI (8 * j))) 8 (layN (fun j => bM a (nI (8 * j))) 8 (hp.1 44, (hp.1 43 2).toInt.toNat))) = layN (fun j => bX e (nI (8 * j))) 8 (layN (fun j => bX c (nI (8 * j))) 8 (layN (fun j => bX a (nI (8 * j))) 8 (hp.1 6, (hp.1 5 1).toInt.toNat))) := by
    rw [e2, ← h_tap.1, layN_cg (f := fun j => bM a (nI (8 * j))) (g := fun j => bX a (nI (8 * j))) 8 _ (fun j hj => (byt_eq j hj).symm), layN_cg (f := fun j => bM c (nI (8 * j))) (g := fun j => bX c (nI (8 * j))) 8 _ (fun j hj => (byt_eq j hj).symm), layN_cg (f := fun j => bM e (nI (8 * j))) (g := fun j => bX e (nI (8 * j))) 8 _ (fun j hj => (byt_eq j hj).symm)]
  have hle : (layN (fun j => bX e (nI (8 * j))) 8 (layN (fun j => bX c (nI (8 * j))) 8 (layN (fun j => bX a (nI (8 * j))) 8 (hp.1 6, (hp.1 5 1).toInt.toNat)))).2 ≤ 600 := layN_le _ 8 _ (layN_le _ 8 _ (layN_le _ 8 _ (by show (hp.1 5 1).toInt.toNat ≤ 600; omega)))
  generalize hZ : layN (fun j => bX e (nI (8 * j))) 8 (layN (fun j => bX c (nI (8 * j))) 8 (layN (fun j => bX a (nI (8 * j))) 8 (hp.1 6, (hp.1 5 1).toInt.toNat))) = Z at *
  refine h _ _ _ (fun KM hK => ?_)
  refine c_X10_feed (d := 2046) (hp := FX hp Z) (show 0 ≤ (hp.1 43 2).toInt ∧ (hp.1 43 2).toInt ≤ 600 from by omega) ?_
  have eL2 : layN (fun j => bM e (nI (8 * j))) 8 (layN (fun j => bM c (nI (8 * j))) 8 (layN (fun j => bM a (nI (8 * j))) 8 ((FX hp Z).1 44, ((FX hp Z).1 43 2).toInt.toNat))) = Z := eL
  rw [eL2]
  have hz := nI_toInt (n := Z.2) (by omega)
  exact hK _ ⟨h_lot, h_now, h_cur, ⟨rfl, rfl, show 0 ≤ (nI Z.2).toInt ∧ (nI Z.2).toInt ≤ 600 from by omega⟩, rul_k h_rul rfl rfl rfl rfl rfl rfl rfl rfl rfl rfl rfl rfl rfl rfl rfl rfl rfl rfl rfl, h_roa, h_bag, h_cup, h_spa, h_bes, h_kee, h_wor⟩
theorem pr_text_false (hR : Rel false hp) : prP mX9_text mX10_text [.ref 0] [.ref 43] false xs hp := by
  obtain ⟨h_lot, h_now, h_cur, h_tap, h_rul, h_roa, h_bag, h_cup, h_spa, h_bes, h_kee, h_wor⟩ := hR
  obtain ⟨⟨ls, ho, r1, r2, r3, r4, r5⟩, r6, r7⟩ := id h_rul
  obtain ⟨t1, t2, t3⟩ := h_tap
  obtain ⟨N, hN1, hN2⟩ := end_N (hp.1 6) (hp.1 5 1).toInt.toNat
  have hn : (hp.1 5 1).toInt = (((hp.1 5 1).toInt.toNat : Nat) : Int) := by omega
  have hn6 : (hp.1 5 1).toInt.toNat ≤ 600 := by omega
  have hn2 : (hp.1 43 2).toInt = (((hp.1 5 1).toInt.toNat : Nat) : Int) := by rw [← t2]; exact hn
  have et : txtP (hp.1 44) (hp.1 5 1).toInt.toNat = txtP (hp.1 6) (hp.1 5 1).toInt.toNat := by rw [t1]
  generalize (hp.1 5 1).toInt.toNat = n at *
  intro K h
  refine c_text9 (d := 2014) (N := N) ⟨hn, hn6, by omega, hN2⟩ (fun q k p m q0 => ?_) (fun q k p m q0 f2 ac am se sp ln c hf => ?_)
  · refine h _ _ _ (fun KM hK => ?_)
    have hg := txt_good hn6 q
    have hv : (1 - hp.1 43 16).toInt = ((1 - ho : Nat) : Int) := (ia_sub2 (by decide : (1 : Int32).toInt = 1) r1 (by omega) (by omega)).trans (by omega)
    refine c_textM (d := 2043) (hp := sI (TZ9 hp (txtP (hp.1 6) n).2 k p m q0 0) 5 1 0) (nx := 1 - ho) (ho := ho) (n := n) r1 (by omega) hn2 hn6 h_wor (fun q2 sa pa va i c D w1 w2 w3 op on li ld lN la b1 b2 b3 => ?_) (fun q2 sa pa va i c D w1 w2 w3 op on li ld lN la f2 hf b1 b2 b3 => ?_)
    · have q3 : li (1 - ho) = nI (txtP (hp.1 44) n).2.length := b2
      have q4 : rowsM (1 - ho) (txtP (hp.1 44) n).2 ld lN la op on := b3
      rw [et] at q3 q4
      exact hK _ ⟨h_lot, h_now, h_cur, ⟨t1, rfl, show 0 ≤ (0 : Int32).toInt ∧ (0 : Int32).toInt ≤ 600 from by decide⟩, ⟨⟨(txtP (hp.1 6) n).2, 1 - ho, hv, by omega, rulX_ap (a := hp.1 10) (m := hp.1 11) (e := hp.1 12) (s := hp.1 13), ⟨q3, q4⟩, hg⟩, r6, r7⟩, h_roa, h_bag, h_cup, h_spa, h_bes, h_kee, h_wor⟩
    · exact absurd (show (txtP (hp.1 44) n).1 = 0 by rw [et]; exact q) q2
  · refine h _ _ _ (fun KM hK => ?_)
    refine c_textM (d := 2043) (hp := sI (PX (RLn hp 9 ac am se ln) 9 k p m q0 f2 sp c) 5 1 0) (nx := 1 - ho) (ho := ho) (n := n) r1 (by omega) hn2 hn6 h_wor (fun q2 sa pa va i c D w1 w2 w3 op on li ld lN la b1 b2 b3 => ?_) (fun q2 sa pa va i c D w1 w2 w3 op on li ld lN la f3 hf3 b1 b2 b3 => ?_)
    · exact absurd (show (txtP (hp.1 6) n).1 = 0 by rw [← et]; exact q2) q
    · have hf4 : f3.toInt = (txtP (hp.1 44) n).1 := hf3
      have c1 : ∀ j, j ≠ 1 - ho → li j = hp.1 49 j := b1
      have c2 : ∀ j, (j < 16 * (1 - ho) ∨ 16 * (1 - ho) + 16 ≤ j) → ld j = hp.1 50 j ∧ lN j = hp.1 51 j ∧ la j = hp.1 52 j := b2
      have c3 : kpM (hp.1 53) (hp.1 54) (1 - ho) op on := b3
      refine kq ((ia_eq _ _).mpr (by rw [hf4, hf, et])) (hK _ ⟨h_lot, h_now, h_cur, ⟨t1, rfl, show 0 ≤ (0 : Int32).toInt ∧ (0 : Int32).toInt ≤ 600 from by decide⟩, ⟨⟨ls, ho, r1, r2, r3, ⟨?_, rows_k (by omega) r5 r4.2 c2 c3⟩, r5⟩, r6, r7⟩, h_roa, h_bag, h_cup, h_spa, h_bes, h_kee, h_wor⟩)
      show li ho = nI ls.length
      rw [c1 ho (by omega)]
      exact r4.1
theorem pr_text_true (hR : Rel true hp) : prP mX9_text mX10_text [.ref 0] [.ref 43] true xs hp := by
  obtain ⟨h_lot, h_now, h_cur, h_tap, h_rul, h_roa, h_bag, h_cup, h_spa, h_bes, h_kee, h_wor⟩ := hR
  obtain ⟨⟨ls, ho, r1, r2, r3, r4, r5⟩, r6, r7⟩ := id h_rul
  obtain ⟨t1, t2, t3⟩ := h_tap
  obtain ⟨N, hN1, hN2⟩ := end_N (hp.1 6) (hp.1 5 1).toInt.toNat
  have hn : (hp.1 5 1).toInt = (((hp.1 5 1).toInt.toNat : Nat) : Int) := by omega
  have hn6 : (hp.1 5 1).toInt.toNat ≤ 600 := by omega
  have hn2 : (hp.1 43 2).toInt = (((hp.1 5 1).toInt.toNat : Nat) : Int) := by rw [← t2]; exact hn
  have et : txtP (hp.1 44) (hp.1 5 1).toInt.toNat = txtP (hp.1 6) (hp.1 5 1).toInt.toNat := by rw [t1]
  generalize (hp.1 5 1).toInt.toNat = n at *
  intro K h
  refine c_text37 (d := 2014) (N := N) ⟨hn, hn6, by omega, hN2⟩ (fun q k p m q0 => ?_) (fun q k p m q0 f2 ac am se sp ln c hf => ?_)
  · refine h _ _ _ (fun KM hK => ?_)
    have hg := txt_good hn6 q
    have hv : (1 - hp.1 43 16).toInt = ((1 - ho : Nat) : Int) := (ia_sub2 (by decide : (1 : Int32).toInt = 1) r1 (by omega) (by omega)).trans (by omega)
    refine c_textM (d := 2043) (hp := sI (TZ37 hp (txtP (hp.1 6) n).2 k p m q0 0) 5 1 0) (nx := 1 - ho) (ho := ho) (n := n) r1 (by omega) hn2 hn6 h_wor (fun q2 sa pa va i c D w1 w2 w3 op on li ld lN la b1 b2 b3 => ?_) (fun q2 sa pa va i c D w1 w2 w3 op on li ld lN la f2 hf b1 b2 b3 => ?_)
    · have q3 : li (1 - ho) = nI (txtP (hp.1 44) n).2.length := b2
      have q4 : rowsM (1 - ho) (txtP (hp.1 44) n).2 ld lN la op on := b3
      rw [et] at q3 q4
      exact hK _ ⟨h_lot, h_now, h_cur, ⟨t1, rfl, show 0 ≤ (0 : Int32).toInt ∧ (0 : Int32).toInt ≤ 600 from by decide⟩, ⟨⟨(txtP (hp.1 6) n).2, 1 - ho, hv, by omega, rulX_ap (a := hp.1 38) (m := hp.1 39) (e := hp.1 40) (s := hp.1 41), ⟨q3, q4⟩, hg⟩, r6, r7⟩, h_roa, h_bag, h_cup, h_spa, h_bes, h_kee, h_wor⟩
    · exact absurd (show (txtP (hp.1 44) n).1 = 0 by rw [et]; exact q) q2
  · refine h _ _ _ (fun KM hK => ?_)
    refine c_textM (d := 2043) (hp := sI (PX (RLn hp 37 ac am se ln) 37 k p m q0 f2 sp c) 5 1 0) (nx := 1 - ho) (ho := ho) (n := n) r1 (by omega) hn2 hn6 h_wor (fun q2 sa pa va i c D w1 w2 w3 op on li ld lN la b1 b2 b3 => ?_) (fun q2 sa pa va i c D w1 w2 w3 op on li ld lN la f3 hf3 b1 b2 b3 => ?_)
    · exact absurd (show (txtP (hp.1 6) n).1 = 0 by rw [← et]; exact q2) q
    · have hf4 : f3.toInt = (txtP (hp.1 44) n).1 := hf3
      have c1 : ∀ j, j ≠ 1 - ho → li j = hp.1 49 j := b1
      have c2 : ∀ j, (j < 16 * (1 - ho) ∨ 16 * (1 - ho) + 16 ≤ j) → ld j = hp.1 50 j ∧ lN j = hp.1 51 j ∧ la j = hp.1 52 j := b2
      have c3 : kpM (hp.1 53) (hp.1 54) (1 - ho) op on := b3
      refine kq ((ia_eq _ _).mpr (by rw [hf4, hf, et])) (hK _ ⟨h_lot, h_now, h_cur, ⟨t1, rfl, show 0 ≤ (0 : Int32).toInt ∧ (0 : Int32).toInt ≤ 600 from by decide⟩, ⟨⟨ls, ho, r1, r2, r3, ⟨?_, rows_k (by omega) r5 r4.2 c2 c3⟩, r5⟩, r6, r7⟩, h_roa, h_bag, h_cup, h_spa, h_bes, h_kee, h_wor⟩)
      show li ho = nI ls.length
      rw [c1 ho (by omega)]
      exact r4.1
theorem pr_text (hR : Rel b hp) : prP mX9_text mX10_text [.ref 0] [.ref 43] b xs hp := by
  cases b with
  | false => exact pr_text_false hR
  | true => exact pr_text_true hR
end S52
