/-! the law: bag, the loop, the whole walk -/
section LWB
variable {L I c sl : Nat} {w : Nat → Int32} {i : Int32} {b : Bool} {hp : hp_T} {xs : sh_T} {v5 v6 : Value}
theorem rel_43 (hR : Rel b hp) (z : Int32) : Rel b (sI hp 43 0 z) := by
  obtain ⟨h_lot, h_now, h_cur, h_tap, h_rul, h_roa, h_bag, h_cup, h_spa, h_bes, h_kee, h_wor⟩ := hR
  exact ⟨h_lot, h_now, h_cur, h_tap, rul_k h_rul rfl rfl rfl rfl rfl rfl rfl rfl rfl rfl rfl rfl rfl rfl rfl rfl rfl rfl rfl, h_roa, h_bag, h_cup, h_spa, h_bes, h_kee, h_wor⟩
theorem rel_77 (hR : Rel b hp) (v : Int64) : Rel b (sL hp 77 0 v) := by
  obtain ⟨h_lot, h_now, h_cur, h_tap, h_rul, h_roa, h_bag, h_cup, h_spa, h_bes, h_kee, h_wor⟩ := hR
  exact ⟨h_lot, h_now, h_cur, h_tap, rul_k h_rul rfl rfl rfl rfl rfl rfl rfl rfl rfl rfl rfl rfl rfl rfl rfl rfl rfl rfl rfl, h_roa, h_bag, h_cup, h_spa, h_bes, h_kee, h_wor⟩
set_option maxRecDepth 100000 in
theorem lw_c9a {hq : hp_T} {v z : Int32} (h43 : hq.1 43 0 = 0) (h77 : hq.2 77 0 = v.toInt64) (ev : z = v) (hR2 : Rel b hq) (hc : c + 1 ≤ 601024) (hs : sl + 6 ≤ 7293034) (hN : ∀ (b2 : Bool) (hp2 : hp_T) (xs2 : sh_T) (u5 u6 : Value), Rel b2 hp2 → gG mL_law 2048 601024 7293034 (zL L w) (c + 1) (sl + 6) (1121, [.float 100, .ref 0, .ref 43, .ref 77, .int i, u5, u6], [], SH b2 xs2, hp2)) : gG mL_law 2048 601024 7293034 (zL L w) (c + 1) (sl + 6) (594, [.float 100, .ref 0, .ref 43, .ref 77, .int i, .int 0, v6], [.int z], SH b xs, hq) := by
  subst ev
  refine g_run 2 rfl ?_
  refine g_callV0 rfl LL_68 rfl rfl rfl rfl ?_ hc hs
  refine c_X10_thrown ?_
  refine g_run 1 rfl ?_
  refine gj_eq (kx := 0) (kz := 0) rfl (by rw [h43]; decide) (by decide) (fun _ => ?_) (fun q => absurd rfl q)
  refine g_run 1 rfl ?_
  refine gz_ne (kx := 0) rfl (show (0 : Int32).toInt = 0 from by decide) (fun q => absurd rfl q) (fun _ => ?_)
  refine g_run 2 rfl ?_
  refine g_lald (j := 0) rfl rfl (by decide) (by decide) ?_
  refine g_run 3 rfl ?_
  have h0 : lg_cmp (hq.2 77 0) z.toInt64 = 0 := (lg_cmp_eq _ _).mpr h77
  refine gz_eq (kx := 0) rfl (by rw [h0]; decide) (fun _ => ?_) (fun q => absurd rfl q)
  refine g_run 1 rfl ?_
  exact hN b hq xs (.int 0) (.int z) hR2
set_option maxRecDepth 100000 in
theorem lw_c9b {hq : hp_T} {z : Int32} (h43 : hq.1 43 0 = 1) (hR2 : Rel b hq) (hc : c + 1 ≤ 601024) (hs : sl + 6 ≤ 7293034) (hN : ∀ (b2 : Bool) (hp2 : hp_T) (xs2 : sh_T) (u5 u6 : Value), Rel b2 hp2 → gG mL_law 2048 601024 7293034 (zL L w) (c + 1) (sl + 6) (1121, [.float 100, .ref 0, .ref 43, .ref 77, .int i, u5, u6], [], SH b2 xs2, hp2)) : gG mL_law 2048 601024 7293034 (zL L w) (c + 1) (sl + 6) (594, [.float 100, .ref 0, .ref 43, .ref 77, .int i, .int 1, v6], [.int z], SH b xs, hq) := by
  refine g_run 2 rfl ?_
  refine g_callV0 rfl LL_68 rfl rfl rfl rfl ?_ hc hs
  refine c_X10_thrown ?_
  refine g_run 1 rfl ?_
  refine gj_eq (kx := 1) (kz := 1) rfl (by rw [h43]; decide) (by decide) (fun _ => ?_) (fun q => absurd rfl q)
  refine g_run 1 rfl ?_
  refine gz_ne (kx := 1) rfl (show (1 : Int32).toInt = 1 from by decide) (fun _ => ?_) (fun q => absurd q (by decide))
  refine g_run 1 rfl ?_
  exact hN b hq xs (.int 1) (.int z) hR2
set_option maxRecDepth 100000 in
theorem lw_c9 (hR : Rel b hp) (iE : i.toInt = (I : Int)) (hI : I + 6 < L) (hL : L ≤ 3584) (hc : c + 1 ≤ 601024) (hs : sl + 6 ≤ 7293034) (hN : ∀ (b2 : Bool) (hp2 : hp_T) (xs2 : sh_T) (u5 u6 : Value), Rel b2 hp2 → gG mL_law 2048 601024 7293034 (zL L w) (c + 1) (sl + 6) (1121, [.float 100, .ref 0, .ref 43, .ref 77, .int i, u5, u6], [], SH b2 xs2, hp2)) : gG mL_law 2048 601024 7293034 (zL L w) c sl (559, [.float 100, .ref 0, .ref 43, .ref 77, .int i, v5, v6], [], SH b xs, hp) := by
  have e1 : (i + 1).toInt = ((I + 1 : Nat) : Int) := (ia_add2 iE (by decide : (1 : Int32).toInt = 1) (by omega) (by omega)).trans (by omega)
  have e2 : (i + 2).toInt = ((I + 2 : Nat) : Int) := (ia_add2 iE (by decide : (2 : Int32).toInt = 2) (by omega) (by omega)).trans (by omega)
  have hB : gBag hp := hR.2.2.2.2.2.2.1
  have eB : (hp.1 43 30).toInt = (hp.1 17 0).toInt := by rw [hB.1]
  have hz := hB.2.1
  refine g_run 5 rfl ?_
  refine g_sld (j := I + 1) rfl e1 (by omega) ?_
  refine g_run 4 rfl ?_
  refine g_sld (j := I + 2) rfl e2 (by omega) ?_
  refine g_run 1 rfl ?_
  refine g_callB ?_ hc hs
  refine c_L_bag (d := 2040) (nI := (w (I + 1)).toInt) (wI := (w (I + 2)).toInt) rfl rfl hz (fun k1 => ?_) (fun k1 k => ?_)
  · refine g_run 6 rfl ?_
    refine g_sld (j := I + 1) rfl e1 (by omega) ?_
    refine g_run 4 rfl ?_
    refine g_sld (j := I + 2) rfl e2 (by omega) ?_
    refine g_callV0 rfl LL_67 rfl rfl rfl rfl ?_ hc hs
    refine c_X10_bag (d := 2046) (hp := sL hp 77 0 (bgX hp (w (I + 1)).toInt (w (I + 2)).toInt).toInt64) (nI := (w (I + 1)).toInt) (wI := (w (I + 2)).toInt) rfl rfl (show 0 ≤ (hp.1 43 30).toInt ∧ (hp.1 43 30).toInt ≤ 60 from by omega) (fun q => ?_) (fun q => ?_) (fun q => ?_) (fun q => ?_) (fun q => ?_)
    · refine lw_c9a (v := bgX hp (w (I + 1)).toInt (w (I + 2)).toInt) rfl rfl ?_ (rel_43 (rel_77 hR _) 0) hc hs hN
      show sumI (fun l => hp.1 63 ((12 * (w (I + 1)).toInt) + (l : Int)).toNat) 12 = bgX hp (w (I + 1)).toInt (w (I + 2)).toInt
      unfold bgX
      rw [if_pos q.2.2, hB.2.2.2.2.2.2.2.1 _ (by omega), row_i (by omega), hB.2.2.2.2.2.2.1]
    · refine lw_c9a (v := bgX hp (w (I + 1)).toInt (w (I + 2)).toInt) rfl rfl ?_ (rel_43 (rel_77 hR _) 0) hc hs hN
      show hp.1 64 (w (I + 1)).toInt.toNat = bgX hp (w (I + 1)).toInt (w (I + 2)).toInt
      unfold bgX
      rw [if_neg (by omega), if_pos q.2.2, hB.2.2.2.1]
    · refine lw_c9a (v := bgX hp (w (I + 1)).toInt (w (I + 2)).toInt) rfl rfl ?_ (rel_43 (rel_77 hR _) 0) hc hs hN
      show hp.1 65 (w (I + 1)).toInt.toNat = bgX hp (w (I + 1)).toInt (w (I + 2)).toInt
      unfold bgX
      rw [if_neg (by omega), if_neg (by omega), if_pos q.2.2, hB.2.2.2.2.1]
    · refine lw_c9a (v := bgX hp (w (I + 1)).toInt (w (I + 2)).toInt) rfl rfl ?_ (rel_43 (rel_77 hR _) 0) hc hs hN
      show cntI (fun l => decide (0 < (hp.1 63 ((12 * (w (I + 1)).toInt) + (l : Int)).toNat).toInt)) 12 = bgX hp (w (I + 1)).toInt (w (I + 2)).toInt
      unfold bgX
      rw [if_neg (by omega), if_neg (by omega), if_neg (by omega), hB.2.2.2.2.2.2.1, Int.mul_comm 12]
    · exfalso
      have q2 : (w (I + 1)).toInt < 0 ∨ (hp.1 43 30).toInt ≤ (w (I + 1)).toInt ∨ (w (I + 2)).toInt < 0 ∨ 3 < (w (I + 2)).toInt := q
      omega
  · refine g_run 6 rfl ?_
    refine g_sld (j := I + 1) rfl e1 (by omega) ?_
    refine g_run 4 rfl ?_
    refine g_sld (j := I + 2) rfl e2 (by omega) ?_
    refine g_callV0 rfl LL_67 rfl rfl rfl rfl ?_ hc hs
    refine c_X10_bag (d := 2046) (hp := hp) (nI := (w (I + 1)).toInt) (wI := (w (I + 2)).toInt) rfl rfl (by omega) (fun q => ?_) (fun q => ?_) (fun q => ?_) (fun q => ?_) (fun q => ?_)
    · exfalso; omega
    · exfalso; omega
    · exfalso; omega
    · exfalso; omega
    · exact lw_c9b rfl (rel_43 hR 1) hc hs hN
end LWB
theorem and31 (x : Int32) : ∃ n : Nat, n ≤ 31 ∧ (x &&& 31).toInt = (n : Int) := by
  have h : (x &&& 31).toBitVec = x.toBitVec &&& 31#32 := rfl
  have h2 : (x.toBitVec &&& 31#32).toNat ≤ 31 := by
    rw [BitVec.toNat_and]
    exact Nat.and_le_right
  refine ⟨(x.toBitVec &&& 31#32).toNat, h2, ?_⟩
  show (x &&& 31).toBitVec.toInt = _
  rw [h]
  exact BitVec.toInt_eq_toNat_of_lt (by omega)
set_option maxRecDepth 100000 in
theorem lw_loop {L : Nat} {w : Nat → Int32} (hL : L ≤ 3584) : ∀ (f k : Nat) (i : Int32) (b : Bool) (hp : hp_T) (xs : sh_T) (v5 v6 : Value), i.toInt = ((7 * k : Nat) : Int) → L + 7 - 7 * k < f → 7 * k ≤ L + 6 → Rel b hp → gG mL_law 2048 601024 7293034 (zL L w) (78 + k) (10294 + 6 * k) (23, [.float 100, .ref 0, .ref 43, .ref 77, .int i, v5, v6], [], SH b xs, hp) := by
  intro f
  induction f with
  | zero => intros; omega
  | succ f ih =>
    intro k i b hp xs v5 v6 iE hf hk hR
    refine g_run 2 rfl ?_
    refine g_slen rfl ?_
    refine g_run 2 rfl ?_
    refine gj_gt (kx := ((7 * k : Nat) : Int)) (kz := (L : Int) - 7) rfl iE (ia_sub2 (nI_toInt (by omega)) (by decide : (7 : Int32).toInt = 7) (by omega) (by omega)) (fun k1 => ?_) (fun k1 => ?_)
    · refine g_run 1 rfl ?_
      exact g_end (by omega) (by omega)
    · have next : ∀ (b2 : Bool) (hp2 : hp_T) (xs2 : sh_T) (u5 u6 : Value), Rel b2 hp2 → gG mL_law 2048 601024 7293034 (zL L w) (78 + k + 1) (10294 + 6 * k + 6) (1121, [.float 100, .ref 0, .ref 43, .ref 77, .int i, u5, u6], [], SH b2 xs2, hp2) := by
        intro b2 hp2 xs2 u5 u6 hR2
        refine g_run 2 rfl ?_
        have h9 := ih (k + 1) (i + 7) b2 hp2 xs2 u5 u6 ((ia_add2 iE (by decide : (7 : Int32).toInt = 7) (by omega) (by omega)).trans (by omega)) (by omega) (by omega) hR2
        rw [show 78 + (k + 1) = 78 + k + 1 from by omega, show 10294 + 6 * (k + 1) = 10294 + 6 * k + 6 from by omega] at h9
        exact h9
      refine g_run 2 rfl ?_
      refine g_sld (j := 7 * k) rfl iE (by omega) ?_
      refine g_run 2 rfl ?_
      obtain ⟨n, hn, hE⟩ := and31 (w (7 * k))
      match n, hn, hE with
      | 0, _, hE =>
        refine g_tabIn (i := 0) (tgt := 152) rfl (hE.trans (by decide)) (by decide) rfl (by decide) ?_
        exact lw_c0 (I := 7 * k) hR iE (by omega) hL (by omega) (by omega) next
      | 1, _, hE =>
        refine g_tabIn (i := 1) (tgt := 225) rfl (hE.trans (by decide)) (by decide) rfl (by decide) ?_
        exact lw_c1 (I := 7 * k) hR iE (by omega) hL (by omega) (by omega) next
      | 2, _, hE =>
        refine g_tabIn (i := 2) (tgt := 250) rfl (hE.trans (by decide)) (by decide) rfl (by decide) ?_
        exact lw_c2 (I := 7 * k) hR iE (by omega) hL (by omega) (by omega) next
      | 3, _, hE =>
        refine g_tabIn (i := 3) (tgt := 287) rfl (hE.trans (by decide)) (by decide) rfl (by decide) ?_
        exact lw_c3 (I := 7 * k) hR iE (by omega) hL (by omega) (by omega) next
      | 4, _, hE =>
        refine g_tabIn (i := 4) (tgt := 434) rfl (hE.trans (by decide)) (by decide) rfl (by decide) ?_
        exact lw_c4 (I := 7 * k) hR iE (by omega) hL (by omega) (by omega) next
      | 5, _, hE =>
        refine g_tabIn (i := 5) (tgt := 447) rfl (hE.trans (by decide)) (by decide) rfl (by decide) ?_
        exact lw_c5 (I := 7 * k) hR iE (by omega) hL (by omega) (by omega) next
      | 6, _, hE =>
        refine g_tabIn (i := 6) (tgt := 484) rfl (hE.trans (by decide)) (by decide) rfl (by decide) ?_
        exact lw_c6 (I := 7 * k) hR iE (by omega) hL (by omega) (by omega) next
      | 7, _, hE =>
        refine g_tabIn (i := 7) (tgt := 509) rfl (hE.trans (by decide)) (by decide) rfl (by decide) ?_
        exact lw_c7 (I := 7 * k) hR iE (by omega) hL (by omega) (by omega) next
      | 8, _, hE =>
        refine g_tabIn (i := 8) (tgt := 546) rfl (hE.trans (by decide)) (by decide) rfl (by decide) ?_
        exact lw_c8 (I := 7 * k) hR iE (by omega) hL (by omega) (by omega) next
      | 9, _, hE =>
        refine g_tabIn (i := 9) (tgt := 559) rfl (hE.trans (by decide)) (by decide) rfl (by decide) ?_
        exact lw_c9 (I := 7 * k) hR iE (by omega) hL (by omega) (by omega) next
      | 10, _, hE =>
        refine g_tabIn (i := 10) (tgt := 627) rfl (hE.trans (by decide)) (by decide) rfl (by decide) ?_
        exact lw_c10 (I := 7 * k) hR iE (by omega) hL (by omega) (by omega) next
      | 11, _, hE =>
        refine g_tabIn (i := 11) (tgt := 664) rfl (hE.trans (by decide)) (by decide) rfl (by decide) ?_
        exact lw_c11 (I := 7 * k) hR iE (by omega) hL (by omega) (by omega) next
      | 12, _, hE =>
        refine g_tabIn (i := 12) (tgt := 713) rfl (hE.trans (by decide)) (by decide) rfl (by decide) ?_
        exact lw_c12 (I := 7 * k) hR iE (by omega) hL (by omega) (by omega) next
      | 13, _, hE =>
        refine g_tabIn (i := 13) (tgt := 750) rfl (hE.trans (by decide)) (by decide) rfl (by decide) ?_
        exact lw_c13 (I := 7 * k) hR iE (by omega) hL (by omega) (by omega) next
      | 14, _, hE =>
        refine g_tabIn (i := 14) (tgt := 787) rfl (hE.trans (by decide)) (by decide) rfl (by decide) ?_
        exact lw_c14 (I := 7 * k) hR iE (by omega) hL (by omega) (by omega) next
      | 15, _, hE =>
        refine g_tabIn (i := 15) (tgt := 812) rfl (hE.trans (by decide)) (by decide) rfl (by decide) ?_
        exact lw_c15 (I := 7 * k) hR iE (by omega) hL (by omega) (by omega) next
      | 16, _, hE =>
        refine g_tabIn (i := 16) (tgt := 861) rfl (hE.trans (by decide)) (by decide) rfl (by decide) ?_
        exact lw_c16 (I := 7 * k) hR iE (by omega) hL (by omega) (by omega) next
      | 17, _, hE =>
        refine g_tabIn (i := 17) (tgt := 898) rfl (hE.trans (by decide)) (by decide) rfl (by decide) ?_
        exact lw_c17 (I := 7 * k) hR iE (by omega) hL (by omega) (by omega) next
      | 18, _, hE =>
        refine g_tabIn (i := 18) (tgt := 923) rfl (hE.trans (by decide)) (by decide) rfl (by decide) ?_
        exact lw_c18 (I := 7 * k) hR iE (by omega) hL (by omega) (by omega) next
      | 19, _, hE =>
        refine g_tabIn (i := 19) (tgt := 960) rfl (hE.trans (by decide)) (by decide) rfl (by decide) ?_
        exact lw_c19 (I := 7 * k) hR iE (by omega) hL (by omega) (by omega) next
      | 20, _, hE =>
        refine g_tabIn (i := 20) (tgt := 997) rfl (hE.trans (by decide)) (by decide) rfl (by decide) ?_
        exact lw_c20 (I := 7 * k) hR iE (by omega) hL (by omega) (by omega) next
      | 21, _, hE =>
        refine g_tabIn (i := 21) (tgt := 1022) rfl (hE.trans (by decide)) (by decide) rfl (by decide) ?_
        exact lw_c21 (I := 7 * k) hR iE (by omega) hL (by omega) (by omega) next
      | 22, _, hE =>
        refine g_tabIn (i := 22) (tgt := 1059) rfl (hE.trans (by decide)) (by decide) rfl (by decide) ?_
        exact lw_c22 (I := 7 * k) hR iE (by omega) hL (by omega) (by omega) next
      | 23, _, hE =>
        refine g_tabIn (i := 23) (tgt := 1096) rfl (hE.trans (by decide)) (by decide) rfl (by decide) ?_
        exact lw_c23 (I := 7 * k) hR iE (by omega) hL (by omega) (by omega) next
      | n + 24, _, hE =>
        refine g_tabOut (tgt := 1121) rfl (Or.inr (by rw [hE]; omega)) (by decide) ?_
        exact g_wide (by omega) (by omega) (next b hp xs v5 v6 hR)
set_option maxRecDepth 100000 in
theorem kl_86 : Cond.classLink RL 8 "RoastHouse" ∈ gT := gT_of (List.mem_of_getElem? (i := 86) rfl) rfl
set_option maxRecDepth 100000 in
theorem ki_9 : Cond.instantiable "RoastHouse" 10 ∈ gT := gT_of (List.mem_of_getElem? (i := 87) rfl) rfl
set_option maxRecDepth 100000 in
theorem kn_9 : Cond.initialized "RoastHouse" ∈ gT := gT_of (List.mem_of_getElem? (i := 62) rfl) rfl
set_option maxRecDepth 100000 in
theorem kl_960 : Cond.classLink RL 16 "RoastHouseModel" ∈ gT := gT_of (List.mem_of_getElem? (i := 960) rfl) rfl
set_option maxRecDepth 100000 in
theorem ki_10 : Cond.instantiable "RoastHouseModel" 60 ∈ gT := gT_of (List.mem_of_getElem? (i := 958) rfl) rfl
set_option maxRecDepth 100000 in
theorem kn_10 : Cond.initialized "RoastHouseModel" ∈ gT := gT_of (List.mem_of_getElem? (i := 73) rfl) rfl
set_option maxRecDepth 100000 in
theorem lw_all {L : Nat} {w : Nat → Int32} (hL : L ≤ 3584) : gG mL_law 2048 601024 7293034 (zL L w) 0 0 (0, [.float 100, .retAddr 0, .retAddr 0, .retAddr 0, .retAddr 0, .retAddr 0, .retAddr 0], [], [], HP0) := by
  refine g_new (ci := 9) (N := 10) (k := 0) (fs := [.null, .null, .null, .null, .null, .null, .null, .null, .null, .int 0]) (sh' := PW0) rfl rfl rfl kl_86 ki_9 kn_9 rfl rfl rfl (by decide) rfl (by decide) (by decide) ?_
  refine g_run 1 rfl ?_
  refine g_callI (mc' := 42) (ms' := 3229) rfl LL_15 rfl rfl ?_
  refine n_X9_init_1 ?_
  refine g_run 1 rfl ?_
  refine g_new (ci := 10) (N := 60) (k := 43) (fs := [.int 0, .null, .int 0, .int 0, .null, .null, .null, .int 0, .int 0, .null, .null, .null, .null, .null, .null, .null, .int 0, .int 0, .int 0, .int 0, .null, .null, .null, .null, .null, .int 0, .int 0, .null, .null, .null, .int 0, .null, .null, .null, .null, .int 0, .int 0, .int 0, .int 0, .int 0, .int 0, .int 0, .int 0, .int 0, .int 0, .null, .null, .null, .null, .long 0, .long 0, .null, .null, .null, .null, .null, .int 0, .int 0, .int 0, .null]) (sh' := PW86) rfl rfl rfl kl_960 ki_10 kn_10 rfl rfl rfl (by decide) rfl (by decide) (by decide) ?_
  refine g_run 1 rfl ?_
  refine g_callI (mc' := 33) (ms' := 6994) rfl LL_18 rfl rfl ?_
  refine n_X10_init ?_
  refine g_run 2 rfl ?_
  refine g_arrL (N := 1) (k := 77) (sh' := SH false []) rfl rfl rfl (by decide) (by decide) rfl (by decide) (by decide) ?_
  refine g_run 3 rfl ?_
  exact lw_loop hL (L + 8) 0 0 false HE [] (.retAddr 0) (.retAddr 0) (by decide) (by omega) (by omega) rel_start
