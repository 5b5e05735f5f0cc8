/-! the law: one call on each side -/
section LWC
variable {L I c sl : Nat} {w : Nat → Int32} {i : Int32} {b : Bool} {hp : hp_T} {xs : sh_T} {v5 v6 : Value}
set_option maxRecDepth 100000 in
theorem lw_c0 (hR : Rel b hp) (iE : i.toInt = (I : Int)) (hI : I + 6 < L) (hL : L ≤ 3584) (hc : c + 1 ≤ 601024) (hs : sl + 6 ≤ 7293034) (hN : ∀ (b2 : Bool) (hp2 : hp_T) (xs2 : sh_T) (u5 u6 : Value), Rel b2 hp2 → gG mL_law 2048 601024 7293034 (zL L w) (c + 1) (sl + 6) (1121, [.float 100, .ref 0, .ref 43, .ref 77, .int i, u5, u6], [], SH b2 xs2, hp2)) : gG mL_law 2048 601024 7293034 (zL L w) c sl (152, [.float 100, .ref 0, .ref 43, .ref 77, .int i, v5, v6], [], SH b xs, hp) := by
  have e1 : (i + 1).toInt = ((I + 1 : Nat) : Int) := (ia_add2 iE (by decide : (1 : Int32).toInt = 1) (by omega) (by omega)).trans (by omega)
  have e2 : (i + 2).toInt = ((I + 2 : Nat) : Int) := (ia_add2 iE (by decide : (2 : Int32).toInt = 2) (by omega) (by omega)).trans (by omega)
  have e3 : (i + 3).toInt = ((I + 3 : Nat) : Int) := (ia_add2 iE (by decide : (3 : Int32).toInt = 3) (by omega) (by omega)).trans (by omega)
  have e4 : (i + 4).toInt = ((I + 4 : Nat) : Int) := (ia_add2 iE (by decide : (4 : Int32).toInt = 4) (by omega) (by omega)).trans (by omega)
  have e5 : (i + 5).toInt = ((I + 5 : Nat) : Int) := (ia_add2 iE (by decide : (5 : Int32).toInt = 5) (by omega) (by omega)).trans (by omega)
  refine g_run 5 rfl ?_
  refine g_sld (j := I + 1) rfl e1 (by omega) ?_
  refine g_run 4 rfl ?_
  refine g_sld (j := I + 2) rfl e2 (by omega) ?_
  refine g_run 4 rfl ?_
  refine g_sld (j := I + 3) rfl e3 (by omega) ?_
  refine g_run 4 rfl ?_
  refine g_sld (j := I + 4) rfl e4 (by omega) ?_
  refine g_run 4 rfl ?_
  refine g_sld (j := I + 5) rfl e5 (by omega) ?_
  refine g_callV0 rfl LL_19 rfl rfl rfl rfl ?_ (by omega) (by omega)
  refine pr_lot hR _ (fun r b2 hp1 hM => ?_)
  refine g_run 5 rfl ?_
  refine g_sld (j := I + 1) rfl e1 (by omega) ?_
  refine g_run 4 rfl ?_
  refine g_sld (j := I + 2) rfl e2 (by omega) ?_
  refine g_run 4 rfl ?_
  refine g_sld (j := I + 3) rfl e3 (by omega) ?_
  refine g_run 4 rfl ?_
  refine g_sld (j := I + 4) rfl e4 (by omega) ?_
  refine g_run 4 rfl ?_
  refine g_sld (j := I + 5) rfl e5 (by omega) ?_
  refine g_callV0 rfl LL_23 rfl rfl rfl rfl ?_ (by omega) (by omega)
  refine hM _ (fun hp2 hR2 => ?_)
  refine gj_eq (kx := r.toInt) (kz := r.toInt) rfl rfl rfl (fun _ => ?_) (fun q => absurd rfl q)
  exact g_wide (by omega) (by omega) (hN b2 hp2 xs v5 v6 hR2)
set_option maxRecDepth 100000 in
theorem lw_c1 (hR : Rel b hp) (iE : i.toInt = (I : Int)) (hI : I + 6 < L) (hL : L ≤ 3584) (hc : c + 1 ≤ 601024) (hs : sl + 6 ≤ 7293034) (hN : ∀ (b2 : Bool) (hp2 : hp_T) (xs2 : sh_T) (u5 u6 : Value), Rel b2 hp2 → gG mL_law 2048 601024 7293034 (zL L w) (c + 1) (sl + 6) (1121, [.float 100, .ref 0, .ref 43, .ref 77, .int i, u5, u6], [], SH b2 xs2, hp2)) : gG mL_law 2048 601024 7293034 (zL L w) c sl (225, [.float 100, .ref 0, .ref 43, .ref 77, .int i, v5, v6], [], SH b xs, hp) := by
  have e1 : (i + 1).toInt = ((I + 1 : Nat) : Int) := (ia_add2 iE (by decide : (1 : Int32).toInt = 1) (by omega) (by omega)).trans (by omega)
  refine g_run 5 rfl ?_
  refine g_sld (j := I + 1) rfl e1 (by omega) ?_
  refine g_callV0 rfl LL_24 rfl rfl rfl rfl ?_ (by omega) (by omega)
  refine pr_days hR _ (fun r b2 hp1 hM => ?_)
  refine g_run 5 rfl ?_
  refine g_sld (j := I + 1) rfl e1 (by omega) ?_
  refine g_callV0 rfl LL_28 rfl rfl rfl rfl ?_ (by omega) (by omega)
  refine hM _ (fun hp2 hR2 => ?_)
  refine gj_eq (kx := r.toInt) (kz := r.toInt) rfl rfl rfl (fun _ => ?_) (fun q => absurd rfl q)
  exact g_wide (by omega) (by omega) (hN b2 hp2 xs v5 v6 hR2)
set_option maxRecDepth 100000 in
theorem lw_c2 (hR : Rel b hp) (iE : i.toInt = (I : Int)) (hI : I + 6 < L) (hL : L ≤ 3584) (hc : c + 1 ≤ 601024) (hs : sl + 6 ≤ 7293034) (hN : ∀ (b2 : Bool) (hp2 : hp_T) (xs2 : sh_T) (u5 u6 : Value), Rel b2 hp2 → gG mL_law 2048 601024 7293034 (zL L w) (c + 1) (sl + 6) (1121, [.float 100, .ref 0, .ref 43, .ref 77, .int i, u5, u6], [], SH b2 xs2, hp2)) : gG mL_law 2048 601024 7293034 (zL L w) c sl (250, [.float 100, .ref 0, .ref 43, .ref 77, .int i, v5, v6], [], SH b xs, hp) := by
  have e1 : (i + 1).toInt = ((I + 1 : Nat) : Int) := (ia_add2 iE (by decide : (1 : Int32).toInt = 1) (by omega) (by omega)).trans (by omega)
  have e2 : (i + 2).toInt = ((I + 2 : Nat) : Int) := (ia_add2 iE (by decide : (2 : Int32).toInt = 2) (by omega) (by omega)).trans (by omega)
  refine g_run 5 rfl ?_
  refine g_sld (j := I + 1) rfl e1 (by omega) ?_
  refine g_run 4 rfl ?_
  refine g_sld (j := I + 2) rfl e2 (by omega) ?_
  refine g_callV0 rfl LL_29 rfl rfl rfl rfl ?_ (by omega) (by omega)
  refine pr_curve hR _ (fun r b2 hp1 hM => ?_)
  refine g_run 5 rfl ?_
  refine g_sld (j := I + 1) rfl e1 (by omega) ?_
  refine g_run 4 rfl ?_
  refine g_sld (j := I + 2) rfl e2 (by omega) ?_
  refine g_callV0 rfl LL_33 rfl rfl rfl rfl ?_ (by omega) (by omega)
  refine hM _ (fun hp2 hR2 => ?_)
  refine gj_eq (kx := r.toInt) (kz := r.toInt) rfl rfl rfl (fun _ => ?_) (fun q => absurd rfl q)
  exact g_wide (by omega) (by omega) (hN b2 hp2 xs v5 v6 hR2)
set_option maxRecDepth 100000 in
theorem lw_c3 (hR : Rel b hp) (iE : i.toInt = (I : Int)) (hI : I + 6 < L) (hL : L ≤ 3584) (hc : c + 1 ≤ 601024) (hs : sl + 6 ≤ 7293034) (hN : ∀ (b2 : Bool) (hp2 : hp_T) (xs2 : sh_T) (u5 u6 : Value), Rel b2 hp2 → gG mL_law 2048 601024 7293034 (zL L w) (c + 1) (sl + 6) (1121, [.float 100, .ref 0, .ref 43, .ref 77, .int i, u5, u6], [], SH b2 xs2, hp2)) : gG mL_law 2048 601024 7293034 (zL L w) c sl (287, [.float 100, .ref 0, .ref 43, .ref 77, .int i, v5, v6], [], SH b xs, hp) := by
  have e1 : (i + 1).toInt = ((I + 1 : Nat) : Int) := (ia_add2 iE (by decide : (1 : Int32).toInt = 1) (by omega) (by omega)).trans (by omega)
  have e2 : (i + 2).toInt = ((I + 2 : Nat) : Int) := (ia_add2 iE (by decide : (2 : Int32).toInt = 2) (by omega) (by omega)).trans (by omega)
  have e3 : (i + 3).toInt = ((I + 3 : Nat) : Int) := (ia_add2 iE (by decide : (3 : Int32).toInt = 3) (by omega) (by omega)).trans (by omega)
  have e4 : (i + 4).toInt = ((I + 4 : Nat) : Int) := (ia_add2 iE (by decide : (4 : Int32).toInt = 4) (by omega) (by omega)).trans (by omega)
  have e5 : (i + 5).toInt = ((I + 5 : Nat) : Int) := (ia_add2 iE (by decide : (5 : Int32).toInt = 5) (by omega) (by omega)).trans (by omega)
  have e6 : (i + 6).toInt = ((I + 6 : Nat) : Int) := (ia_add2 iE (by decide : (6 : Int32).toInt = 6) (by omega) (by omega)).trans (by omega)
  refine g_run 5 rfl ?_
  refine g_sld (j := I + 1) rfl e1 (by omega) ?_
  refine g_run 7 rfl ?_
  refine g_sld (j := I + 2) rfl e2 (by omega) ?_
  refine g_run 8 rfl ?_
  refine g_sld (j := I + 3) rfl e3 (by omega) ?_
  refine g_run 7 rfl ?_
  refine g_sld (j := I + 4) rfl e4 (by omega) ?_
  refine g_run 8 rfl ?_
  refine g_sld (j := I + 5) rfl e5 (by omega) ?_
  refine g_run 7 rfl ?_
  refine g_sld (j := I + 6) rfl e6 (by omega) ?_
  refine g_run 4 rfl ?_
  refine g_callV0 rfl LL_36 rfl rfl rfl rfl ?_ (by omega) (by omega)
  refine pr_feed hR _ (fun r b2 hp1 hM => ?_)
  refine g_run 5 rfl ?_
  refine g_sld (j := I + 1) rfl e1 (by omega) ?_
  refine g_run 7 rfl ?_
  refine g_sld (j := I + 2) rfl e2 (by omega) ?_
  refine g_run 8 rfl ?_
  refine g_sld (j := I + 3) rfl e3 (by omega) ?_
  refine g_run 7 rfl ?_
  refine g_sld (j := I + 4) rfl e4 (by omega) ?_
  refine g_run 8 rfl ?_
  refine g_sld (j := I + 5) rfl e5 (by omega) ?_
  refine g_run 7 rfl ?_
  refine g_sld (j := I + 6) rfl e6 (by omega) ?_
  refine g_run 4 rfl ?_
  refine g_callV0 rfl LL_40 rfl rfl rfl rfl ?_ (by omega) (by omega)
  refine hM _ (fun hp2 hR2 => ?_)
  refine gj_eq (kx := r.toInt) (kz := r.toInt) rfl rfl rfl (fun _ => ?_) (fun q => absurd rfl q)
  exact g_wide (by omega) (by omega) (hN b2 hp2 xs v5 v6 hR2)
set_option maxRecDepth 100000 in
theorem lw_c4 (hR : Rel b hp) (iE : i.toInt = (I : Int)) (hI : I + 6 < L) (hL : L ≤ 3584) (hc : c + 1 ≤ 601024) (hs : sl + 6 ≤ 7293034) (hN : ∀ (b2 : Bool) (hp2 : hp_T) (xs2 : sh_T) (u5 u6 : Value), Rel b2 hp2 → gG mL_law 2048 601024 7293034 (zL L w) (c + 1) (sl + 6) (1121, [.float 100, .ref 0, .ref 43, .ref 77, .int i, u5, u6], [], SH b2 xs2, hp2)) : gG mL_law 2048 601024 7293034 (zL L w) c sl (434, [.float 100, .ref 0, .ref 43, .ref 77, .int i, v5, v6], [], SH b xs, hp) := by
  refine g_run 1 rfl ?_
  refine g_callV0 rfl LL_41 rfl rfl rfl rfl ?_ (by omega) (by omega)
  refine pr_text hR _ (fun r b2 hp1 hM => ?_)
  refine g_run 1 rfl ?_
  refine g_callV0 rfl LL_45 rfl rfl rfl rfl ?_ (by omega) (by omega)
  refine hM _ (fun hp2 hR2 => ?_)
  refine gj_eq (kx := r.toInt) (kz := r.toInt) rfl rfl rfl (fun _ => ?_) (fun q => absurd rfl q)
  exact g_wide (by omega) (by omega) (hN b2 hp2 xs v5 v6 hR2)
set_option maxRecDepth 100000 in
theorem lw_c5 (hR : Rel b hp) (iE : i.toInt = (I : Int)) (hI : I + 6 < L) (hL : L ≤ 3584) (hc : c + 1 ≤ 601024) (hs : sl + 6 ≤ 7293034) (hN : ∀ (b2 : Bool) (hp2 : hp_T) (xs2 : sh_T) (u5 u6 : Value), Rel b2 hp2 → gG mL_law 2048 601024 7293034 (zL L w) (c + 1) (sl + 6) (1121, [.float 100, .ref 0, .ref 43, .ref 77, .int i, u5, u6], [], SH b2 xs2, hp2)) : gG mL_law 2048 601024 7293034 (zL L w) c sl (447, [.float 100, .ref 0, .ref 43, .ref 77, .int i, v5, v6], [], SH b xs, hp) := by
  have e1 : (i + 1).toInt = ((I + 1 : Nat) : Int) := (ia_add2 iE (by decide : (1 : Int32).toInt = 1) (by omega) (by omega)).trans (by omega)
  have e2 : (i + 2).toInt = ((I + 2 : Nat) : Int) := (ia_add2 iE (by decide : (2 : Int32).toInt = 2) (by omega) (by omega)).trans (by omega)
  refine g_run 5 rfl ?_
  refine g_sld (j := I + 1) rfl e1 (by omega) ?_
  refine g_run 4 rfl ?_
  refine g_sld (j := I + 2) rfl e2 (by omega) ?_
  refine g_callV0 rfl LL_46 rfl rfl rfl rfl ?_ (by omega) (by omega)
  refine pr_roast hR _ (fun r b2 hp1 hM => ?_)
  refine g_run 5 rfl ?_
  refine g_sld (j := I + 1) rfl e1 (by omega) ?_
  refine g_run 4 rfl ?_
  refine g_sld (j := I + 2) rfl e2 (by omega) ?_
  refine g_callV0 rfl LL_49 rfl rfl rfl rfl ?_ (by omega) (by omega)
  refine hM _ (fun hp2 hR2 => ?_)
  refine gj_eq (kx := r.toInt) (kz := r.toInt) rfl rfl rfl (fun _ => ?_) (fun q => absurd rfl q)
  exact g_wide (by omega) (by omega) (hN b2 hp2 xs v5 v6 hR2)
set_option maxRecDepth 100000 in
theorem lw_c6 (hR : Rel b hp) (iE : i.toInt = (I : Int)) (hI : I + 6 < L) (hL : L ≤ 3584) (hc : c + 1 ≤ 601024) (hs : sl + 6 ≤ 7293034) (hN : ∀ (b2 : Bool) (hp2 : hp_T) (xs2 : sh_T) (u5 u6 : Value), Rel b2 hp2 → gG mL_law 2048 601024 7293034 (zL L w) (c + 1) (sl + 6) (1121, [.float 100, .ref 0, .ref 43, .ref 77, .int i, u5, u6], [], SH b2 xs2, hp2)) : gG mL_law 2048 601024 7293034 (zL L w) c sl (484, [.float 100, .ref 0, .ref 43, .ref 77, .int i, v5, v6], [], SH b xs, hp) := by
  have e1 : (i + 1).toInt = ((I + 1 : Nat) : Int) := (ia_add2 iE (by decide : (1 : Int32).toInt = 1) (by omega) (by omega)).trans (by omega)
  refine g_run 5 rfl ?_
  refine g_sld (j := I + 1) rfl e1 (by omega) ?_
  refine g_callV0 rfl LL_50 rfl rfl rfl rfl ?_ (by omega) (by omega)
  refine pr_roasted hR _ (fun r b2 hp1 hM => ?_)
  refine g_run 5 rfl ?_
  refine g_sld (j := I + 1) rfl e1 (by omega) ?_
  refine g_callV0 rfl LL_53 rfl rfl rfl rfl ?_ (by omega) (by omega)
  refine hM _ (fun hp2 hR2 => ?_)
  refine gj_eq (kx := r.toInt) (kz := r.toInt) rfl rfl rfl (fun _ => ?_) (fun q => absurd rfl q)
  exact g_wide (by omega) (by omega) (hN b2 hp2 xs v5 v6 hR2)
set_option maxRecDepth 100000 in
theorem lw_c7 (hR : Rel b hp) (iE : i.toInt = (I : Int)) (hI : I + 6 < L) (hL : L ≤ 3584) (hc : c + 1 ≤ 601024) (hs : sl + 6 ≤ 7293034) (hN : ∀ (b2 : Bool) (hp2 : hp_T) (xs2 : sh_T) (u5 u6 : Value), Rel b2 hp2 → gG mL_law 2048 601024 7293034 (zL L w) (c + 1) (sl + 6) (1121, [.float 100, .ref 0, .ref 43, .ref 77, .int i, u5, u6], [], SH b2 xs2, hp2)) : gG mL_law 2048 601024 7293034 (zL L w) c sl (509, [.float 100, .ref 0, .ref 43, .ref 77, .int i, v5, v6], [], SH b xs, hp) := by
  have e1 : (i + 1).toInt = ((I + 1 : Nat) : Int) := (ia_add2 iE (by decide : (1 : Int32).toInt = 1) (by omega) (by omega)).trans (by omega)
  have e2 : (i + 2).toInt = ((I + 2 : Nat) : Int) := (ia_add2 iE (by decide : (2 : Int32).toInt = 2) (by omega) (by omega)).trans (by omega)
  refine g_run 5 rfl ?_
  refine g_sld (j := I + 1) rfl e1 (by omega) ?_
  refine g_run 4 rfl ?_
  refine g_sld (j := I + 2) rfl e2 (by omega) ?_
  refine g_callV0 rfl LL_54 rfl rfl rfl rfl ?_ (by omega) (by omega)
  refine pr_take hR _ (fun r b2 hp1 hM => ?_)
  refine g_run 5 rfl ?_
  refine g_sld (j := I + 1) rfl e1 (by omega) ?_
  refine g_run 4 rfl ?_
  refine g_sld (j := I + 2) rfl e2 (by omega) ?_
  refine g_callV0 rfl LL_57 rfl rfl rfl rfl ?_ (by omega) (by omega)
  refine hM _ (fun hp2 hR2 => ?_)
  refine gj_eq (kx := r.toInt) (kz := r.toInt) rfl rfl rfl (fun _ => ?_) (fun q => absurd rfl q)
  exact g_wide (by omega) (by omega) (hN b2 hp2 xs v5 v6 hR2)
set_option maxRecDepth 100000 in
theorem lw_c8 (hR : Rel b hp) (iE : i.toInt = (I : Int)) (hI : I + 6 < L) (hL : L ≤ 3584) (hc : c + 1 ≤ 601024) (hs : sl + 6 ≤ 7293034) (hN : ∀ (b2 : Bool) (hp2 : hp_T) (xs2 : sh_T) (u5 u6 : Value), Rel b2 hp2 → gG mL_law 2048 601024 7293034 (zL L w) (c + 1) (sl + 6) (1121, [.float 100, .ref 0, .ref 43, .ref 77, .int i, u5, u6], [], SH b2 xs2, hp2)) : gG mL_law 2048 601024 7293034 (zL L w) c sl (546, [.float 100, .ref 0, .ref 43, .ref 77, .int i, v5, v6], [], SH b xs, hp) := by
  refine g_run 1 rfl ?_
  refine g_callV0 rfl LL_58 rfl rfl rfl rfl ?_ (by omega) (by omega)
  refine pr_blend hR _ (fun r b2 hp1 hM => ?_)
  refine g_run 1 rfl ?_
  refine g_callV0 rfl LL_61 rfl rfl rfl rfl ?_ (by omega) (by omega)
  refine hM _ (fun hp2 hR2 => ?_)
  refine gj_eq (kx := r.toInt) (kz := r.toInt) rfl rfl rfl (fun _ => ?_) (fun q => absurd rfl q)
  exact g_wide (by omega) (by omega) (hN b2 hp2 xs v5 v6 hR2)
set_option maxRecDepth 100000 in
theorem lw_c10 (hR : Rel b hp) (iE : i.toInt = (I : Int)) (hI : I + 6 < L) (hL : L ≤ 3584) (hc : c + 1 ≤ 601024) (hs : sl + 6 ≤ 7293034) (hN : ∀ (b2 : Bool) (hp2 : hp_T) (xs2 : sh_T) (u5 u6 : Value), Rel b2 hp2 → gG mL_law 2048 601024 7293034 (zL L w) (c + 1) (sl + 6) (1121, [.float 100, .ref 0, .ref 43, .ref 77, .int i, u5, u6], [], SH b2 xs2, hp2)) : gG mL_law 2048 601024 7293034 (zL L w) c sl (627, [.float 100, .ref 0, .ref 43, .ref 77, .int i, v5, v6], [], SH b xs, hp) := by
  have e1 : (i + 1).toInt = ((I + 1 : Nat) : Int) := (ia_add2 iE (by decide : (1 : Int32).toInt = 1) (by omega) (by omega)).trans (by omega)
  have e2 : (i + 2).toInt = ((I + 2 : Nat) : Int) := (ia_add2 iE (by decide : (2 : Int32).toInt = 2) (by omega) (by omega)).trans (by omega)
  refine g_run 5 rfl ?_
  refine g_sld (j := I + 1) rfl e1 (by omega) ?_
  refine g_run 4 rfl ?_
  refine g_sld (j := I + 2) rfl e2 (by omega) ?_
  refine g_callV0 rfl LL_71 rfl rfl rfl rfl ?_ (by omega) (by omega)
  refine pr_part hR _ (fun r b2 hp1 hM => ?_)
  refine g_run 5 rfl ?_
  refine g_sld (j := I + 1) rfl e1 (by omega) ?_
  refine g_run 4 rfl ?_
  refine g_sld (j := I + 2) rfl e2 (by omega) ?_
  refine g_callV0 rfl LL_74 rfl rfl rfl rfl ?_ (by omega) (by omega)
  refine hM _ (fun hp2 hR2 => ?_)
  refine gj_eq (kx := r.toInt) (kz := r.toInt) rfl rfl rfl (fun _ => ?_) (fun q => absurd rfl q)
  exact g_wide (by omega) (by omega) (hN b2 hp2 xs v5 v6 hR2)
set_option maxRecDepth 100000 in
theorem lw_c11 (hR : Rel b hp) (iE : i.toInt = (I : Int)) (hI : I + 6 < L) (hL : L ≤ 3584) (hc : c + 1 ≤ 601024) (hs : sl + 6 ≤ 7293034) (hN : ∀ (b2 : Bool) (hp2 : hp_T) (xs2 : sh_T) (u5 u6 : Value), Rel b2 hp2 → gG mL_law 2048 601024 7293034 (zL L w) (c + 1) (sl + 6) (1121, [.float 100, .ref 0, .ref 43, .ref 77, .int i, u5, u6], [], SH b2 xs2, hp2)) : gG mL_law 2048 601024 7293034 (zL L w) c sl (664, [.float 100, .ref 0, .ref 43, .ref 77, .int i, v5, v6], [], SH b xs, hp) := by
  have e1 : (i + 1).toInt = ((I + 1 : Nat) : Int) := (ia_add2 iE (by decide : (1 : Int32).toInt = 1) (by omega) (by omega)).trans (by omega)
  have e2 : (i + 2).toInt = ((I + 2 : Nat) : Int) := (ia_add2 iE (by decide : (2 : Int32).toInt = 2) (by omega) (by omega)).trans (by omega)
  have e3 : (i + 3).toInt = ((I + 3 : Nat) : Int) := (ia_add2 iE (by decide : (3 : Int32).toInt = 3) (by omega) (by omega)).trans (by omega)
  refine g_run 5 rfl ?_
  refine g_sld (j := I + 1) rfl e1 (by omega) ?_
  refine g_run 4 rfl ?_
  refine g_sld (j := I + 2) rfl e2 (by omega) ?_
  refine g_run 4 rfl ?_
  refine g_sld (j := I + 3) rfl e3 (by omega) ?_
  refine g_callV0 rfl LL_75 rfl rfl rfl rfl ?_ (by omega) (by omega)
  refine pr_mark hR _ (fun r b2 hp1 hM => ?_)
  refine g_run 5 rfl ?_
  refine g_sld (j := I + 1) rfl e1 (by omega) ?_
  refine g_run 4 rfl ?_
  refine g_sld (j := I + 2) rfl e2 (by omega) ?_
  refine g_run 4 rfl ?_
  refine g_sld (j := I + 3) rfl e3 (by omega) ?_
  refine g_callV0 rfl LL_79 rfl rfl rfl rfl ?_ (by omega) (by omega)
  refine hM _ (fun hp2 hR2 => ?_)
  refine gj_eq (kx := r.toInt) (kz := r.toInt) rfl rfl rfl (fun _ => ?_) (fun q => absurd rfl q)
  exact g_wide (by omega) (by omega) (hN b2 hp2 xs v5 v6 hR2)
set_option maxRecDepth 100000 in
theorem lw_c12 (hR : Rel b hp) (iE : i.toInt = (I : Int)) (hI : I + 6 < L) (hL : L ≤ 3584) (hc : c + 1 ≤ 601024) (hs : sl + 6 ≤ 7293034) (hN : ∀ (b2 : Bool) (hp2 : hp_T) (xs2 : sh_T) (u5 u6 : Value), Rel b2 hp2 → gG mL_law 2048 601024 7293034 (zL L w) (c + 1) (sl + 6) (1121, [.float 100, .ref 0, .ref 43, .ref 77, .int i, u5, u6], [], SH b2 xs2, hp2)) : gG mL_law 2048 601024 7293034 (zL L w) c sl (713, [.float 100, .ref 0, .ref 43, .ref 77, .int i, v5, v6], [], SH b xs, hp) := by
  have e1 : (i + 1).toInt = ((I + 1 : Nat) : Int) := (ia_add2 iE (by decide : (1 : Int32).toInt = 1) (by omega) (by omega)).trans (by omega)
  have e2 : (i + 2).toInt = ((I + 2 : Nat) : Int) := (ia_add2 iE (by decide : (2 : Int32).toInt = 2) (by omega) (by omega)).trans (by omega)
  refine g_run 5 rfl ?_
  refine g_sld (j := I + 1) rfl e1 (by omega) ?_
  refine g_run 4 rfl ?_
  refine g_sld (j := I + 2) rfl e2 (by omega) ?_
  refine g_callV0 rfl LL_80 rfl rfl rfl rfl ?_ (by omega) (by omega)
  refine pr_told hR _ (fun r b2 hp1 hM => ?_)
  refine g_run 5 rfl ?_
  refine g_sld (j := I + 1) rfl e1 (by omega) ?_
  refine g_run 4 rfl ?_
  refine g_sld (j := I + 2) rfl e2 (by omega) ?_
  refine g_callV0 rfl LL_83 rfl rfl rfl rfl ?_ (by omega) (by omega)
  refine hM _ (fun hp2 hR2 => ?_)
  refine gj_eq (kx := r.toInt) (kz := r.toInt) rfl rfl rfl (fun _ => ?_) (fun q => absurd rfl q)
  exact g_wide (by omega) (by omega) (hN b2 hp2 xs v5 v6 hR2)
set_option maxRecDepth 100000 in
theorem lw_c13 (hR : Rel b hp) (iE : i.toInt = (I : Int)) (hI : I + 6 < L) (hL : L ≤ 3584) (hc : c + 1 ≤ 601024) (hs : sl + 6 ≤ 7293034) (hN : ∀ (b2 : Bool) (hp2 : hp_T) (xs2 : sh_T) (u5 u6 : Value), Rel b2 hp2 → gG mL_law 2048 601024 7293034 (zL L w) (c + 1) (sl + 6) (1121, [.float 100, .ref 0, .ref 43, .ref 77, .int i, u5, u6], [], SH b2 xs2, hp2)) : gG mL_law 2048 601024 7293034 (zL L w) c sl (750, [.float 100, .ref 0, .ref 43, .ref 77, .int i, v5, v6], [], SH b xs, hp) := by
  have e1 : (i + 1).toInt = ((I + 1 : Nat) : Int) := (ia_add2 iE (by decide : (1 : Int32).toInt = 1) (by omega) (by omega)).trans (by omega)
  have e2 : (i + 2).toInt = ((I + 2 : Nat) : Int) := (ia_add2 iE (by decide : (2 : Int32).toInt = 2) (by omega) (by omega)).trans (by omega)
  refine g_run 5 rfl ?_
  refine g_sld (j := I + 1) rfl e1 (by omega) ?_
  refine g_run 4 rfl ?_
  refine g_sld (j := I + 2) rfl e2 (by omega) ?_
  refine g_callV0 rfl LL_84 rfl rfl rfl rfl ?_ (by omega) (by omega)
  refine pr_order hR _ (fun r b2 hp1 hM => ?_)
  refine g_run 5 rfl ?_
  refine g_sld (j := I + 1) rfl e1 (by omega) ?_
  refine g_run 4 rfl ?_
  refine g_sld (j := I + 2) rfl e2 (by omega) ?_
  refine g_callV0 rfl LL_87 rfl rfl rfl rfl ?_ (by omega) (by omega)
  refine hM _ (fun hp2 hR2 => ?_)
  refine gj_eq (kx := r.toInt) (kz := r.toInt) rfl rfl rfl (fun _ => ?_) (fun q => absurd rfl q)
  exact g_wide (by omega) (by omega) (hN b2 hp2 xs v5 v6 hR2)
set_option maxRecDepth 100000 in
theorem lw_c14 (hR : Rel b hp) (iE : i.toInt = (I : Int)) (hI : I + 6 < L) (hL : L ≤ 3584) (hc : c + 1 ≤ 601024) (hs : sl + 6 ≤ 7293034) (hN : ∀ (b2 : Bool) (hp2 : hp_T) (xs2 : sh_T) (u5 u6 : Value), Rel b2 hp2 → gG mL_law 2048 601024 7293034 (zL L w) (c + 1) (sl + 6) (1121, [.float 100, .ref 0, .ref 43, .ref 77, .int i, u5, u6], [], SH b2 xs2, hp2)) : gG mL_law 2048 601024 7293034 (zL L w) c sl (787, [.float 100, .ref 0, .ref 43, .ref 77, .int i, v5, v6], [], SH b xs, hp) := by
  have e1 : (i + 1).toInt = ((I + 1 : Nat) : Int) := (ia_add2 iE (by decide : (1 : Int32).toInt = 1) (by omega) (by omega)).trans (by omega)
  refine g_run 5 rfl ?_
  refine g_sld (j := I + 1) rfl e1 (by omega) ?_
  refine g_callV0 rfl LL_88 rfl rfl rfl rfl ?_ (by omega) (by omega)
  refine pr_worth hR _ (fun r b2 hp1 hM => ?_)
  refine g_run 5 rfl ?_
  refine g_sld (j := I + 1) rfl e1 (by omega) ?_
  refine g_callV0 rfl LL_91 rfl rfl rfl rfl ?_ (by omega) (by omega)
  refine hM _ (fun hp2 hR2 => ?_)
  refine gj_eq (kx := r.toInt) (kz := r.toInt) rfl rfl rfl (fun _ => ?_) (fun q => absurd rfl q)
  exact g_wide (by omega) (by omega) (hN b2 hp2 xs v5 v6 hR2)
set_option maxRecDepth 100000 in
theorem lw_c15 (hR : Rel b hp) (iE : i.toInt = (I : Int)) (hI : I + 6 < L) (hL : L ≤ 3584) (hc : c + 1 ≤ 601024) (hs : sl + 6 ≤ 7293034) (hN : ∀ (b2 : Bool) (hp2 : hp_T) (xs2 : sh_T) (u5 u6 : Value), Rel b2 hp2 → gG mL_law 2048 601024 7293034 (zL L w) (c + 1) (sl + 6) (1121, [.float 100, .ref 0, .ref 43, .ref 77, .int i, u5, u6], [], SH b2 xs2, hp2)) : gG mL_law 2048 601024 7293034 (zL L w) c sl (812, [.float 100, .ref 0, .ref 43, .ref 77, .int i, v5, v6], [], SH b xs, hp) := by
  have e1 : (i + 1).toInt = ((I + 1 : Nat) : Int) := (ia_add2 iE (by decide : (1 : Int32).toInt = 1) (by omega) (by omega)).trans (by omega)
  have e2 : (i + 2).toInt = ((I + 2 : Nat) : Int) := (ia_add2 iE (by decide : (2 : Int32).toInt = 2) (by omega) (by omega)).trans (by omega)
  have e3 : (i + 3).toInt = ((I + 3 : Nat) : Int) := (ia_add2 iE (by decide : (3 : Int32).toInt = 3) (by omega) (by omega)).trans (by omega)
  refine g_run 5 rfl ?_
  refine g_sld (j := I + 1) rfl e1 (by omega) ?_
  refine g_run 4 rfl ?_
  refine g_sld (j := I + 2) rfl e2 (by omega) ?_
  refine g_run 4 rfl ?_
  refine g_sld (j := I + 3) rfl e3 (by omega) ?_
  refine g_callV0 rfl LL_92 rfl rfl rfl rfl ?_ (by omega) (by omega)
  refine pr_span hR _ (fun r b2 hp1 hM => ?_)
  refine g_run 5 rfl ?_
  refine g_sld (j := I + 1) rfl e1 (by omega) ?_
  refine g_run 4 rfl ?_
  refine g_sld (j := I + 2) rfl e2 (by omega) ?_
  refine g_run 4 rfl ?_
  refine g_sld (j := I + 3) rfl e3 (by omega) ?_
  refine g_callV0 rfl LL_95 rfl rfl rfl rfl ?_ (by omega) (by omega)
  refine hM _ (fun hp2 hR2 => ?_)
  refine gj_eq (kx := r.toInt) (kz := r.toInt) rfl rfl rfl (fun _ => ?_) (fun q => absurd rfl q)
  exact g_wide (by omega) (by omega) (hN b2 hp2 xs v5 v6 hR2)
set_option maxRecDepth 100000 in
theorem lw_c16 (hR : Rel b hp) (iE : i.toInt = (I : Int)) (hI : I + 6 < L) (hL : L ≤ 3584) (hc : c + 1 ≤ 601024) (hs : sl + 6 ≤ 7293034) (hN : ∀ (b2 : Bool) (hp2 : hp_T) (xs2 : sh_T) (u5 u6 : Value), Rel b2 hp2 → gG mL_law 2048 601024 7293034 (zL L w) (c + 1) (sl + 6) (1121, [.float 100, .ref 0, .ref 43, .ref 77, .int i, u5, u6], [], SH b2 xs2, hp2)) : gG mL_law 2048 601024 7293034 (zL L w) c sl (861, [.float 100, .ref 0, .ref 43, .ref 77, .int i, v5, v6], [], SH b xs, hp) := by
  have e1 : (i + 1).toInt = ((I + 1 : Nat) : Int) := (ia_add2 iE (by decide : (1 : Int32).toInt = 1) (by omega) (by omega)).trans (by omega)
  have e2 : (i + 2).toInt = ((I + 2 : Nat) : Int) := (ia_add2 iE (by decide : (2 : Int32).toInt = 2) (by omega) (by omega)).trans (by omega)
  refine g_run 5 rfl ?_
  refine g_sld (j := I + 1) rfl e1 (by omega) ?_
  refine g_run 4 rfl ?_
  refine g_sld (j := I + 2) rfl e2 (by omega) ?_
  refine g_callV0 rfl LL_96 rfl rfl rfl rfl ?_ (by omega) (by omega)
  refine pr_best hR _ (fun r b2 hp1 hM => ?_)
  refine g_run 5 rfl ?_
  refine g_sld (j := I + 1) rfl e1 (by omega) ?_
  refine g_run 4 rfl ?_
  refine g_sld (j := I + 2) rfl e2 (by omega) ?_
  refine g_callV0 rfl LL_99 rfl rfl rfl rfl ?_ (by omega) (by omega)
  refine hM _ (fun hp2 hR2 => ?_)
  refine gj_eq (kx := r.toInt) (kz := r.toInt) rfl rfl rfl (fun _ => ?_) (fun q => absurd rfl q)
  exact g_wide (by omega) (by omega) (hN b2 hp2 xs v5 v6 hR2)
set_option maxRecDepth 100000 in
theorem lw_c17 (hR : Rel b hp) (iE : i.toInt = (I : Int)) (hI : I + 6 < L) (hL : L ≤ 3584) (hc : c + 1 ≤ 601024) (hs : sl + 6 ≤ 7293034) (hN : ∀ (b2 : Bool) (hp2 : hp_T) (xs2 : sh_T) (u5 u6 : Value), Rel b2 hp2 → gG mL_law 2048 601024 7293034 (zL L w) (c + 1) (sl + 6) (1121, [.float 100, .ref 0, .ref 43, .ref 77, .int i, u5, u6], [], SH b2 xs2, hp2)) : gG mL_law 2048 601024 7293034 (zL L w) c sl (898, [.float 100, .ref 0, .ref 43, .ref 77, .int i, v5, v6], [], SH b xs, hp) := by
  have e1 : (i + 1).toInt = ((I + 1 : Nat) : Int) := (ia_add2 iE (by decide : (1 : Int32).toInt = 1) (by omega) (by omega)).trans (by omega)
  refine g_run 5 rfl ?_
  refine g_sld (j := I + 1) rfl e1 (by omega) ?_
  refine g_callV0 rfl LL_100 rfl rfl rfl rfl ?_ (by omega) (by omega)
  refine pr_tenths hR _ (fun r b2 hp1 hM => ?_)
  refine g_run 5 rfl ?_
  refine g_sld (j := I + 1) rfl e1 (by omega) ?_
  refine g_callV0 rfl LL_103 rfl rfl rfl rfl ?_ (by omega) (by omega)
  refine hM _ (fun hp2 hR2 => ?_)
  refine gj_eq (kx := r.toInt) (kz := r.toInt) rfl rfl rfl (fun _ => ?_) (fun q => absurd rfl q)
  exact g_wide (by omega) (by omega) (hN b2 hp2 xs v5 v6 hR2)
set_option maxRecDepth 100000 in
theorem lw_c18 (hR : Rel b hp) (iE : i.toInt = (I : Int)) (hI : I + 6 < L) (hL : L ≤ 3584) (hc : c + 1 ≤ 601024) (hs : sl + 6 ≤ 7293034) (hN : ∀ (b2 : Bool) (hp2 : hp_T) (xs2 : sh_T) (u5 u6 : Value), Rel b2 hp2 → gG mL_law 2048 601024 7293034 (zL L w) (c + 1) (sl + 6) (1121, [.float 100, .ref 0, .ref 43, .ref 77, .int i, u5, u6], [], SH b2 xs2, hp2)) : gG mL_law 2048 601024 7293034 (zL L w) c sl (923, [.float 100, .ref 0, .ref 43, .ref 77, .int i, v5, v6], [], SH b xs, hp) := by
  have e1 : (i + 1).toInt = ((I + 1 : Nat) : Int) := (ia_add2 iE (by decide : (1 : Int32).toInt = 1) (by omega) (by omega)).trans (by omega)
  have e2 : (i + 2).toInt = ((I + 2 : Nat) : Int) := (ia_add2 iE (by decide : (2 : Int32).toInt = 2) (by omega) (by omega)).trans (by omega)
  refine g_run 5 rfl ?_
  refine g_sld (j := I + 1) rfl e1 (by omega) ?_
  refine g_run 4 rfl ?_
  refine g_sld (j := I + 2) rfl e2 (by omega) ?_
  refine g_callV0 rfl LL_104 rfl rfl rfl rfl ?_ (by omega) (by omega)
  refine pr_send hR _ (fun r b2 hp1 hM => ?_)
  refine g_run 5 rfl ?_
  refine g_sld (j := I + 1) rfl e1 (by omega) ?_
  refine g_run 4 rfl ?_
  refine g_sld (j := I + 2) rfl e2 (by omega) ?_
  refine g_callV0 rfl LL_107 rfl rfl rfl rfl ?_ (by omega) (by omega)
  refine hM _ (fun hp2 hR2 => ?_)
  refine gj_eq (kx := r.toInt) (kz := r.toInt) rfl rfl rfl (fun _ => ?_) (fun q => absurd rfl q)
  exact g_wide (by omega) (by omega) (hN b2 hp2 xs v5 v6 hR2)
set_option maxRecDepth 100000 in
theorem lw_c19 (hR : Rel b hp) (iE : i.toInt = (I : Int)) (hI : I + 6 < L) (hL : L ≤ 3584) (hc : c + 1 ≤ 601024) (hs : sl + 6 ≤ 7293034) (hN : ∀ (b2 : Bool) (hp2 : hp_T) (xs2 : sh_T) (u5 u6 : Value), Rel b2 hp2 → gG mL_law 2048 601024 7293034 (zL L w) (c + 1) (sl + 6) (1121, [.float 100, .ref 0, .ref 43, .ref 77, .int i, u5, u6], [], SH b2 xs2, hp2)) : gG mL_law 2048 601024 7293034 (zL L w) c sl (960, [.float 100, .ref 0, .ref 43, .ref 77, .int i, v5, v6], [], SH b xs, hp) := by
  have e1 : (i + 1).toInt = ((I + 1 : Nat) : Int) := (ia_add2 iE (by decide : (1 : Int32).toInt = 1) (by omega) (by omega)).trans (by omega)
  have e2 : (i + 2).toInt = ((I + 2 : Nat) : Int) := (ia_add2 iE (by decide : (2 : Int32).toInt = 2) (by omega) (by omega)).trans (by omega)
  refine g_run 5 rfl ?_
  refine g_sld (j := I + 1) rfl e1 (by omega) ?_
  refine g_run 4 rfl ?_
  refine g_sld (j := I + 2) rfl e2 (by omega) ?_
  refine g_callV0 rfl LL_108 rfl rfl rfl rfl ?_ (by omega) (by omega)
  refine pr_keeps hR _ (fun r b2 hp1 hM => ?_)
  refine g_run 5 rfl ?_
  refine g_sld (j := I + 1) rfl e1 (by omega) ?_
  refine g_run 4 rfl ?_
  refine g_sld (j := I + 2) rfl e2 (by omega) ?_
  refine g_callV0 rfl LL_111 rfl rfl rfl rfl ?_ (by omega) (by omega)
  refine hM _ (fun hp2 hR2 => ?_)
  refine gj_eq (kx := r.toInt) (kz := r.toInt) rfl rfl rfl (fun _ => ?_) (fun q => absurd rfl q)
  exact g_wide (by omega) (by omega) (hN b2 hp2 xs v5 v6 hR2)
set_option maxRecDepth 100000 in
theorem lw_c20 (hR : Rel b hp) (iE : i.toInt = (I : Int)) (hI : I + 6 < L) (hL : L ≤ 3584) (hc : c + 1 ≤ 601024) (hs : sl + 6 ≤ 7293034) (hN : ∀ (b2 : Bool) (hp2 : hp_T) (xs2 : sh_T) (u5 u6 : Value), Rel b2 hp2 → gG mL_law 2048 601024 7293034 (zL L w) (c + 1) (sl + 6) (1121, [.float 100, .ref 0, .ref 43, .ref 77, .int i, u5, u6], [], SH b2 xs2, hp2)) : gG mL_law 2048 601024 7293034 (zL L w) c sl (997, [.float 100, .ref 0, .ref 43, .ref 77, .int i, v5, v6], [], SH b xs, hp) := by
  have e1 : (i + 1).toInt = ((I + 1 : Nat) : Int) := (ia_add2 iE (by decide : (1 : Int32).toInt = 1) (by omega) (by omega)).trans (by omega)
  refine g_run 5 rfl ?_
  refine g_sld (j := I + 1) rfl e1 (by omega) ?_
  refine g_callV0 rfl LL_112 rfl rfl rfl rfl ?_ (by omega) (by omega)
  refine pr_stale hR _ (fun r b2 hp1 hM => ?_)
  refine g_run 5 rfl ?_
  refine g_sld (j := I + 1) rfl e1 (by omega) ?_
  refine g_callV0 rfl LL_115 rfl rfl rfl rfl ?_ (by omega) (by omega)
  refine hM _ (fun hp2 hR2 => ?_)
  refine gj_eq (kx := r.toInt) (kz := r.toInt) rfl rfl rfl (fun _ => ?_) (fun q => absurd rfl q)
  exact g_wide (by omega) (by omega) (hN b2 hp2 xs v5 v6 hR2)
set_option maxRecDepth 100000 in
theorem lw_c21 (hR : Rel b hp) (iE : i.toInt = (I : Int)) (hI : I + 6 < L) (hL : L ≤ 3584) (hc : c + 1 ≤ 601024) (hs : sl + 6 ≤ 7293034) (hN : ∀ (b2 : Bool) (hp2 : hp_T) (xs2 : sh_T) (u5 u6 : Value), Rel b2 hp2 → gG mL_law 2048 601024 7293034 (zL L w) (c + 1) (sl + 6) (1121, [.float 100, .ref 0, .ref 43, .ref 77, .int i, u5, u6], [], SH b2 xs2, hp2)) : gG mL_law 2048 601024 7293034 (zL L w) c sl (1022, [.float 100, .ref 0, .ref 43, .ref 77, .int i, v5, v6], [], SH b xs, hp) := by
  have e1 : (i + 1).toInt = ((I + 1 : Nat) : Int) := (ia_add2 iE (by decide : (1 : Int32).toInt = 1) (by omega) (by omega)).trans (by omega)
  have e2 : (i + 2).toInt = ((I + 2 : Nat) : Int) := (ia_add2 iE (by decide : (2 : Int32).toInt = 2) (by omega) (by omega)).trans (by omega)
  refine g_run 5 rfl ?_
  refine g_sld (j := I + 1) rfl e1 (by omega) ?_
  refine g_run 4 rfl ?_
  refine g_sld (j := I + 2) rfl e2 (by omega) ?_
  refine g_callV0 rfl LL_116 rfl rfl rfl rfl ?_ (by omega) (by omega)
  refine pr_found hR _ (fun r b2 hp1 hM => ?_)
  refine g_run 5 rfl ?_
  refine g_sld (j := I + 1) rfl e1 (by omega) ?_
  refine g_run 4 rfl ?_
  refine g_sld (j := I + 2) rfl e2 (by omega) ?_
  refine g_callV0 rfl LL_119 rfl rfl rfl rfl ?_ (by omega) (by omega)
  refine hM _ (fun hp2 hR2 => ?_)
  refine gj_eq (kx := r.toInt) (kz := r.toInt) rfl rfl rfl (fun _ => ?_) (fun q => absurd rfl q)
  exact g_wide (by omega) (by omega) (hN b2 hp2 xs v5 v6 hR2)
set_option maxRecDepth 100000 in
theorem lw_c22 (hR : Rel b hp) (iE : i.toInt = (I : Int)) (hI : I + 6 < L) (hL : L ≤ 3584) (hc : c + 1 ≤ 601024) (hs : sl + 6 ≤ 7293034) (hN : ∀ (b2 : Bool) (hp2 : hp_T) (xs2 : sh_T) (u5 u6 : Value), Rel b2 hp2 → gG mL_law 2048 601024 7293034 (zL L w) (c + 1) (sl + 6) (1121, [.float 100, .ref 0, .ref 43, .ref 77, .int i, u5, u6], [], SH b2 xs2, hp2)) : gG mL_law 2048 601024 7293034 (zL L w) c sl (1059, [.float 100, .ref 0, .ref 43, .ref 77, .int i, v5, v6], [], SH b xs, hp) := by
  have e1 : (i + 1).toInt = ((I + 1 : Nat) : Int) := (ia_add2 iE (by decide : (1 : Int32).toInt = 1) (by omega) (by omega)).trans (by omega)
  have e2 : (i + 2).toInt = ((I + 2 : Nat) : Int) := (ia_add2 iE (by decide : (2 : Int32).toInt = 2) (by omega) (by omega)).trans (by omega)
  refine g_run 5 rfl ?_
  refine g_sld (j := I + 1) rfl e1 (by omega) ?_
  refine g_run 4 rfl ?_
  refine g_sld (j := I + 2) rfl e2 (by omega) ?_
  refine g_callV0 rfl LL_120 rfl rfl rfl rfl ?_ (by omega) (by omega)
  refine pr_led hR _ (fun r b2 hp1 hM => ?_)
  refine g_run 5 rfl ?_
  refine g_sld (j := I + 1) rfl e1 (by omega) ?_
  refine g_run 4 rfl ?_
  refine g_sld (j := I + 2) rfl e2 (by omega) ?_
  refine g_callV0 rfl LL_123 rfl rfl rfl rfl ?_ (by omega) (by omega)
  refine hM _ (fun hp2 hR2 => ?_)
  refine gj_eq (kx := r.toInt) (kz := r.toInt) rfl rfl rfl (fun _ => ?_) (fun q => absurd rfl q)
  exact g_wide (by omega) (by omega) (hN b2 hp2 xs v5 v6 hR2)
set_option maxRecDepth 100000 in
theorem lw_c23 (hR : Rel b hp) (iE : i.toInt = (I : Int)) (hI : I + 6 < L) (hL : L ≤ 3584) (hc : c + 1 ≤ 601024) (hs : sl + 6 ≤ 7293034) (hN : ∀ (b2 : Bool) (hp2 : hp_T) (xs2 : sh_T) (u5 u6 : Value), Rel b2 hp2 → gG mL_law 2048 601024 7293034 (zL L w) (c + 1) (sl + 6) (1121, [.float 100, .ref 0, .ref 43, .ref 77, .int i, u5, u6], [], SH b2 xs2, hp2)) : gG mL_law 2048 601024 7293034 (zL L w) c sl (1096, [.float 100, .ref 0, .ref 43, .ref 77, .int i, v5, v6], [], SH b xs, hp) := by
  have e1 : (i + 1).toInt = ((I + 1 : Nat) : Int) := (ia_add2 iE (by decide : (1 : Int32).toInt = 1) (by omega) (by omega)).trans (by omega)
  refine g_run 5 rfl ?_
  refine g_sld (j := I + 1) rfl e1 (by omega) ?_
  refine g_callV0 rfl LL_124 rfl rfl rfl rfl ?_ (by omega) (by omega)
  refine pr_count hR _ (fun r b2 hp1 hM => ?_)
  refine g_run 5 rfl ?_
  refine g_sld (j := I + 1) rfl e1 (by omega) ?_
  refine g_callV0 rfl LL_127 rfl rfl rfl rfl ?_ (by omega) (by omega)
  refine hM _ (fun hp2 hR2 => ?_)
  refine gj_eq (kx := r.toInt) (kz := r.toInt) rfl rfl rfl (fun _ => ?_) (fun q => absurd rfl q)
  exact g_wide (by omega) (by omega) (hN b2 hp2 xs v5 v6 hR2)
end LWC
