/-! THE RELATION of the two worlds -/
def gLot (hp : hp_T) : Prop := hp.1 1 0 = hp.1 43 26 ∧ (0 ≤ (hp.1 1 0).toInt ∧ (hp.1 1 0).toInt ≤ 12) ∧ hp.1 2 = hp.1 60 ∧ hp.1 3 = hp.1 61 ∧ hp.1 4 = hp.1 62 ∧ ∀ j, 0 ≤ (hp.1 3 j).toInt ∧ (hp.1 3 j).toInt ≤ 10000
def gNow (hp : hp_T) : Prop := hp.1 0 9 = hp.1 43 25 ∧ 0 ≤ (hp.1 0 9).toInt ∧ (hp.1 0 9).toInt ≤ 999
def gCur (hp : hp_T) : Prop := hp.1 16 = hp.1 66 ∧ ∀ j, 0 ≤ (hp.1 16 j).toInt ∧ (hp.1 16 j).toInt ≤ 400
def gTap (hp : hp_T) : Prop := hp.1 6 = hp.1 44 ∧ hp.1 5 1 = hp.1 43 2 ∧ 0 ≤ (hp.1 5 1).toInt ∧ (hp.1 5 1).toInt ≤ 600
def gRul (b : Bool) (hp : hp_T) : Prop := (∃ (ls : List lt_T) (ho : Nat), (hp.1 43 16).toInt = (ho : Int) ∧ ho ≤ 1 ∧ rulX hp (rl b) ls ∧ rulM hp ho ls ∧ okTx ls) ∧ (0 ≤ (hp.1 9 7).toInt ∧ (hp.1 9 7).toInt ≤ 16) ∧ 0 ≤ (hp.1 37 7).toInt ∧ (hp.1 37 7).toInt ≤ 16
def gRoa (hp : hp_T) : Prop := hp.1 15 2 = hp.1 43 35 ∧ ((hp.1 15 2).toInt ≠ 0 → hp.1 15 9 = hp.1 43 36 ∧ hp.1 15 5 = hp.1 43 37 ∧ hp.1 15 0 = hp.1 43 41 ∧ hp.1 15 10 = hp.1 43 42 ∧ hp.1 15 11 = hp.1 43 43)
def rowI (P : Nat → Int32) (k : Nat) : Int32 := sumI (fun l => P (12 * k + l)) 12
/-- grams of a lot in all bags -/
def colS (P : Nat → Int32) (l : Nat) : Nat → Int
  | 0 => 0
  | k + 1 => colS P l k + (P (12 * k + l)).toInt
def gBag (hp : hp_T) : Prop := hp.1 17 0 = hp.1 43 30 ∧ (0 ≤ (hp.1 17 0).toInt ∧ (hp.1 17 0).toInt ≤ 60) ∧ hp.1 17 1 = hp.1 43 44 ∧ hp.1 19 = hp.1 64 ∧ hp.1 20 = hp.1 65 ∧ hp.1 21 = hp.1 67 ∧ hp.1 22 = hp.1 63 ∧ (∀ k, k < 60 → hp.1 18 k = rowI (hp.1 22) k) ∧ (∀ j, 0 ≤ (hp.1 22 j).toInt) ∧ (∀ k l : Nat, (hp.1 17 0).toInt ≤ (k : Int) → l < 12 → hp.1 22 (12 * k + l) = 0) ∧ (∀ k l : Nat, (hp.1 1 0).toInt ≤ (l : Int) → l < 12 → hp.1 22 (12 * k + l) = 0) ∧ (∀ l, l < 12 → 0 ≤ (hp.1 2 l).toInt ∧ colS (hp.1 22) l 60 + (hp.1 2 l).toInt ≤ 100000) ∧ (∀ k, k < 60 → 0 ≤ (hp.1 21 k).toInt ∧ (hp.1 21 k).toInt ≤ (hp.1 18 k).toInt ∧ (0 < (hp.1 21 k).toInt → (k : Int) < (hp.1 17 0).toInt)) ∧ (hp.1 17 1).toInt = cz (fun k => decide (0 < (hp.1 21 k).toInt)) 60 ∧ (∀ k, 0 ≤ (hp.1 19 k).toInt ∧ (hp.1 19 k).toInt ≤ 999) ∧ ∀ k, -1 ≤ (hp.1 20 k).toInt ∧ (hp.1 20 k).toInt ≤ 9
def gCup (hp : hp_T) : Prop := hp.1 26 = hp.1 69 ∧ hp.1 27 = hp.1 70 ∧ (∀ j, -1 ≤ (hp.1 26 j).toInt ∧ (hp.1 26 j).toInt ≤ 100) ∧ ∀ j, -1 ≤ (hp.1 27 j).toInt ∧ (hp.1 27 j).toInt ≤ 100
def gSpa (hp : hp_T) : Prop := hp.1 30 = hp.1 71 ∧ hp.1 31 = hp.1 72 ∧ (∀ j, 0 ≤ (hp.1 30 j).toInt ∧ (hp.1 30 j).toInt ≤ 100) ∧ ∀ j, 0 ≤ (hp.1 31 j).toInt ∧ (hp.1 31 j).toInt ≤ 100
def gBes (hp : hp_T) : Prop := hp.1 28 0 = hp.1 43 56 ∧ ∀ j, j < 12 → hp.1 29 j = hp.1 75 j
def gKee (hp : hp_T) : Prop := hp.1 36 = hp.1 76 ∧ ∀ j, 0 ≤ (hp.1 36 j).toInt ∧ (hp.1 36 j).toInt ≤ 999
def gWor (hp : hp_T) : Prop := ∀ w, w < 10 → (hp.2 48 w).toInt = wvM.getD w 0
def Rel (b : Bool) (hp : hp_T) : Prop := gLot hp ∧ gNow hp ∧ gCur hp ∧ gTap hp ∧ gRul b hp ∧ gRoa hp ∧ gBag hp ∧ gCup hp ∧ gSpa hp ∧ gBes hp ∧ gKee hp ∧ gWor hp
def rulXf (n : Int32) (ac am se sp : Nat → Int32) (ls : List lt_T) : Prop := n = nI ls.length ∧ ∀ (k : Nat) (x : lt_T), ls[k]? = some x → ac k = x.1 ∧ am k = x.2.1 ∧ se k = nI (posX ls (k + 1)) ∧ ∀ (m : Nat) (v : Int32), x.2.2[m]? = some v → sp (posX ls k + m) = v
theorem rul_k {b : Bool} {hp hp2 : hp_T} (h : gRul b hp) (e0 : hp2.1 9 0 = hp.1 9 0) (e7 : hp2.1 9 7 = hp.1 9 7) (f0 : hp2.1 37 0 = hp.1 37 0) (f7 : hp2.1 37 7 = hp.1 37 7) (e10 : hp2.1 10 = hp.1 10) (e11 : hp2.1 11 = hp.1 11) (e12 : hp2.1 12 = hp.1 12) (e13 : hp2.1 13 = hp.1 13) (f38 : hp2.1 38 = hp.1 38) (f39 : hp2.1 39 = hp.1 39) (f40 : hp2.1 40 = hp.1 40) (f41 : hp2.1 41 = hp.1 41) (g49 : hp2.1 49 = hp.1 49) (g50 : hp2.1 50 = hp.1 50) (g51 : hp2.1 51 = hp.1 51) (g52 : hp2.1 52 = hp.1 52) (g53 : hp2.1 53 = hp.1 53) (g54 : hp2.1 54 = hp.1 54) (g16 : hp2.1 43 16 = hp.1 43 16) : gRul b hp2 := by
  obtain ⟨⟨ls, ho, h1, h2, h3, h4, h5⟩, h6, h7⟩ := h
  refine ⟨⟨ls, ho, by rw [g16]; exact h1, h2, ?_, ?_, h5⟩, by rw [e7]; exact h6, by rw [f7]; exact h7⟩
  · cases b with
    | false =>
      show rulXf (hp2.1 37 0) (hp2.1 38) (hp2.1 39) (hp2.1 40) (hp2.1 41) ls
      rw [f0, f38, f39, f40, f41]
      exact h3
    | true =>
      show rulXf (hp2.1 9 0) (hp2.1 10) (hp2.1 11) (hp2.1 12) (hp2.1 13) ls
      rw [e0, e10, e11, e12, e13]
      exact h3
  · show hp2.1 49 ho = nI ls.length ∧ rowsM ho ls (hp2.1 50) (hp2.1 51) (hp2.1 52) (hp2.1 53) (hp2.1 54)
    rw [g49, g50, g51, g52, g53, g54]
    exact h4
/-- x.f, then m.f: the same answer, and the worlds are related again -/
def prP (yX yM : mt_T) (aX aM : List Value) (b : Bool) (xs : sh_T) (hp : hp_T) : Prop := ∀ K : Option Value → sh_T → hp_T → Prop, (∀ (r : Int32) (b2 : Bool) (hp1 : hp_T), (∀ KM : Option Value → sh_T → hp_T → Prop, (∀ hp2 : hp_T, Rel b2 hp2 → KM (some (.int r)) (SH b2 xs) hp2) → gC yM 2047 0 0 aM (SH b2 xs) hp1 KM) → K (some (.int r)) (SH b2 xs) hp1) → gC yX 2047 0 0 aX (SH b xs) hp K
theorem kq {K : Option Value → sh_T → hp_T → Prop} {a r : Int32} {sh : sh_T} {h : hp_T} (e : a = r) (k : K (some (.int r)) sh h) : K (some (.int a)) sh h := e ▸ k
theorem up_bd {w : Nat → Int32} {k : Nat} {v : Int32} {lo hi : Int} (h : ∀ j, lo ≤ (w j).toInt ∧ (w j).toInt ≤ hi) (hv : lo ≤ v.toInt ∧ v.toInt ≤ hi) : ∀ j, lo ≤ (va_up w k v j).toInt ∧ (va_up w k v j).toInt ≤ hi := by
  intro j
  simp only [va_up]
  split
  · exact hv
  · exact h j
theorem row_i {P : Nat → Int32} {x : Int} (h : 0 ≤ x) : sumI (fun l => P ((12 * x) + (l : Int)).toNat) 12 = rowI P x.toNat := sumI_cg 12 (fun i _ => by rw [show ((12 * x) + (i : Int)).toNat = 12 * x.toNat + i by omega])
section S50
variable {hp : hp_T} {b : Bool} {xs : sh_T}
theorem pr_days {n : Int32} (hR : Rel b hp) : prP mX9_days mX10_days [.ref 0, .int n] [.ref 43, .int n] b xs hp := by
  obtain ⟨h_lot, h_now, h_cur, h_tap, h_rul, h_roa, h_bag, h_cup, h_spa, h_bes, h_kee, h_wor⟩ := hR
  have e25 : (hp.1 43 25).toInt = (hp.1 0 9).toInt := by rw [h_now.1]
  have hN := h_now.2
  intro K h
  refine c_X9_days (d := 2046) rfl h_now.2 (fun q => ?_) (fun q => ?_)
  · refine h _ _ _ (fun KM hK => ?_)
    refine c_X10_days (d := 2047) (hp := sI hp 0 9 (hp.1 0 9 + n)) rfl (show 0 ≤ (hp.1 43 25).toInt ∧ (hp.1 43 25).toInt ≤ 999 from by omega) (fun q2 => ?_) (fun q2 => ?_)
    · have ea := ia_add2 (a := hp.1 0 9) (b := n) rfl rfl (by omega) (by omega)
      exact kq (show hp.1 43 25 + n = hp.1 0 9 + n from by rw [h_now.1]) (hK _ ⟨h_lot, ⟨show hp.1 0 9 + n = hp.1 43 25 + n from by rw [h_now.1], show 0 ≤ (hp.1 0 9 + n).toInt ∧ (hp.1 0 9 + n).toInt ≤ 999 from by omega⟩, h_cur, h_tap, rul_k h_rul rfl rfl rfl rfl rfl rfl rfl rfl rfl rfl rfl rfl rfl rfl rfl rfl rfl rfl rfl, h_roa, h_bag, h_cup, h_spa, h_bes, h_kee, h_wor⟩)
    · have q3 : n.toInt < 0 ∨ 100 < n.toInt ∨ 999 < (hp.1 43 25).toInt + n.toInt := q2
      exfalso; omega
  · refine h _ _ _ (fun KM hK => ?_)
    refine c_X10_days (d := 2047) (hp := hp) rfl (by omega) (fun q2 => ?_) (fun q2 => ?_)
    · exfalso; omega
    · exact hK _ ⟨h_lot, h_now, h_cur, h_tap, rul_k h_rul rfl rfl rfl rfl rfl rfl rfl rfl rfl rfl rfl rfl rfl rfl rfl rfl rfl rfl rfl, h_roa, h_bag, h_cup, h_spa, h_bes, h_kee, h_wor⟩
theorem pr_curve {m w : Int32} (hR : Rel b hp) : prP mX9_curve mX10_curve [.ref 0, .int m, .int w] [.ref 43, .int m, .int w] b xs hp := by
  obtain ⟨h_lot, h_now, h_cur, h_tap, h_rul, h_roa, h_bag, h_cup, h_spa, h_bes, h_kee, h_wor⟩ := hR
  intro K h
  refine c_X9_curve (d := 2045) rfl rfl (fun q => ?_) (fun q => ?_)
  · refine h _ _ _ (fun KM hK => ?_)
    refine c_X10_curve (d := 2047) (hp := sI hp 16 m.toInt.toNat w) rfl rfl (fun q2 => ?_) (fun q2 => ?_)
    · exact hK _ ⟨h_lot, h_now, ⟨show va_up (hp.1 16) m.toInt.toNat w = va_up (hp.1 66) m.toInt.toNat w from by rw [h_cur.1, show m.toInt.toNat = m.toInt.toNat from by omega], up_bd h_cur.2 (by omega)⟩, h_tap, rul_k h_rul rfl rfl rfl rfl rfl rfl rfl rfl rfl rfl rfl rfl rfl rfl rfl rfl rfl rfl rfl, h_roa, h_bag, h_cup, h_spa, h_bes, h_kee, h_wor⟩
    · exfalso; omega
  · refine h _ _ _ (fun KM hK => ?_)
    refine c_X10_curve (d := 2047) (hp := hp) rfl rfl (fun q2 => ?_) (fun q2 => ?_)
    · exfalso; omega
    · exact hK _ ⟨h_lot, h_now, h_cur, h_tap, rul_k h_rul rfl rfl rfl rfl rfl rfl rfl rfl rfl rfl rfl rfl rfl rfl rfl rfl rfl rfl rfl, h_roa, h_bag, h_cup, h_spa, h_bes, h_kee, h_wor⟩
theorem pr_keeps {u n : Int32} (hR : Rel b hp) : prP mX9_keeps mX10_keeps [.ref 0, .int u, .int n] [.ref 43, .int u, .int n] b xs hp := by
  obtain ⟨h_lot, h_now, h_cur, h_tap, h_rul, h_roa, h_bag, h_cup, h_spa, h_bes, h_kee, h_wor⟩ := hR
  intro K h
  refine c_X9_keeps (d := 2046) rfl rfl (fun q => ?_) (fun q => ?_)
  · refine h _ _ _ (fun KM hK => ?_)
    refine c_X10_keeps (d := 2046) (hp := sI hp 36 u.toInt.toNat n) rfl rfl (fun q2 => ?_) (fun q2 => ?_)
    · exact hK _ ⟨h_lot, h_now, h_cur, h_tap, rul_k h_rul rfl rfl rfl rfl rfl rfl rfl rfl rfl rfl rfl rfl rfl rfl rfl rfl rfl rfl rfl, h_roa, h_bag, h_cup, h_spa, h_bes, ⟨show va_up (hp.1 36) u.toInt.toNat n = va_up (hp.1 76) u.toInt.toNat n from by rw [h_kee.1, show u.toInt.toNat = u.toInt.toNat from by omega], up_bd h_kee.2 (by omega)⟩, h_wor⟩
    · exfalso; omega
  · refine h _ _ _ (fun KM hK => ?_)
    refine c_X10_keeps (d := 2046) (hp := hp) rfl rfl (fun q2 => ?_) (fun q2 => ?_)
    · exfalso; omega
    · exact hK _ ⟨h_lot, h_now, h_cur, h_tap, rul_k h_rul rfl rfl rfl rfl rfl rfl rfl rfl rfl rfl rfl rfl rfl rfl rfl rfl rfl rfl rfl, h_roa, h_bag, h_cup, h_spa, h_bes, h_kee, h_wor⟩
theorem pr_mark {j a m : Int32} (hR : Rel b hp) : prP mX9_mark mX10_mark [.ref 0, .int j, .int a, .int m] [.ref 43, .int j, .int a, .int m] b xs hp := by
  obtain ⟨h_lot, h_now, h_cur, h_tap, h_rul, h_roa, h_bag, h_cup, h_spa, h_bes, h_kee, h_wor⟩ := hR
  intro K h
  refine c_X9_mark (d := 2044) rfl rfl rfl (fun q => ?_) (fun q => ?_)
  · refine h _ _ _ (fun KM hK => ?_)
    refine c_X10_mark (d := 2046) (hp := sI hp 26 ((j.toInt * 20) + a.toInt).toNat m) rfl rfl rfl (fun q2 => ?_) (fun q2 => ?_)
    · exact hK _ ⟨h_lot, h_now, h_cur, h_tap, rul_k h_rul rfl rfl rfl rfl rfl rfl rfl rfl rfl rfl rfl rfl rfl rfl rfl rfl rfl rfl rfl, h_roa, h_bag, ⟨show va_up (hp.1 26) ((j.toInt * 20) + a.toInt).toNat m = va_up (hp.1 69) ((20 * j.toInt) + a.toInt).toNat m from by rw [h_cup.1, show ((j.toInt * 20) + a.toInt).toNat = ((20 * j.toInt) + a.toInt).toNat from by omega], h_cup.2.1, up_bd h_cup.2.2.1 (by omega), h_cup.2.2.2⟩, h_spa, h_bes, h_kee, h_wor⟩
    · exfalso; omega
  · refine h _ _ _ (fun KM hK => ?_)
    refine c_X10_mark (d := 2046) (hp := hp) rfl rfl rfl (fun q2 => ?_) (fun q2 => ?_)
    · exfalso; omega
    · exact hK _ ⟨h_lot, h_now, h_cur, h_tap, rul_k h_rul rfl rfl rfl rfl rfl rfl rfl rfl rfl rfl rfl rfl rfl rfl rfl rfl rfl rfl rfl, h_roa, h_bag, h_cup, h_spa, h_bes, h_kee, h_wor⟩
theorem pr_told {a w : Int32} (hR : Rel b hp) : prP mX9_told mX10_told [.ref 0, .int a, .int w] [.ref 43, .int a, .int w] b xs hp := by
  obtain ⟨h_lot, h_now, h_cur, h_tap, h_rul, h_roa, h_bag, h_cup, h_spa, h_bes, h_kee, h_wor⟩ := hR
  intro K h
  refine c_X9_told (d := 2044) rfl rfl (fun q => ?_) (fun q => ?_)
  · refine h _ _ _ (fun KM hK => ?_)
    refine c_X10_told (d := 2046) (hp := sI hp 27 a.toInt.toNat w) rfl rfl (fun q2 => ?_) (fun q2 => ?_)
    · exact hK _ ⟨h_lot, h_now, h_cur, h_tap, rul_k h_rul rfl rfl rfl rfl rfl rfl rfl rfl rfl rfl rfl rfl rfl rfl rfl rfl rfl rfl rfl, h_roa, h_bag, ⟨h_cup.1, show va_up (hp.1 27) a.toInt.toNat w = va_up (hp.1 70) a.toInt.toNat w from by rw [h_cup.2.1], h_cup.2.2.1, up_bd h_cup.2.2.2 (by omega)⟩, h_spa, h_bes, h_kee, h_wor⟩
    · exfalso; omega
  · refine h _ _ _ (fun KM hK => ?_)
    refine c_X10_told (d := 2046) (hp := hp) rfl rfl (fun q2 => ?_) (fun q2 => ?_)
    · exfalso; omega
    · exact hK _ ⟨h_lot, h_now, h_cur, h_tap, rul_k h_rul rfl rfl rfl rfl rfl rfl rfl rfl rfl rfl rfl rfl rfl rfl rfl rfl rfl rfl rfl, h_roa, h_bag, h_cup, h_spa, h_bes, h_kee, h_wor⟩
theorem pr_span {t f u : Int32} (hR : Rel b hp) : prP mX9_span mX10_span [.ref 0, .int t, .int f, .int u] [.ref 43, .int t, .int f, .int u] b xs hp := by
  obtain ⟨h_lot, h_now, h_cur, h_tap, h_rul, h_roa, h_bag, h_cup, h_spa, h_bes, h_kee, h_wor⟩ := hR
  intro K h
  refine c_X9_span (d := 2045) rfl rfl rfl (fun q => ?_) (fun q => ?_)
  · refine h _ _ _ (fun KM hK => ?_)
    refine c_X10_span (d := 2047) (hp := sI (sI hp 30 t.toInt.toNat f) 31 t.toInt.toNat u) rfl rfl rfl (fun q2 => ?_) (fun q2 => ?_)
    · exact hK _ ⟨h_lot, h_now, h_cur, h_tap, rul_k h_rul rfl rfl rfl rfl rfl rfl rfl rfl rfl rfl rfl rfl rfl rfl rfl rfl rfl rfl rfl, h_roa, h_bag, h_cup, ⟨show va_up (hp.1 30) t.toInt.toNat f = va_up (hp.1 71) t.toInt.toNat f from by rw [h_spa.1], show va_up (hp.1 31) t.toInt.toNat u = va_up (hp.1 72) t.toInt.toNat u from by rw [h_spa.2.1], up_bd h_spa.2.2.1 (by omega), up_bd h_spa.2.2.2 (by omega)⟩, h_bes, h_kee, h_wor⟩
    · exfalso; omega
  · refine h _ _ _ (fun KM hK => ?_)
    refine c_X10_span (d := 2047) (hp := hp) rfl rfl rfl (fun q2 => ?_) (fun q2 => ?_)
    · exfalso; omega
    · exact hK _ ⟨h_lot, h_now, h_cur, h_tap, rul_k h_rul rfl rfl rfl rfl rfl rfl rfl rfl rfl rfl rfl rfl rfl rfl rfl rfl rfl rfl rfl, h_roa, h_bag, h_cup, h_spa, h_bes, h_kee, h_wor⟩
theorem pr_part {n l : Int32} (hR : Rel b hp) : prP mX9_part mX10_part_ [.ref 0, .int n, .int l] [.ref 43, .int n, .int l] b xs hp := by
  obtain ⟨h_lot, h_now, h_cur, h_tap, h_rul, h_roa, h_bag, h_cup, h_spa, h_bes, h_kee, h_wor⟩ := hR
  have eL : (hp.1 43 26).toInt = (hp.1 1 0).toInt := by rw [h_lot.1]
  have eB : (hp.1 43 30).toInt = (hp.1 17 0).toInt := by rw [h_bag.1]
  have hL := h_lot.2.1
  have hB := h_bag.2.1
  intro K h
  refine c_X9_part (d := 2046) rfl rfl hL hB (fun q => ?_) (fun q => ?_) (fun q => ?_)
  · refine h _ _ _ (fun KM hK => ?_)
    refine c_X10_part_ (d := 2046) (hp := hp) rfl rfl (by omega) (by omega) (fun q2 => ?_) (fun q2 => ?_) (fun q2 => ?_)
    · exact kq (show hp.1 60 l.toInt.toNat = hp.1 2 l.toInt.toNat from by rw [h_lot.2.2.1]) (hK _ ⟨h_lot, h_now, h_cur, h_tap, rul_k h_rul rfl rfl rfl rfl rfl rfl rfl rfl rfl rfl rfl rfl rfl rfl rfl rfl rfl rfl rfl, h_roa, h_bag, h_cup, h_spa, h_bes, h_kee, h_wor⟩)
    · exfalso; omega
    · exfalso; omega
  · refine h _ _ _ (fun KM hK => ?_)
    refine c_X10_part_ (d := 2046) (hp := hp) rfl rfl (by omega) (by omega) (fun q2 => ?_) (fun q2 => ?_) (fun q2 => ?_)
    · exfalso; omega
    · exact kq (show hp.1 63 ((12 * n.toInt) + l.toInt).toNat = hp.1 22 ((n.toInt * 12) + l.toInt).toNat from by rw [h_bag.2.2.2.2.2.2.1, show ((12 * n.toInt) + l.toInt).toNat = ((n.toInt * 12) + l.toInt).toNat from by omega]) (hK _ ⟨h_lot, h_now, h_cur, h_tap, rul_k h_rul rfl rfl rfl rfl rfl rfl rfl rfl rfl rfl rfl rfl rfl rfl rfl rfl rfl rfl rfl, h_roa, h_bag, h_cup, h_spa, h_bes, h_kee, h_wor⟩)
    · exfalso; omega
  · refine h _ _ _ (fun KM hK => ?_)
    refine c_X10_part_ (d := 2046) (hp := hp) rfl rfl (by omega) (by omega) (fun q2 => ?_) (fun q2 => ?_) (fun q2 => ?_)
    · exfalso; omega
    · exfalso; omega
    · exact kq rfl (hK _ ⟨h_lot, h_now, h_cur, h_tap, rul_k h_rul rfl rfl rfl rfl rfl rfl rfl rfl rfl rfl rfl rfl rfl rfl rfl rfl rfl rfl rfl, h_roa, h_bag, h_cup, h_spa, h_bes, h_kee, h_wor⟩)
theorem pr_tenths {l : Int32} (hR : Rel b hp) : prP mX9_tenths mX10_tenths [.ref 0, .int l] [.ref 43, .int l] b xs hp := by
  obtain ⟨h_lot, h_now, h_cur, h_tap, h_rul, h_roa, h_bag, h_cup, h_spa, h_bes, h_kee, h_wor⟩ := hR
  have eL : (hp.1 43 26).toInt = (hp.1 1 0).toInt := by rw [h_lot.1]
  have eB : (hp.1 43 30).toInt = (hp.1 17 0).toInt := by rw [h_bag.1]
  have hL := h_lot.2.1
  have hB := h_bag.2.1
  have eW : (hp.1 43 56).toInt = (hp.1 28 0).toInt := by rw [h_bes.1]
  intro K h
  refine c_X9_tenths (d := 2046) rfl hL (fun q => ?_) (fun q => ?_)
  · refine h _ _ _ (fun KM hK => ?_)
    refine c_X10_tenths (d := 2046) (hp := hp) rfl (by omega) (fun q2 => ?_) (fun q2 => ?_)
    · exact kq (show hp.1 75 l.toInt.toNat = hp.1 29 l.toInt.toNat from (h_bes.2 _ (by omega)).symm) (hK _ ⟨h_lot, h_now, h_cur, h_tap, rul_k h_rul rfl rfl rfl rfl rfl rfl rfl rfl rfl rfl rfl rfl rfl rfl rfl rfl rfl rfl rfl, h_roa, h_bag, h_cup, h_spa, h_bes, h_kee, h_wor⟩)
    · exfalso; omega
  · refine h _ _ _ (fun KM hK => ?_)
    refine c_X10_tenths (d := 2046) (hp := hp) rfl (by omega) (fun q2 => ?_) (fun q2 => ?_)
    · exfalso; omega
    · exact kq rfl (hK _ ⟨h_lot, h_now, h_cur, h_tap, rul_k h_rul rfl rfl rfl rfl rfl rfl rfl rfl rfl rfl rfl rfl rfl rfl rfl rfl rfl rfl rfl, h_roa, h_bag, h_cup, h_spa, h_bes, h_kee, h_wor⟩)
theorem pr_led {l u : Int32} (hR : Rel b hp) : prP mX9_led mX10_led [.ref 0, .int l, .int u] [.ref 43, .int l, .int u] b xs hp := by
  obtain ⟨h_lot, h_now, h_cur, h_tap, h_rul, h_roa, h_bag, h_cup, h_spa, h_bes, h_kee, h_wor⟩ := hR
  have eL : (hp.1 43 26).toInt = (hp.1 1 0).toInt := by rw [h_lot.1]
  have eB : (hp.1 43 30).toInt = (hp.1 17 0).toInt := by rw [h_bag.1]
  have hL := h_lot.2.1
  have hB := h_bag.2.1
  intro K h
  refine c_X9_led (d := 2045) rfl rfl hB hL (fun q => ?_) (fun q => ?_)
  · refine h _ _ _ (fun KM hK => ?_)
    refine c_X10_led (d := 2046) (hp := hp) rfl rfl (by omega) (by omega) (fun q2 => ?_) (fun q2 => ?_)
    · exact kq (show sumI (fun k => if (hp.1 65 k).toInt = u.toInt then hp.1 63 ((12 * (k : Int)) + l.toInt).toNat else 0) (hp.1 43 30).toInt.toNat = sumI (fun k => if (hp.1 20 k).toInt = u.toInt then hp.1 22 (((k : Int) * 12) + l.toInt).toNat else 0) (hp.1 17 0).toInt.toNat from by rw [eB, h_bag.2.2.2.2.1, h_bag.2.2.2.2.2.2.1]; exact sumI_cg _ (fun i _ => by rw [Int.mul_comm])) (hK _ ⟨h_lot, h_now, h_cur, h_tap, rul_k h_rul rfl rfl rfl rfl rfl rfl rfl rfl rfl rfl rfl rfl rfl rfl rfl rfl rfl rfl rfl, h_roa, h_bag, h_cup, h_spa, h_bes, h_kee, h_wor⟩)
    · exfalso; omega
  · refine h _ _ _ (fun KM hK => ?_)
    refine c_X10_led (d := 2046) (hp := hp) rfl rfl (by omega) (by omega) (fun q2 => ?_) (fun q2 => ?_)
    · exfalso; omega
    · exact kq rfl (hK _ ⟨h_lot, h_now, h_cur, h_tap, rul_k h_rul rfl rfl rfl rfl rfl rfl rfl rfl rfl rfl rfl rfl rfl rfl rfl rfl rfl rfl rfl, h_roa, h_bag, h_cup, h_spa, h_bes, h_kee, h_wor⟩)
theorem pr_stale {u : Int32} (hR : Rel b hp) : prP mX9_stale mX10_stale [.ref 0, .int u] [.ref 43, .int u] b xs hp := by
  obtain ⟨h_lot, h_now, h_cur, h_tap, h_rul, h_roa, h_bag, h_cup, h_spa, h_bes, h_kee, h_wor⟩ := hR
  have eL : (hp.1 43 26).toInt = (hp.1 1 0).toInt := by rw [h_lot.1]
  have eB : (hp.1 43 30).toInt = (hp.1 17 0).toInt := by rw [h_bag.1]
  have hL := h_lot.2.1
  have hB := h_bag.2.1
  intro K h
  refine c_X9_stale (d := 2046) rfl hB h_now.2 (fun i _ => h_kee.2 i) (fun q => ?_) (fun q => ?_)
  · refine h _ _ _ (fun KM hK => ?_)
    refine c_X10_stale (d := 2046) (hp := hp) rfl (by omega) (by show 0 ≤ (hp.1 43 25).toInt ∧ (hp.1 43 25).toInt ≤ 999; rw [← h_now.1]; exact h_now.2) (fun i _ => by show 0 ≤ (hp.1 64 i).toInt ∧ (hp.1 64 i).toInt ≤ 999; rw [← h_bag.2.2.2.1]; exact h_bag.2.2.2.2.2.2.2.2.2.2.2.2.2.2.1 i) (fun q2 => ?_) (fun q2 => ?_)
    · exact kq (show cntI (fun k => decide (0 ≤ u.toInt ∧ u.toInt < 10 ∧ (hp.1 65 k).toInt = u.toInt ∧ (hp.1 76 u.toInt.toNat).toInt < (hp.1 43 25).toInt - (hp.1 64 k).toInt)) (hp.1 43 30).toInt.toNat = cntI (fun k => decide ((hp.1 20 k).toInt = u.toInt ∧ (hp.1 19 k).toInt < ((hp.1 0 9).toInt - (hp.1 36 u.toInt.toNat).toInt))) (hp.1 17 0).toInt.toNat from by rw [eB, h_bag.2.2.2.2.1, h_bag.2.2.2.1, h_kee.1, h_now.1]; exact congrArg (fun z => cntI z _) (funext fun k => decide_eq_decide.mpr (by omega))) (hK _ ⟨h_lot, h_now, h_cur, h_tap, rul_k h_rul rfl rfl rfl rfl rfl rfl rfl rfl rfl rfl rfl rfl rfl rfl rfl rfl rfl rfl rfl, h_roa, h_bag, h_cup, h_spa, h_bes, h_kee, h_wor⟩)
    · exfalso; omega
  · refine h _ _ _ (fun KM hK => ?_)
    refine c_X10_stale (d := 2046) (hp := hp) rfl (by omega) (by show 0 ≤ (hp.1 43 25).toInt ∧ (hp.1 43 25).toInt ≤ 999; rw [← h_now.1]; exact h_now.2) (fun i _ => by show 0 ≤ (hp.1 64 i).toInt ∧ (hp.1 64 i).toInt ≤ 999; rw [← h_bag.2.2.2.1]; exact h_bag.2.2.2.2.2.2.2.2.2.2.2.2.2.2.1 i) (fun q2 => ?_) (fun q2 => ?_)
    · exfalso; omega
    · exact kq rfl (hK _ ⟨h_lot, h_now, h_cur, h_tap, rul_k h_rul rfl rfl rfl rfl rfl rfl rfl rfl rfl rfl rfl rfl rfl rfl rfl rfl rfl rfl rfl, h_roa, h_bag, h_cup, h_spa, h_bes, h_kee, h_wor⟩)
theorem cntI_nn {p : Nat → Bool} : ∀ k : Nat, k < 2147483648 → 0 ≤ (cntI p k).toInt ∧ (cntI p k).toInt ≤ (k : Int)
  | 0, _ => by rw [cntI]; decide
  | k + 1, h => by
    have ih := cntI_nn (p := p) k (by omega)
    cases hp : p k with
    | true => rw [← cntI_t hp, ia_add2 rfl (by decide : (1 : Int32).toInt = 1) (by omega) (by omega)]; omega
    | false => rw [← cntI_f hp]; omega
theorem fndI_neg {p : Nat → Bool} {q : Int32} (hq : q.toInt < 0) : ∀ n k : Nat, k + n < 2147483648 → fndI p q n k = -1
  | 0, _, _ => rfl
  | n + 1, k, h => by
    rw [fndI_n (fun e => by have := cntI_nn (p := p) k (by omega); rw [e] at this; omega)]
    exact fndI_neg hq n (k + 1) (by omega)
theorem pr_found {l i : Int32} (hR : Rel b hp) : prP mX9_found mX10_found [.ref 0, .int l, .int i] [.ref 43, .int l, .int i] b xs hp := by
  obtain ⟨h_lot, h_now, h_cur, h_tap, h_rul, h_roa, h_bag, h_cup, h_spa, h_bes, h_kee, h_wor⟩ := hR
  have eL : (hp.1 43 26).toInt = (hp.1 1 0).toInt := by rw [h_lot.1]
  have eB : (hp.1 43 30).toInt = (hp.1 17 0).toInt := by rw [h_bag.1]
  have hL := h_lot.2.1
  have hB := h_bag.2.1
  have eF : fndI (fun k => decide (0 < (hp.1 63 ((12 * (k : Int)) + l.toInt).toNat).toInt)) i (hp.1 43 30).toInt.toNat 0 = fndI (fun k => decide (0 < (hp.1 22 (((k : Int) * 12) + l.toInt).toNat).toInt)) i (hp.1 17 0).toInt.toNat 0 := by
    rw [eB, h_bag.2.2.2.2.2.2.1]
    exact congrArg (fun z => fndI z i _ 0) (funext fun k => by rw [Int.mul_comm])
  intro K h
  refine c_X9_found (d := 2045) rfl rfl hB hL (fun q => ?_) (fun q => ?_)
  · refine h _ _ _ (fun KM hK => ?_)
    refine c_X10_found (d := 2046) (hp := hp) rfl rfl (by omega) (by omega) (fun q2 => ?_) (fun q2 => ?_)
    · exact kq eF (hK _ ⟨h_lot, h_now, h_cur, h_tap, rul_k h_rul rfl rfl rfl rfl rfl rfl rfl rfl rfl rfl rfl rfl rfl rfl rfl rfl rfl rfl rfl, h_roa, h_bag, h_cup, h_spa, h_bes, h_kee, h_wor⟩)
    · have hi : i.toInt < 0 := by omega
      exact kq (fndI_neg hi _ 0 (by omega)).symm (hK _ ⟨h_lot, h_now, h_cur, h_tap, rul_k h_rul rfl rfl rfl rfl rfl rfl rfl rfl rfl rfl rfl rfl rfl rfl rfl rfl rfl rfl rfl, h_roa, h_bag, h_cup, h_spa, h_bes, h_kee, h_wor⟩)
  · refine h _ _ _ (fun KM hK => ?_)
    refine c_X10_found (d := 2046) (hp := hp) rfl rfl (by omega) (by omega) (fun q2 => ?_) (fun q2 => ?_)
    · exfalso; omega
    · exact hK _ ⟨h_lot, h_now, h_cur, h_tap, rul_k h_rul rfl rfl rfl rfl rfl rfl rfl rfl rfl rfl rfl rfl rfl rfl rfl rfl rfl rfl rfl, h_roa, h_bag, h_cup, h_spa, h_bes, h_kee, h_wor⟩
theorem pr_roasted {w : Int32} (hR : Rel b hp) : prP mX9_roasted mX10_roasted [.ref 0, .int w] [.ref 43, .int w] b xs hp := by
  obtain ⟨h_lot, h_now, h_cur, h_tap, h_rul, h_roa, h_bag, h_cup, h_spa, h_bes, h_kee, h_wor⟩ := hR
  have eH : (hp.1 43 35).toInt = (hp.1 15 2).toInt := by rw [h_roa.1]
  intro K h
  have hM : ∀ (r : Int32), ((hp.1 15 2).toInt ≠ 0 ∧ w.toInt = 0 → hp.1 15 9 = r) → ((hp.1 15 2).toInt ≠ 0 ∧ w.toInt = 1 → hp.1 15 5 = r) → ((hp.1 15 2).toInt ≠ 0 ∧ w.toInt = 2 → hp.1 15 0 = r) → ((hp.1 15 2).toInt ≠ 0 ∧ w.toInt = 4 → hp.1 15 11 = r) → ((hp.1 15 2).toInt ≠ 0 ∧ w.toInt = 3 ∧ (hp.1 15 10).toInt ≠ 0 → (1 : Int32) = r) → ((hp.1 15 2).toInt ≠ 0 ∧ w.toInt = 3 ∧ (hp.1 15 10).toInt = 0 → (0 : Int32) = r) → ((hp.1 15 2).toInt = 0 ∨ w.toInt < 0 ∨ 4 < w.toInt → (-1 : Int32) = r) → K (some (.int r)) (SH b xs) hp := by
    intro r e0 e1 e2 e4 e3 e5 e6
    refine h _ _ _ (fun KM hK => ?_)
    refine c_X10_roasted (d := 2047) (hp := hp) rfl (fun q => ?_) (fun q => ?_) (fun q => ?_) (fun q => ?_) (fun q => ?_) (fun q => ?_) (fun q => ?_)
    · have z := h_roa.2 (by omega)
      exact kq (z.1.symm.trans (e0 (by omega))) (hK _ ⟨h_lot, h_now, h_cur, h_tap, rul_k h_rul rfl rfl rfl rfl rfl rfl rfl rfl rfl rfl rfl rfl rfl rfl rfl rfl rfl rfl rfl, h_roa, h_bag, h_cup, h_spa, h_bes, h_kee, h_wor⟩)
    · have z := h_roa.2 (by omega)
      exact kq (z.2.1.symm.trans (e1 (by omega))) (hK _ ⟨h_lot, h_now, h_cur, h_tap, rul_k h_rul rfl rfl rfl rfl rfl rfl rfl rfl rfl rfl rfl rfl rfl rfl rfl rfl rfl rfl rfl, h_roa, h_bag, h_cup, h_spa, h_bes, h_kee, h_wor⟩)
    · have z := h_roa.2 (by omega)
      exact kq (z.2.2.1.symm.trans (e2 (by omega))) (hK _ ⟨h_lot, h_now, h_cur, h_tap, rul_k h_rul rfl rfl rfl rfl rfl rfl rfl rfl rfl rfl rfl rfl rfl rfl rfl rfl rfl rfl rfl, h_roa, h_bag, h_cup, h_spa, h_bes, h_kee, h_wor⟩)
    · have z := h_roa.2 (by omega)
      exact kq (z.2.2.2.2.symm.trans (e4 (by omega))) (hK _ ⟨h_lot, h_now, h_cur, h_tap, rul_k h_rul rfl rfl rfl rfl rfl rfl rfl rfl rfl rfl rfl rfl rfl rfl rfl rfl rfl rfl rfl, h_roa, h_bag, h_cup, h_spa, h_bes, h_kee, h_wor⟩)
    · have z := h_roa.2 (by omega)
      have zz : (hp.1 43 42).toInt = (hp.1 15 10).toInt := by rw [z.2.2.2.1]
      exact kq (e3 (by omega)) (hK _ ⟨h_lot, h_now, h_cur, h_tap, rul_k h_rul rfl rfl rfl rfl rfl rfl rfl rfl rfl rfl rfl rfl rfl rfl rfl rfl rfl rfl rfl, h_roa, h_bag, h_cup, h_spa, h_bes, h_kee, h_wor⟩)
    · have z := h_roa.2 (by omega)
      have zz : (hp.1 43 42).toInt = (hp.1 15 10).toInt := by rw [z.2.2.2.1]
      exact kq (e5 (by omega)) (hK _ ⟨h_lot, h_now, h_cur, h_tap, rul_k h_rul rfl rfl rfl rfl rfl rfl rfl rfl rfl rfl rfl rfl rfl rfl rfl rfl rfl rfl rfl, h_roa, h_bag, h_cup, h_spa, h_bes, h_kee, h_wor⟩)
    · exact kq (e6 (by omega)) (hK _ ⟨h_lot, h_now, h_cur, h_tap, rul_k h_rul rfl rfl rfl rfl rfl rfl rfl rfl rfl rfl rfl rfl rfl rfl rfl rfl rfl rfl rfl, h_roa, h_bag, h_cup, h_spa, h_bes, h_kee, h_wor⟩)
  refine c_X9_roasted (d := 2046) rfl (fun q => ?_) (fun q => ?_) (fun q => ?_) (fun q => ?_) (fun q => ?_) (fun q => ?_) (fun q => ?_)
  · exact hM _ (fun _ => rfl) (fun z => by omega) (fun z => by omega) (fun z => by omega) (fun z => by omega) (fun z => by omega) (fun z => by omega)
  · exact hM _ (fun z => by omega) (fun _ => rfl) (fun z => by omega) (fun z => by omega) (fun z => by omega) (fun z => by omega) (fun z => by omega)
  · exact hM _ (fun z => by omega) (fun z => by omega) (fun _ => rfl) (fun z => by omega) (fun z => by omega) (fun z => by omega) (fun z => by omega)
  · exact hM _ (fun z => by omega) (fun z => by omega) (fun z => by omega) (fun _ => rfl) (fun z => by omega) (fun z => by omega) (fun z => by omega)
  · exact hM _ (fun z => by omega) (fun z => by omega) (fun z => by omega) (fun z => by omega) (fun _ => rfl) (fun z => by omega) (fun z => by omega)
  · exact hM _ (fun z => by omega) (fun z => by omega) (fun z => by omega) (fun z => by omega) (fun z => by omega) (fun _ => rfl) (fun z => by omega)
  · exact hM _ (fun z => by omega) (fun z => by omega) (fun z => by omega) (fun z => by omega) (fun z => by omega) (fun z => by omega) (fun _ => rfl)
end S50
