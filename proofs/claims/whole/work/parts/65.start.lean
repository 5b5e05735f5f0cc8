/-! the two worlds are related at the start -/
theorem cl_0 {l : Nat} : ∀ n, colS (fun _ => 0) l n = 0
  | 0 => rfl
  | n + 1 => by
    show colS (fun _ => 0) l n + (0 : Int32).toInt = 0
    rw [cl_0 n]
    decide
theorem fl_bd {n : Nat} {v : Int32} {lo hi : Int} (h0 : lo ≤ (0 : Int32).toInt ∧ (0 : Int32).toInt ≤ hi) (hv : lo ≤ v.toInt ∧ v.toInt ≤ hi) (j : Nat) : lo ≤ (fl n v (fun _ => 0) j).toInt ∧ (fl n v (fun _ => 0) j).toInt ≤ hi := by
  unfold fl
  by_cases h : j < n
  · rw [if_pos h]; exact hv
  · rw [if_neg h]; exact h0
section RS
set_option maxRecDepth 100000 in
theorem r_lot : gLot HE := ⟨rfl, (by decide : 0 ≤ (0 : Int32).toInt ∧ (0 : Int32).toInt ≤ 12), rfl, rfl, rfl, fun j => (by decide : 0 ≤ (0 : Int32).toInt ∧ (0 : Int32).toInt ≤ 10000)⟩
set_option maxRecDepth 100000 in
theorem r_now : gNow HE := ⟨rfl, (by decide : 0 ≤ (0 : Int32).toInt ∧ (0 : Int32).toInt ≤ 999)⟩
set_option maxRecDepth 100000 in
theorem r_cur : gCur HE := ⟨rfl, fun j => fl_bd (n := 20) (v := 200) (by decide) (by decide) j⟩
set_option maxRecDepth 100000 in
theorem r_tap : gTap HE := ⟨rfl, rfl, (by decide : 0 ≤ (0 : Int32).toInt ∧ (0 : Int32).toInt ≤ 600)⟩
set_option maxRecDepth 100000 in
theorem r_rul : gRul false HE := ⟨⟨[], 0, (by decide : (0 : Int32).toInt = ((0 : Nat) : Int)), by decide, ⟨rfl, fun k x h => by cases h⟩, ⟨rfl, fun k x h => by cases h⟩, ⟨(fun x h => nomatch h), by decide, by decide⟩⟩, (by decide : 0 ≤ (0 : Int32).toInt ∧ (0 : Int32).toInt ≤ 16), (by decide : 0 ≤ (0 : Int32).toInt ∧ (0 : Int32).toInt ≤ 16)⟩
set_option maxRecDepth 100000 in
theorem r_roa : gRoa HE := ⟨rfl, fun h => absurd (show (0 : Int32).toInt = 0 from by decide) h⟩
set_option maxRecDepth 100000 in
theorem r_bag : gBag HE := by
  refine ⟨rfl, (by decide : 0 ≤ (0 : Int32).toInt ∧ (0 : Int32).toInt ≤ 60), rfl, rfl, rfl, rfl, rfl, fun k _ => ?_, fun j => (by decide : 0 ≤ (0 : Int32).toInt), fun k l _ _ => rfl, fun k l _ _ => rfl, fun l _ => ?_, fun k _ => ?_, ?_, fun k => (by decide : 0 ≤ (0 : Int32).toInt ∧ (0 : Int32).toInt ≤ 999), fun k => (by decide : -1 ≤ (0 : Int32).toInt ∧ (0 : Int32).toInt ≤ 9)⟩
  · show (0 : Int32) = sumI (fun _ => 0) 12
    decide
  · refine ⟨(by decide : 0 ≤ (0 : Int32).toInt), ?_⟩
    show colS (fun _ => 0) l 60 + (0 : Int32).toInt ≤ 100000
    rw [cl_0]
    decide
  · exact ⟨(by decide : 0 ≤ (0 : Int32).toInt), (by decide : (0 : Int32).toInt ≤ (0 : Int32).toInt), fun h => absurd (show 0 < (0 : Int32).toInt from h) (by decide)⟩
  · show (0 : Int32).toInt = cz (fun _ => decide (0 < (0 : Int32).toInt)) 60
    decide +kernel
set_option maxRecDepth 100000 in
theorem r_cup : gCup HE := ⟨(mkf_e (f := fun _ => 0)).symm, rfl, fun j => fl_bd (n := 100) (v := -1) (by decide) (by decide) j, fun j => fl_bd (n := 20) (v := -1) (by decide) (by decide) j⟩
set_option maxRecDepth 100000 in
theorem r_spa : gSpa HE := ⟨rfl, rfl, fun j => (by decide : 0 ≤ (0 : Int32).toInt ∧ (0 : Int32).toInt ≤ 100), fun j => fl_bd (n := 3) (v := 100) (by decide) (by decide) j⟩
set_option maxRecDepth 100000 in
theorem r_bes : gBes HE := ⟨rfl, fun j _ => rfl⟩
set_option maxRecDepth 100000 in
theorem r_kee : gKee HE := ⟨rfl, fun j => fl_bd (n := 10) (v := 30) (by decide) (by decide) j⟩
set_option maxRecDepth 100000 in
theorem r_wor : gWor HE := by
  intro w hw
  match w, hw with
  | 0, _ => decide +kernel
  | 1, _ => decide +kernel
  | 2, _ => decide +kernel
  | 3, _ => decide +kernel
  | 4, _ => decide +kernel
  | 5, _ => decide +kernel
  | 6, _ => decide +kernel
  | 7, _ => decide +kernel
  | 8, _ => decide +kernel
  | 9, _ => decide +kernel
set_option maxRecDepth 100000 in
theorem rel_start : Rel false HE := ⟨r_lot, r_now, r_cur, r_tap, r_rul, r_roa, r_bag, r_cup, r_spa, r_bes, r_kee, r_wor⟩
end RS
