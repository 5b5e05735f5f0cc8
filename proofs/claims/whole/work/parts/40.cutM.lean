/-! the reference's tokens -/
/-- a word's number, by its first eight letters -/
def hz (t : Nat → Int32) (p : Nat) : Nat → Int
  | 0 => 0
  | k + 1 => if k < 8 then 37 * hz t p k + ((t (p + k)).toInt - 96) else hz t p k
theorem hz_bd {t : Nat → Int32} {p : Nat} : ∀ k : Nat, (∀ j, j < k → isLe (t (p + j)).toInt = true) → 0 ≤ hz t p k ∧ hz t p k ≤ 2536790716720 ∧ (k ≤ 7 → hz t p k ≤ 68561911262) ∧ (k ≤ 6 → hz t p k ≤ 1853024628) ∧ (k ≤ 5 → hz t p k ≤ 50081746) ∧ (k ≤ 4 → hz t p k ≤ 1353560) ∧ (k ≤ 3 → hz t p k ≤ 36582) ∧ (k ≤ 2 → hz t p k ≤ 988) ∧ (k ≤ 1 → hz t p k ≤ 26) ∧ (k = 0 → hz t p k = 0)
  | 0, _ => by rw [hz]; omega
  | k + 1, h => by
    have h1 := hz_bd (t := t) (p := p) k (fun j hj => h j (by omega))
    have h2 := h k (by omega)
    simp only [isLe, decide_eq_true_eq] at h2
    rw [hz]
    split
    · omega
    · omega
def hR : List Int → Int
  | [] => 0
  | d :: r => 37 * hR r + d
theorem hR_nn : ∀ a : List Int, (∀ d ∈ a, 1 ≤ d ∧ d ≤ 26) → 0 ≤ hR a ∧ (a ≠ [] → 1 ≤ hR a)
  | [], _ => ⟨Int.le_refl _, fun h => absurd rfl h⟩
  | d :: r, h => by
    have h1 := hR_nn r (fun e he => h e (List.mem_cons_of_mem _ he))
    have h2 := h d List.mem_cons_self
    rw [hR]
    exact ⟨by omega, fun _ => by omega⟩
theorem hR_inj : ∀ a b : List Int, (∀ d ∈ a, 1 ≤ d ∧ d ≤ 26) → (∀ d ∈ b, 1 ≤ d ∧ d ≤ 26) → hR a = hR b → a = b
  | [], [], _, _, _ => rfl
  | [], d :: r, _, hb, e => by
    have := (hR_nn (d :: r) hb).2 (by simp)
    rw [← e] at this
    simp [hR] at this
  | d :: r, [], ha, _, e => by
    have := (hR_nn (d :: r) ha).2 (by simp)
    rw [e] at this
    simp [hR] at this
  | d :: r, d2 :: r2, ha, hb, e => by
    have h1 := ha d List.mem_cons_self
    have h2 := hb d2 List.mem_cons_self
    rw [hR, hR] at e
    have e1 : d = d2 := by omega
    have e2 : hR r = hR r2 := by omega
    rw [e1, hR_inj r r2 (fun z hz => ha z (List.mem_cons_of_mem _ hz)) (fun z hz => hb z (List.mem_cons_of_mem _ hz)) e2]
def ltr (t : Nat → Int32) (p : Nat) : Nat → List Int
  | 0 => []
  | k + 1 => ((t (p + k)).toInt - 96) :: ltr t p k
theorem hz_hR {t : Nat → Int32} {p : Nat} : ∀ k : Nat, k ≤ 8 → hz t p k = hR (ltr t p k)
  | 0, _ => rfl
  | k + 1, h => by rw [hz, if_pos (by omega), ltr, hR, hz_hR k (by omega)]
theorem ltr_bd {t : Nat → Int32} {p : Nat} : ∀ k : Nat, (∀ j, j < k → isLe (t (p + j)).toInt = true) → ∀ d ∈ ltr t p k, 1 ≤ d ∧ d ≤ 26
  | 0, _, d, h => by cases h
  | k + 1, h, d, hd => by
    rw [ltr] at hd
    rcases List.mem_cons.mp hd with rfl | hd
    · have h2 := h k (by omega)
      simp only [isLe, decide_eq_true_eq] at h2
      omega
    · exact ltr_bd k (fun j hj => h j (by omega)) d hd
def lcS (i : Nat) : Nat → Int32 := fun j => chS i j
theorem ltr_eq {t u : Nat → Int32} {p : Nat} : ∀ L M : Nat, ltr t p L = ltr u 0 M ↔ (L = M ∧ ∀ j, j < M → t (p + j) = u j)
  | 0, 0 => ⟨fun _ => ⟨rfl, fun j hj => by omega⟩, fun _ => rfl⟩
  | 0, M + 1 => ⟨fun h => (by simp [ltr] at h), fun h => (by omega)⟩
  | L + 1, 0 => ⟨fun h => (by simp [ltr] at h), fun h => (by omega)⟩
  | L + 1, M + 1 => by
    rw [ltr, ltr]
    constructor
    · intro h
      obtain ⟨h1, h2⟩ := List.cons.inj h
      obtain ⟨h3, h4⟩ := (ltr_eq L M).mp h2
      subst h3
      refine ⟨rfl, fun j hj => ?_⟩
      by_cases e : j = L
      · rw [e]
        refine (ia_eq _ _).mpr ?_
        rw [show (0 : Nat) + L = L by omega] at h1
        omega
      · exact h4 j (by omega)
    · rintro ⟨h1, h2⟩
      obtain rfl : L = M := by omega
      rw [h2 L (by omega), show (0 : Nat) + L = L by omega, (ltr_eq L L).mpr ⟨rfl, fun j hj => h2 j (by omega)⟩]
/-- the reference's ten words: their numbers, which of the class's they are, their kinds -/
def wvM : List Int := [227825, 316910, 228044, 1176170, 1891, 919077526, 1597715471, 1034043, 924783, 14032750]
def wsM : List Nat := [2, 3, 1, 8, 0, 5, 9, 7, 6, 4]
def wkM : List Int := [5, 3, 4, 6, 7, 8, 9, 10, 11, 12]
def wkX : List Int := [7, 4, 5, 3, 12, 8, 11, 10, 6, 9]
theorem wv_ok : ∀ w, w < 10 → wvM.getD w 0 = hR (ltr (lcS (wsM.getD w 0)) 0 (slen.getD (wsM.getD w 0) 0)) ∧ wsM.getD w 0 < 10 ∧ wkX.getD (wsM.getD w 0) 0 = wkM.getD w 0 ∧ ∀ j, j < slen.getD (wsM.getD w 0) 0 → isLe (lcS (wsM.getD w 0) (0 + j)).toInt = true := by decide +kernel
theorem eqw_inj : ∀ i, i < 10 → ∀ j, j < 10 → (slen.getD i 0 = slen.getD j 0 ∧ ∀ k, k < slen.getD i 0 → chS i k = chS j k) → i = j := by decide +kernel
theorem eqw_one {t : Nat → Int32} {p L i j : Nat} (hi : i < 10) (hj : j < 10) (h1 : eqw t p L i = true) (h2 : eqw t p L j = true) : i = j := by
  simp only [eqw, decide_eq_true_eq] at h1 h2
  exact eqw_inj i hi j hj ⟨by omega, fun k hk => by rw [← h1.2 k hk, h2.2 k (by omega)]⟩
theorem kwd_iff {t : Nat → Int32} {p L i : Nat} (hi : i < 10) : kwd t p L = wkX.getD i 0 ↔ eqw t p L i = true := by
  constructor
  · intro h
    unfold kwd at h
    match i, hi with
    | 0, _ | 1, _ | 2, _ | 3, _ | 4, _ | 5, _ | 6, _ | 7, _ | 8, _ | 9, _ =>
      repeat' split at h
      all_goals first | assumption | (exfalso; revert h; decide)
    | k + 10, hk => omega
  · intro h
    have z : ∀ j, j < 10 → j ≠ i → ¬ eqw t p L j = true := fun j hj hne q => hne (eqw_one hj hi q h)
    unfold kwd
    match i, hi with
    | 0, _ => rw [if_pos h]; rfl
    | 1, _ => rw [if_neg (z 0 (by omega) (by omega)), if_pos h]; rfl
    | 2, _ => rw [if_neg (z 0 (by omega) (by omega)), if_neg (z 1 (by omega) (by omega)), if_pos h]; rfl
    | 3, _ => rw [if_neg (z 0 (by omega) (by omega)), if_neg (z 1 (by omega) (by omega)), if_neg (z 2 (by omega) (by omega)), if_pos h]; rfl
    | 4, _ => rw [if_neg (z 0 (by omega) (by omega)), if_neg (z 1 (by omega) (by omega)), if_neg (z 2 (by omega) (by omega)), if_neg (z 3 (by omega) (by omega)), if_pos h]; rfl
    | 5, _ => rw [if_neg (z 0 (by omega) (by omega)), if_neg (z 1 (by omega) (by omega)), if_neg (z 2 (by omega) (by omega)), if_neg (z 3 (by omega) (by omega)), if_neg (z 4 (by omega) (by omega)), if_pos h]; rfl
    | 6, _ => rw [if_neg (z 0 (by omega) (by omega)), if_neg (z 1 (by omega) (by omega)), if_neg (z 2 (by omega) (by omega)), if_neg (z 3 (by omega) (by omega)), if_neg (z 4 (by omega) (by omega)), if_neg (z 5 (by omega) (by omega)), if_pos h]; rfl
    | 7, _ => rw [if_neg (z 0 (by omega) (by omega)), if_neg (z 1 (by omega) (by omega)), if_neg (z 2 (by omega) (by omega)), if_neg (z 3 (by omega) (by omega)), if_neg (z 4 (by omega) (by omega)), if_neg (z 5 (by omega) (by omega)), if_neg (z 6 (by omega) (by omega)), if_pos h]; rfl
    | 8, _ => rw [if_neg (z 0 (by omega) (by omega)), if_neg (z 1 (by omega) (by omega)), if_neg (z 2 (by omega) (by omega)), if_neg (z 3 (by omega) (by omega)), if_neg (z 4 (by omega) (by omega)), if_neg (z 5 (by omega) (by omega)), if_neg (z 6 (by omega) (by omega)), if_neg (z 7 (by omega) (by omega)), if_pos h]; rfl
    | 9, _ => rw [if_neg (z 0 (by omega) (by omega)), if_neg (z 1 (by omega) (by omega)), if_neg (z 2 (by omega) (by omega)), if_neg (z 3 (by omega) (by omega)), if_neg (z 4 (by omega) (by omega)), if_neg (z 5 (by omega) (by omega)), if_neg (z 6 (by omega) (by omega)), if_neg (z 7 (by omega) (by omega)), if_neg (z 8 (by omega) (by omega)), if_pos h]; rfl
    | k + 10, hk => omega
theorem hz_w {t : Nat → Int32} {p L w : Nat} (hw : w < 10) (hL : L ≤ 8) (hl : ∀ j, j < L → isLe (t (p + j)).toInt = true) : hz t p L = wvM.getD w 0 ↔ kwd t p L = wkM.getD w 0 := by
  obtain ⟨h1, h2, h3, h4⟩ := wv_ok w hw
  rw [← h3, kwd_iff h2, h1, hz_hR L hL]
  simp only [eqw, decide_eq_true_eq]
  show hR (ltr t p L) = hR (ltr (lcS (wsM.getD w 0)) 0 (slen.getD (wsM.getD w 0) 0)) ↔ (L = slen.getD (wsM.getD w 0) 0 ∧ ∀ j, j < slen.getD (wsM.getD w 0) 0 → t (p + j) = lcS (wsM.getD w 0) j)
  rw [← ltr_eq (u := lcS (wsM.getD w 0))]
  exact ⟨hR_inj _ _ (ltr_bd L hl) (ltr_bd _ h4), fun e => by rw [e]⟩
/-- what the reference's sort and value of a token say of its kind -/
def okT (so : Int32) (va : Int64) (k v : Int) : Prop := (so.toInt = 0 ↔ k = 0) ∧ (so.toInt = 2 ↔ k = 2) ∧ (k = 2 → va.toInt = v) ∧ ((so.toInt = 3 ∧ va.toInt = 40) ↔ k = 13) ∧ ((so.toInt = 3 ∧ va.toInt = 41) ↔ k = 14) ∧ ((so.toInt = 3 ∧ va.toInt = 60) ↔ k = 15) ∧ ((so.toInt = 3 ∧ va.toInt = 61) ↔ k = 16) ∧ ((so.toInt = 3 ∧ va.toInt = 43) ↔ k = 17) ∧ ((so.toInt = 3 ∧ va.toInt = 45) ↔ k = 18) ∧ ((so.toInt = 3 ∧ va.toInt = 59) ↔ k = 19) ∧ ∀ w, w < 10 → ((so.toInt = 1 ∧ va.toInt = wvM.getD w 0) ↔ k = wkM.getD w 0)
theorem wkM_bd : ∀ w, w < 10 → 3 ≤ wkM.getD w 0 ∧ wkM.getD w 0 ≤ 12 := by decide
theorem kwd_bd {t : Nat → Int32} {p L : Nat} : kwd t p L = 1 ∨ (3 ≤ kwd t p L ∧ kwd t p L ≤ 12) := by
  unfold kwd
  repeat' split
  all_goals decide
theorem okT_w {t : Nat → Int32} {p L : Nat} {so : Int32} {va : Int64} {v : Int} (hl : ∀ j, j < L → isLe (t (p + j)).toInt = true) (hs : so.toInt = if 8 < L then 4 else 1) (hv : va.toInt = hz t p L) : okT so va (kwd t p L) v := by
  have hk := kwd_bd (t := t) (p := p) (L := L)
  have hs2 : so.toInt = 4 ∨ so.toInt = 1 := by rw [hs]; split <;> simp
  refine ⟨by omega, by omega, by omega, by omega, by omega, by omega, by omega, by omega, by omega, by omega, fun w hw => ?_⟩
  have hb := wkM_bd w hw
  by_cases c : 8 < L
  · rw [if_pos c] at hs
    refine ⟨fun q => by omega, fun q => ?_⟩
    obtain ⟨h1, h2, h3, h4⟩ := wv_ok w hw
    rw [← h3, kwd_iff h2] at q
    simp only [eqw, decide_eq_true_eq] at q
    have := slen_ok _ h2
    omega
  · rw [if_neg c] at hs
    rw [hv]
    refine ⟨fun q => (hz_w hw (by omega) hl).mp q.2, fun q => ⟨hs, (hz_w hw (by omega) hl).mpr q⟩⟩
theorem okT_d {so : Int32} {va : Int64} {v : Int} {L : Nat} (hs : so.toInt = if 4 < L then 4 else 2) (hv : va.toInt = v) : okT so va (if 4 < L then 1 else 2) v := by
  by_cases c : 4 < L
  · rw [if_pos c] at hs ⊢
    refine ⟨by omega, by omega, by omega, by omega, by omega, by omega, by omega, by omega, by omega, by omega, fun w hw => ?_⟩
    have hb := wkM_bd w hw
    omega
  · rw [if_neg c] at hs ⊢
    refine ⟨by omega, by omega, fun _ => hv, by omega, by omega, by omega, by omega, by omega, by omega, by omega, fun w hw => ?_⟩
    have hb := wkM_bd w hw
    omega
theorem okT_s {so : Int32} {va : Int64} {v c : Int} (hs : (so.toInt = 3 ∧ (c = 40 ∨ c = 41 ∨ c = 59 ∨ c = 61 ∨ c = 60 ∨ c = 43 ∨ c = 45)) ∨ (so.toInt = 4 ∧ c ≠ 40 ∧ c ≠ 41 ∧ c ≠ 59 ∧ c ≠ 61 ∧ c ≠ 60 ∧ c ≠ 43 ∧ c ≠ 45)) (hv : va.toInt = c) : okT so va (ksn c) v := by
  have hk : (c = 40 ∧ ksn c = 13) ∨ (c = 41 ∧ ksn c = 14) ∨ (c = 60 ∧ ksn c = 15) ∨ (c = 61 ∧ ksn c = 16) ∨ (c = 43 ∧ ksn c = 17) ∨ (c = 45 ∧ ksn c = 18) ∨ (c = 59 ∧ ksn c = 19) ∨ (ksn c = 1 ∧ c ≠ 40 ∧ c ≠ 41 ∧ c ≠ 59 ∧ c ≠ 61 ∧ c ≠ 60 ∧ c ≠ 43 ∧ c ≠ 45) := by
    unfold ksn
    repeat' split
    all_goals omega
  refine ⟨by omega, by omega, by omega, by omega, by omega, by omega, by omega, by omega, by omega, by omega, fun w hw => ?_⟩
  have hb := wkM_bd w hw
  omega
theorem okT_0 {so : Int32} {va : Int64} {v : Int} (hs : so.toInt = 0) : okT so va 0 v := by
  refine ⟨by omega, by omega, by omega, by omega, by omega, by omega, by omega, by omega, by omega, by omega, fun w hw => ?_⟩
  have hb := wkM_bd w hw
  omega
def sRL (hp : hp_T) (c : Nat) (t : Nat → Int64) : hp_T := (hp.1, va_up hp.2 c t)
def CM (hp : hp_T) (sa pa : Nat → Int32) (va : Nat → Int64) : hp_T := sRL (sR (sR hp 45 sa) 46 pa) 47 va
section CMS
variable {hp : hp_T} {sa pa : Nat → Int32} {va : Nat → Int64} {j : Nat} {v : Int32} {w : Int64}
theorem cm_s : sI (CM hp sa pa va) 45 j v = CM hp (va_up sa j v) pa va := by
  refine Prod.ext (funext fun c => funext fun i => ?_) rfl
  by_cases h1 : c = 45
  · subst h1; simp [CM, sRL, sR, sI, va_up]
  · by_cases h2 : c = 46 <;> simp [CM, sRL, sR, sI, va_up, h1, h2]
theorem cm_p : sI (CM hp sa pa va) 46 j v = CM hp sa (va_up pa j v) va := by
  refine Prod.ext (funext fun c => funext fun i => ?_) rfl
  by_cases h2 : c = 46
  · subst h2; simp [CM, sRL, sR, sI, va_up]
  · simp [CM, sRL, sR, sI, va_up, h2]
theorem cm_v : sL (CM hp sa pa va) 47 j w = CM hp sa pa (va_up va j w) := by
  refine Prod.ext rfl (funext fun c => funext fun i => ?_)
  by_cases h2 : c = 47
  · subst h2; simp [CM, sRL, sR, sL, va_up]
  · simp [CM, sRL, sR, sL, va_up, h2]
theorem cm_id : CM hp (hp.1 45) (hp.1 46) (hp.2 47) = hp := by
  refine Prod.ext (funext fun c => funext fun i => ?_) (funext fun c => funext fun i => ?_)
  · by_cases h1 : c = 45
    · subst h1; simp [CM, sRL, sR, va_up]
    · by_cases h2 : c = 46
      · subst h2; simp [CM, sRL, sR, va_up]
      · simp [CM, sRL, sR, va_up, h1, h2]
  · by_cases h2 : c = 47
    · subst h2; simp [CM, sRL, sR, va_up]
    · simp [CM, sRL, sR, va_up, h2]
end CMS
/-- the first N tokens stand in the reference's tables -/
def okN (t : Nat → Int32) (n : Nat) (sa pa : Nat → Int32) (va : Nat → Int64) (N : Nat) : Prop := ∀ j, j < N → (pa j).toInt = (pl t n j : Int) ∧ okT (sa j) (va j) (kd t n j) (nv t n j)
theorem okN_s {t : Nat → Int32} {n N : Nat} {sa pa : Nat → Int32} {va : Nat → Int64} {s p : Int32} {v : Int64} (h : okN t n sa pa va N) (hp : p.toInt = (pl t n N : Int)) (hT : okT s v (kd t n N) (nv t n N)) : okN t n (va_up sa N s) (va_up pa N p) (va_up va N v) (N + 1) := by
  intro j hj
  by_cases e : j = N
  · rw [e]; simp [va_up]; exact ⟨hp, hT⟩
  · simp [va_up, e]; exact h j (by omega)
section S40
variable {d : Nat} {sh : sh_T} {hp : hp_T} {Q : Option Value → sh_T → hp_T → Prop} {b : Bool} {xs : sh_T}
theorem c_X10_rank {n : Int32} {nI : Int} (nE : n.toInt = nI) (hn : 97 ≤ nI ∧ nI ≤ 122) (h1 : Q (some (.int (n - 96))) sh hp) : gC mX10_rank (d + 1) 0 0 [.int n] sh hp Q := by
  refine g_enter okX10_rank (plainFor_of_name rfl) rfl ?_
  refine g_run 1 rfl ?_
  refine g_callS0 rfl LX10_141 rfl rfl ?_
  refine c_X10_isLetter (nI := nI) nE (fun k1 => ?_) (fun k2 => ?_)
  · refine gz_eq (kx := 1) rfl (show (1 : Int32).toInt = 1 from by decide) (fun q => absurd q (by decide)) (fun _ => ?_)
    refine g_run 4 rfl ?_
    first | exact g_iret rfl rfl h1 | (exfalso; omega)
  · refine gz_eq (kx := 0) rfl (show (0 : Int32).toInt = 0 from by decide) (fun _ => ?_) (fun q => absurd q (by decide))
    refine g_run 3 rfl ?_
    first | exact g_iret rfl rfl h1 | (exfalso; omega)
theorem c_X10_isSignOf {n : Int32} {nI : Int} (nE : n.toInt = nI) (h1 : (nI = 40 ∨ nI = 41 ∨ nI = 59 ∨ nI = 61 ∨ nI = 60 ∨ nI = 43 ∨ nI = 45) → Q (some (.int 1)) sh hp) (h0 : (nI ≠ 40 ∧ nI ≠ 41 ∧ nI ≠ 59 ∧ nI ≠ 61 ∧ nI ≠ 60 ∧ nI ≠ 43 ∧ nI ≠ 45) → Q (some (.int 0)) sh hp) : gC mX10_isSignOf d 0 0 [.int n] sh hp Q := by
  refine g_enter okX10_isSignOf (plainFor_of_name rfl) rfl ?_
  refine g_run 2 rfl ?_
  refine gj_eq (kx := nI) (kz := 40) rfl nE (by decide) (fun k1 => ?_) (fun k1 => ?_)
  · refine g_run 2 rfl ?_
    exact g_zret rfl rfl (Or.inr rfl) (by first | exact h1 (by omega) | exact h0 (by omega))
  · refine g_run 2 rfl ?_
    refine gj_eq (kx := nI) (kz := 41) rfl nE (by decide) (fun k2 => ?_) (fun k2 => ?_)
    · refine g_run 2 rfl ?_
      exact g_zret rfl rfl (Or.inr rfl) (by first | exact h1 (by omega) | exact h0 (by omega))
    · refine g_run 2 rfl ?_
      refine gj_eq (kx := nI) (kz := 59) rfl nE (by decide) (fun k3 => ?_) (fun k3 => ?_)
      · refine g_run 2 rfl ?_
        exact g_zret rfl rfl (Or.inr rfl) (by first | exact h1 (by omega) | exact h0 (by omega))
      · refine g_run 2 rfl ?_
        refine gj_eq (kx := nI) (kz := 61) rfl nE (by decide) (fun k4 => ?_) (fun k4 => ?_)
        · refine g_run 2 rfl ?_
          exact g_zret rfl rfl (Or.inr rfl) (by first | exact h1 (by omega) | exact h0 (by omega))
        · refine g_run 2 rfl ?_
          refine gj_eq (kx := nI) (kz := 60) rfl nE (by decide) (fun k5 => ?_) (fun k5 => ?_)
          · refine g_run 2 rfl ?_
            exact g_zret rfl rfl (Or.inr rfl) (by first | exact h1 (by omega) | exact h0 (by omega))
          · refine g_run 2 rfl ?_
            refine gj_eq (kx := nI) (kz := 43) rfl nE (by decide) (fun k6 => ?_) (fun k6 => ?_)
            · refine g_run 2 rfl ?_
              exact g_zret rfl rfl (Or.inr rfl) (by first | exact h1 (by omega) | exact h0 (by omega))
            · refine g_run 2 rfl ?_
              refine gj_ne (kx := nI) (kz := 45) rfl nE (by decide) (fun k7 => ?_) (fun k7 => ?_)
              · refine g_run 1 rfl ?_
                exact g_zret rfl rfl (Or.inl rfl) (by first | exact h1 (by omega) | exact h0 (by omega))
              · refine g_run 2 rfl ?_
                exact g_zret rfl rfl (Or.inr rfl) (by first | exact h1 (by omega) | exact h0 (by omega))
theorem lpw_X10_cutAll  {n : Nat} (hn : (hp.1 43 3).toInt = (n : Int)) (hn6 : n ≤ 600) {P E0 : Nat} {tn c fr : Int32} {sa pa : Nat → Int32} {va : Nat → Int64} (fE : fr.toInt = (P : Int)) (kk : ∀ (k : Int32) (v : Int64), k.toInt = (E0 : Int) → v.toInt = hz (hp.1 44) P (E0 - P) → gG mX10_cutAll (d + 2) 0 0 (zQ 0 0 Q) 0 0 (129, [.ref 43, .int tn, .int k, .int c, .int fr, .long v, .retAddr 0], [], (SH b xs), (CM hp sa pa va))) : ∀ (f e : Nat) (k : Int32) (v : Int64), k.toInt = (e : Int) → e ≤ n → P ≤ e → v.toInt = hz (hp.1 44) P (e - P) → (∀ j, j < e - P → isLe (hp.1 44 (P + j)).toInt = true) → spE isLe (hp.1 44) n e = E0 → n - e < f → gG mX10_cutAll (d + 2) 0 0 (zQ 0 0 Q) 0 0 (70, [.ref 43, .int tn, .int k, .int c, .int fr, .long v, .retAddr 0], [], (SH b xs), (CM hp sa pa va)) := by
  intro f
  induction f with
  | zero => intros; omega
  | succ f ih =>
    intro e k v kE he hPe vE hd e0 hf
    have hb9 := hz_bd (t := hp.1 44) (p := P) (e - P) hd
    refine g_run 3 rfl ?_
    refine gj_ge (kx := (e : Int)) (kz := (n : Int)) rfl kE hn (fun k1 => ?_) (fun k1 => ?_)
    · rw [spE_n (by first | exact Or.inl (by omega) | exact Or.inr (by simp only [isLe, decide_eq_false_iff_not]; omega))] at e0
      exact kk _ _ (by rw [← e0]; exact kE) (by rw [← e0]; exact vE)
    · refine g_run 3 rfl ?_
      refine g_iald (j := e) rfl rfl ((show _ = (e : Int) from kE).trans (by omega)) (by omega) ?_
      refine g_callS0 rfl LX10_141 rfl rfl ?_
      refine c_X10_isLetter (nI := (hp.1 44 e).toInt) rfl (fun k2 => ?_) (fun k3 => ?_)
      · refine gz_eq (kx := 1) rfl (show (1 : Int32).toInt = 1 from by decide) (fun q => absurd q (by decide)) (fun _ => ?_)
        refine g_run 4 rfl ?_
        refine gj_ge (kx := ((e : Int) - (P : Int))) (kz := 8) rfl (ia_sub2 kE fE (by omega) (by omega)) (by decide) (fun k4 => ?_) (fun k4 => ?_)
        · refine g_run 4 rfl ?_
          exact ih (e + 1) _ _ (inc1 kE (by omega)) (by omega) (by omega) (by rw [show e + 1 - P = (e - P) + 1 by omega, hz, if_neg (by omega)]; exact vE) (fun j hj => (Nat.lt_or_ge j (e - P)).elim (fun q => hd j q) (fun q => by rw [show P + j = e by omega]; exact (by simp only [isLe, decide_eq_true_eq]; omega))) (by rw [← spE_y (by omega) (by simp only [isLe, decide_eq_true_eq]; omega)]; exact e0) (by omega)
        · refine g_run 6 rfl ?_
          refine g_iald (j := e) rfl rfl ((show _ = (e : Int) from kE).trans (by omega)) (by omega) ?_
          refine g_callS0 rfl LX10_150 rfl rfl ?_
          refine c_X10_rank (nI := (hp.1 44 e).toInt) rfl (by omega) ?_
          refine g_run 6 rfl ?_
          exact ih (e + 1) _ _ (inc1 kE (by omega)) (by omega) (by omega) (by rw [show e + 1 - P = (e - P) + 1 by omega, hz, if_pos (by omega), show P + (e - P) = e by omega]; exact la_add2 (la_mul2 (by decide : (37 : Int64).toInt = 37) vE (by omega) (by omega)) (t64 (ia_sub2 rfl (by decide) (by omega) (by omega))) (by omega) (by omega)) (fun j hj => (Nat.lt_or_ge j (e - P)).elim (fun q => hd j q) (fun q => by rw [show P + j = e by omega]; exact (by simp only [isLe, decide_eq_true_eq]; omega))) (by rw [← spE_y (by omega) (by simp only [isLe, decide_eq_true_eq]; omega)]; exact e0) (by omega)
      · refine gz_eq (kx := 0) rfl (show (0 : Int32).toInt = 0 from by decide) (fun _ => ?_) (fun q => absurd q (by decide))
        rw [spE_n (by first | exact Or.inl (by omega) | exact Or.inr (by simp only [isLe, decide_eq_false_iff_not]; omega))] at e0
        exact kk _ _ (by rw [← e0]; exact kE) (by rw [← e0]; exact vE)
theorem lpd_X10_cutAll  {n : Nat} (hn : (hp.1 43 3).toInt = (n : Int)) (hn6 : n ≤ 600) {P E0 : Nat} {tn c fr : Int32} {sa pa : Nat → Int32} {va : Nat → Int64} (fE : fr.toInt = (P : Int)) (kk : ∀ (k : Int32) (v : Int64), k.toInt = (E0 : Int) → v.toInt = nz (hp.1 44) P (E0 - P) → gG mX10_cutAll (d + 2) 0 0 (zQ 0 0 Q) 0 0 (218, [.ref 43, .int tn, .int k, .int c, .int fr, .long v, .retAddr 0], [], (SH b xs), (CM hp sa pa va))) : ∀ (f e : Nat) (k : Int32) (v : Int64), k.toInt = (e : Int) → e ≤ n → P ≤ e → v.toInt = nz (hp.1 44) P (e - P) → (∀ j, j < e - P → isDg (hp.1 44 (P + j)).toInt = true) → spE isDg (hp.1 44) n e = E0 → n - e < f → gG mX10_cutAll (d + 2) 0 0 (zQ 0 0 Q) 0 0 (159, [.ref 43, .int tn, .int k, .int c, .int fr, .long v, .retAddr 0], [], (SH b xs), (CM hp sa pa va)) := by
  intro f
  induction f with
  | zero => intros; omega
  | succ f ih =>
    intro e k v kE he hPe vE hd e0 hf
    have hb9 := nz_bd (t := hp.1 44) (p := P) (e - P) hd
    refine g_run 3 rfl ?_
    refine gj_ge (kx := (e : Int)) (kz := (n : Int)) rfl kE hn (fun k1 => ?_) (fun k1 => ?_)
    · rw [spE_n (by first | exact Or.inl (by omega) | exact Or.inr (by simp only [isDg, decide_eq_false_iff_not]; omega))] at e0
      exact kk _ _ (by rw [← e0]; exact kE) (by rw [← e0]; exact vE)
    · refine g_run 3 rfl ?_
      refine g_iald (j := e) rfl rfl ((show _ = (e : Int) from kE).trans (by omega)) (by omega) ?_
      refine g_callS0 rfl LX10_154 rfl rfl ?_
      refine c_X10_isDigit (nI := (hp.1 44 e).toInt) rfl (fun k2 => ?_) (fun k3 => ?_)
      · refine gz_eq (kx := 1) rfl (show (1 : Int32).toInt = 1 from by decide) (fun q => absurd q (by decide)) (fun _ => ?_)
        refine g_run 4 rfl ?_
        refine gj_ge (kx := ((e : Int) - (P : Int))) (kz := 4) rfl (ia_sub2 kE fE (by omega) (by omega)) (by decide) (fun k4 => ?_) (fun k4 => ?_)
        · refine g_run 4 rfl ?_
          exact ih (e + 1) _ _ (inc1 kE (by omega)) (by omega) (by omega) (by rw [show e + 1 - P = (e - P) + 1 by omega, nz, if_neg (by omega)]; exact vE) (fun j hj => (Nat.lt_or_ge j (e - P)).elim (fun q => hd j q) (fun q => by rw [show P + j = e by omega]; exact (by simp only [isDg, decide_eq_true_eq]; omega))) (by rw [← spE_y (by omega) (by simp only [isDg, decide_eq_true_eq]; omega)]; exact e0) (by omega)
        · refine g_run 6 rfl ?_
          refine g_iald (j := e) rfl rfl ((show _ = (e : Int) from kE).trans (by omega)) (by omega) ?_
          refine g_run 8 rfl ?_
          exact ih (e + 1) _ _ (inc1 kE (by omega)) (by omega) (by omega) (by rw [show e + 1 - P = (e - P) + 1 by omega, nz, if_pos (by omega), show P + (e - P) = e by omega]; rw [Int.mul_comm]; exact la_sub2 (la_add2 (la_mul2 (by decide : (10 : Int64).toInt = 10) vE (by omega) (by omega)) (t64 rfl) (by omega) (by omega)) (by decide) (by omega) (by omega)) (fun j hj => (Nat.lt_or_ge j (e - P)).elim (fun q => hd j q) (fun q => by rw [show P + j = e by omega]; exact (by simp only [isDg, decide_eq_true_eq]; omega))) (by rw [← spE_y (by omega) (by simp only [isDg, decide_eq_true_eq]; omega)]; exact e0) (by omega)
      · refine gz_eq (kx := 0) rfl (show (0 : Int32).toInt = 0 from by decide) (fun _ => ?_) (fun q => absurd q (by decide))
        rw [spE_n (by first | exact Or.inl (by omega) | exact Or.inr (by simp only [isDg, decide_eq_false_iff_not]; omega))] at e0
        exact kk _ _ (by rw [← e0]; exact kE) (by rw [← e0]; exact vE)
theorem lp_X10_cutAll  {n : Nat} (hn : (hp.1 43 3).toInt = (n : Int)) (hn6 : n ≤ 600) (h1 : ∀ (N : Nat) (sa pa : Nat → Int32) (va : Nat → Int64), N ≤ 600 → (∀ j, j < N → kd (hp.1 44) n j ≠ 0) → kd (hp.1 44) n N = 0 → okN (hp.1 44) n sa pa va (N + 1) → Q none (SH b xs) (sI (sI (CM hp sa pa va) 43 7 0) 43 8 0)) : ∀ (f e i : Nat) (k ti : Int32) (sa pa : Nat → Int32) (va : Nat → Int64) (w3 w4 w5 w6 : Value), k.toInt = (e : Int) → ti.toInt = (i : Int) → e ≤ n → bh (hp.1 44) n i ≤ e → spE isBl (hp.1 44) n (bh (hp.1 44) n i) = spE isBl (hp.1 44) n e → (∀ j, j < i → kd (hp.1 44) n j ≠ 0) → okN (hp.1 44) n sa pa va i → n - e < f → gG mX10_cutAll (d + 2) 0 0 (zQ 0 0 Q) 0 0 (17, [.ref 43, .int ti, .int k, w3, w4, w5, w6], [], (SH b xs), (CM hp sa pa va)) := by
  intro f
  induction f with
  | zero => intros; omega
  | succ f ih =>
    intro e i k ti sa pa va w3 w4 w5 w6 kE iE he hbe hsp hne hok hf
    have hib := bh_ge (t := (hp.1 44)) (n := n) i hne
    refine g_run 3 rfl ?_
    refine gj_ge (kx := (e : Int)) (kz := (n : Int)) rfl kE hn (fun k1 => ?_) (fun k1 => ?_)
    · have hT := tok_0 (t := (hp.1 44)) (b := bh (hp.1 44) n i) (hsp.trans (spE_n (Or.inl (by omega)))) (by omega)
      have hk9 : kd (hp.1 44) n i = 0 := congrArg (fun z => z.1) hT
      have hp9 := pl_end hk9
      refine g_run 4 rfl ?_
      refine g_iast (j := i) rfl rfl iE (by omega) ?_
      refine gG_hp cm_s ?_
      refine g_run 5 rfl ?_
      refine g_iast (j := i) rfl rfl iE (by omega) ?_
      refine gG_hp cm_p ?_
      refine g_run 6 rfl ?_
      refine g_vret rfl rfl (h1 i _ _ _ (by omega) hne hk9 ?_)
      intro j hj
      by_cases c9 : j = i
      · rw [c9, hk9, hp9]; simp [va_up]; exact ⟨hn, okT_0 (by decide)⟩
      · simp [va_up, c9]; exact hok j (by omega)
    · refine g_run 3 rfl ?_
      refine g_iald (j := e) rfl rfl ((show _ = (e : Int) from kE).trans (by omega)) (by omega) ?_
      refine g_run 3 rfl ?_
      refine gj_eq (kx := (hp.1 44 e).toInt) (kz := 10) rfl rfl (by decide) (fun k2 => ?_) (fun k2 => ?_)
      · refine g_run 2 rfl ?_
        exact ih (e + 1) i _ _ _ _ _ _ _ _ _ (inc1 kE (by omega)) iE (by omega) (by omega) (by rw [hsp]; exact spE_y (by omega) (by simp only [isBl, decide_eq_true_eq]; omega)) hne hok (by omega)
      · refine g_run 2 rfl ?_
        refine gj_ne (kx := (hp.1 44 e).toInt) (kz := 32) rfl rfl (by decide) (fun k3 => ?_) (fun k3 => ?_)
        · have hP : spE isBl (hp.1 44) n (bh (hp.1 44) n i) = e := by rw [hsp]; exact spE_n (Or.inr (by simp only [isBl, decide_eq_false_iff_not]; omega))
          refine g_run 8 rfl ?_
          refine g_iast (j := i) rfl rfl iE (by omega) ?_
          refine gG_hp cm_p ?_
          refine g_run 1 rfl ?_
          refine g_callS0 rfl LX10_141 rfl rfl ?_
          refine c_X10_isLetter (nI := (hp.1 44 e).toInt) rfl (fun k4 => ?_) (fun k5 => ?_)
          · refine gz_eq (kx := 1) rfl (show (1 : Int32).toInt = 1 from by decide) (fun q => absurd q (by decide)) (fun _ => ?_)
            refine lpw_X10_cutAll hn hn6 (P := e) kE (fun k2 v2 kE2 vE2 => ?_) 601 e _ _ kE (by omega) (Nat.le_refl _) (by rw [Nat.sub_self]; rfl) (fun j hj => by omega) rfl (by omega)
            have hE1 : e + 1 ≤ spE isLe (hp.1 44) n (e + 1) := spE_ge
            have hE2 : spE isLe (hp.1 44) n e ≤ n := spE_le (by omega)
            have hE3 : spE isLe (hp.1 44) n e = spE isLe (hp.1 44) n (e + 1) := spE_y (by omega) (by simp only [isLe, decide_eq_true_eq]; omega)
            have hAll : ∀ j, j < spE isLe (hp.1 44) n e - e → isLe (hp.1 44 (e + j)).toInt = true := fun j hj => spE_all (p := e) (n := n) (by omega) (by omega)
            have hT := tok_w hP (by omega) (by simp only [isLe, decide_eq_true_eq]; omega) rfl
            generalize he2 : spE isLe (hp.1 44) n e = e2 at *
            refine g_run 7 rfl ?_
            refine gj_le (kx := ((e2 : Int) - (e : Int))) (kz := 8) rfl (ia_sub2 kE2 kE (by omega) (by omega)) (by decide) (fun k6 => ?_) (fun k6 => ?_)
            · refine g_run 1 rfl ?_
              refine g_iast (j := i) rfl rfl iE (by omega) ?_
              refine gG_hp cm_s ?_
              refine g_run 5 rfl ?_
              have hk9 : kd (hp.1 44) n i = _ := congrArg (fun z => z.1) hT
              have hp9 : pl (hp.1 44) n i = e := congrArg (fun z => z.2.1) hT
              have hb9 : bh (hp.1 44) n (i + 1) = e2 := congrArg (fun z => z.2.2) hT
              have hv9 : nv (hp.1 44) n i = nz (hp.1 44) e (e2 - e) := by rw [nv, hp9, hb9]
              dsimp only at hk9
              refine g_last (j := i) rfl rfl iE (by omega) ?_
              refine gG_hp cm_v ?_
              refine g_run 2 rfl ?_
              refine ih (e2) (i + 1) _ _ _ _ _ _ _ _ _ kE2 (inc1 iE (by omega)) (by omega) (by rw [hb9]; omega) (by rw [hb9]) (fun j hj => ?_) (okN_s hok (by rw [hp9]; exact kE) ?_) (by omega)
              · by_cases c9 : j = i
                · rw [c9, hk9]; exact kwd_ne _ _ _
                · exact hne j (by omega)
              · rw [hk9, hv9]; exact okT_w hAll (by rw [if_neg (by omega)]; decide) vE2
            · refine g_run 2 rfl ?_
              refine g_iast (j := i) rfl rfl iE (by omega) ?_
              refine gG_hp cm_s ?_
              refine g_run 5 rfl ?_
              have hk9 : kd (hp.1 44) n i = _ := congrArg (fun z => z.1) hT
              have hp9 : pl (hp.1 44) n i = e := congrArg (fun z => z.2.1) hT
              have hb9 : bh (hp.1 44) n (i + 1) = e2 := congrArg (fun z => z.2.2) hT
              have hv9 : nv (hp.1 44) n i = nz (hp.1 44) e (e2 - e) := by rw [nv, hp9, hb9]
              dsimp only at hk9
              refine g_last (j := i) rfl rfl iE (by omega) ?_
              refine gG_hp cm_v ?_
              refine g_run 2 rfl ?_
              refine ih (e2) (i + 1) _ _ _ _ _ _ _ _ _ kE2 (inc1 iE (by omega)) (by omega) (by rw [hb9]; omega) (by rw [hb9]) (fun j hj => ?_) (okN_s hok (by rw [hp9]; exact kE) ?_) (by omega)
              · by_cases c9 : j = i
                · rw [c9, hk9]; exact kwd_ne _ _ _
                · exact hne j (by omega)
              · rw [hk9, hv9]; exact okT_w hAll (by rw [if_pos (by omega)]; decide) vE2
          · refine gz_eq (kx := 0) rfl (show (0 : Int32).toInt = 0 from by decide) (fun _ => ?_) (fun q => absurd q (by decide))
            refine g_run 1 rfl ?_
            refine g_callS0 rfl LX10_154 rfl rfl ?_
            refine c_X10_isDigit (nI := (hp.1 44 e).toInt) rfl (fun k7 => ?_) (fun k8 => ?_)
            · refine gz_eq (kx := 1) rfl (show (1 : Int32).toInt = 1 from by decide) (fun q => absurd q (by decide)) (fun _ => ?_)
              refine lpd_X10_cutAll hn hn6 (P := e) kE (fun k2 v2 kE2 vE2 => ?_) 601 e _ _ kE (by omega) (Nat.le_refl _) (by rw [Nat.sub_self]; rfl) (fun j hj => by omega) rfl (by omega)
              have hE1 : e + 1 ≤ spE isDg (hp.1 44) n (e + 1) := spE_ge
              have hE2 : spE isDg (hp.1 44) n e ≤ n := spE_le (by omega)
              have hE3 : spE isDg (hp.1 44) n e = spE isDg (hp.1 44) n (e + 1) := spE_y (by omega) (by simp only [isDg, decide_eq_true_eq]; omega)
              have hT := tok_d hP (by omega) (by simp only [isDg, decide_eq_true_eq]; omega) rfl
              generalize he2 : spE isDg (hp.1 44) n e = e2 at *
              refine g_run 7 rfl ?_
              refine gj_le (kx := ((e2 : Int) - (e : Int))) (kz := 4) rfl (ia_sub2 kE2 kE (by omega) (by omega)) (by decide) (fun k9 => ?_) (fun k9 => ?_)
              · refine g_run 1 rfl ?_
                refine g_iast (j := i) rfl rfl iE (by omega) ?_
                refine gG_hp cm_s ?_
                refine g_run 5 rfl ?_
                have hk9 : kd (hp.1 44) n i = _ := congrArg (fun z => z.1) hT
                have hp9 : pl (hp.1 44) n i = e := congrArg (fun z => z.2.1) hT
                have hb9 : bh (hp.1 44) n (i + 1) = e2 := congrArg (fun z => z.2.2) hT
                have hv9 : nv (hp.1 44) n i = nz (hp.1 44) e (e2 - e) := by rw [nv, hp9, hb9]
                dsimp only at hk9
                refine g_last (j := i) rfl rfl iE (by omega) ?_
                refine gG_hp cm_v ?_
                refine g_run 2 rfl ?_
                refine ih (e2) (i + 1) _ _ _ _ _ _ _ _ _ kE2 (inc1 iE (by omega)) (by omega) (by rw [hb9]; omega) (by rw [hb9]) (fun j hj => ?_) (okN_s hok (by rw [hp9]; exact kE) ?_) (by omega)
                · by_cases c9 : j = i
                  · rw [c9, hk9]; split <;> decide
                  · exact hne j (by omega)
                · rw [hk9, hv9]; exact okT_d (by rw [if_neg (by omega)]; decide) vE2
              · refine g_run 2 rfl ?_
                refine g_iast (j := i) rfl rfl iE (by omega) ?_
                refine gG_hp cm_s ?_
                refine g_run 5 rfl ?_
                have hk9 : kd (hp.1 44) n i = _ := congrArg (fun z => z.1) hT
                have hp9 : pl (hp.1 44) n i = e := congrArg (fun z => z.2.1) hT
                have hb9 : bh (hp.1 44) n (i + 1) = e2 := congrArg (fun z => z.2.2) hT
                have hv9 : nv (hp.1 44) n i = nz (hp.1 44) e (e2 - e) := by rw [nv, hp9, hb9]
                dsimp only at hk9
                refine g_last (j := i) rfl rfl iE (by omega) ?_
                refine gG_hp cm_v ?_
                refine g_run 2 rfl ?_
                refine ih (e2) (i + 1) _ _ _ _ _ _ _ _ _ kE2 (inc1 iE (by omega)) (by omega) (by rw [hb9]; omega) (by rw [hb9]) (fun j hj => ?_) (okN_s hok (by rw [hp9]; exact kE) ?_) (by omega)
                · by_cases c9 : j = i
                  · rw [c9, hk9]; split <;> decide
                  · exact hne j (by omega)
                · rw [hk9, hv9]; exact okT_d (by rw [if_pos (by omega)]; decide) vE2
            · refine gz_eq (kx := 0) rfl (show (0 : Int32).toInt = 0 from by decide) (fun _ => ?_) (fun q => absurd q (by decide))
              have hT := tok_s hP (by omega) (by simp only [isLe, decide_eq_false_iff_not]; omega) (by simp only [isDg, decide_eq_false_iff_not]; omega)
              refine g_run 7 rfl ?_
              refine g_callS0 rfl LX10_161 rfl rfl ?_
              refine c_X10_isSignOf (nI := (hp.1 44 e).toInt) rfl (fun k10 => ?_) (fun k11 => ?_)
              · refine gz_eq (kx := 1) rfl (show (1 : Int32).toInt = 1 from by decide) (fun q => absurd q (by decide)) (fun _ => ?_)
                refine g_run 2 rfl ?_
                refine g_iast (j := i) rfl rfl iE (by omega) ?_
                refine gG_hp cm_s ?_
                refine g_run 5 rfl ?_
                have hk9 : kd (hp.1 44) n i = _ := congrArg (fun z => z.1) hT
                have hp9 : pl (hp.1 44) n i = e := congrArg (fun z => z.2.1) hT
                have hb9 : bh (hp.1 44) n (i + 1) = e + 1 := congrArg (fun z => z.2.2) hT
                have hv9 : nv (hp.1 44) n i = nz (hp.1 44) e (e + 1 - e) := by rw [nv, hp9, hb9]
                dsimp only at hk9
                refine g_last (j := i) rfl rfl iE (by omega) ?_
                refine gG_hp cm_v ?_
                refine g_run 2 rfl ?_
                refine ih (e + 1) (i + 1) _ _ _ _ _ _ _ _ _ (inc1 kE (by omega)) (inc1 iE (by omega)) (by omega) (by rw [hb9]; omega) (by rw [hb9]) (fun j hj => ?_) (okN_s hok (by rw [hp9]; exact kE) ?_) (by omega)
                · by_cases c9 : j = i
                  · rw [c9, hk9]; exact ksn_ne _
                  · exact hne j (by omega)
                · rw [hk9, hv9]; exact okT_s (Or.inl ⟨by decide, by omega⟩) (t64 rfl)
              · refine gz_eq (kx := 0) rfl (show (0 : Int32).toInt = 0 from by decide) (fun _ => ?_) (fun q => absurd q (by decide))
                refine g_run 1 rfl ?_
                refine g_iast (j := i) rfl rfl iE (by omega) ?_
                refine gG_hp cm_s ?_
                refine g_run 5 rfl ?_
                have hk9 : kd (hp.1 44) n i = _ := congrArg (fun z => z.1) hT
                have hp9 : pl (hp.1 44) n i = e := congrArg (fun z => z.2.1) hT
                have hb9 : bh (hp.1 44) n (i + 1) = e + 1 := congrArg (fun z => z.2.2) hT
                have hv9 : nv (hp.1 44) n i = nz (hp.1 44) e (e + 1 - e) := by rw [nv, hp9, hb9]
                dsimp only at hk9
                refine g_last (j := i) rfl rfl iE (by omega) ?_
                refine gG_hp cm_v ?_
                refine g_run 2 rfl ?_
                refine ih (e + 1) (i + 1) _ _ _ _ _ _ _ _ _ (inc1 kE (by omega)) (inc1 iE (by omega)) (by omega) (by rw [hb9]; omega) (by rw [hb9]) (fun j hj => ?_) (okN_s hok (by rw [hp9]; exact kE) ?_) (by omega)
                · by_cases c9 : j = i
                  · rw [c9, hk9]; exact ksn_ne _
                  · exact hne j (by omega)
                · rw [hk9, hv9]; exact okT_s (Or.inr ⟨by decide, by omega⟩) (t64 rfl)
        · refine g_run 2 rfl ?_
          exact ih (e + 1) i _ _ _ _ _ _ _ _ _ (inc1 kE (by omega)) iE (by omega) (by omega) (by rw [hsp]; exact spE_y (by omega) (by simp only [isBl, decide_eq_true_eq]; omega)) hne hok (by omega)
theorem c_X10_cutAll {n : Nat} (hn : (hp.1 43 2).toInt = (n : Int)) (hn6 : n ≤ 600) (h1 : ∀ (N : Nat) (sa pa : Nat → Int32) (va : Nat → Int64), N ≤ 600 → (∀ j, j < N → kd (hp.1 44) n j ≠ 0) → kd (hp.1 44) n N = 0 → okN (hp.1 44) n sa pa va (N + 1) → Q none (SH b xs) (sI (sI (CM (sI (sI hp 43 3 (hp.1 43 2)) 43 2 0) sa pa va) 43 7 0) 43 8 0)) : gC mX10_cutAll (d + 2) 0 0 [.ref 43] (SH b xs) hp Q := by
  refine g_enter okX10_cutAll (plainFor_of_name rfl) rfl ?_
  refine g_run 11 rfl ?_
  refine gG_hp cm_id.symm ?_
  exact lp_X10_cutAll (hp := sI (sI hp 43 3 (hp.1 43 2)) 43 2 0) hn hn6 h1 601 0 0 0 0 _ _ _ _ _ _ _ (by decide) (by decide) (by omega) (Nat.le_refl _) rfl (fun j hj => by omega) (fun j hj => by omega) (by omega)
end S40
