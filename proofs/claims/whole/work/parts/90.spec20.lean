/-! ===== letters read as statements ===== -/
def sgn (k : Nat) : Nat := if k = 115 ∨ k = 99 ∨ k = 119 ∨ k = 114 ∨ k = 100 then 2 else if k = 111 then 1 else if k = 102 then 3 else 0
def kdx (k : Nat) : Nat := if k = 112 then 0 else if k = 109 then 1 else if k = 103 then 2 else if k = 102 then 3 else if k = 98 then 4 else if k = 111 then 5 else 6
def kdI (k : Nat) : Int32 := if kdx k < 6 then nI (kdx k) else -1
def isD (k : Nat) : Bool := decide (48 ≤ k ∧ k ≤ 57)
def dg (lt : Nat → Nat) (i : Nat) : Nat := lt i - 48
def nu (lt : Nat → Nat) (i : Nat) : Nat := 10 * dg lt i + dg lt (i + 1)
/-- whether the sign at i is right in a statement that began at st -/
def fitB (lt : Nat → Nat) (st i : Nat) : Bool := if i = st then decide (0 < sgn (lt st)) else if sgn (lt st) < i - st then lt i == 59 else if i = st + 1 ∧ lt st = 115 then decide (kdx (lt i) < 6) else isD (lt i)
def okA (lt : Nat → Nat) (nl st i : Nat) : Bool := decide (i < nl) && fitB lt st i
/-- the first wrong place of the statement at p -/
def stB (lt : Nat → Nat) (nl p : Nat) : Option Nat := gfind (fun i => !okA lt nl p i) (sgn (lt p) + 2) p
/-- where statement k begins -/
def pos (lt : Nat → Nat) : Nat → Nat
  | 0 => 0
  | k + 1 => pos lt k + (sgn (lt (pos lt k)) + 2)
def rdK (lt : Nat → Nat) (nl : Nat) : Nat → Nat → Option Nat × Nat
  | 0, k => (none, k)
  | f + 1, k => if nl ≤ pos lt k ∧ 0 < k then (none, k) else match stB lt nl (pos lt k) with
    | some q => (some q, k)
    | none => rdK lt nl f (k + 1)
def rdN (lt : Nat → Nat) (nl : Nat) : Option Nat × Nat := rdK lt nl (nl + 1) 0
/-- what the statement at p makes of a city -/
def tk (lt : Nat → Nat) (c : gCt) (p : Nat) : Option gCt :=
  if lt p = 115 then (if c 7 0 < 6 then some (addS c (kdx (lt (p + 1))) (dg lt (p + 2))) else none)
  else if lt p = 99 then (if c 7 1 < 5 ∧ nu lt (p + 1) ≤ 20 then some (addC c (nu lt (p + 1))) else none)
  else if lt p = 119 then (if dg lt (p + 1) < c 7 1 ∧ dg lt (p + 2) < c 7 0 then some (put c (dg lt (p + 1)) (dg lt (p + 2))) else none)
  else if lt p = 111 then (if dg lt (p + 1) < c 7 1 then some (cup c 6 (dg lt (p + 1)) 0) else none)
  else if lt p = 102 then (if dg lt (p + 1) < c 7 1 ∧ nu lt (p + 2) ≤ 20 then some (cup c 3 (dg lt (p + 1)) (nu lt (p + 2))) else none)
  else if lt p = 114 then (if dg lt (p + 1) < c 7 0 then some (cup c 2 (dg lt (p + 1)) (dg lt (p + 2))) else none)
  else (if 1 ≤ nu lt (p + 1) ∧ nu lt (p + 1) ≤ 60 ∧ c 7 3 + nu lt (p + 1) ≤ 999 then some (daysC (nu lt (p + 1)) c) else none)
def runK (lt : Nat → Nat) : Nat → Nat → gCt → Option gCt × Nat
  | 0, k, c => (some c, k)
  | m + 1, k, c => match tk lt c (pos lt k) with
    | some d => runK lt m (k + 1) d
    | none => (none, k)
def cityV (lt : Nat → Nat) (nl : Nat) (c : gCt) : Int32 := match rdN lt nl with
  | (some q, _) => -1000 - nI q
  | (none, n) => match runK lt n 0 c with
    | (some _, _) => nI n
    | (none, k) => -2000 - nI (pos lt k)
def cityC (lt : Nat → Nat) (nl : Nat) (c : gCt) : gCt := match rdN lt nl with
  | (some _, _) => c
  | (none, n) => match runK lt n 0 c with
    | (some d, _) => d
    | (none, _) => c
/-! the class's way through the letters -/
def wpK (lt : Nat → Nat) (nl : Nat) : Nat → Nat → Nat → Option Nat
  | 0, st, _ => if nl = 0 ∨ st < nl then some nl else none
  | m + 1, st, i => if fitB lt st i = true then wpK lt nl m (if lt i = 59 then i + 1 else st) (i + 1) else some i
theorem kdx_59 {k : Nat} (h : kdx k < 6) : ¬ k = 59 := by
  rintro rfl
  revert h
  decide
theorem sgn_59 {k : Nat} (h : 0 < sgn k) : ¬ k = 59 := by
  rintro rfl
  revert h
  decide
theorem fit_59 {lt : Nat → Nat} {st i : Nat} (h : fitB lt st i = true) (h1 : st ≤ i) (h2 : i ≤ st + sgn (lt st) + 1) : lt i = 59 ↔ i = st + sgn (lt st) + 1 := by
  unfold fitB at h
  by_cases e1 : i = st
  · rw [if_pos e1] at h
    have h := of_decide_eq_true h
    rw [e1]
    exact ⟨fun q => absurd q (sgn_59 h), fun q => by omega⟩
  · rw [if_neg e1] at h
    by_cases e2 : sgn (lt st) < i - st
    · rw [if_pos e2] at h
      exact ⟨fun _ => by omega, fun _ => by simpa using h⟩
    · rw [if_neg e2] at h
      refine ⟨fun q => ?_, fun q => by omega⟩
      split at h
      · exact absurd q (kdx_59 (of_decide_eq_true h))
      · have h := of_decide_eq_true h
        omega
theorem wpK_in {lt : Nat → Nat} {nl st : Nat} : ∀ r i m, i + (r + 1) = st + sgn (lt st) + 2 → st ≤ i → i + m = nl → (st < nl ∨ nl = 0) → wpK lt nl m st i = (match gfind (fun i => !okA lt nl st i) (r + 1) i with
    | some q => some q
    | none => wpK lt nl (m - (r + 1)) (i + (r + 1)) (i + (r + 1))) := by
  intro r
  induction r with
  | zero =>
    intro i m hr hs hm hn
    cases m with
    | zero =>
      rw [wpK, if_pos (by omega), gfind, if_pos (by unfold okA; rw [decide_eq_false (by omega)]; rfl), show nl = i by omega]
    | succ m =>
      by_cases hf : fitB lt st i = true
      · rw [wpK, if_pos hf, if_pos ((fit_59 hf hs (by omega)).mpr (by omega)), gfind, if_neg (by unfold okA; rw [decide_eq_true (by omega), hf]; decide)]
        rfl
      · rw [wpK, if_neg hf, gfind, if_pos (by unfold okA; rw [decide_eq_true (by omega), Bool.not_eq_true _ |>.mp hf]; rfl)]
  | succ r ih =>
    intro i m hr hs hm hn
    cases m with
    | zero =>
      rw [wpK, if_pos (by omega), gfind, if_pos (by unfold okA; rw [decide_eq_false (by omega)]; rfl), show nl = i by omega]
    | succ m =>
      by_cases hf : fitB lt st i = true
      · rw [wpK, if_pos hf, if_neg (fun q => absurd ((fit_59 hf hs (by omega)).mp q) (by omega)), gfind, if_neg (by unfold okA; rw [decide_eq_true (by omega), hf]; decide)]
        rw [ih (i + 1) m (by omega) (by omega) (by omega) (by omega), show m + 1 - (r + 1 + 1) = m - (r + 1) by omega, show i + (r + 1 + 1) = i + 1 + (r + 1) by omega]
      · rw [wpK, if_neg hf, gfind, if_pos (by unfold okA; rw [decide_eq_true (by omega), Bool.not_eq_true _ |>.mp hf]; rfl)]
theorem wpK_le {lt : Nat → Nat} {nl : Nat} : ∀ m st i q, i + m = nl → wpK lt nl m st i = some q → q ≤ nl
  | 0, st, i, q, _, h => by
    unfold wpK at h
    split at h
    · cases h; omega
    · cases h
  | m + 1, st, i, q, hm, h => by
    unfold wpK at h
    split at h
    · exact wpK_le m _ (i + 1) q (by omega) h
    · cases h; omega
theorem stB_none {lt : Nat → Nat} {nl p : Nat} (h : stB lt nl p = none) {j : Nat} (hj : j < sgn (lt p) + 2) : p + j < nl ∧ fitB lt p (p + j) = true := by
  have := gfind_none h (p + j) (by omega) (by omega)
  have : okA lt nl p (p + j) = true := by simpa using this
  unfold okA at this
  simpa using this
theorem pos_le {lt : Nat → Nat} {nl k : Nat} (h : stB lt nl (pos lt k) = none) : pos lt (k + 1) ≤ nl ∧ pos lt k < nl := by
  have h1 := stB_none h (j := sgn (lt (pos lt k)) + 1) (by omega)
  have h2 := stB_none h (j := 0) (by omega)
  refine ⟨?_, by omega⟩
  show pos lt k + (sgn (lt (pos lt k)) + 2) ≤ nl
  omega
theorem pos_2 (lt : Nat → Nat) : ∀ k, 2 * k ≤ pos lt k
  | 0 => Nat.le_refl _
  | k + 1 => by
    have := pos_2 lt k
    show 2 * (k + 1) ≤ pos lt k + (sgn (lt (pos lt k)) + 2)
    omega
theorem rdK_in {lt : Nat → Nat} {nl : Nat} {f k : Nat} (h1 : ¬ (nl ≤ pos lt k ∧ 0 < k)) (h2 : stB lt nl (pos lt k) = none) : rdK lt nl (f + 1) k = rdK lt nl f (k + 1) := by
  rw [rdK, if_neg h1, h2]
theorem rdK_out {lt : Nat → Nat} {nl : Nat} {f k q : Nat} (h1 : ¬ (nl ≤ pos lt k ∧ 0 < k)) (h2 : stB lt nl (pos lt k) = some q) : rdK lt nl (f + 1) k = (some q, k) := by
  rw [rdK, if_neg h1, h2]
theorem rdK_end {lt : Nat → Nat} {nl : Nat} {f k : Nat} (h1 : nl ≤ pos lt k ∧ 0 < k) : rdK lt nl (f + 1) k = (none, k) := by
  rw [rdK, if_pos h1]
theorem wpK_rd {lt : Nat → Nat} {nl : Nat} : ∀ f k, nl + 1 ≤ f + pos lt k → pos lt k ≤ nl → wpK lt nl (nl - pos lt k) (pos lt k) (pos lt k) = (rdK lt nl f k).1
  | 0, k, h1, h2 => by omega
  | f + 1, k, h1, h2 => by
    by_cases he : nl ≤ pos lt k ∧ 0 < k
    · have := pos_2 lt k
      rw [rdK_end he, show nl - pos lt k = 0 by omega, wpK, if_neg (by omega)]
    · have h0 : pos lt k < nl ∨ nl = 0 := by
        by_cases hk : k = 0
        · subst hk
          show 0 < nl ∨ nl = 0
          omega
        · omega
      rw [wpK_in (sgn (lt (pos lt k)) + 1) (pos lt k) (nl - pos lt k) (by omega) (Nat.le_refl _) (by omega) h0]
      cases hs : stB lt nl (pos lt k) with
      | some q =>
        rw [rdK_out he hs]
        unfold stB at hs
        rw [hs]
      | none =>
        rw [rdK_in he hs]
        have hp := pos_le hs
        have ih := wpK_rd f (k + 1) (by show nl + 1 ≤ f + (pos lt k + (sgn (lt (pos lt k)) + 2)); omega) hp.1
        unfold stB at hs
        rw [hs, ← ih]
        show wpK lt nl (nl - pos lt k - (sgn (lt (pos lt k)) + 2)) (pos lt k + (sgn (lt (pos lt k)) + 2)) (pos lt k + (sgn (lt (pos lt k)) + 2)) = wpK lt nl (nl - (pos lt k + (sgn (lt (pos lt k)) + 2))) (pos lt k + (sgn (lt (pos lt k)) + 2)) (pos lt k + (sgn (lt (pos lt k)) + 2))
        rw [Nat.sub_sub]
theorem wp_rd (lt : Nat → Nat) (nl : Nat) : wpK lt nl nl 0 0 = (rdN lt nl).1 := wpK_rd (nl + 1) 0 (by omega) (Nat.zero_le _)
theorem rdN_le {lt : Nat → Nat} {nl q n : Nat} (h : rdN lt nl = (some q, n)) : q ≤ nl := wpK_le nl 0 0 q (by omega) ((wp_rd lt nl).trans (by rw [h]))
theorem rdK_n {lt : Nat → Nat} {nl n : Nat} : ∀ f k, nl + 1 ≤ f + pos lt k → pos lt k ≤ nl → rdK lt nl f k = (none, n) → k ≤ n ∧ pos lt n = nl ∧ 0 < n ∧ ∀ j, k ≤ j → j < n → stB lt nl (pos lt j) = none
  | 0, k, h1, h2, _ => by omega
  | f + 1, k, h1, h2, h => by
    by_cases he : nl ≤ pos lt k ∧ 0 < k
    · rw [rdK_end he] at h
      cases h
      exact ⟨Nat.le_refl _, by omega, he.2, fun j _ _ => by omega⟩
    · cases hs : stB lt nl (pos lt k) with
      | some q => rw [rdK_out he hs] at h; cases h
      | none =>
        rw [rdK_in he hs] at h
        have hp := pos_le hs
        obtain ⟨a, b, d, e⟩ := rdK_n f (k + 1) (by show nl + 1 ≤ f + (pos lt k + (sgn (lt (pos lt k)) + 2)); omega) hp.1 h
        refine ⟨by omega, b, d, fun j h1 h2 => ?_⟩
        by_cases ej : j = k
        · rw [ej]; exact hs
        · exact e j (by omega) h2
theorem rdN_n {lt : Nat → Nat} {nl n : Nat} (h : rdN lt nl = (none, n)) : pos lt n = nl ∧ 0 < n ∧ ∀ j, j < n → stB lt nl (pos lt j) = none := by
  obtain ⟨-, a, b, d⟩ := rdK_n (nl + 1) 0 (by omega) (Nat.zero_le _) h
  exact ⟨a, b, fun j hj => d j (Nat.zero_le _) hj⟩
/-! the signs of a right statement -/
theorem sgn_0 {k : Nat} (h : 0 < sgn k) : k = 115 ∨ k = 99 ∨ k = 119 ∨ k = 111 ∨ k = 102 ∨ k = 114 ∨ k = 100 := by
  unfold sgn at h
  split at h
  · omega
  · split at h
    · omega
    · split at h
      · omega
      · omega
theorem st_sg {lt : Nat → Nat} {nl p : Nat} (h : stB lt nl p = none) : 0 < sgn (lt p) := by
  have := (stB_none h (j := 0) (by omega)).2
  unfold fitB at this
  rw [if_pos (by omega)] at this
  exact of_decide_eq_true this
theorem fit_d {lt : Nat → Nat} {p j : Nat} (h1 : 1 ≤ j) (h2 : j ≤ sgn (lt p)) (h3 : ¬ (j = 1 ∧ lt p = 115)) : fitB lt p (p + j) = isD (lt (p + j)) := by
  unfold fitB
  rw [if_neg (by omega), if_neg (by omega), if_neg (by omega)]
theorem st_d {lt : Nat → Nat} {nl p j : Nat} (h : stB lt nl p = none) (h1 : 1 ≤ j) (h2 : j ≤ sgn (lt p)) (h3 : ¬ (j = 1 ∧ lt p = 115)) : p + j < nl ∧ 48 ≤ lt (p + j) ∧ lt (p + j) ≤ 57 := by
  obtain ⟨a, b⟩ := stB_none h (j := j) (by omega)
  rw [fit_d h1 h2 h3] at b
  have := of_decide_eq_true b
  exact ⟨a, this.1, this.2⟩
theorem fit_k {lt : Nat → Nat} {p : Nat} (h3 : lt p = 115) : fitB lt p (p + 1) = decide (kdx (lt (p + 1)) < 6) := by
  unfold fitB
  rw [if_neg (by omega), if_neg (by rw [h3]; unfold sgn; rw [if_pos (by omega)]; omega), if_pos ⟨rfl, h3⟩]
theorem st_k {lt : Nat → Nat} {nl p : Nat} (h : stB lt nl p = none) (h3 : lt p = 115) : p + 1 < nl ∧ kdx (lt (p + 1)) < 6 := by
  obtain ⟨a, b⟩ := stB_none h (j := 1) (by omega)
  rw [fit_k h3] at b
  exact ⟨a, of_decide_eq_true b⟩
theorem sgn_115 : sgn 115 = 2 := by decide
theorem sgn_99 : sgn 99 = 2 := by decide
theorem sgn_119 : sgn 119 = 2 := by decide
theorem sgn_111 : sgn 111 = 1 := by decide
theorem sgn_102 : sgn 102 = 3 := by decide
theorem sgn_114 : sgn 114 = 2 := by decide
theorem sgn_100 : sgn 100 = 2 := by decide
theorem gok_addS {c : gCt} (h : gok c) {k f : Nat} (hk : k < 6) (hf : f ≤ 9) : gok (addS c k f) := by
  obtain ⟨h1, h2, h3, h4⟩ := h
  have e0 : addS c k f 7 0 = c 7 0 + 1 := by simp [addS, cup]
  have e1 : addS c k f 7 1 = c 7 1 := by simp [addS, cup]
  refine ⟨by simpa [addS, cup] using h1, by simpa [addS, cup] using h2, fun j hj => ?_, fun j hj => ?_⟩
  · rw [e0] at hj
    by_cases e : j = c 7 0
    · subst e; simp [addS, cup]; omega
    · have := h3 j (by omega)
      simp [addS, cup, e]; omega
  · rw [e1] at hj
    have := h4 j hj
    rw [e0]
    simp [addS, cup]; omega
theorem gok_addC {c : gCt} (h : gok c) {f : Nat} (hf : f ≤ 20) : gok (addC c f) := by
  obtain ⟨h1, h2, h3, h4⟩ := h
  have e0 : addC c f 7 0 = c 7 0 := by simp [addC, cup]
  have e1 : addC c f 7 1 = c 7 1 + 1 := by simp [addC, cup]
  refine ⟨by simpa [addC, cup] using h1, by simpa [addC, cup] using h2, fun j hj => ?_, fun j hj => ?_⟩
  · rw [e0] at hj
    have := h3 j hj
    simp [addC, cup]; omega
  · rw [e1] at hj
    rw [e0]
    by_cases e : j = c 7 1
    · subst e; simp [addC, cup]; omega
    · have := h4 j (by omega)
      simp [addC, cup, e]; omega
theorem tk_ok {lt : Nat → Nat} {nl p : Nat} {c d : gCt} (hs : stB lt nl p = none) (ho : gok c) (hd : c 7 3 ≤ 999) (h : tk lt c p = some d) : gok d ∧ d 7 3 ≤ 999 := by
  unfold tk at h
  split at h
  · next e =>
    have a := (st_k hs e).2
    have b := st_d hs (j := 2) (by decide) (by rw [e, sgn_115]; decide) (by omega)
    split at h
    · cases h
      exact ⟨gok_addS ho a (by unfold dg; omega), by simpa [addS, cup] using hd⟩
    · cases h
  split at h
  · split at h
    · next q => cases h; exact ⟨gok_addC ho q.2, by simpa [addC, cup] using hd⟩
    · cases h
  split at h
  · split at h
    · next q => cases h; exact ⟨put_gok ho q.2, by rw [(put_7 _ _ _).2.2.2]; exact hd⟩
    · cases h
  split at h
  · split at h
    · next q => cases h; exact ⟨gok_6 ho (Nat.zero_le _), by simpa [cup] using hd⟩
    · cases h
  split at h
  · split at h
    · next q => cases h; exact ⟨gok_3 ho q.2, by simpa [cup] using hd⟩
    · cases h
  split at h
  · next e =>
    have b := st_d hs (j := 2) (by decide) (by rw [e, sgn_114]; decide) (by omega)
    split at h
    · next q => cases h; exact ⟨gok_2 ho (by unfold dg; omega), by simpa [cup] using hd⟩
    · cases h
  · split at h
    · next q =>
      cases h
      obtain ⟨-, -, a, b⟩ := daysC_ok ho (nu lt (p + 1)) (by omega)
      exact ⟨b, by omega⟩
    · cases h
theorem runK_ok {lt : Nat → Nat} {nl n : Nat} (hs : ∀ j, j < n → stB lt nl (pos lt j) = none) : ∀ m k c, k + m = n → gok c → c 7 3 ≤ 999 → ∀ d j, runK lt m k c = (some d, j) → gok d ∧ d 7 3 ≤ 999
  | 0, k, c, _, ho, hd, d, j, h => by cases h; exact ⟨ho, hd⟩
  | m + 1, k, c, hk, ho, hd, d, j, h => by
    unfold runK at h
    split at h
    · next e q =>
      have := tk_ok (hs k (by omega)) ho hd q
      exact runK_ok hs m (k + 1) e (by omega) this.1 this.2 d j h
    · cases h
theorem cityC_ok {lt : Nat → Nat} {nl : Nat} {c : gCt} (ho : gok c) (hd : c 7 3 ≤ 999) : gok (cityC lt nl c) ∧ cityC lt nl c 7 3 ≤ 999 := by
  suffices H : ∀ x, cityC lt nl c = x → gok x ∧ x 7 3 ≤ 999 from H _ rfl
  intro x hx
  unfold cityC at hx
  split at hx
  · subst hx; exact ⟨ho, hd⟩
  · next n q =>
    have hn := rdN_n q
    split at hx
    · next d j e => subst hx; exact runK_ok hn.2.2 n 0 c (by omega) ho hd d j e
    · subst hx; exact ⟨ho, hd⟩
theorem kdx_le (k : Nat) : kdx k ≤ 6 := by
  unfold kdx
  repeat' split
  all_goals decide
theorem kdI_0 {k : Nat} : kdI k < 0 ↔ ¬ kdx k < 6 := by
  unfold kdI
  split
  · next h => exact ⟨fun q => absurd q (nI_pos (by omega)), fun q => absurd h q⟩
  · next h => exact ⟨fun _ => h, fun _ => by decide⟩
def mI (o : Option Nat) : Int32 := match o with
  | none => -1
  | some i => nI i
theorem kd_B : ∀ k, k < 256 → mI (gfind (fun i => gtab 105 i == (nI k).toInt8.toInt32) 6 0) = kdI k := by decide +kernel
theorem sgn_le (k : Nat) : sgn k ≤ 3 := by
  unfold sgn
  repeat' split
  all_goals decide
theorem tkI {P : Prop} [Decidable P] {x : gCt} {Q : gCt → Prop} (h : P → Q x) : bI (decide P) = bI (if P then some x else none).isSome ∧ ∀ d, (if P then some x else none) = some d → Q d := by
  by_cases hp : P
  · rw [if_pos hp, decide_eq_true hp]
    exact ⟨rfl, fun d q => by cases q; exact h hp⟩
  · rw [if_neg hp, decide_eq_false hp]
    exact ⟨rfl, fun d q => by cases q⟩
theorem sub_1 {q : Nat} (hq : q ≤ 1000) : (-1000 : Int32) - nI q < 0 := by
  rw [nI_z, show (-1000 : Int32) = zI (-1000) from rfl, zI_sub, show (0 : Int32) = zI 0 from rfl, zI_lt (by omega) (by omega)]
  omega
theorem sub_2 {q : Nat} (hq : q ≤ 1000) : (-2000 : Int32) - nI q < 0 := by
  rw [nI_z, show (-2000 : Int32) = zI (-2000) from rfl, zI_sub, show (0 : Int32) = zI 0 from rfl, zI_lt (by omega) (by omega)]
  omega
theorem XSr.cl {g : gG} {ck : gCt} {hk : Bool} {lt : Nat → Nat} {nl : Nat} {rv : Nat → Nat} {nr : Nat} {rf : Nat → Int32} (h : XSr g ck hk lt nl rv nr rf) : XSr (gup g 25 1 (nI 0)) ck hk lt 0 rv nr rf := by
  obtain ⟨⟨h1, h2⟩, ⟨h3, h4, h5⟩, ⟨h6, h7, h8⟩, h9⟩ := h
  refine ⟨⟨?_, fun q => (h2 q).of (fun k a b => gup_ne (by omega))⟩, ⟨gup_s, by omega, fun i hi => by omega⟩, ⟨?_, h7, fun i hi => ?_⟩, fun j hj => ?_⟩
  · rw [gup_ne (by decide)]; exact h1
  · rw [gup_ne (by decide)]; exact h6
  · rw [gup_ne (by decide)]; exact h8 i hi
  · rw [gup_ne (by decide)]; exact h9 j hj
