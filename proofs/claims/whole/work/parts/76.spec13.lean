/-! ===== who proposes first ===== -/
def fpm (c : gCt) (i : Nat) (p : Option Nat × Nat) : Option Nat × Nat := match prp c i with
  | none => p
  | some n => if n < p.2 then (some i, n) else p
def fpmV (c : gCt) : Option Nat × Nat := gfold (fpm c) (c 7 1) 0 (none, 61)
theorem fpm_n {c : gCt} {i : Nat} {p : Option Nat × Nat} (h : prp c i = none) : fpm c i p = p := by unfold fpm; rw [h]
theorem fpm_k {c : gCt} {i n : Nat} {p : Option Nat × Nat} (h : prp c i = some n) (hn : p.2 ≤ n) : fpm c i p = p := by unfold fpm; rw [h]; exact if_neg (by omega)
theorem fpm_s {c : gCt} {i n : Nat} {p : Option Nat × Nat} (h : prp c i = some n) (hn : n < p.2) : fpm c i p = (some i, n) := by unfold fpm; rw [h]; exact if_pos hn
theorem gfind_first {p : Nat → Bool} : ∀ {n i k : Nat}, gfind p n i = some k → ∀ j, i ≤ j → j < k → p j = false
  | 0, _, _, h => by cases h
  | n + 1, i, k, h => by
    unfold gfind at h
    split at h
    · cases h; intro j h1 h2; omega
    · rename_i hp
      intro j h1 h2
      by_cases e : j = i
      · subst e; simpa using hp
      · exact gfind_first h j (by omega) h2
theorem gfind_eq {p : Nat → Bool} : ∀ {n i k : Nat}, i ≤ k → k < i + n → p k = true → (∀ j, i ≤ j → j < k → p j = false) → gfind p n i = some k
  | 0, _, _, h1, h2, _, _ => by omega
  | n + 1, i, k, h1, h2, h3, h4 => by
    unfold gfind
    by_cases e : i = k
    · subst e; rw [if_pos h3]
    · rw [if_neg (by rw [h4 i (by omega) (by omega)]; decide)]
      exact gfind_eq (by omega) (by omega) h3 (fun j h5 h6 => h4 j (by omega) h6)
theorem gfind_no {p : Nat → Bool} : ∀ {n i : Nat}, (∀ j, i ≤ j → j < i + n → p j = false) → gfind p n i = none
  | 0, _, _ => rfl
  | n + 1, i, h => by
    unfold gfind
    rw [if_neg (by rw [h i (by omega) (by omega)]; decide)]
    exact gfind_no (fun j h1 h2 => h j (by omega) (by omega))
/-- what the fold keeps: the first of those with the least day -/
def fpI (c : gCt) (i : Nat) (p : Option Nat × Nat) : Prop := p.2 ≤ 61 ∧ (∀ j n, j < i → prp c j = some n → p.2 ≤ n) ∧ match p.1 with
  | none => p.2 = 61
  | some k => k < i ∧ prp c k = some p.2 ∧ ∀ j n, j < k → prp c j = some n → p.2 < n
theorem prp_lt {c : gCt} {i n : Nat} (h : prp c i = some n) : n < 61 := by have := (gfind_some h).2.1; omega
theorem fpI_st {c : gCt} {i : Nat} {p : Option Nat × Nat} (h : fpI c i p) : fpI c (i + 1) (fpm c i p) := by
  obtain ⟨h1, h2, h3⟩ := h
  cases hp : prp c i with
  | none =>
    rw [fpm_n hp]
    refine ⟨h1, fun j n hj hn => ?_, ?_⟩
    · by_cases e : j = i
      · subst e; rw [hp] at hn; cases hn
      · exact h2 j n (by omega) hn
    · cases hq : p.1 with
      | none => rw [hq] at h3; exact h3
      | some k => rw [hq] at h3; exact ⟨by omega, h3.2⟩
  | some n =>
    by_cases hn : n < p.2
    · rw [fpm_s hp hn]
      refine ⟨by show n ≤ 61; omega, fun j m hj hm => ?_, ⟨by omega, hp, fun j m hj hm => ?_⟩⟩
      · by_cases e : j = i
        · subst e; rw [hp] at hm; cases hm; exact Nat.le_refl _
        · have := h2 j m (by omega) hm; show n ≤ m; omega
      · have := h2 j m hj hm; show n < m; omega
    · rw [fpm_k hp (by omega)]
      refine ⟨h1, fun j m hj hm => ?_, ?_⟩
      · by_cases e : j = i
        · subst e; rw [hp] at hm; cases hm; omega
        · exact h2 j m (by omega) hm
      · cases hq : p.1 with
        | none => rw [hq] at h3; exact h3
        | some k => rw [hq] at h3; exact ⟨by omega, h3.2⟩
theorem fpI_all {c : gCt} : ∀ m i p, fpI c i p → fpI c (i + m) (gfold (fpm c) m i p)
  | 0, _, _, h => h
  | m + 1, i, p, h => by
    have := fpI_all m (i + 1) (fpm c i p) (fpI_st h)
    rw [gfold_st, show i + (m + 1) = i + 1 + m by omega]
    exact this
theorem fpr_none {c : gCt} : ∀ m n, (∀ k, n ≤ k → k < n + m → fpAt c k = none) → fpr c m n = none
  | 0, _, _ => rfl
  | m + 1, n, h => by
    rw [fpr, h n (by omega) (by omega)]
    exact fpr_none m (n + 1) (fun k h1 h2 => h k (by omega) (by omega))
theorem fpr_some {c : gCt} {d i : Nat} : ∀ m n, n ≤ d → d < n + m → (∀ k, n ≤ k → k < d → fpAt c k = none) → fpAt c d = some i → fpr c m n = some i
  | 0, _, h1, h2, _, _ => by omega
  | m + 1, n, h1, h2, h3, h4 => by
    by_cases e : n = d
    · subst e; rw [fpr, h4]
    · rw [fpr, h3 n (by omega) (by omega)]
      exact fpr_some m (n + 1) (by omega) (by omega) (fun k h5 h6 => h3 k (by omega) h6) h4
theorem prp_at {c : gCt} {i n : Nat} (hn : n < 61) (h : ∀ k, prp c i = some k → n < k) : decide (6 ≤ daysC n c 5 i) = false := by
  cases hp : prp c i with
  | none => exact gfind_none hp n (by omega) (by omega)
  | some k => exact gfind_first hp n (by omega) (h k hp)
theorem fpm_eq (c : gCt) : (fpmV c).1 = fpr c 61 0 := by
  have h := fpI_all (c := c) (c 7 1) 0 (none, 61) ⟨Nat.le_refl _, fun j n hj => by omega, rfl⟩
  rw [Nat.zero_add] at h
  change fpI c (c 7 1) (fpmV c) at h
  obtain ⟨h1, h2, h3⟩ := h
  cases hq : (fpmV c).1 with
  | none =>
    rw [hq] at h3
    have h3 : (fpmV c).2 = 61 := h3
    refine (fpr_none 61 0 (fun n _ hn => gfind_no (fun i _ hi => prp_at (by omega) (fun k hk => ?_)))).symm
    have := h2 i k (by omega) hk
    omega
  | some k =>
    rw [hq] at h3
    have h3 : k < c 7 1 ∧ prp c k = some (fpmV c).2 ∧ ∀ j n, j < k → prp c j = some n → (fpmV c).2 < n := h3
    have hd := prp_lt h3.2.1
    refine (fpr_some (d := (fpmV c).2) 61 0 (by omega) (by omega) (fun n _ hn => gfind_no (fun i _ hi => prp_at (by omega) (fun m hm => ?_))) ?_).symm
    · have := h2 i m (by omega) hm
      omega
    · exact gfind_eq (by omega) (by omega) (gfind_some h3.2.1).2.2 (fun j _ hj => prp_at hd (fun m hm => h3.2.2 j m hj hm))
