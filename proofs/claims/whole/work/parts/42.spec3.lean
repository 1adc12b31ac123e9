/-! ===== what the reference keeps of its city, from place o of its row on ===== -/
def Rk (g : gG) (o : Nat) (c : gCt) : Prop := (g 48 (o + 38) = nI (c 7 0) ∧ g 48 (o + 39) = nI (c 7 1) ∧ g 48 (o + 40) = nI (c 7 2) ∧ g 48 (o + 41) = nI (c 7 3)) ∧ (c 7 0 ≤ 6 ∧ c 7 1 ≤ 5) ∧ (∀ i, i < c 7 0 → g 48 (o + 0 + i) = nI (c 0 i) ∧ g 48 (o + 6 + i) = nI (c 1 i) ∧ g 48 (o + 12 + i) = nI (c 2 i)) ∧ ∀ i, i < c 7 1 → g 48 (o + 18 + i) = nI (c 3 i) ∧ g 48 (o + 23 + i) = nI (c 4 i) ∧ g 48 (o + 28 + i) = nI (c 5 i) ∧ g 48 (o + 33 + i) = nI (c 6 i)
theorem Rk.of {g g1 : gG} {o : Nat} {c : gCt} (h : Rk g o c) (he : ∀ b, o ≤ b → b < o + 42 → g1 48 b = g 48 b) : Rk g1 o c := by
  obtain ⟨⟨h1, h2, h3, h4⟩, h5, h6, h7⟩ := h
  refine ⟨⟨by rw [he _ (by omega) (by omega)]; exact h1, by rw [he _ (by omega) (by omega)]; exact h2, by rw [he _ (by omega) (by omega)]; exact h3, by rw [he _ (by omega) (by omega)]; exact h4⟩, h5, fun i hi => ?_, fun i hi => ?_⟩
  · rw [he _ (by omega) (by omega), he _ (by omega) (by omega), he _ (by omega) (by omega)]; exact h6 i hi
  · rw [he _ (by omega) (by omega), he _ (by omega) (by omega), he _ (by omega) (by omega), he _ (by omega) (by omega)]; exact h7 i hi
def kx (b : Nat) : Prop := (8 ≤ b ∧ b ≤ 11) ∨ b = 21 ∨ b = 22
/-- but for places lo .. hi of the kept row (and the numbers that a passing writes) all is as it was -/
def kfr (lo hi : Nat) (g g1 : gG) : Prop := ∀ a b, ¬ (a = 48 ∧ lo ≤ b ∧ b < hi) → ¬ (a = 35 ∧ (b = 21 ∨ b = 22)) → g1 a b = g a b
def ufr (K : Nat) (g g1 : gG) : Prop := ∀ a b, ¬ (K ≤ a ∧ a ≤ 43) → ¬ (a = 35 ∧ kx b) → g1 a b = g a b
theorem kfr.tr {lo hi lo2 hi2 lo3 hi3 : Nat} {g g1 g2 : gG} (h : kfr lo hi g g1) (h2 : kfr lo2 hi2 g1 g2) (e : lo3 ≤ lo ∧ lo3 ≤ lo2 ∧ hi ≤ hi3 ∧ hi2 ≤ hi3) : kfr lo3 hi3 g g2 := fun a b q1 q2 => (h2 a b (by omega) q2).trans (h a b (by omega) q2)
theorem ufr.tr {K K2 K3 : Nat} {g g1 g2 : gG} (h : ufr K g g1) (h2 : ufr K2 g1 g2) (e : K3 ≤ K ∧ K3 ≤ K2) : ufr K3 g g2 := fun a b q1 q2 => (h2 a b (by omega) q2).trans (h a b (by omega) q2)
theorem gup_o {g : gG} {k j a b : Nat} {x : Int32} (h : ¬ (a = k ∧ b = j)) : gup g k j x a b = g a b := if_neg h
theorem gup_s {g : gG} {k j : Nat} {x : Int32} : gup g k j x k j = x := if_pos ⟨rfl, rfl⟩
