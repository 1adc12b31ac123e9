/-! ===== dressed, by what is free ===== -/
def clr (f s : Nat) : Nat := if bt f s = true then f - 2 ^ s else f
theorem clr_I : ∀ s, s < 6 → ∀ f, f < 64 → nI f &&& (nI 1 <<< (nI s &&& 31) ^^^ -1) = nI (clr f s) ∧ clr f s < 64 := by decide +kernel
theorem clr_bt : ∀ s, s < 6 → ∀ f, f < 64 → ∀ r, r < 6 → bt (clr f s) r = (bt f r && !(r == s)) := by decide +kernel
theorem or_bt : ∀ s, s < 6 → ∀ u, u < 64 → ∀ r, r < 6 → bt (u ||| 1 <<< s) r = (bt u r || (r == s)) := by decide +kernel
def fS (c : gCt) (F : Nat → Nat) (i f s a : Nat) : Nat := if bt f s = true then mxN a (cn c i s + F (clr f s)) else a
def dFree (c : gCt) : Nat → Nat → Nat → Nat
  | 0, _, _ => 0
  | n + 1, i, f => gfold (fS c (dFree c n (i + 1)) i f) (c 7 0) 0 (cn c i (c 7 0) + dFree c n (i + 1) f)
def cmp (S f u : Nat) : Prop := f < 64 ∧ u < 64 ∧ ∀ r, r < S → bt f r = !bt u r
theorem cmp_s {S f u s : Nat} (h : cmp S f u) (hs : s < S) (h6 : S ≤ 6) : cmp S (clr f s) (u ||| 1 <<< s) := by
  obtain ⟨h1, h2, h3⟩ := h
  refine ⟨(clr_I s (by omega) f h1).2, ?_, fun r hr => ?_⟩
  · exact Nat.or_lt_two_pow (n := 6) h2 (by rw [Nat.one_shiftLeft]; exact Nat.pow_lt_pow_right (by decide) (by omega))
  · rw [clr_bt s (by omega) f h1 r (by omega), or_bt s (by omega) u h2 r (by omega), h3 r hr, Bool.not_or]
theorem dFree_eq {c : gCt} (h6 : c 7 0 ≤ 6) : ∀ n i f u, cmp (c 7 0) f u → dFree c n i f = dBest c n i u
  | 0, _, _, _, _ => rfl
  | n + 1, i, f, u, h => by
    have ih := dFree_eq h6 n (i + 1)
    rw [dFree, dBest, ih f u h]
    suffices H : ∀ m s a, s + m = c 7 0 → gfold (fS c (dFree c n (i + 1)) i f) m s a = gfold (dS c (dBest c n (i + 1)) i u) m s a from H _ 0 _ (by omega)
    intro m
    induction m with
    | zero => intro s a _; rfl
    | succ m ih2 =>
      intro s a hs
      rw [gfold_st, gfold_st]
      have e : fS c (dFree c n (i + 1)) i f s a = dS c (dBest c n (i + 1)) i u s a := by
        unfold fS dS
        rw [h.2.2 s (by omega)]
        cases hb : bt u s with
        | true => rfl
        | false => rw [ih _ _ (cmp_s h (by omega) h6)]; rfl
      rw [e]
      exact ih2 (s + 1) _ (by omega)
theorem full_cmp : ∀ S, S ≤ 6 → 2 ^ S - 1 < 64 ∧ ∀ r, r < S → bt (2 ^ S - 1) r = !bt 0 r := by decide +kernel
theorem full_I : ∀ S, S ≤ 6 → nI 1 <<< (nI S &&& 31) - nI 1 = nI (2 ^ S - 1) := by decide +kernel
theorem aix {i : Nat} (h : i < 2147483648) : 49 + 1 + (nI i).toNatClampNeg = 50 + i := by rw [nI_clamp h]
theorem shr {i : Nat} (h : i < 6) : gshL[50 + i]? = some (.inr (0, 64)) := by
  have : i = 0 ∨ i = 1 ∨ i = 2 ∨ i = 3 ∨ i = 4 ∨ i = 5 := by omega
  rcases this with rfl | rfl | rfl | rfl | rfl | rfl <;> rfl
def FT (g : gG) (c : gCt) (i0 : Nat) : Prop := ∀ i, i0 ≤ i → i ≤ c 7 1 → ∀ f, f < 64 → g (50 + i) f = nI (dFree c (c 7 1 - i) i f)
theorem dFree_le (c : gCt) : ∀ n i f, dFree c n i f ≤ n
  | 0, _, _ => Nat.le_refl _
  | n + 1, i, f => by
    have h1 := cn_le c i (c 7 0)
    have h2 := dFree_le c n (i + 1) f
    refine gfold_inv (I := fun a => a ≤ n + 1) (c 7 0) 0 _ (by omega) (fun j a _ _ ha => ?_)
    have h3 := cn_le c i j
    have h4 := dFree_le c n (i + 1) (clr f j)
    show fS c (dFree c n (i + 1)) i f j a ≤ n + 1
    unfold fS mxN
    split
    · split <;> omega
    · exact ha
