/-! ===== who gets which suit ===== -/
def cn (c : gCt) (i s : Nat) : Nat := if canB c i (if s < c 7 0 then cvr c s else 0) = true then 1 else 0
def mxN (a b : Nat) : Nat := if a < b then b else a
theorem mxN_eq {a b : Nat} (ha : a < 2147483648) (hb : b < 2147483648) : (if nI a < nI b then nI b else nI a) = nI (mxN a b) := by
  unfold mxN
  by_cases h : a < b
  · rw [if_pos (nI_lt h hb), if_pos h]
  · rw [if_neg (fun q => h ((nI_ltI ha hb).mp q)), if_neg h]
def dS (c : gCt) (f : Nat → Nat) (i u s a : Nat) : Nat := if bt u s = true then a else mxN a (cn c i s + f (u ||| 1 <<< s))
def dBest (c : gCt) : Nat → Nat → Nat → Nat
  | 0, _, _ => 0
  | n + 1, i, u => gfold (dS c (dBest c n (i + 1)) i u) (c 7 0) 0 (cn c i (c 7 0) + dBest c n (i + 1) u)
theorem cn_le (c : gCt) (i s : Nat) : cn c i s ≤ 1 := by unfold cn; generalize canB c i _ = b; cases b <;> decide
theorem dS_le {c : gCt} {f : Nat → Nat} {i u n : Nat} (hf : ∀ v, f v ≤ n) {s a : Nat} (ha : a ≤ n + 1) : dS c f i u s a ≤ n + 1 := by
  have h1 := cn_le c i s
  have h2 := hf (u ||| 1 <<< s)
  unfold dS mxN
  split
  · exact ha
  · split <;> omega
theorem dBest_le (c : gCt) : ∀ n i u, dBest c n i u ≤ n
  | 0, _, _ => Nat.le_refl _
  | n + 1, i, u => by
    have h1 := cn_le c i (c 7 0)
    have h2 := dBest_le c n (i + 1) u
    exact gfold_inv (I := fun a => a ≤ n + 1) (c 7 0) 0 _ (by omega) (fun j a _ _ ha => dS_le (fun v => dBest_le c n (i + 1) v) ha)
def cbF (c : gCt) (i s a : Nat) : Nat := if canB c i (cvr c s) = true then a ||| 1 <<< s else a
def cbV (c : gCt) (i : Nat) : Nat := gfold (cbF c i) (c 7 0) 0 (if canB c i 0 = true then 1 <<< c 7 0 else 0)
theorem shl_7 : ∀ i, i < 7 → nI 1 <<< (nI i &&& 31) = nI (1 <<< i) ∧ 1 <<< i < 2 ^ 7 := by decide +kernel
theorem or_7 {a i : Nat} (hi : i < 7) : nI a ||| nI 1 <<< (nI i &&& 31) = nI (a ||| 1 <<< i) := by rw [(shl_7 i hi).1, nI_or]
theorem or_l7 {a i : Nat} (ha : a < 2 ^ 7) (hi : i < 7) : a ||| 1 <<< i < 2 ^ 7 := Nat.or_lt_two_pow ha (shl_7 i hi).2
theorem or_lS {u s S : Nat} (hu : u < 2 ^ S) (hs : s < S) : u ||| 1 <<< s < 2 ^ S := Nat.or_lt_two_pow hu (by rw [Nat.one_shiftLeft]; exact Nat.pow_lt_pow_right (by decide) hs)
theorem pw_6 : ∀ n, n ≤ 6 → 2 ^ n ≤ 64 := by decide
theorem bit_sh : ∀ s, s < 7 → ∀ x, x < 128 → nI x >>> (nI s &&& 31) &&& nI 1 = nI (x / 2 ^ s % 2) := by decide +kernel
theorem cbF_tb (c : gCt) (i j a s : Nat) : (cbF c i j a).testBit s = (a.testBit s || (decide (j = s) && canB c i (cvr c j))) := by
  unfold cbF
  split <;> rename_i h <;> simp [Nat.testBit_or, Nat.one_shiftLeft, Nat.testBit_two_pow, h]
theorem cb_tb1 (c : gCt) (i : Nat) : ∀ n j a s, (s < j ∨ j + n ≤ s) → (gfold (cbF c i) n j a).testBit s = a.testBit s
  | 0, _, _, _, _ => rfl
  | n + 1, j, a, s, h => by
    show (gfold (cbF c i) n (j + 1) (cbF c i j a)).testBit s = _
    rw [cb_tb1 c i n (j + 1) _ s (by omega), cbF_tb, decide_eq_false (by omega)]
    simp
theorem cb_tb2 (c : gCt) (i : Nat) : ∀ n j a s, j ≤ s → s < j + n → a.testBit s = false → (gfold (cbF c i) n j a).testBit s = canB c i (cvr c s)
  | 0, _, _, _, h1, h2, _ => by omega
  | n + 1, j, a, s, h1, h2, h3 => by
    show (gfold (cbF c i) n (j + 1) (cbF c i j a)).testBit s = _
    by_cases e : j = s
    · rw [cb_tb1 c i n (j + 1) _ s (by omega), cbF_tb, h3, decide_eq_true e, e]
      simp
    · exact cb_tb2 c i n (j + 1) _ s (by omega) (by omega) (by rw [cbF_tb, h3, decide_eq_false e]; rfl)
theorem cb_bit {c : gCt} {i s : Nat} (hs : s ≤ c 7 0) : cbV c i / 2 ^ s % 2 = cn c i s := by
  rw [← Nat.toNat_testBit]
  unfold cbV cn
  by_cases h : s < c 7 0
  · rw [cb_tb2 c i (c 7 0) 0 _ s (by omega) (by omega), if_pos h]
    · cases canB c i (cvr c s) <;> rfl
    · split
      · rw [Nat.one_shiftLeft, Nat.testBit_two_pow, decide_eq_false (by omega)]
      · exact Nat.zero_testBit s
  · rw [cb_tb1 c i (c 7 0) 0 _ s (by omega), if_neg h]
    have e : s = c 7 0 := by omega
    subst e
    split
    · rename_i h2
      rw [Nat.one_shiftLeft, Nat.testBit_two_pow, decide_eq_true rfl]; rfl
    · rename_i h2
      rw [Nat.zero_testBit]; rfl
theorem cbV_lt {c : gCt} (h6 : c 7 0 ≤ 6) (i : Nat) : cbV c i < 2 ^ 7 := by
  refine gfold_inv (I := fun a => a < 2 ^ 7) (c 7 0) 0 _ ?_ (fun j a _ hj ha => ?_)
  · split
    · exact (shl_7 _ (by omega)).2
    · decide
  · show cbF c i j a < 2 ^ 7
    unfold cbF
    split
    · exact or_l7 ha (by omega)
    · exact ha
def DT (g : gG) (c : gCt) (i0 : Nat) : Prop := ∀ i, i0 ≤ i → i ≤ c 7 1 → ∀ u, u < 2 ^ c 7 0 → g 28 (i * 64 + u) = nI (dBest c (c 7 1 - i) i u)
def CT (g : gG) (c : gCt) (i0 : Nat) : Prop := ∀ i, i0 ≤ i → i < c 7 1 → g 29 i = nI (cbV c i)
theorem DT.hi {g : gG} {c : gCt} {a b : Nat} (h : DT g c a) (hab : a ≤ b) : DT g c b := fun i hi => h i (by omega)
theorem CT.hi {g : gG} {c : gCt} {a b : Nat} (h : CT g c a) (hab : a ≤ b) : CT g c b := fun i hi => h i (by omega)
def dFst (c : gCt) (i u : Nat) : Option Nat := gfind (fun s => !bt u s && (cn c i s + dBest c (c 7 1 - (i + 1)) (i + 1) (u ||| 1 <<< s) == dBest c (c 7 1 - i) i u)) (c 7 0) 0
def dUF (c : gCt) (i u : Nat) : Nat := match dFst c i u with
  | none => u
  | some s => u ||| 1 <<< s
def dSuit (c : gCt) (x : Nat) : Option Nat := dFst c x (gfold (dUF c) x 0 0)
def drW (c : gCt) (x : Int32) : Int32 := if x = -1 then nI 0 else calW c x
def drV (c : gCt) (x : Int32) : Int32 := if x = -1 then nI (dBest c (c 7 1) 0 0) else oI (dSuit c x.toNatClampNeg)
theorem dUF_lt {c : gCt} {i u : Nat} (h : u < 2 ^ c 7 0) : dUF c i u < 2 ^ c 7 0 := by
  unfold dUF
  split
  · exact h
  · rename_i s hs
    exact or_lS h (by have := (gfind_some hs).2.1; omega)
theorem dFst_lt {c : gCt} {i u s : Nat} (h : dFst c i u = some s) : s < c 7 0 := by have := (gfind_some h).2.1; omega
theorem nI_m1 (i : Nat) : nI i + (-1) = nI i - nI 1 := by rw [Int32.sub_eq_add_neg]; rfl
theorem ixe {g : gG} {k i n : Nat} {v : Int32} (hi : i < n) (hn : n < 2147483648) (h : g k i = v) : vp_in (nI i) n ∧ g k (nI i).toNatClampNeg = v := ⟨vp_in_nI hi hn, by rw [nI_clamp (by omega)]; exact h⟩
