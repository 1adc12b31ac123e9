/-! ===== in mind ===== -/
def tot (d : gCt) : Nat := sumN (d 5) (d 7 1)
theorem tot_eq (d : gCt) : sumN (d 5) (d 7 1) = tot d := rfl
theorem sumN_le {f : Nat → Nat} {m : Nat} : ∀ (n i a : Nat), (∀ j, i ≤ j → j < i + n → f j ≤ m) → gfold (fun i a => a + f i) n i a ≤ a + n * m
  | 0, _, a, _ => by simp [gfold]
  | n + 1, i, a, h => by
    have h1 := sumN_le (f := f) (m := m) n (i + 1) (a + f i) (fun j h1 h2 => h j (by omega) (by omega))
    have h2 := h i (by omega) (by omega)
    show gfold (fun i a => a + f i) n (i + 1) (a + f i) ≤ _
    rw [Nat.succ_mul]
    omega
theorem tot_le {d : gCt} (h : gok d) (h5 : d 7 1 ≤ 5) : tot d ≤ 30 := by
  have := sumN_le (f := d 5) (m := 6) (d 7 1) 0 0 (fun j _ hj => (h.2.2.2 j (by omega)).2.2.1)
  unfold tot sumN
  omega
def thnW (c : gCt) (x n w : Int32) : Int32 := fstI (calW c x) (bndI n (nI 0) (nI 60)) (whyB (inB w 3) (-2))
def thnV (d : gCt) (i k : Nat) : Int32 := if k = 0 then nI (d 5 i) else if k = 1 then nI (d 3 i) else nI (d 4 i)
def sthW (c : gCt) (x n : Int32) : Int32 := fstI (sufW c x) (bndI n (nI 0) (nI 60)) (nI 0)
def prp (c : gCt) (i : Nat) : Option Nat := gfind (fun n => decide (6 ≤ daysC n c 5 i)) 61 0
def fpAt (c : gCt) (n : Nat) : Option Nat := gfind (fun i => decide (6 ≤ daysC n c 5 i)) (c 7 1) 0
def fpr (c : gCt) : Nat → Nat → Option Nat
  | 0, _ => none
  | m + 1, n => match fpAt c n with
    | some i => some i
    | none => fpr c m (n + 1)
def outV (c : gCt) (i : Nat) : Option Nat := gfind (fun n => daysC n c 6 i == 0) 61 0
def stiV (c : gCt) : Option Nat := gfind (fun n => tot (daysC n c) == tot (daysC (n + 8) c)) 61 0
def mxF (f : Nat → Nat) (i : Nat) (p : Option Nat × Nat) : Option Nat × Nat := if p.2 < f i then (some i, f i) else p
def sbW (c : gCt) (x n w : Int32) : Int32 := fstI (calW c x) (bndI n (nI 0) (nI 30)) (whyB (inB w 2) (-2))
def sbV (c : gCt) (i n : Nat) : Option Nat × Nat := gfold (mxF (fun s => daysC n (put c i s) 5 i)) (c 7 0) 0 (none, c 5 i)
def sbA (p : Option Nat × Nat) (k : Nat) : Int32 := if k = 0 ∨ p.1 = none then oI p.1 else nI p.2
def chV (c : gCt) (n : Nat) : Option Nat × Nat := gfold (mxF (fun i => tot (daysC n (cup c 3 i (c 3 i - 3))))) (c 7 1) 0 (none, tot (daysC n c))
def swp (c : gCt) (a b : Nat) : gCt := cup (cup c 6 a (c 6 b)) 6 b (c 6 a)
def cgI (c : gCt) (n a b : Nat) (p : Option Nat × Nat) : Option Nat × Nat := if p.2 < tot (daysC n (swp c a b)) then (some (10 * a + b), tot (daysC n (swp c a b))) else p
def cgF (c : gCt) (n a : Nat) (p : Option Nat × Nat) : Option Nat × Nat := gfold (cgI c n a) (c 7 1 - (a + 1)) (a + 1) p
def cgV (c : gCt) (n : Nat) : Option Nat × Nat := gfold (cgF c n) (c 7 1) 0 (none, tot (daysC n c))
def spW (n w : Int32) : Int32 := fstI (bndI n (nI 1) (nI 30)) (whyB (inB w 2) (-2)) (nI 0)
def spF (c : gCt) (n i : Nat) (p : Option (Nat × Nat)) : Option (Nat × Nat) := if c 6 i = 0 then p else match p with
  | none => some (i, tot (daysC n (cup c 6 i 0)))
  | some q => if q.2 < tot (daysC n (cup c 6 i 0)) then some (i, tot (daysC n (cup c 6 i 0))) else some q
def spV (c : gCt) (n : Nat) : Option (Nat × Nat) := gfold (spF c n) (c 7 1) 0 none
def spA (p : Option (Nat × Nat)) (k : Nat) : Int32 := oI (if k = 0 then p.map (fun q => q.1) else p.map (fun q => q.2))
theorem daysC_1 (c : gCt) (n : Nat) : daysC 1 (daysC n c) = daysC (n + 1) c := by rw [daysC_succ n c]; rfl
theorem oI_none2 {p : Option Nat} (h : ∀ k, p = some k → k < 2147483648) : oI p = -9 ↔ p = none := oI_none h
theorem swp_ok {c : gCt} (h : gok c) {a b : Nat} (ha : a < c 7 1) (hb : b < c 7 1) : gok (swp c a b) := gok_6 (gok_6 h (h.2.2.2 b hb).2.2.2) (h.2.2.2 a ha).2.2.2
theorem swp_back {c : gCt} {a b : Nat} (hab : a ≠ b) : cup (cup (swp c a b) 6 a (c 6 a)) 6 b (c 6 b) = c := by
  funext x y
  unfold swp cup
  by_cases hx : x = 6
  · subst hx
    by_cases h1 : y = b
    · simp [h1]
    · by_cases h2 : y = a
      · subst h2; simp [h1]
      · simp [h1, h2]
  · simp [hx]
theorem mxo {p q : Option Nat × Nat} (e : p = q) : oI q.1 = oI p.1 := by rw [e]
theorem mxn {p q : Option Nat × Nat} (e : p = q) : nI q.2 = nI p.2 := by rw [e]
