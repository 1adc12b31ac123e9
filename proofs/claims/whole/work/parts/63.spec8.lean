/-! ===== fewest, two, spare's step ===== -/
theorem nI_n9 {t : Nat} (h : t < 2147483648) : ¬ nI t ≤ -9 := fun q => by
  have h9 : (-9 : Int32) = zI (-9) := rfl
  rw [nI_z, h9, zI_le ⟨by omega, by omega⟩ (by decide)] at q
  omega
theorem sp_z {c : gCt} {n i : Nat} {p : Option (Nat × Nat)} (h6 : c 6 i = 0) : spF c n i p = p := if_pos h6
theorem sp_le {c : gCt} {n i : Nat} {p : Option (Nat × Nat)} (h6 : ¬ c 6 i = 0) (ht : tot (daysC n (cup c 6 i 0)) ≤ 30) (hp : ∀ q, p = some q → q.2 ≤ 30) (hc : nI (tot (daysC n (cup c 6 i 0))) ≤ oI (p.map (fun q => q.2))) : spF c n i p = p := by
  unfold spF
  rw [if_neg h6]
  cases p with
  | none => exact absurd hc (nI_n9 (by omega))
  | some q => exact if_neg (Nat.not_lt_of_le ((nI_leI (by omega) (by have := hp q rfl; show q.2 < 2147483648; omega)).mp hc))
theorem sp_gt {c : gCt} {n i : Nat} {p : Option (Nat × Nat)} (h6 : ¬ c 6 i = 0) (hp : ∀ q, p = some q → q.2 ≤ 30) (hc : ¬ nI (tot (daysC n (cup c 6 i 0))) ≤ oI (p.map (fun q => q.2))) : spF c n i p = some (i, tot (daysC n (cup c 6 i 0))) := by
  unfold spF
  rw [if_neg h6]
  cases p with
  | none => rfl
  | some q => exact if_pos (Nat.lt_of_not_le fun z => hc (nI_le z (by have := hp q rfl; show q.2 < 2147483648; omega)))
theorem spo {p q : Option (Nat × Nat)} (e : p = q) : oI (q.map (fun q => q.1)) = oI (p.map (fun q => q.1)) := by rw [e]
theorem spn {p q : Option (Nat × Nat)} (e : p = q) : oI (q.map (fun q => q.2)) = oI (p.map (fun q => q.2)) := by rw [e]
theorem cgo {p q : Option Nat × Nat} (e : p = q) : oI q.1 = oI p.1 := by rw [e]
def fwB (c : gCt) (n i : Nat) : Bool := decide (c 5 i < 6) && decide (6 ≤ daysC n c 5 i)
def fwF (c : gCt) (n i a : Nat) : Nat := if fwB c n i = true then a ||| 1 <<< i else a
def fwV (c : gCt) (n : Nat) : Nat := gfold (fwF c n) (c 7 1) 0 0
theorem or_sh : ∀ i, i < 5 → ∀ a, a < 32 → nI a ||| nI 1 <<< (nI i &&& 31) = nI (a ||| 1 <<< i) := by decide +kernel
theorem or_lt : ∀ i, i < 5 → ∀ a, a < 32 → a ||| 1 <<< i < 32 := by decide +kernel
def twW (c : gCt) (x y n : Int32) : Int32 := if fstI (calW c x) (calW c y) (if x = y then -1 else nI 0) = 0 then fstI (bndI n (nI 0) (nI 30)) (insW c x) (insW c y) else fstI (calW c x) (calW c y) (if x = y then -1 else nI 0)
def twK (c : gCt) (a b k : Nat) : gCt := if k % 2 = 0 then cup (if k / 2 = 0 then cup c 6 a 0 else c) 6 b 0 else (if k / 2 = 0 then cup c 6 a 0 else c)
def wsh (d : gCt) (a b : Nat) : Int32 := nI (d 5 a) + (if d 5 b < d 5 a then nI 0 else nI 2) - nI (d 4 a) / nI 6
def tw1 (c : gCt) (a b n k : Nat) : Int32 := wsh (daysC n (twK c a b k)) a b
def tw2 (c : gCt) (a b n k : Nat) : Int32 := wsh (daysC n (twK c a b k)) b a
def twP (c : gCt) (a b n k : Nat) : Bool := !decide (tw1 c a b n k < tw1 c a b n (k ^^^ 2)) && !decide (tw2 c a b n k < tw2 c a b n (k ^^^ 1))
def twV (c : gCt) (a b n : Nat) : Int32 := oI ((gfind (twP c a b n) 4 0).map (fun k => 10 * (k / 2) + k % 2))
theorem twK_ok {c : gCt} (h : gok c) (a b k : Nat) : gok (twK c a b k) ∧ twK c a b k 7 1 = c 7 1 ∧ twK c a b k 7 3 = c 7 3 ∧ twK c a b k 7 0 = c 7 0 := by
  unfold twK
  split <;> split
  · exact ⟨gok_6 (gok_6 h (Nat.zero_le _)) (Nat.zero_le _), rfl, rfl, rfl⟩
  · exact ⟨gok_6 h (Nat.zero_le _), rfl, rfl, rfl⟩
  · exact ⟨gok_6 h (Nat.zero_le _), rfl, rfl, rfl⟩
  · exact ⟨h, rfl, rfl, rfl⟩
theorem k4_2 : ∀ k, k < 4 → (nI k &&& nI 2 = 0 ↔ k / 2 = 0) := by decide +kernel
theorem k4_1 : ∀ k, k < 4 → (nI k &&& nI 1 = 0 ↔ k % 2 = 0) := by decide +kernel
theorem k4_x2 : ∀ k, k < 4 → nI k ^^^ nI 2 = nI (k ^^^ 2) ∧ k ^^^ 2 < 4 := by decide +kernel
theorem k4_x1 : ∀ k, k < 4 → nI k ^^^ nI 1 = nI (k ^^^ 1) ∧ k ^^^ 1 < 4 := by decide +kernel
theorem k4_v : ∀ k, k < 4 → nI 10 * (nI k >>> (nI 1 &&& 31)) + (nI k &&& nI 1) = nI (10 * (k / 2) + k % 2) := by decide +kernel
theorem nI_mul (a b : Nat) : nI a * nI b = nI (a * b) := by rw [nI_z a, nI_z b, nI_z (a * b), zI_mul, Int.natCast_mul]
