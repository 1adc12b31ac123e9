def letW (nl : Nat) (v : Int32) : Int32 := fstI (bndI v (nI 0) (nI 255)) (if nl < 96 then nI 0 else -6) (nI 0)
def rowW (nr : Nat) (v : Int32) : Int32 := fstI (bndI v (nI 0) (nI 99)) (if nr < 16 then nI 0 else -6) (nI 0)
def dayW (c : gCt) (v : Int32) : Int32 := fstI (bndI v (nI 1) (nI 60)) (if c 7 3 + v.toNatClampNeg ≤ 999 then nI 0 else -6) (nI 0)
def jdg (c : gCt) (rv : Nat → Nat) (nr : Nat) : Option Nat := gfind (fun i => decide (c 7 1 ≤ i) || !(c 3 i == rv i)) nr 0
def cntV (c : gCt) (nl nr : Nat) (rf : Nat → Int32) (w : Int32) : Int32 := if isInB w (nI 11) (nI 16) = true then rf (w - nI 10).toNatClampNeg else if inB w 8 = true then (if w.toNatClampNeg = 0 then nI (c 7 0) else if w.toNatClampNeg = 1 then nI (c 7 1) else if w.toNatClampNeg = 2 then nI (c 7 3) else if w.toNatClampNeg = 3 then nI (c 7 2) else if w.toNatClampNeg = 4 then nI (sumN (c 5) (c 7 1)) else if w.toNatClampNeg = 5 then nI (sumN (c 3) (c 7 1)) else if w.toNatClampNeg = 6 then nI nr else nI nl) else -9
def bstF (f : Nat → Int32) (i : Nat) (b : Option Nat) : Option Nat := match b with
  | none => some i
  | some j => if f j < f i then some i else some j
def bstV (f : Nat → Int32) (n : Nat) : Option Nat := gfold (bstF f) n 0 none
def bldf (c : gCt) (k i : Nat) : Int32 := if k = 0 then brI c i (covOf c i) else nI (c 4 i)
def lefV (c : gCt) : Int32 := gfold (fun s b => if wr c s = none then b ||| (nI 1 <<< (nI s &&& 31)) else b) (c 7 0) 0 (nI 0)
def ahdF (c : gCt) (s k n : Nat) : Nat := if cvr c s < cvr c k ∨ (cvr c k = cvr c s ∧ k < s) then n + 1 else n
def ahd (c : gCt) (s : Nat) : Nat := gfold (ahdF c s) (c 7 0) 0 0
def ordW (v : Int32) : Int32 := if v < 0 then -4 else nI 0
def ordV (c : gCt) (v : Int32) : Option Nat := gfind (fun s => decide (nI (ahd c s) = v)) (c 7 0) 0
def heaV (c : gCt) (k : Nat) : Nat := gfold (fun i n => if k < c 5 i then n + 1 else n) (c 7 1) 0 0
def rusV (c : gCt) (s : Nat) : Int32 := match wr c s with
  | none => -9
  | some i => if 6 ≤ c 5 i then -9 else oI (gfind (fun r => !canB c i (covN (c 0 s) (c 1 s) r)) 10 0)
theorem okw_r {n m : Nat} : okw (if n < m then nI 0 else -6) := by
  split
  · exact okw_0
  · exact okw_6
theorem okw_d {n m : Nat} : okw (if n ≤ m then nI 0 else -6) := by
  split
  · exact okw_0
  · exact okw_6
theorem okw_o {v : Int32} : okw (ordW v) := by
  unfold ordW
  split
  · exact okw_4
  · exact okw_0
theorem if_0 {p : Prop} [Decidable p] : (if p then nI 0 else (-6 : Int32)) = 0 ↔ p := by
  by_cases h : p
  · simp [h, nI00]
  · simp [h]
theorem icm2 (k : Nat) : nI k + Int32.ofInt (-1) = nI k - nI 1 := by
  rw [nI_z, nI_z, show Int32.ofInt (-1) = zI (-1) from rfl, zI_add, zI_sub]
  rfl
theorem inB_out {w : Int32} {n : Nat} (hn : n < 2147483648) (h : inB w n = false) : w.toInt < 0 ∨ (n : Int) ≤ w.toInt := by
  unfold inB at h
  have h := of_decide_eq_false h
  by_cases h0 : w < 0
  · left
    have := Int32.lt_iff_toInt_lt.mp h0
    simpa using this
  · right
    have h1 : nI n ≤ w := Classical.byContradiction fun q => h ⟨h0, q⟩
    have := Int32.le_iff_toInt_le.mp h1
    rwa [nI_toInt hn] at this
theorem chr_nar {n : Nat} (h : n ≤ 255) : vp_nar .char ((nI n).toUInt32 % 65536).toInt32 = nI n := by
  rw [pk_vc, pk_char, pk_tn (by omega), Nat.mod_eq_of_lt (by omega)]
theorem gfold_le {F : Nat → Nat → Nat} (h : ∀ i n, F i n ≤ n + 1) : ∀ (n i a : Nat), gfold F n i a ≤ a + n
  | 0, _, a => Nat.le_refl a
  | n + 1, i, a => by
    have h1 := gfold_le h n (i + 1) (F i a)
    have h2 := h i a
    show gfold F n (i + 1) (F i a) ≤ a + (n + 1)
    omega
theorem ahd_le (c : gCt) (s : Nat) : ahd c s ≤ c 7 0 := by
  have := gfold_le (F := ahdF c s) (fun i n => by unfold ahdF; split <;> omega) (c 7 0) 0 0
  unfold ahd
  omega
