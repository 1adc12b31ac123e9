/-! ===== what a city does ===== -/
def covN (k f r : Nat) : Nat := if k = 0 then f + 4 - r else if k = 2 then (f + 4 - r) / 2 else if k = 3 then 2 * (f + 4 - r) else if k = 4 then 2 * (f + 4 - r) + 5 else f + 4 - r - 2
def chaN (k r d : Nat) : Nat := if k = 0 then 2 else if k = 1 then 1 else if k = 2 then 0 else if k = 3 then 3 else if k = 4 then 3 + r / 3 else 1 + d % 2
def priN (k : Nat) : Nat := if k = 0 then 3 else if k = 1 then 2 else if k = 2 then 1 else if k = 5 then 0 else 6
def cvr (c : gCt) (s : Nat) : Nat := covN (c 0 s) (c 1 s) (c 2 s)
/-- who is in a suit -/
def wr (c : gCt) (s : Nat) : Option Nat := gfind (fun i => c 6 i == s + 1) (c 7 1) 0
def brI (c : gCt) (i cov : Nat) : Int32 := nI cov + nI (c 5 i) - nI (c 3 i) - nI (c 4 i / 3)
def canB (c : gCt) (i cov : Nat) : Bool := decide (c 5 i < 6 ∧ 2 * c 5 i + c 3 i + c 4 i / 3 ≤ cov + c 5 i + 4)
def covOf (c : gCt) (i : Nat) : Nat := if c 6 i = 0 then 0 else cvr c (c 6 i - 1)
def put (c : gCt) (i s : Nat) : gCt := cup (match wr c s with
  | some k => cup c 6 k 0
  | none => c) 6 i (s + 1)
def liveP (c : gCt) (i : Nat) : gCt := cup c 7 2 (cap (c 7 2 + priN (c 0 (c 6 i - 1))) 9999)
def liveQ (c : gCt) (i : Nat) : gCt := if canB c i (cvr c (c 6 i - 1)) = true then cup (cup (liveP c i) 5 i (c 5 i + 1)) 3 i (c 3 i - 1) else cup (liveP c i) 3 i (cap (c 3 i + 1) 20)
def liveS (c : gCt) (i : Nat) : Nat := cap (c 4 i + chaN (c 0 (c 6 i - 1)) (c 2 (c 6 i - 1)) (c 7 3)) 20
def live (c : gCt) (i : Nat) : gCt := if c 6 i = 0 then cup c 4 i (c 4 i - 1) else if 15 ≤ liveS c i then cup (cup (liveQ c i) 4 i (liveS c i)) 6 i 0 else cup (liveQ c i) 4 i (liveS c i)
def rstF (s : Nat) (c : gCt) : gCt := if wr c s = none then cup c 2 s (cap (c 2 s + 1) 9) else c
def rstU (c : gCt) : gCt := gfold rstF (c 7 0) 0 c
def dayC (c : gCt) : gCt :=
  let c2 := gfold (fun i c => live c i) (c 7 1) 0 (cup c 7 3 (c 7 3 + 1))
  if c2 7 3 % 5 = 0 then rstU c2 else c2
def daysC (n : Nat) (c : gCt) : gCt := gfold (fun _ c => dayC c) n 0 c
def rainC (c : gCt) : gCt := gfold (fun s c => cup c 2 s (cap (c 2 s + 1) 9)) (c 7 0) 0 c
def sumN (f : Nat → Nat) (n : Nat) : Nat := gfold (fun i a => a + f i) n 0 0
def addS (c : gCt) (k f : Nat) : gCt := cup (cup (cup (cup c 0 (c 7 0) k) 1 (c 7 0) f) 2 (c 7 0) 0) 7 0 (c 7 0 + 1)
def addC (c : gCt) (f : Nat) : gCt := cup (cup (cup (cup (cup c 3 (c 7 1) f) 4 (c 7 1) 0) 5 (c 7 1) 0) 6 (c 7 1) 0) 7 1 (c 7 1 + 1)
