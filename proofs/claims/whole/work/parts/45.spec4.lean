def sufW (c : gCt) (x : Int32) : Int32 := whyB (inB x (c 7 0)) (-1)
def calW (c : gCt) (x : Int32) : Int32 := whyB (inB x (c 7 1)) (-1)
def insW (c : gCt) (x : Int32) : Int32 := whyB (inB x (c 7 1) && !(c 6 x.toNatClampNeg == 0)) (-3)
def rnW (n t v : Int32) : Int32 := if n < 0 ∨ v < 0 ∨ t < nI 2 then -4 else if nI 7 < n ∨ nI 20 < t ∨ nI 6 < v then -6 else nI 0
def suitW (c : gCt) (x w : Int32) : Int32 := fstI (sufW c x) (whyB (inB w 7) (-2)) (nI 0)
def suitV (c : gCt) (s k : Nat) : Int32 := if k = 0 then nI (c 0 s) else if k = 1 then nI (c 1 s) else if k = 2 then nI (c 2 s) else if k = 3 then nI (cvr c s) else if k = 4 then nI (chaN (c 0 s) (c 2 s) (c 7 3 + 1)) else if k = 5 then nI (priN (c 0 s)) else oI (wr c s)
def callerW (c : gCt) (x w : Int32) : Int32 := fstI (calW c x) (whyB (inB w 6) (-2)) (nI 0)
def callerV (c : gCt) (s k : Nat) : Int32 := if k = 0 then nI (c 3 s) else if k = 1 then nI (c 4 s) else if k = 2 then nI (c 5 s) else if k = 3 then wz (c 6 s) else if k = 4 then bI (canB c s (covOf c s)) else nI (lkN c s)
def wearsW (c : gCt) (x s : Int32) : Int32 := fstI (calW c x) (sufW c s) (nI 0)
def offW (c : gCt) (x : Int32) : Int32 := fstI (calW c x) (insW c x) (nI 0)
def fearsW (c : gCt) (x v : Int32) : Int32 := fstI (calW c x) (bndI v (nI 0) (nI 20)) (nI 0)
def rustsW (c : gCt) (x v : Int32) : Int32 := fstI (sufW c x) (bndI v (nI 0) (nI 9)) (nI 0)
def turnW (c : gCt) (x k v : Int32) : Int32 := fstI (sufW c x) (whyB (inB k 6) (-2)) (bndI v (nI 0) (nI 9))
theorem okw_0 : okw (nI 0) := Or.inl rfl
theorem okw_1 : okw (-1) := by unfold okw; decide
theorem okw_2 : okw (-2) := by unfold okw; decide
theorem okw_3 : okw (-3) := by unfold okw; decide
theorem okw_4 : okw (-4) := by unfold okw; decide
theorem okw_6 : okw (-6) := by unfold okw; decide
theorem okw_suf (c : gCt) (x : Int32) : okw (sufW c x) := okw_b okw_1
theorem okw_cal (c : gCt) (x : Int32) : okw (calW c x) := okw_b okw_1
theorem okw_ins (c : gCt) (x : Int32) : okw (insW c x) := okw_b okw_3
theorem suf_0 {c : gCt} {x : Int32} (h : sufW c x = 0) (hn : c 7 0 ≤ 6) : ∃ s, s < c 7 0 ∧ x = nI s := (inB_iff (by omega)).mp ((whyB_0 (by decide)).mp h)
theorem cal_0 {c : gCt} {x : Int32} (h : calW c x = 0) (hn : c 7 1 ≤ 5) : ∃ s, s < c 7 1 ∧ x = nI s := (inB_iff (by omega)).mp ((whyB_0 (by decide)).mp h)
theorem any_0 {x w : Int32} {n : Nat} (hw : ¬ w = 0) (h : whyB (inB x n) w = 0) (hn : n < 2147483648) : ∃ s, s < n ∧ x = nI s := (inB_iff hn).mp ((whyB_0 hw).mp h)
theorem XSr.ro {g : gG} {ck : gCt} {hk : Bool} {lt : Nat → Nat} {nl : Nat} {rv : Nat → Nat} {nr : Nat} {rf : Nat → Int32} (h : XSr g ck hk lt nl rv nr rf) {i : Nat} (hi : i < nr) : vp_in (nI i) 16 ∧ g 30 (nI i).toNatClampNeg = nI (rv i) := ⟨vp_in_nI (by have := h.2.2.1.2.1; omega) (by decide), by rw [nI_clamp (by have := h.2.2.1.2.1; omega)]; exact (h.2.2.1.2.2 i hi).1⟩
theorem MSr.ro {g : gG} {ck : gCt} {hk : Bool} {lt : Nat → Nat} {nl : Nat} {rv : Nat → Nat} {nr : Nat} {rf : Nat → Int32} (h : MSr g ck hk lt nl rv nr rf) {i : Nat} (hi : i < nr) : vp_in (nI i) 16 ∧ g 57 (nI i).toNatClampNeg = nI (rv i) := ⟨vp_in_nI (by have := h.2.2.1.2.1; omega) (by decide), by rw [nI_clamp (by have := h.2.2.1.2.1; omega)]; exact (h.2.2.1.2.2 i hi).1⟩
theorem XSr.le {g : gG} {ck : gCt} {hk : Bool} {lt : Nat → Nat} {nl : Nat} {rv : Nat → Nat} {nr : Nat} {rf : Nat → Int32} (h : XSr g ck hk lt nl rv nr rf) {i : Nat} (hi : i < nl) : vp_in (nI i) 96 ∧ g 26 (nI i).toNatClampNeg = nI (lt i) := ⟨vp_in_nI (by have := h.2.1.2.1; omega) (by decide), by rw [nI_clamp (by have := h.2.1.2.1; omega)]; exact (h.2.1.2.2 i hi).1⟩
theorem MSr.le {g : gG} {ck : gCt} {hk : Bool} {lt : Nat → Nat} {nl : Nat} {rv : Nat → Nat} {nr : Nat} {rf : Nat → Int32} (h : MSr g ck hk lt nl rv nr rf) {i : Nat} (hi : i < nl) : vp_in (nI i) 96 ∧ g 44 (nI i).toNatClampNeg = nI (lt i) := ⟨vp_in_nI (by have := h.2.1.2.1; omega) (by decide), by rw [nI_clamp (by have := h.2.1.2.1; omega)]; exact (h.2.1.2.2 i hi).1⟩
/-! the row and the letters as lists of numbers -/
def nup (f : Nat → Nat) (n v : Nat) : Nat → Nat := fun i => if i = n then v else f i
