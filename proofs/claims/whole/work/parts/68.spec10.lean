/-! ===== what is, lots ===== -/
def sayR (rv : Nat → Nat) (i : Nat) : Nat → Nat → gCt → Bool
  | 0, _, _ => true
  | m + 1, j, d => if (if j = 0 then d else lvD i d) 5 i = rv j then sayR rv i m (j + 1) (if j = 0 then d else lvD i d) else false
def wiW (c : gCt) (x w : Int32) : Int32 := fstI (sufW c x) (whyB (inB w 2) (-2)) (nI 0)
def wiF (c : gCt) (rv : Nat → Nat) (nr s k i v a : Nat) : Nat := if sayR rv i nr 0 (cup c k s v) = true then a ||| 1 <<< v else a
def wiT (c : gCt) (rv : Nat → Nat) (nr s k i : Nat) : Nat := gfold (wiF c rv nr s k i) (if k = 0 then 6 else 10) 0 0
def wiV (c : gCt) (rv : Nat → Nat) (nr s k : Nat) : Nat := match wr c s with
  | none => 0
  | some i => wiT c rv nr s k i
theorem nI_or (a b : Nat) : nI a ||| nI b = nI (a ||| b) := by
  apply Int32.toBitVec_inj.mp
  show BitVec.ofNat 32 a ||| BitVec.ofNat 32 b = BitVec.ofNat 32 (a ||| b)
  apply BitVec.eq_of_toNat_eq
  simp [Nat.or_mod_two_pow]
theorem shl_10 : ∀ i, i < 10 → nI 1 <<< (nI i &&& 31) = nI (1 <<< i) ∧ 1 <<< i < 2 ^ 10 := by decide +kernel
theorem or_10 {a i : Nat} (hi : i < 10) : nI a ||| nI 1 <<< (nI i &&& 31) = nI (a ||| 1 <<< i) := by rw [(shl_10 i hi).1, nI_or]
theorem or_l10 {a i : Nat} (ha : a < 2 ^ 10) (hi : i < 10) : a ||| 1 <<< i < 2 ^ 10 := Nat.or_lt_two_pow ha (shl_10 i hi).2
def ltI (i : Nat) (p : Int32 × gCt) : Int32 × gCt := (sdI p.1, cup (cup (cup p.2 3 i (drN (sdI p.1))) 4 i 0) 5 i 0)
def ltL (c : gCt) (z : Int32) : Int32 × gCt := gfold ltI (c 7 1) 0 (z, c)
def ltA (c : gCt) (k : Nat) (d : gCt) : Int32 := if k = 0 then nI (tot d) else nI (d 7 2) - nI (c 7 2)
def ltR (c : gCt) (k : Nat) : Nat → Int32 → Int32 → Int32
  | 0, _, S => S
  | m + 1, z, S => ltR c k m (ltL c z).1 (S + ltA c k (daysC 8 (ltL c z).2))
def ltW (n w : Int32) : Int32 := fstI (bndI n (nI 1) (nI 20)) (whyB (inB w 2) (-2)) (nI 0)
theorem drN_le (z : Int32) : drN z ≤ 20 := by
  unfold drN
  have := Nat.mod_lt (z.toBitVec.toNat % 2 ^ 31 / 256) (show 0 < 21 by decide)
  omega
theorem ltI_ok {c : gCt} {p : Int32 × gCt} (h : gsame c p.2) (i : Nat) : gsame c (ltI i p).2 := ⟨h.1, h.2.1, h.2.2.1, gok_5 (gok_4 (gok_3 h.2.2.2 (drN_le _)) (Nat.zero_le _)) (Nat.zero_le _)⟩
theorem ltL_ok {c : gCt} (h : gok c) (z : Int32) : gsame c (ltL c z).2 := gfold_inv (I := fun p => gsame c p.2) (c 7 1) 0 (z, c) ⟨rfl, rfl, rfl, h⟩ (fun j s _ _ hs => ltI_ok hs j)
theorem dr_cl (z : Int32) : (z &&& 2147483647) / nI 256 - (z &&& 2147483647) / nI 256 / nI 21 * nI 21 = nI (drN z) := by rw [← drI_eq]; rfl
theorem ltR_0 (c : gCt) (m : Nat) (z S : Int32) : ltR c 0 (m + 1) z S = ltR c 0 m (ltL c z).1 (S + nI (tot (daysC 8 (ltL c z).2))) := by rw [ltR, ltA, if_pos rfl]
theorem ltR_1 (c : gCt) (m : Nat) (z S : Int32) : ltR c 1 (m + 1) z S = ltR c 1 m (ltL c z).1 (S + (nI (daysC 8 (ltL c z).2 7 2) - nI (c 7 2))) := by rw [ltR, ltA, if_neg (by decide)]
theorem ltI_1 (i : Nat) (p : Int32 × gCt) : (ltI i p).1 = sdI p.1 := rfl
theorem ltI_2 (i : Nat) (p : Int32 × gCt) : (ltI i p).2 = cup (cup (cup p.2 3 i (drN (sdI p.1))) 4 i 0) 5 i 0 := rfl
theorem sd_cl (z : Int32) : z * 1664525 + 1013904223 = sdI z := by unfold sdI; rfl
theorem gfold_st {σ : Type} (F : Nat → σ → σ) (n i : Nat) (s : σ) : gfold F (n + 1) i s = gfold F n (i + 1) (F i s) := rfl
