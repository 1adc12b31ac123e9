/-! ===== the reference's city, and what both sides share ===== -/
def fmC (g g1 : gG) : Prop := ∀ k j, ¬ (37 ≤ k ∧ k ≤ 43) → ¬ (k = 35 ∧ 8 ≤ j ∧ j ≤ 11) → g1 k j = g k j
theorem fmC.rf {g : gG} : fmC g g := fun _ _ _ _ => rfl
theorem fmC.tr {g g1 g2 : gG} (h : fmC g g1) (h2 : fmC g1 g2) : fmC g g2 := fun k j a b => (h2 k j a b).trans (h k j a b)
theorem Rm.wrC {g g2 : gG} {k j : Nat} {x : Int32} {c : gCt} (hF : fmC g g2) (hR : Rm (gup g2 k j x) c) (hk : (37 ≤ k ∧ k ≤ 43) ∨ (k = 35 ∧ 8 ≤ j ∧ j ≤ 11)) : Rm (gup g2 k j x) c ∧ fmC g (gup g2 k j x) := by
  refine ⟨hR, fun a b h1 h2 => ?_⟩
  have : ¬ (a = k ∧ b = j) := fun q => by omega
  unfold gup
  rw [if_neg this]
  exact hF a b h1 h2
def bndI (v l m : Int32) : Int32 := if v < l then -4 else if m < v then -6 else nI 0
def isInB (v l m : Int32) : Bool := decide (¬ v < l ∧ ¬ m < v)
def hldI (v m : Int32) : Int32 := if 0 ≤ v then (if v ≤ m then v else m) else nI 0
def hasB (s k : Int32) : Bool := decide (s >>> (k &&& 31) &&& nI 1 = nI 1)
def bitsI (v : Int32) : Int32 := gfold (fun k n => n + (v >>> (nI k &&& 31) &&& nI 1)) 31 0 (nI 0)
def inB (x : Int32) (n : Nat) : Bool := decide (¬ x < 0 ∧ ¬ nI n ≤ x)
def gbmp (g : gG) (k : Nat) (w : Int32) : gG := gup g k (-w).toNatClampNeg (g k (-w).toNatClampNeg + nI 1)
def sdI (z : Int32) : Int32 := z * 1664525 + 1013904223
def drI (z : Int32) : Int32 := (z &&& 2147483647) / nI 256 - (z &&& 2147483647) / nI 256 / nI 21 * nI 21
def drN (z : Int32) : Nat := z.toBitVec.toNat % 2 ^ 31 / 256 % 21
theorem drI_eq (z : Int32) : drI z = nI (drN z) := by
  unfold drI drN
  rw [pk_and z (m := 2147483647) 31 (by decide), pk_div (by omega) (by decide) (by decide), pk_rem (by omega) (by decide) (by decide)]
theorem hld_add {a m : Nat} (ha : a < 2147483648) (hm : m < 2147483648) : hldI (nI a) (nI m) = nI (cap a m) := by
  unfold hldI cap
  rw [if_pos (nI_pos' ha)]
  by_cases h : a ≤ m
  · rw [if_pos (nI_le h hm), if_pos h]
  · rw [if_neg (fun q => h ((nI_leI ha hm).mp q)), if_neg h]
theorem hld_sub {a b m : Nat} (ha : a ≤ m) (hm : m < 1073741824) (hb : b < 1073741824) : hldI (nI a - nI b) (nI m) = nI (a - b) := by
  by_cases h : a < b
  · unfold hldI
    rw [if_neg (fun q => absurd (pk_sneg hb h) (Int32.not_lt.mpr q)), show a - b = 0 by omega]
  · rw [nI_sub (by omega), hld_add (by omega) (by omega)]
    unfold cap
    rw [if_pos (by omega)]
theorem inB_nI {s n : Nat} (h : s < n) (hn : n < 2147483648) : inB (nI s) n = true := by
  unfold inB
  rw [decide_eq_true_iff]
  exact ⟨nI_pos (by omega), nI_ge h hn⟩
theorem inB_iff {x : Int32} {n : Nat} (hn : n < 2147483648) : inB x n = true ↔ ∃ s, s < n ∧ x = nI s := by
  constructor
  · intro h
    unfold inB at h
    have h := of_decide_eq_true h
    rcases pk_ix x hn with q | q | q
    · exact absurd q h.1
    · exact absurd q h.2
    · exact q
  · rintro ⟨s, hs, rfl⟩
    exact inB_nI hs hn
theorem oI_neg {o : Option Nat} (h : ∀ k, o = some k → k < 2147483648) : oI o < 0 ↔ o = none := by
  cases o with
  | none => simp [oI]
  | some k => simp only [oI]; constructor
              · intro q; exact absurd q (nI_pos (h k rfl))
              · intro q; cases q
theorem wr_neg {c : gCt} {s : Nat} (h : c 7 1 ≤ 5) : oI (wr c s) < 0 ↔ wr c s = none := oI_neg fun k hk => by have := (wr_lt hk).1; omega
theorem canB_lt2 {c : gCt} {i cov : Nat} (h5 : c 5 i < 6) (h3 : c 3 i ≤ 20) (h4 : c 4 i ≤ 20) (hc : cov ≤ 31) : brI c i cov < nI 2 * nI (c 5 i) - nI 4 ↔ canB c i cov = false := by
  unfold brI canB
  rw [nI_z, nI_z, nI_z, nI_z, nI_z, nI_z, zI_add, zI_sub, zI_sub, zI_mul, zI_sub, zI_lt (by omega) (by omega)]
  simp
  omega
theorem lkN_eq2 {c : gCt} {i : Nat} (hc : canB c i (covOf c i) = false) (h5 : c 5 i < 6) : nI 2 * nI (c 5 i) - nI 4 - brI c i (covOf c i) = nI (lkN c i) := by
  have hl : lkN c i = 2 * c 5 i + c 3 i + c 4 i / 3 - (covOf c i + c 5 i + 4) := by unfold lkN; exact if_neg (by omega)
  have hc2 : ¬ (c 5 i < 6 ∧ 2 * c 5 i + c 3 i + c 4 i / 3 ≤ covOf c i + c 5 i + 4) := by unfold canB at hc; exact of_decide_eq_false hc
  rw [hl]
  unfold brI
  rw [nI_z, nI_z, nI_z, nI_z, nI_z, nI_z, nI_z, zI_add, zI_sub, zI_sub, zI_mul, zI_sub, zI_sub]
  congr 1
  omega
