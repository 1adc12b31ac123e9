theorem gfind_cg {p q : Nat → Bool} : ∀ m s, (∀ r, s ≤ r → r < s + m → p r = q r) → gfind p m s = gfind q m s
  | 0, _, _ => rfl
  | m + 1, s, h => by
    unfold gfind
    rw [h s (by omega) (by omega), gfind_cg m (s + 1) (fun r h1 h2 => h r (by omega) (by omega))]
def dFp (c : gCt) (i f s : Nat) : Bool := bt f s && (cn c i s + dFree c (c 7 1 - (i + 1)) (i + 1) (clr f s) == dFree c (c 7 1 - i) i f)
theorem dFr_eq {c : gCt} (h6 : c 7 0 ≤ 6) {i f u : Nat} (h : cmp (c 7 0) f u) : gfind (dFp c i f) (c 7 0) 0 = dFst c i u := by
  unfold dFst
  refine gfind_cg _ _ (fun r _ hr => ?_)
  unfold dFp
  rw [h.2.2 r (by omega), dFree_eq h6 _ _ _ _ (cmp_s h (by omega) h6), dFree_eq h6 _ _ _ _ h]
theorem dU_s (c : gCt) (j : Nat) : gfold (dUF c) (j + 1) 0 0 = dUF c j (gfold (dUF c) j 0 0) := by
  have := gfold_succ (dUF c) j 0 0
  rw [Nat.zero_add] at this
  exact this
theorem calW_n {c : gCt} {x : Int32} (hb : inB x (c 7 1) = true) : calW c x = 0 := by unfold calW whyB; rw [if_pos hb]; rfl
theorem eq_m1 {x : Int32} (h1 : ¬ 0 ≤ x) (h2 : ¬ x < -1) : x = -1 := by
  have h1 := Int32.not_le.mp h1
  have h2 := Int32.not_lt.mp h2
  rw [← Int32.toInt_inj]
  rw [Int32.lt_iff_toInt_lt] at h1
  rw [Int32.le_iff_toInt_le] at h2
  have e1 : (-1 : Int32).toInt = -1 := by decide
  have e0 : (0 : Int32).toInt = 0 := by decide
  omega
