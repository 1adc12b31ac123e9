/-! ===== numbers ===== -/
def zI (z : Int) : Int32 := Int32.ofInt z
theorem nI_z (n : Nat) : nI n = zI n := Int32.ofInt_eq_ofNat.symm
theorem zI_add (a b : Int) : zI a + zI b = zI (a + b) := (Int32.ofInt_add a b).symm
theorem zI_sub (a b : Int) : zI a - zI b = zI (a - b) := (Int32.ofInt_sub a b).symm
theorem zI_mul (a b : Int) : zI a * zI b = zI (a * b) := (Int32.ofInt_mul a b).symm
theorem zI_toInt {z : Int} (h1 : -2147483648 ≤ z) (h2 : z < 2147483648) : (zI z).toInt = z := Int32.toInt_ofInt_of_le h1 h2
theorem zI_le {a b : Int} (h1 : -2147483648 ≤ a ∧ a < 2147483648) (h2 : -2147483648 ≤ b ∧ b < 2147483648) : zI a ≤ zI b ↔ a ≤ b := by
  rw [Int32.le_iff_toInt_le, zI_toInt h1.1 h1.2, zI_toInt h2.1 h2.2]
theorem zI_lt {a b : Int} (h1 : -2147483648 ≤ a ∧ a < 2147483648) (h2 : -2147483648 ≤ b ∧ b < 2147483648) : zI a < zI b ↔ a < b := by
  rw [Int32.lt_iff_toInt_lt, zI_toInt h1.1 h1.2, zI_toInt h2.1 h2.2]
theorem zI_eq {a b : Int} (h1 : -2147483648 ≤ a ∧ a < 2147483648) (h2 : -2147483648 ≤ b ∧ b < 2147483648) : zI a = zI b ↔ a = b := by
  rw [← Int32.toInt_inj, zI_toInt h1.1 h1.2, zI_toInt h2.1 h2.2]
theorem nI_eq0 {a : Nat} (h : a < 2147483648) : nI a = 0 ↔ a = 0 := by rw [← nI_0]; exact nI_eq h (by decide)
theorem nI_sub {a b : Nat} (h : b ≤ a) : nI a - nI b = nI (a - b) := pk_sub h
def cap (a b : Nat) : Nat := if a ≤ b then a else b
theorem cap_le (a b : Nat) : cap a b ≤ b := by unfold cap; split <;> omega
/-- min with a bound, max with 0 -/
theorem nI_cap {a b : Nat} (ha : a < 2147483648) (hb : b < 2147483648) : (if nI b < nI a then nI b else nI a) = nI (cap a b) := by
  unfold cap
  by_cases h : b < a
  · rw [if_pos (nI_lt h ha), if_neg (by omega)]
  · rw [if_neg (fun q => h ((nI_ltI hb ha).mp q)), if_pos (by omega)]
theorem nI_low {a b : Nat} (ha : a < 1073741824) (hb : b < 1073741824) : (if nI a - nI b < nI 0 then nI 0 else nI a - nI b) = nI (a - b) := by
  by_cases h : a < b
  · rw [if_pos, show a - b = 0 by omega]
    rw [nI_0]; exact pk_sneg hb h
  · rw [nI_sub (by omega), if_neg]
    exact nI_nlt (by omega) (by omega)
/-! ===== loops ===== -/
/-- the first of n places from i on -/
def gfind (p : Nat → Bool) : Nat → Nat → Option Nat
  | 0, _ => none
  | n + 1, i => if p i then some i else gfind p n (i + 1)
/-- what n steps from i on make of a value -/
def gfold {σ : Type} (F : Nat → σ → σ) : Nat → Nat → σ → σ
  | 0, _, s => s
  | n + 1, i, s => gfold F n (i + 1) (F i s)
def oI (o : Option Nat) : Int32 := match o with
  | none => -9
  | some i => nI i
theorem gfind_some {p : Nat → Bool} : ∀ {n i k : Nat}, gfind p n i = some k → i ≤ k ∧ k < i + n ∧ p k = true
  | 0, _, _, h => by cases h
  | n + 1, i, k, h => by
    unfold gfind at h
    split at h
    · cases h; rename_i hp; exact ⟨by omega, by omega, hp⟩
    · have := gfind_some h; exact ⟨by omega, by omega, this.2.2⟩
theorem gfind_none {p : Nat → Bool} : ∀ {n i : Nat}, gfind p n i = none → ∀ k, i ≤ k → k < i + n → p k = false
  | 0, _, _ => fun k h1 h2 => by omega
  | n + 1, i, h => by
    unfold gfind at h
    split at h
    · cases h
    · rename_i hp
      intro k h1 h2
      by_cases e : k = i
      · subst e; simpa using hp
      · exact gfind_none h k (by omega) (by omega)
/-! ===== the city: kinds, figures, rust by suits; fear, sore, said, worn (0 none) by callers; how many suits, callers, paid, day ===== -/
abbrev gCt : Type := Nat → Nat → Nat
def cup (c : gCt) (k i v : Nat) : gCt := fun a b => if a = k ∧ b = i then v else c a b
def wz (n : Nat) : Int32 := if n = 0 then -9 else nI (n - 1)
theorem wz_0 : wz 0 = -9 := rfl
theorem wz_s (n : Nat) : wz (n + 1) = nI n := by simp [wz]
theorem wz_none {n : Nat} (h : n < 2147483648) : wz n = -9 ↔ n = 0 := by
  unfold wz
  by_cases e : n = 0
  · simp [e]
  · rw [if_neg e, nI_z, show (-9 : Int32) = zI (-9) by decide, zI_eq (by omega) (by omega)]
    omega
theorem wz_eq {n s : Nat} (h : n < 2147483648) (hs : s < 2147483648) : wz n = nI s ↔ n = s + 1 := by
  unfold wz
  by_cases e : n = 0
  · simp only [e, if_true]
    rw [nI_z, show (-9 : Int32) = zI (-9) by decide, zI_eq (by omega) (by omega)]
    omega
  · rw [if_neg e, nI_eq (by omega) hs]
    omega
/-- the city's numbers are in range -/
def gok (c : gCt) : Prop := c 7 2 ≤ 9999 ∧ c 7 3 ≤ 2000 ∧ (∀ i, i < c 7 0 → c 0 i < 6 ∧ c 1 i ≤ 9 ∧ c 2 i ≤ 9) ∧ ∀ i, i < c 7 1 → c 3 i ≤ 20 ∧ c 4 i ≤ 20 ∧ c 5 i ≤ 6 ∧ c 6 i ≤ c 7 0
/-- all cells but lo .. hi are as they were -/
def frm (lo hi : Nat) (g g1 : gG) : Prop := ∀ k, k < lo ∨ hi ≤ k → g1 k = g k
theorem frm.rf {lo hi : Nat} {g : gG} : frm lo hi g g := fun _ _ => rfl
theorem frm.up {lo hi : Nat} {g g1 : gG} (h : frm lo hi g g1) {k j : Nat} {x : Int32} (hk : lo ≤ k ∧ k < hi) : frm lo hi g (gup g1 k j x) := fun a ha => by
  rw [gup_ne (by omega)]
  exact h a ha
theorem frm.tr {lo hi : Nat} {g g1 g2 : gG} (h : frm lo hi g g1) (h2 : frm lo hi g1 g2) : frm lo hi g g2 := fun a ha => (h2 a ha).trans (h a ha)
theorem frm.wide {lo hi lo2 hi2 : Nat} {g g1 : gG} (h : frm lo hi g g1) (h1 : lo2 ≤ lo) (h2 : hi ≤ hi2) : frm lo2 hi2 g g1 := fun a ha => h a (by omega)
def Rx1 (g : gG) (c : gCt) : Prop := (g 1 7 = nI (c 7 0) ∧ g 1 8 = nI (c 7 1) ∧ g 1 9 = nI (c 7 2) ∧ g 1 10 = nI (c 7 3)) ∧ (c 7 0 ≤ 6 ∧ c 7 1 ≤ 5) ∧ (∀ i, i < c 7 0 → g 2 i = nI (c 0 i) ∧ g 3 i = nI (c 1 i) ∧ g 4 i = nI (c 2 i)) ∧ ∀ i, i < c 7 1 → g 5 i = nI (c 3 i) ∧ g 6 i = nI (c 4 i) ∧ g 7 i = nI (c 5 i) ∧ g 8 i = wz (c 6 i)
section
variable {g : gG} {c : gCt} {i : Nat}
theorem Rx1.ns (h : Rx1 g c) : g 1 7 = nI (c 7 0) := h.1.1
theorem Rx1.nc (h : Rx1 g c) : g 1 8 = nI (c 7 1) := h.1.2.1
theorem Rx1.pd (h : Rx1 g c) : g 1 9 = nI (c 7 2) := h.1.2.2.1
theorem Rx1.dy (h : Rx1 g c) : g 1 10 = nI (c 7 3) := h.1.2.2.2
theorem Rx1.n6 (h : Rx1 g c) : c 7 0 ≤ 6 := h.2.1.1
theorem Rx1.n5 (h : Rx1 g c) : c 7 1 ≤ 5 := h.2.1.2
theorem Rx1.si (h : Rx1 g c) (hi : i < c 7 0) : vp_in (nI i) 6 := vp_in_nI (by have := h.n6; omega) (by decide)
theorem Rx1.ci (h : Rx1 g c) (hi : i < c 7 1) : vp_in (nI i) 5 := vp_in_nI (by have := h.n5; omega) (by decide)
theorem Rx1.kd (h : Rx1 g c) (hi : i < c 7 0) : vp_in (nI i) 6 ∧ g 2 (nI i).toNatClampNeg = nI (c 0 i) := ⟨h.si hi, by rw [nI_clamp (by have := h.n6; omega)]; exact (h.2.2.1 i hi).1⟩
theorem Rx1.fg (h : Rx1 g c) (hi : i < c 7 0) : vp_in (nI i) 6 ∧ g 3 (nI i).toNatClampNeg = nI (c 1 i) := ⟨h.si hi, by rw [nI_clamp (by have := h.n6; omega)]; exact (h.2.2.1 i hi).2.1⟩
theorem Rx1.ru (h : Rx1 g c) (hi : i < c 7 0) : vp_in (nI i) 6 ∧ g 4 (nI i).toNatClampNeg = nI (c 2 i) := ⟨h.si hi, by rw [nI_clamp (by have := h.n6; omega)]; exact (h.2.2.1 i hi).2.2⟩
theorem Rx1.fe (h : Rx1 g c) (hi : i < c 7 1) : vp_in (nI i) 5 ∧ g 5 (nI i).toNatClampNeg = nI (c 3 i) := ⟨h.ci hi, by rw [nI_clamp (by have := h.n5; omega)]; exact (h.2.2.2 i hi).1⟩
theorem Rx1.so (h : Rx1 g c) (hi : i < c 7 1) : vp_in (nI i) 5 ∧ g 6 (nI i).toNatClampNeg = nI (c 4 i) := ⟨h.ci hi, by rw [nI_clamp (by have := h.n5; omega)]; exact (h.2.2.2 i hi).2.1⟩
theorem Rx1.sa (h : Rx1 g c) (hi : i < c 7 1) : vp_in (nI i) 5 ∧ g 7 (nI i).toNatClampNeg = nI (c 5 i) := ⟨h.ci hi, by rw [nI_clamp (by have := h.n5; omega)]; exact (h.2.2.2 i hi).2.2.1⟩
theorem Rx1.wo (h : Rx1 g c) (hi : i < c 7 1) : vp_in (nI i) 5 ∧ g 8 (nI i).toNatClampNeg = wz (c 6 i) := ⟨h.ci hi, by rw [nI_clamp (by have := h.n5; omega)]; exact (h.2.2.2 i hi).2.2.2⟩
theorem Rx1.u_kd (h : Rx1 g c) (hi : i < c 7 0) (v : Nat) : Rx1 (gup g 2 (nI i).toNatClampNeg (nI v)) (cup c 0 i v) := by
  rw [nI_clamp (by have := h.n6; omega)]
  obtain ⟨⟨h1, h2, h3, h4⟩, h5, h6, h7⟩ := h
  refine ⟨⟨by simp [gup, cup, h1], by simp [gup, cup, h2], by simp [gup, cup, h3], by simp [gup, cup, h4]⟩, by simpa [cup] using h5, fun j hj => ?_, fun j hj => ?_⟩
  · obtain ⟨a, b, d⟩ := h6 j (by simpa [cup] using hj)
    by_cases e : j = i
    · subst e; simp [gup, cup, a, b, d]
    · simp [gup, cup, a, b, d, e]
  · obtain ⟨a, b, d, f⟩ := h7 j (by simpa [cup] using hj)
    by_cases e : j = i
    · subst e; simp [gup, cup, a, b, d, f]
    · simp [gup, cup, a, b, d, f, e]
theorem Rx1.u_fg (h : Rx1 g c) (hi : i < c 7 0) (v : Nat) : Rx1 (gup g 3 (nI i).toNatClampNeg (nI v)) (cup c 1 i v) := by
  rw [nI_clamp (by have := h.n6; omega)]
  obtain ⟨⟨h1, h2, h3, h4⟩, h5, h6, h7⟩ := h
  refine ⟨⟨by simp [gup, cup, h1], by simp [gup, cup, h2], by simp [gup, cup, h3], by simp [gup, cup, h4]⟩, by simpa [cup] using h5, fun j hj => ?_, fun j hj => ?_⟩
  · obtain ⟨a, b, d⟩ := h6 j (by simpa [cup] using hj)
    by_cases e : j = i
    · subst e; simp [gup, cup, a, b, d]
    · simp [gup, cup, a, b, d, e]
  · obtain ⟨a, b, d, f⟩ := h7 j (by simpa [cup] using hj)
    by_cases e : j = i
    · subst e; simp [gup, cup, a, b, d, f]
    · simp [gup, cup, a, b, d, f, e]
theorem Rx1.u_ru (h : Rx1 g c) (hi : i < c 7 0) (v : Nat) : Rx1 (gup g 4 (nI i).toNatClampNeg (nI v)) (cup c 2 i v) := by
  rw [nI_clamp (by have := h.n6; omega)]
  obtain ⟨⟨h1, h2, h3, h4⟩, h5, h6, h7⟩ := h
  refine ⟨⟨by simp [gup, cup, h1], by simp [gup, cup, h2], by simp [gup, cup, h3], by simp [gup, cup, h4]⟩, by simpa [cup] using h5, fun j hj => ?_, fun j hj => ?_⟩
  · obtain ⟨a, b, d⟩ := h6 j (by simpa [cup] using hj)
    by_cases e : j = i
    · subst e; simp [gup, cup, a, b, d]
    · simp [gup, cup, a, b, d, e]
  · obtain ⟨a, b, d, f⟩ := h7 j (by simpa [cup] using hj)
    by_cases e : j = i
    · subst e; simp [gup, cup, a, b, d, f]
    · simp [gup, cup, a, b, d, f, e]
theorem Rx1.u_fe (h : Rx1 g c) (hi : i < c 7 1) (v : Nat) : Rx1 (gup g 5 (nI i).toNatClampNeg (nI v)) (cup c 3 i v) := by
  rw [nI_clamp (by have := h.n5; omega)]
  obtain ⟨⟨h1, h2, h3, h4⟩, h5, h6, h7⟩ := h
  refine ⟨⟨by simp [gup, cup, h1], by simp [gup, cup, h2], by simp [gup, cup, h3], by simp [gup, cup, h4]⟩, by simpa [cup] using h5, fun j hj => ?_, fun j hj => ?_⟩
  · obtain ⟨a, b, d⟩ := h6 j (by simpa [cup] using hj)
    by_cases e : j = i
    · subst e; simp [gup, cup, a, b, d]
    · simp [gup, cup, a, b, d, e]
  · obtain ⟨a, b, d, f⟩ := h7 j (by simpa [cup] using hj)
    by_cases e : j = i
    · subst e; simp [gup, cup, a, b, d, f]
    · simp [gup, cup, a, b, d, f, e]
theorem Rx1.u_so (h : Rx1 g c) (hi : i < c 7 1) (v : Nat) : Rx1 (gup g 6 (nI i).toNatClampNeg (nI v)) (cup c 4 i v) := by
  rw [nI_clamp (by have := h.n5; omega)]
  obtain ⟨⟨h1, h2, h3, h4⟩, h5, h6, h7⟩ := h
  refine ⟨⟨by simp [gup, cup, h1], by simp [gup, cup, h2], by simp [gup, cup, h3], by simp [gup, cup, h4]⟩, by simpa [cup] using h5, fun j hj => ?_, fun j hj => ?_⟩
  · obtain ⟨a, b, d⟩ := h6 j (by simpa [cup] using hj)
    by_cases e : j = i
    · subst e; simp [gup, cup, a, b, d]
    · simp [gup, cup, a, b, d, e]
  · obtain ⟨a, b, d, f⟩ := h7 j (by simpa [cup] using hj)
    by_cases e : j = i
    · subst e; simp [gup, cup, a, b, d, f]
    · simp [gup, cup, a, b, d, f, e]
theorem Rx1.u_sa (h : Rx1 g c) (hi : i < c 7 1) (v : Nat) : Rx1 (gup g 7 (nI i).toNatClampNeg (nI v)) (cup c 5 i v) := by
  rw [nI_clamp (by have := h.n5; omega)]
  obtain ⟨⟨h1, h2, h3, h4⟩, h5, h6, h7⟩ := h
  refine ⟨⟨by simp [gup, cup, h1], by simp [gup, cup, h2], by simp [gup, cup, h3], by simp [gup, cup, h4]⟩, by simpa [cup] using h5, fun j hj => ?_, fun j hj => ?_⟩
  · obtain ⟨a, b, d⟩ := h6 j (by simpa [cup] using hj)
    by_cases e : j = i
    · subst e; simp [gup, cup, a, b, d]
    · simp [gup, cup, a, b, d, e]
  · obtain ⟨a, b, d, f⟩ := h7 j (by simpa [cup] using hj)
    by_cases e : j = i
    · subst e; simp [gup, cup, a, b, d, f]
    · simp [gup, cup, a, b, d, f, e]
theorem Rx1.u_wo (h : Rx1 g c) (hi : i < c 7 1) (v : Nat) : Rx1 (gup g 8 (nI i).toNatClampNeg (wz v)) (cup c 6 i v) := by
  rw [nI_clamp (by have := h.n5; omega)]
  obtain ⟨⟨h1, h2, h3, h4⟩, h5, h6, h7⟩ := h
  refine ⟨⟨by simp [gup, cup, h1], by simp [gup, cup, h2], by simp [gup, cup, h3], by simp [gup, cup, h4]⟩, by simpa [cup] using h5, fun j hj => ?_, fun j hj => ?_⟩
  · obtain ⟨a, b, d⟩ := h6 j (by simpa [cup] using hj)
    by_cases e : j = i
    · subst e; simp [gup, cup, a, b, d]
    · simp [gup, cup, a, b, d, e]
  · obtain ⟨a, b, d, f⟩ := h7 j (by simpa [cup] using hj)
    by_cases e : j = i
    · subst e; simp [gup, cup, a, b, d, f]
    · simp [gup, cup, a, b, d, f, e]
theorem Rx1.u_pd (h : Rx1 g c) (v : Nat) : Rx1 (gup g 1 9 (nI v)) (cup c 7 2 v) := by
  obtain ⟨⟨h1, h2, h3, h4⟩, h5, h6, h7⟩ := h
  refine ⟨⟨by simp [gup, cup, h1], by simp [gup, cup, h2], by simp [gup, cup, h3], by simp [gup, cup, h4]⟩, by simpa [cup] using h5, fun j hj => ?_, fun j hj => ?_⟩
  · obtain ⟨a, b, d⟩ := h6 j (by simpa [cup] using hj)
    simp [gup, cup, a, b, d]
  · obtain ⟨a, b, d, f⟩ := h7 j (by simpa [cup] using hj)
    simp [gup, cup, a, b, d, f]
theorem Rx1.u_dy (h : Rx1 g c) (v : Nat) : Rx1 (gup g 1 10 (nI v)) (cup c 7 3 v) := by
  obtain ⟨⟨h1, h2, h3, h4⟩, h5, h6, h7⟩ := h
  refine ⟨⟨by simp [gup, cup, h1], by simp [gup, cup, h2], by simp [gup, cup, h3], by simp [gup, cup, h4]⟩, by simpa [cup] using h5, fun j hj => ?_, fun j hj => ?_⟩
  · obtain ⟨a, b, d⟩ := h6 j (by simpa [cup] using hj)
    simp [gup, cup, a, b, d]
  · obtain ⟨a, b, d, f⟩ := h7 j (by simpa [cup] using hj)
    simp [gup, cup, a, b, d, f]
theorem Rx1.fr (h : Rx1 g c) {g1 : gG} (h0 : g1 1 7 = g 1 7 ∧ g1 1 8 = g 1 8 ∧ g1 1 9 = g 1 9 ∧ g1 1 10 = g 1 10) (ha : ∀ k, 2 ≤ k → k ≤ 8 → g1 k = g k) : Rx1 g1 c := by
  obtain ⟨⟨h1, h2, h3, h4⟩, h5, h6, h7⟩ := h
  refine ⟨⟨h0.1.trans h1, h0.2.1.trans h2, h0.2.2.1.trans h3, h0.2.2.2.trans h4⟩, h5, fun j hj => ?_, fun j hj => ?_⟩
  · rw [ha 2 (by decide) (by decide), ha 3 (by decide) (by decide), ha 4 (by decide) (by decide)]; exact h6 j hj
  · rw [ha 5 (by decide) (by decide), ha 6 (by decide) (by decide), ha 7 (by decide) (by decide), ha 8 (by decide) (by decide)]; exact h7 j hj
end
def Rx9 (g : gG) (c : gCt) : Prop := (g 9 7 = nI (c 7 0) ∧ g 9 8 = nI (c 7 1) ∧ g 9 9 = nI (c 7 2) ∧ g 9 10 = nI (c 7 3)) ∧ (c 7 0 ≤ 6 ∧ c 7 1 ≤ 5) ∧ (∀ i, i < c 7 0 → g 10 i = nI (c 0 i) ∧ g 11 i = nI (c 1 i) ∧ g 12 i = nI (c 2 i)) ∧ ∀ i, i < c 7 1 → g 13 i = nI (c 3 i) ∧ g 14 i = nI (c 4 i) ∧ g 15 i = nI (c 5 i) ∧ g 16 i = wz (c 6 i)
section
variable {g : gG} {c : gCt} {i : Nat}
theorem Rx9.ns (h : Rx9 g c) : g 9 7 = nI (c 7 0) := h.1.1
theorem Rx9.nc (h : Rx9 g c) : g 9 8 = nI (c 7 1) := h.1.2.1
theorem Rx9.pd (h : Rx9 g c) : g 9 9 = nI (c 7 2) := h.1.2.2.1
theorem Rx9.dy (h : Rx9 g c) : g 9 10 = nI (c 7 3) := h.1.2.2.2
theorem Rx9.n6 (h : Rx9 g c) : c 7 0 ≤ 6 := h.2.1.1
theorem Rx9.n5 (h : Rx9 g c) : c 7 1 ≤ 5 := h.2.1.2
theorem Rx9.si (h : Rx9 g c) (hi : i < c 7 0) : vp_in (nI i) 6 := vp_in_nI (by have := h.n6; omega) (by decide)
theorem Rx9.ci (h : Rx9 g c) (hi : i < c 7 1) : vp_in (nI i) 5 := vp_in_nI (by have := h.n5; omega) (by decide)
theorem Rx9.kd (h : Rx9 g c) (hi : i < c 7 0) : vp_in (nI i) 6 ∧ g 10 (nI i).toNatClampNeg = nI (c 0 i) := ⟨h.si hi, by rw [nI_clamp (by have := h.n6; omega)]; exact (h.2.2.1 i hi).1⟩
theorem Rx9.fg (h : Rx9 g c) (hi : i < c 7 0) : vp_in (nI i) 6 ∧ g 11 (nI i).toNatClampNeg = nI (c 1 i) := ⟨h.si hi, by rw [nI_clamp (by have := h.n6; omega)]; exact (h.2.2.1 i hi).2.1⟩
theorem Rx9.ru (h : Rx9 g c) (hi : i < c 7 0) : vp_in (nI i) 6 ∧ g 12 (nI i).toNatClampNeg = nI (c 2 i) := ⟨h.si hi, by rw [nI_clamp (by have := h.n6; omega)]; exact (h.2.2.1 i hi).2.2⟩
theorem Rx9.fe (h : Rx9 g c) (hi : i < c 7 1) : vp_in (nI i) 5 ∧ g 13 (nI i).toNatClampNeg = nI (c 3 i) := ⟨h.ci hi, by rw [nI_clamp (by have := h.n5; omega)]; exact (h.2.2.2 i hi).1⟩
theorem Rx9.so (h : Rx9 g c) (hi : i < c 7 1) : vp_in (nI i) 5 ∧ g 14 (nI i).toNatClampNeg = nI (c 4 i) := ⟨h.ci hi, by rw [nI_clamp (by have := h.n5; omega)]; exact (h.2.2.2 i hi).2.1⟩
theorem Rx9.sa (h : Rx9 g c) (hi : i < c 7 1) : vp_in (nI i) 5 ∧ g 15 (nI i).toNatClampNeg = nI (c 5 i) := ⟨h.ci hi, by rw [nI_clamp (by have := h.n5; omega)]; exact (h.2.2.2 i hi).2.2.1⟩
theorem Rx9.wo (h : Rx9 g c) (hi : i < c 7 1) : vp_in (nI i) 5 ∧ g 16 (nI i).toNatClampNeg = wz (c 6 i) := ⟨h.ci hi, by rw [nI_clamp (by have := h.n5; omega)]; exact (h.2.2.2 i hi).2.2.2⟩
theorem Rx9.u_kd (h : Rx9 g c) (hi : i < c 7 0) (v : Nat) : Rx9 (gup g 10 (nI i).toNatClampNeg (nI v)) (cup c 0 i v) := by
  rw [nI_clamp (by have := h.n6; omega)]
  obtain ⟨⟨h1, h2, h3, h4⟩, h5, h6, h7⟩ := h
  refine ⟨⟨by simp [gup, cup, h1], by simp [gup, cup, h2], by simp [gup, cup, h3], by simp [gup, cup, h4]⟩, by simpa [cup] using h5, fun j hj => ?_, fun j hj => ?_⟩
  · obtain ⟨a, b, d⟩ := h6 j (by simpa [cup] using hj)
    by_cases e : j = i
    · subst e; simp [gup, cup, a, b, d]
    · simp [gup, cup, a, b, d, e]
  · obtain ⟨a, b, d, f⟩ := h7 j (by simpa [cup] using hj)
    by_cases e : j = i
    · subst e; simp [gup, cup, a, b, d, f]
    · simp [gup, cup, a, b, d, f, e]
theorem Rx9.u_fg (h : Rx9 g c) (hi : i < c 7 0) (v : Nat) : Rx9 (gup g 11 (nI i).toNatClampNeg (nI v)) (cup c 1 i v) := by
  rw [nI_clamp (by have := h.n6; omega)]
  obtain ⟨⟨h1, h2, h3, h4⟩, h5, h6, h7⟩ := h
  refine ⟨⟨by simp [gup, cup, h1], by simp [gup, cup, h2], by simp [gup, cup, h3], by simp [gup, cup, h4]⟩, by simpa [cup] using h5, fun j hj => ?_, fun j hj => ?_⟩
  · obtain ⟨a, b, d⟩ := h6 j (by simpa [cup] using hj)
    by_cases e : j = i
    · subst e; simp [gup, cup, a, b, d]
    · simp [gup, cup, a, b, d, e]
  · obtain ⟨a, b, d, f⟩ := h7 j (by simpa [cup] using hj)
    by_cases e : j = i
    · subst e; simp [gup, cup, a, b, d, f]
    · simp [gup, cup, a, b, d, f, e]
theorem Rx9.u_ru (h : Rx9 g c) (hi : i < c 7 0) (v : Nat) : Rx9 (gup g 12 (nI i).toNatClampNeg (nI v)) (cup c 2 i v) := by
  rw [nI_clamp (by have := h.n6; omega)]
  obtain ⟨⟨h1, h2, h3, h4⟩, h5, h6, h7⟩ := h
  refine ⟨⟨by simp [gup, cup, h1], by simp [gup, cup, h2], by simp [gup, cup, h3], by simp [gup, cup, h4]⟩, by simpa [cup] using h5, fun j hj => ?_, fun j hj => ?_⟩
  · obtain ⟨a, b, d⟩ := h6 j (by simpa [cup] using hj)
    by_cases e : j = i
    · subst e; simp [gup, cup, a, b, d]
    · simp [gup, cup, a, b, d, e]
  · obtain ⟨a, b, d, f⟩ := h7 j (by simpa [cup] using hj)
    by_cases e : j = i
    · subst e; simp [gup, cup, a, b, d, f]
    · simp [gup, cup, a, b, d, f, e]
theorem Rx9.u_fe (h : Rx9 g c) (hi : i < c 7 1) (v : Nat) : Rx9 (gup g 13 (nI i).toNatClampNeg (nI v)) (cup c 3 i v) := by
  rw [nI_clamp (by have := h.n5; omega)]
  obtain ⟨⟨h1, h2, h3, h4⟩, h5, h6, h7⟩ := h
  refine ⟨⟨by simp [gup, cup, h1], by simp [gup, cup, h2], by simp [gup, cup, h3], by simp [gup, cup, h4]⟩, by simpa [cup] using h5, fun j hj => ?_, fun j hj => ?_⟩
  · obtain ⟨a, b, d⟩ := h6 j (by simpa [cup] using hj)
    by_cases e : j = i
    · subst e; simp [gup, cup, a, b, d]
    · simp [gup, cup, a, b, d, e]
  · obtain ⟨a, b, d, f⟩ := h7 j (by simpa [cup] using hj)
    by_cases e : j = i
    · subst e; simp [gup, cup, a, b, d, f]
    · simp [gup, cup, a, b, d, f, e]
theorem Rx9.u_so (h : Rx9 g c) (hi : i < c 7 1) (v : Nat) : Rx9 (gup g 14 (nI i).toNatClampNeg (nI v)) (cup c 4 i v) := by
  rw [nI_clamp (by have := h.n5; omega)]
  obtain ⟨⟨h1, h2, h3, h4⟩, h5, h6, h7⟩ := h
  refine ⟨⟨by simp [gup, cup, h1], by simp [gup, cup, h2], by simp [gup, cup, h3], by simp [gup, cup, h4]⟩, by simpa [cup] using h5, fun j hj => ?_, fun j hj => ?_⟩
  · obtain ⟨a, b, d⟩ := h6 j (by simpa [cup] using hj)
    by_cases e : j = i
    · subst e; simp [gup, cup, a, b, d]
    · simp [gup, cup, a, b, d, e]
  · obtain ⟨a, b, d, f⟩ := h7 j (by simpa [cup] using hj)
    by_cases e : j = i
    · subst e; simp [gup, cup, a, b, d, f]
    · simp [gup, cup, a, b, d, f, e]
theorem Rx9.u_sa (h : Rx9 g c) (hi : i < c 7 1) (v : Nat) : Rx9 (gup g 15 (nI i).toNatClampNeg (nI v)) (cup c 5 i v) := by
  rw [nI_clamp (by have := h.n5; omega)]
  obtain ⟨⟨h1, h2, h3, h4⟩, h5, h6, h7⟩ := h
  refine ⟨⟨by simp [gup, cup, h1], by simp [gup, cup, h2], by simp [gup, cup, h3], by simp [gup, cup, h4]⟩, by simpa [cup] using h5, fun j hj => ?_, fun j hj => ?_⟩
  · obtain ⟨a, b, d⟩ := h6 j (by simpa [cup] using hj)
    by_cases e : j = i
    · subst e; simp [gup, cup, a, b, d]
    · simp [gup, cup, a, b, d, e]
  · obtain ⟨a, b, d, f⟩ := h7 j (by simpa [cup] using hj)
    by_cases e : j = i
    · subst e; simp [gup, cup, a, b, d, f]
    · simp [gup, cup, a, b, d, f, e]
theorem Rx9.u_wo (h : Rx9 g c) (hi : i < c 7 1) (v : Nat) : Rx9 (gup g 16 (nI i).toNatClampNeg (wz v)) (cup c 6 i v) := by
  rw [nI_clamp (by have := h.n5; omega)]
  obtain ⟨⟨h1, h2, h3, h4⟩, h5, h6, h7⟩ := h
  refine ⟨⟨by simp [gup, cup, h1], by simp [gup, cup, h2], by simp [gup, cup, h3], by simp [gup, cup, h4]⟩, by simpa [cup] using h5, fun j hj => ?_, fun j hj => ?_⟩
  · obtain ⟨a, b, d⟩ := h6 j (by simpa [cup] using hj)
    by_cases e : j = i
    · subst e; simp [gup, cup, a, b, d]
    · simp [gup, cup, a, b, d, e]
  · obtain ⟨a, b, d, f⟩ := h7 j (by simpa [cup] using hj)
    by_cases e : j = i
    · subst e; simp [gup, cup, a, b, d, f]
    · simp [gup, cup, a, b, d, f, e]
theorem Rx9.u_pd (h : Rx9 g c) (v : Nat) : Rx9 (gup g 9 9 (nI v)) (cup c 7 2 v) := by
  obtain ⟨⟨h1, h2, h3, h4⟩, h5, h6, h7⟩ := h
  refine ⟨⟨by simp [gup, cup, h1], by simp [gup, cup, h2], by simp [gup, cup, h3], by simp [gup, cup, h4]⟩, by simpa [cup] using h5, fun j hj => ?_, fun j hj => ?_⟩
  · obtain ⟨a, b, d⟩ := h6 j (by simpa [cup] using hj)
    simp [gup, cup, a, b, d]
  · obtain ⟨a, b, d, f⟩ := h7 j (by simpa [cup] using hj)
    simp [gup, cup, a, b, d, f]
theorem Rx9.u_dy (h : Rx9 g c) (v : Nat) : Rx9 (gup g 9 10 (nI v)) (cup c 7 3 v) := by
  obtain ⟨⟨h1, h2, h3, h4⟩, h5, h6, h7⟩ := h
  refine ⟨⟨by simp [gup, cup, h1], by simp [gup, cup, h2], by simp [gup, cup, h3], by simp [gup, cup, h4]⟩, by simpa [cup] using h5, fun j hj => ?_, fun j hj => ?_⟩
  · obtain ⟨a, b, d⟩ := h6 j (by simpa [cup] using hj)
    simp [gup, cup, a, b, d]
  · obtain ⟨a, b, d, f⟩ := h7 j (by simpa [cup] using hj)
    simp [gup, cup, a, b, d, f]
theorem Rx9.fr (h : Rx9 g c) {g1 : gG} (h0 : g1 9 7 = g 9 7 ∧ g1 9 8 = g 9 8 ∧ g1 9 9 = g 9 9 ∧ g1 9 10 = g 9 10) (ha : ∀ k, 10 ≤ k → k ≤ 16 → g1 k = g k) : Rx9 g1 c := by
  obtain ⟨⟨h1, h2, h3, h4⟩, h5, h6, h7⟩ := h
  refine ⟨⟨h0.1.trans h1, h0.2.1.trans h2, h0.2.2.1.trans h3, h0.2.2.2.trans h4⟩, h5, fun j hj => ?_, fun j hj => ?_⟩
  · rw [ha 10 (by decide) (by decide), ha 11 (by decide) (by decide), ha 12 (by decide) (by decide)]; exact h6 j hj
  · rw [ha 13 (by decide) (by decide), ha 14 (by decide) (by decide), ha 15 (by decide) (by decide), ha 16 (by decide) (by decide)]; exact h7 j hj
end
def Rx17 (g : gG) (c : gCt) : Prop := (g 17 7 = nI (c 7 0) ∧ g 17 8 = nI (c 7 1) ∧ g 17 9 = nI (c 7 2) ∧ g 17 10 = nI (c 7 3)) ∧ (c 7 0 ≤ 6 ∧ c 7 1 ≤ 5) ∧ (∀ i, i < c 7 0 → g 18 i = nI (c 0 i) ∧ g 19 i = nI (c 1 i) ∧ g 20 i = nI (c 2 i)) ∧ ∀ i, i < c 7 1 → g 21 i = nI (c 3 i) ∧ g 22 i = nI (c 4 i) ∧ g 23 i = nI (c 5 i) ∧ g 24 i = wz (c 6 i)
section
variable {g : gG} {c : gCt} {i : Nat}
theorem Rx17.ns (h : Rx17 g c) : g 17 7 = nI (c 7 0) := h.1.1
theorem Rx17.nc (h : Rx17 g c) : g 17 8 = nI (c 7 1) := h.1.2.1
theorem Rx17.pd (h : Rx17 g c) : g 17 9 = nI (c 7 2) := h.1.2.2.1
theorem Rx17.dy (h : Rx17 g c) : g 17 10 = nI (c 7 3) := h.1.2.2.2
theorem Rx17.n6 (h : Rx17 g c) : c 7 0 ≤ 6 := h.2.1.1
theorem Rx17.n5 (h : Rx17 g c) : c 7 1 ≤ 5 := h.2.1.2
theorem Rx17.si (h : Rx17 g c) (hi : i < c 7 0) : vp_in (nI i) 6 := vp_in_nI (by have := h.n6; omega) (by decide)
theorem Rx17.ci (h : Rx17 g c) (hi : i < c 7 1) : vp_in (nI i) 5 := vp_in_nI (by have := h.n5; omega) (by decide)
theorem Rx17.kd (h : Rx17 g c) (hi : i < c 7 0) : vp_in (nI i) 6 ∧ g 18 (nI i).toNatClampNeg = nI (c 0 i) := ⟨h.si hi, by rw [nI_clamp (by have := h.n6; omega)]; exact (h.2.2.1 i hi).1⟩
theorem Rx17.fg (h : Rx17 g c) (hi : i < c 7 0) : vp_in (nI i) 6 ∧ g 19 (nI i).toNatClampNeg = nI (c 1 i) := ⟨h.si hi, by rw [nI_clamp (by have := h.n6; omega)]; exact (h.2.2.1 i hi).2.1⟩
theorem Rx17.ru (h : Rx17 g c) (hi : i < c 7 0) : vp_in (nI i) 6 ∧ g 20 (nI i).toNatClampNeg = nI (c 2 i) := ⟨h.si hi, by rw [nI_clamp (by have := h.n6; omega)]; exact (h.2.2.1 i hi).2.2⟩
theorem Rx17.fe (h : Rx17 g c) (hi : i < c 7 1) : vp_in (nI i) 5 ∧ g 21 (nI i).toNatClampNeg = nI (c 3 i) := ⟨h.ci hi, by rw [nI_clamp (by have := h.n5; omega)]; exact (h.2.2.2 i hi).1⟩
theorem Rx17.so (h : Rx17 g c) (hi : i < c 7 1) : vp_in (nI i) 5 ∧ g 22 (nI i).toNatClampNeg = nI (c 4 i) := ⟨h.ci hi, by rw [nI_clamp (by have := h.n5; omega)]; exact (h.2.2.2 i hi).2.1⟩
theorem Rx17.sa (h : Rx17 g c) (hi : i < c 7 1) : vp_in (nI i) 5 ∧ g 23 (nI i).toNatClampNeg = nI (c 5 i) := ⟨h.ci hi, by rw [nI_clamp (by have := h.n5; omega)]; exact (h.2.2.2 i hi).2.2.1⟩
theorem Rx17.wo (h : Rx17 g c) (hi : i < c 7 1) : vp_in (nI i) 5 ∧ g 24 (nI i).toNatClampNeg = wz (c 6 i) := ⟨h.ci hi, by rw [nI_clamp (by have := h.n5; omega)]; exact (h.2.2.2 i hi).2.2.2⟩
theorem Rx17.u_kd (h : Rx17 g c) (hi : i < c 7 0) (v : Nat) : Rx17 (gup g 18 (nI i).toNatClampNeg (nI v)) (cup c 0 i v) := by
  rw [nI_clamp (by have := h.n6; omega)]
  obtain ⟨⟨h1, h2, h3, h4⟩, h5, h6, h7⟩ := h
  refine ⟨⟨by simp [gup, cup, h1], by simp [gup, cup, h2], by simp [gup, cup, h3], by simp [gup, cup, h4]⟩, by simpa [cup] using h5, fun j hj => ?_, fun j hj => ?_⟩
  · obtain ⟨a, b, d⟩ := h6 j (by simpa [cup] using hj)
    by_cases e : j = i
    · subst e; simp [gup, cup, a, b, d]
    · simp [gup, cup, a, b, d, e]
  · obtain ⟨a, b, d, f⟩ := h7 j (by simpa [cup] using hj)
    by_cases e : j = i
    · subst e; simp [gup, cup, a, b, d, f]
    · simp [gup, cup, a, b, d, f, e]
theorem Rx17.u_fg (h : Rx17 g c) (hi : i < c 7 0) (v : Nat) : Rx17 (gup g 19 (nI i).toNatClampNeg (nI v)) (cup c 1 i v) := by
  rw [nI_clamp (by have := h.n6; omega)]
  obtain ⟨⟨h1, h2, h3, h4⟩, h5, h6, h7⟩ := h
  refine ⟨⟨by simp [gup, cup, h1], by simp [gup, cup, h2], by simp [gup, cup, h3], by simp [gup, cup, h4]⟩, by simpa [cup] using h5, fun j hj => ?_, fun j hj => ?_⟩
  · obtain ⟨a, b, d⟩ := h6 j (by simpa [cup] using hj)
    by_cases e : j = i
    · subst e; simp [gup, cup, a, b, d]
    · simp [gup, cup, a, b, d, e]
  · obtain ⟨a, b, d, f⟩ := h7 j (by simpa [cup] using hj)
    by_cases e : j = i
    · subst e; simp [gup, cup, a, b, d, f]
    · simp [gup, cup, a, b, d, f, e]
theorem Rx17.u_ru (h : Rx17 g c) (hi : i < c 7 0) (v : Nat) : Rx17 (gup g 20 (nI i).toNatClampNeg (nI v)) (cup c 2 i v) := by
  rw [nI_clamp (by have := h.n6; omega)]
  obtain ⟨⟨h1, h2, h3, h4⟩, h5, h6, h7⟩ := h
  refine ⟨⟨by simp [gup, cup, h1], by simp [gup, cup, h2], by simp [gup, cup, h3], by simp [gup, cup, h4]⟩, by simpa [cup] using h5, fun j hj => ?_, fun j hj => ?_⟩
  · obtain ⟨a, b, d⟩ := h6 j (by simpa [cup] using hj)
    by_cases e : j = i
    · subst e; simp [gup, cup, a, b, d]
    · simp [gup, cup, a, b, d, e]
  · obtain ⟨a, b, d, f⟩ := h7 j (by simpa [cup] using hj)
    by_cases e : j = i
    · subst e; simp [gup, cup, a, b, d, f]
    · simp [gup, cup, a, b, d, f, e]
theorem Rx17.u_fe (h : Rx17 g c) (hi : i < c 7 1) (v : Nat) : Rx17 (gup g 21 (nI i).toNatClampNeg (nI v)) (cup c 3 i v) := by
  rw [nI_clamp (by have := h.n5; omega)]
  obtain ⟨⟨h1, h2, h3, h4⟩, h5, h6, h7⟩ := h
  refine ⟨⟨by simp [gup, cup, h1], by simp [gup, cup, h2], by simp [gup, cup, h3], by simp [gup, cup, h4]⟩, by simpa [cup] using h5, fun j hj => ?_, fun j hj => ?_⟩
  · obtain ⟨a, b, d⟩ := h6 j (by simpa [cup] using hj)
    by_cases e : j = i
    · subst e; simp [gup, cup, a, b, d]
    · simp [gup, cup, a, b, d, e]
  · obtain ⟨a, b, d, f⟩ := h7 j (by simpa [cup] using hj)
    by_cases e : j = i
    · subst e; simp [gup, cup, a, b, d, f]
    · simp [gup, cup, a, b, d, f, e]
theorem Rx17.u_so (h : Rx17 g c) (hi : i < c 7 1) (v : Nat) : Rx17 (gup g 22 (nI i).toNatClampNeg (nI v)) (cup c 4 i v) := by
  rw [nI_clamp (by have := h.n5; omega)]
  obtain ⟨⟨h1, h2, h3, h4⟩, h5, h6, h7⟩ := h
  refine ⟨⟨by simp [gup, cup, h1], by simp [gup, cup, h2], by simp [gup, cup, h3], by simp [gup, cup, h4]⟩, by simpa [cup] using h5, fun j hj => ?_, fun j hj => ?_⟩
  · obtain ⟨a, b, d⟩ := h6 j (by simpa [cup] using hj)
    by_cases e : j = i
    · subst e; simp [gup, cup, a, b, d]
    · simp [gup, cup, a, b, d, e]
  · obtain ⟨a, b, d, f⟩ := h7 j (by simpa [cup] using hj)
    by_cases e : j = i
    · subst e; simp [gup, cup, a, b, d, f]
    · simp [gup, cup, a, b, d, f, e]
theorem Rx17.u_sa (h : Rx17 g c) (hi : i < c 7 1) (v : Nat) : Rx17 (gup g 23 (nI i).toNatClampNeg (nI v)) (cup c 5 i v) := by
  rw [nI_clamp (by have := h.n5; omega)]
  obtain ⟨⟨h1, h2, h3, h4⟩, h5, h6, h7⟩ := h
  refine ⟨⟨by simp [gup, cup, h1], by simp [gup, cup, h2], by simp [gup, cup, h3], by simp [gup, cup, h4]⟩, by simpa [cup] using h5, fun j hj => ?_, fun j hj => ?_⟩
  · obtain ⟨a, b, d⟩ := h6 j (by simpa [cup] using hj)
    by_cases e : j = i
    · subst e; simp [gup, cup, a, b, d]
    · simp [gup, cup, a, b, d, e]
  · obtain ⟨a, b, d, f⟩ := h7 j (by simpa [cup] using hj)
    by_cases e : j = i
    · subst e; simp [gup, cup, a, b, d, f]
    · simp [gup, cup, a, b, d, f, e]
theorem Rx17.u_wo (h : Rx17 g c) (hi : i < c 7 1) (v : Nat) : Rx17 (gup g 24 (nI i).toNatClampNeg (wz v)) (cup c 6 i v) := by
  rw [nI_clamp (by have := h.n5; omega)]
  obtain ⟨⟨h1, h2, h3, h4⟩, h5, h6, h7⟩ := h
  refine ⟨⟨by simp [gup, cup, h1], by simp [gup, cup, h2], by simp [gup, cup, h3], by simp [gup, cup, h4]⟩, by simpa [cup] using h5, fun j hj => ?_, fun j hj => ?_⟩
  · obtain ⟨a, b, d⟩ := h6 j (by simpa [cup] using hj)
    by_cases e : j = i
    · subst e; simp [gup, cup, a, b, d]
    · simp [gup, cup, a, b, d, e]
  · obtain ⟨a, b, d, f⟩ := h7 j (by simpa [cup] using hj)
    by_cases e : j = i
    · subst e; simp [gup, cup, a, b, d, f]
    · simp [gup, cup, a, b, d, f, e]
theorem Rx17.u_pd (h : Rx17 g c) (v : Nat) : Rx17 (gup g 17 9 (nI v)) (cup c 7 2 v) := by
  obtain ⟨⟨h1, h2, h3, h4⟩, h5, h6, h7⟩ := h
  refine ⟨⟨by simp [gup, cup, h1], by simp [gup, cup, h2], by simp [gup, cup, h3], by simp [gup, cup, h4]⟩, by simpa [cup] using h5, fun j hj => ?_, fun j hj => ?_⟩
  · obtain ⟨a, b, d⟩ := h6 j (by simpa [cup] using hj)
    simp [gup, cup, a, b, d]
  · obtain ⟨a, b, d, f⟩ := h7 j (by simpa [cup] using hj)
    simp [gup, cup, a, b, d, f]
theorem Rx17.u_dy (h : Rx17 g c) (v : Nat) : Rx17 (gup g 17 10 (nI v)) (cup c 7 3 v) := by
  obtain ⟨⟨h1, h2, h3, h4⟩, h5, h6, h7⟩ := h
  refine ⟨⟨by simp [gup, cup, h1], by simp [gup, cup, h2], by simp [gup, cup, h3], by simp [gup, cup, h4]⟩, by simpa [cup] using h5, fun j hj => ?_, fun j hj => ?_⟩
  · obtain ⟨a, b, d⟩ := h6 j (by simpa [cup] using hj)
    simp [gup, cup, a, b, d]
  · obtain ⟨a, b, d, f⟩ := h7 j (by simpa [cup] using hj)
    simp [gup, cup, a, b, d, f]
theorem Rx17.fr (h : Rx17 g c) {g1 : gG} (h0 : g1 17 7 = g 17 7 ∧ g1 17 8 = g 17 8 ∧ g1 17 9 = g 17 9 ∧ g1 17 10 = g 17 10) (ha : ∀ k, 18 ≤ k → k ≤ 24 → g1 k = g k) : Rx17 g1 c := by
  obtain ⟨⟨h1, h2, h3, h4⟩, h5, h6, h7⟩ := h
  refine ⟨⟨h0.1.trans h1, h0.2.1.trans h2, h0.2.2.1.trans h3, h0.2.2.2.trans h4⟩, h5, fun j hj => ?_, fun j hj => ?_⟩
  · rw [ha 18 (by decide) (by decide), ha 19 (by decide) (by decide), ha 20 (by decide) (by decide)]; exact h6 j hj
  · rw [ha 21 (by decide) (by decide), ha 22 (by decide) (by decide), ha 23 (by decide) (by decide), ha 24 (by decide) (by decide)]; exact h7 j hj
end
def Rm (g : gG) (c : gCt) : Prop := (g 35 8 = nI (c 7 0) ∧ g 35 9 = nI (c 7 1) ∧ g 35 10 = nI (c 7 2) ∧ g 35 11 = nI (c 7 3)) ∧ (c 7 0 ≤ 6 ∧ c 7 1 ≤ 5) ∧ (∀ i, i < c 7 0 → g 37 i = nI (c 0 i) ∧ g 38 i = nI (c 1 i) ∧ g 39 i = nI (c 2 i)) ∧ ∀ i, i < c 7 1 → g 40 i = nI (c 3 i) ∧ g 41 i = nI (c 4 i) ∧ g 42 i = nI (c 5 i) ∧ g 43 i = nI (c 6 i)
section
variable {g : gG} {c : gCt} {i : Nat}
theorem Rm.ns (h : Rm g c) : g 35 8 = nI (c 7 0) := h.1.1
theorem Rm.nc (h : Rm g c) : g 35 9 = nI (c 7 1) := h.1.2.1
theorem Rm.pd (h : Rm g c) : g 35 10 = nI (c 7 2) := h.1.2.2.1
theorem Rm.dy (h : Rm g c) : g 35 11 = nI (c 7 3) := h.1.2.2.2
theorem Rm.n6 (h : Rm g c) : c 7 0 ≤ 6 := h.2.1.1
theorem Rm.n5 (h : Rm g c) : c 7 1 ≤ 5 := h.2.1.2
theorem Rm.si (h : Rm g c) (hi : i < c 7 0) : vp_in (nI i) 6 := vp_in_nI (by have := h.n6; omega) (by decide)
theorem Rm.ci (h : Rm g c) (hi : i < c 7 1) : vp_in (nI i) 5 := vp_in_nI (by have := h.n5; omega) (by decide)
theorem Rm.kd (h : Rm g c) (hi : i < c 7 0) : vp_in (nI i) 6 ∧ g 37 (nI i).toNatClampNeg = nI (c 0 i) := ⟨h.si hi, by rw [nI_clamp (by have := h.n6; omega)]; exact (h.2.2.1 i hi).1⟩
theorem Rm.fg (h : Rm g c) (hi : i < c 7 0) : vp_in (nI i) 6 ∧ g 38 (nI i).toNatClampNeg = nI (c 1 i) := ⟨h.si hi, by rw [nI_clamp (by have := h.n6; omega)]; exact (h.2.2.1 i hi).2.1⟩
theorem Rm.ru (h : Rm g c) (hi : i < c 7 0) : vp_in (nI i) 6 ∧ g 39 (nI i).toNatClampNeg = nI (c 2 i) := ⟨h.si hi, by rw [nI_clamp (by have := h.n6; omega)]; exact (h.2.2.1 i hi).2.2⟩
theorem Rm.fe (h : Rm g c) (hi : i < c 7 1) : vp_in (nI i) 5 ∧ g 40 (nI i).toNatClampNeg = nI (c 3 i) := ⟨h.ci hi, by rw [nI_clamp (by have := h.n5; omega)]; exact (h.2.2.2 i hi).1⟩
theorem Rm.so (h : Rm g c) (hi : i < c 7 1) : vp_in (nI i) 5 ∧ g 41 (nI i).toNatClampNeg = nI (c 4 i) := ⟨h.ci hi, by rw [nI_clamp (by have := h.n5; omega)]; exact (h.2.2.2 i hi).2.1⟩
theorem Rm.sa (h : Rm g c) (hi : i < c 7 1) : vp_in (nI i) 5 ∧ g 42 (nI i).toNatClampNeg = nI (c 5 i) := ⟨h.ci hi, by rw [nI_clamp (by have := h.n5; omega)]; exact (h.2.2.2 i hi).2.2.1⟩
theorem Rm.wo (h : Rm g c) (hi : i < c 7 1) : vp_in (nI i) 5 ∧ g 43 (nI i).toNatClampNeg = nI (c 6 i) := ⟨h.ci hi, by rw [nI_clamp (by have := h.n5; omega)]; exact (h.2.2.2 i hi).2.2.2⟩
theorem Rm.u_kd (h : Rm g c) (hi : i < c 7 0) (v : Nat) : Rm (gup g 37 (nI i).toNatClampNeg (nI v)) (cup c 0 i v) := by
  rw [nI_clamp (by have := h.n6; omega)]
  obtain ⟨⟨h1, h2, h3, h4⟩, h5, h6, h7⟩ := h
  refine ⟨⟨by simp [gup, cup, h1], by simp [gup, cup, h2], by simp [gup, cup, h3], by simp [gup, cup, h4]⟩, by simpa [cup] using h5, fun j hj => ?_, fun j hj => ?_⟩
  · obtain ⟨a, b, d⟩ := h6 j (by simpa [cup] using hj)
    by_cases e : j = i
    · subst e; simp [gup, cup, a, b, d]
    · simp [gup, cup, a, b, d, e]
  · obtain ⟨a, b, d, f⟩ := h7 j (by simpa [cup] using hj)
    by_cases e : j = i
    · subst e; simp [gup, cup, a, b, d, f]
    · simp [gup, cup, a, b, d, f, e]
theorem Rm.u_fg (h : Rm g c) (hi : i < c 7 0) (v : Nat) : Rm (gup g 38 (nI i).toNatClampNeg (nI v)) (cup c 1 i v) := by
  rw [nI_clamp (by have := h.n6; omega)]
  obtain ⟨⟨h1, h2, h3, h4⟩, h5, h6, h7⟩ := h
  refine ⟨⟨by simp [gup, cup, h1], by simp [gup, cup, h2], by simp [gup, cup, h3], by simp [gup, cup, h4]⟩, by simpa [cup] using h5, fun j hj => ?_, fun j hj => ?_⟩
  · obtain ⟨a, b, d⟩ := h6 j (by simpa [cup] using hj)
    by_cases e : j = i
    · subst e; simp [gup, cup, a, b, d]
    · simp [gup, cup, a, b, d, e]
  · obtain ⟨a, b, d, f⟩ := h7 j (by simpa [cup] using hj)
    by_cases e : j = i
    · subst e; simp [gup, cup, a, b, d, f]
    · simp [gup, cup, a, b, d, f, e]
theorem Rm.u_ru (h : Rm g c) (hi : i < c 7 0) (v : Nat) : Rm (gup g 39 (nI i).toNatClampNeg (nI v)) (cup c 2 i v) := by
  rw [nI_clamp (by have := h.n6; omega)]
  obtain ⟨⟨h1, h2, h3, h4⟩, h5, h6, h7⟩ := h
  refine ⟨⟨by simp [gup, cup, h1], by simp [gup, cup, h2], by simp [gup, cup, h3], by simp [gup, cup, h4]⟩, by simpa [cup] using h5, fun j hj => ?_, fun j hj => ?_⟩
  · obtain ⟨a, b, d⟩ := h6 j (by simpa [cup] using hj)
    by_cases e : j = i
    · subst e; simp [gup, cup, a, b, d]
    · simp [gup, cup, a, b, d, e]
  · obtain ⟨a, b, d, f⟩ := h7 j (by simpa [cup] using hj)
    by_cases e : j = i
    · subst e; simp [gup, cup, a, b, d, f]
    · simp [gup, cup, a, b, d, f, e]
theorem Rm.u_fe (h : Rm g c) (hi : i < c 7 1) (v : Nat) : Rm (gup g 40 (nI i).toNatClampNeg (nI v)) (cup c 3 i v) := by
  rw [nI_clamp (by have := h.n5; omega)]
  obtain ⟨⟨h1, h2, h3, h4⟩, h5, h6, h7⟩ := h
  refine ⟨⟨by simp [gup, cup, h1], by simp [gup, cup, h2], by simp [gup, cup, h3], by simp [gup, cup, h4]⟩, by simpa [cup] using h5, fun j hj => ?_, fun j hj => ?_⟩
  · obtain ⟨a, b, d⟩ := h6 j (by simpa [cup] using hj)
    by_cases e : j = i
    · subst e; simp [gup, cup, a, b, d]
    · simp [gup, cup, a, b, d, e]
  · obtain ⟨a, b, d, f⟩ := h7 j (by simpa [cup] using hj)
    by_cases e : j = i
    · subst e; simp [gup, cup, a, b, d, f]
    · simp [gup, cup, a, b, d, f, e]
theorem Rm.u_so (h : Rm g c) (hi : i < c 7 1) (v : Nat) : Rm (gup g 41 (nI i).toNatClampNeg (nI v)) (cup c 4 i v) := by
  rw [nI_clamp (by have := h.n5; omega)]
  obtain ⟨⟨h1, h2, h3, h4⟩, h5, h6, h7⟩ := h
  refine ⟨⟨by simp [gup, cup, h1], by simp [gup, cup, h2], by simp [gup, cup, h3], by simp [gup, cup, h4]⟩, by simpa [cup] using h5, fun j hj => ?_, fun j hj => ?_⟩
  · obtain ⟨a, b, d⟩ := h6 j (by simpa [cup] using hj)
    by_cases e : j = i
    · subst e; simp [gup, cup, a, b, d]
    · simp [gup, cup, a, b, d, e]
  · obtain ⟨a, b, d, f⟩ := h7 j (by simpa [cup] using hj)
    by_cases e : j = i
    · subst e; simp [gup, cup, a, b, d, f]
    · simp [gup, cup, a, b, d, f, e]
theorem Rm.u_sa (h : Rm g c) (hi : i < c 7 1) (v : Nat) : Rm (gup g 42 (nI i).toNatClampNeg (nI v)) (cup c 5 i v) := by
  rw [nI_clamp (by have := h.n5; omega)]
  obtain ⟨⟨h1, h2, h3, h4⟩, h5, h6, h7⟩ := h
  refine ⟨⟨by simp [gup, cup, h1], by simp [gup, cup, h2], by simp [gup, cup, h3], by simp [gup, cup, h4]⟩, by simpa [cup] using h5, fun j hj => ?_, fun j hj => ?_⟩
  · obtain ⟨a, b, d⟩ := h6 j (by simpa [cup] using hj)
    by_cases e : j = i
    · subst e; simp [gup, cup, a, b, d]
    · simp [gup, cup, a, b, d, e]
  · obtain ⟨a, b, d, f⟩ := h7 j (by simpa [cup] using hj)
    by_cases e : j = i
    · subst e; simp [gup, cup, a, b, d, f]
    · simp [gup, cup, a, b, d, f, e]
theorem Rm.u_wo (h : Rm g c) (hi : i < c 7 1) (v : Nat) : Rm (gup g 43 (nI i).toNatClampNeg (nI v)) (cup c 6 i v) := by
  rw [nI_clamp (by have := h.n5; omega)]
  obtain ⟨⟨h1, h2, h3, h4⟩, h5, h6, h7⟩ := h
  refine ⟨⟨by simp [gup, cup, h1], by simp [gup, cup, h2], by simp [gup, cup, h3], by simp [gup, cup, h4]⟩, by simpa [cup] using h5, fun j hj => ?_, fun j hj => ?_⟩
  · obtain ⟨a, b, d⟩ := h6 j (by simpa [cup] using hj)
    by_cases e : j = i
    · subst e; simp [gup, cup, a, b, d]
    · simp [gup, cup, a, b, d, e]
  · obtain ⟨a, b, d, f⟩ := h7 j (by simpa [cup] using hj)
    by_cases e : j = i
    · subst e; simp [gup, cup, a, b, d, f]
    · simp [gup, cup, a, b, d, f, e]
theorem Rm.u_pd (h : Rm g c) (v : Nat) : Rm (gup g 35 10 (nI v)) (cup c 7 2 v) := by
  obtain ⟨⟨h1, h2, h3, h4⟩, h5, h6, h7⟩ := h
  refine ⟨⟨by simp [gup, cup, h1], by simp [gup, cup, h2], by simp [gup, cup, h3], by simp [gup, cup, h4]⟩, by simpa [cup] using h5, fun j hj => ?_, fun j hj => ?_⟩
  · obtain ⟨a, b, d⟩ := h6 j (by simpa [cup] using hj)
    simp [gup, cup, a, b, d]
  · obtain ⟨a, b, d, f⟩ := h7 j (by simpa [cup] using hj)
    simp [gup, cup, a, b, d, f]
theorem Rm.u_dy (h : Rm g c) (v : Nat) : Rm (gup g 35 11 (nI v)) (cup c 7 3 v) := by
  obtain ⟨⟨h1, h2, h3, h4⟩, h5, h6, h7⟩ := h
  refine ⟨⟨by simp [gup, cup, h1], by simp [gup, cup, h2], by simp [gup, cup, h3], by simp [gup, cup, h4]⟩, by simpa [cup] using h5, fun j hj => ?_, fun j hj => ?_⟩
  · obtain ⟨a, b, d⟩ := h6 j (by simpa [cup] using hj)
    simp [gup, cup, a, b, d]
  · obtain ⟨a, b, d, f⟩ := h7 j (by simpa [cup] using hj)
    simp [gup, cup, a, b, d, f]
theorem Rm.fr (h : Rm g c) {g1 : gG} (h0 : g1 35 8 = g 35 8 ∧ g1 35 9 = g 35 9 ∧ g1 35 10 = g 35 10 ∧ g1 35 11 = g 35 11) (ha : ∀ k, 37 ≤ k → k ≤ 43 → g1 k = g k) : Rm g1 c := by
  obtain ⟨⟨h1, h2, h3, h4⟩, h5, h6, h7⟩ := h
  refine ⟨⟨h0.1.trans h1, h0.2.1.trans h2, h0.2.2.1.trans h3, h0.2.2.2.trans h4⟩, h5, fun j hj => ?_, fun j hj => ?_⟩
  · rw [ha 37 (by decide) (by decide), ha 38 (by decide) (by decide), ha 39 (by decide) (by decide)]; exact h6 j hj
  · rw [ha 40 (by decide) (by decide), ha 41 (by decide) (by decide), ha 42 (by decide) (by decide), ha 43 (by decide) (by decide)]; exact h7 j hj
end
theorem Rx1.of {g g1 : gG} {c : gCt} (h : Rx1 g c) (ha : ∀ k, 1 ≤ k → k < 9 → g1 k = g k) : Rx1 g1 c := h.fr ⟨congrFun (ha 1 (by decide) (by decide)) _, congrFun (ha 1 (by decide) (by decide)) _, congrFun (ha 1 (by decide) (by decide)) _, congrFun (ha 1 (by decide) (by decide)) _⟩ (fun k h1 h2 => ha k (by omega) (by omega))
theorem Rx9.of {g g1 : gG} {c : gCt} (h : Rx9 g c) (ha : ∀ k, 9 ≤ k → k < 17 → g1 k = g k) : Rx9 g1 c := h.fr ⟨congrFun (ha 9 (by decide) (by decide)) _, congrFun (ha 9 (by decide) (by decide)) _, congrFun (ha 9 (by decide) (by decide)) _, congrFun (ha 9 (by decide) (by decide)) _⟩ (fun k h1 h2 => ha k (by omega) (by omega))
theorem Rx17.of {g g1 : gG} {c : gCt} (h : Rx17 g c) (ha : ∀ k, 17 ≤ k → k < 25 → g1 k = g k) : Rx17 g1 c := h.fr ⟨congrFun (ha 17 (by decide) (by decide)) _, congrFun (ha 17 (by decide) (by decide)) _, congrFun (ha 17 (by decide) (by decide)) _, congrFun (ha 17 (by decide) (by decide)) _⟩ (fun k h1 h2 => ha k (by omega) (by omega))
theorem Rx1.wr {g g2 : gG} {k j : Nat} {x : Int32} {c : gCt} (hF : frm 1 9 g g2) (hR : Rx1 (gup g2 k j x) c) (hk : 1 ≤ k ∧ k < 9) : Rx1 (gup g2 k j x) c ∧ frm 1 9 g (gup g2 k j x) := ⟨hR, hF.up hk⟩
theorem Rx9.wr {g g2 : gG} {k j : Nat} {x : Int32} {c : gCt} (hF : frm 9 17 g g2) (hR : Rx9 (gup g2 k j x) c) (hk : 9 ≤ k ∧ k < 17) : Rx9 (gup g2 k j x) c ∧ frm 9 17 g (gup g2 k j x) := ⟨hR, hF.up hk⟩
theorem Rx17.wr {g g2 : gG} {k j : Nat} {x : Int32} {c : gCt} (hF : frm 17 25 g g2) (hR : Rx17 (gup g2 k j x) c) (hk : 17 ≤ k ∧ k < 25) : Rx17 (gup g2 k j x) c ∧ frm 17 25 g (gup g2 k j x) := ⟨hR, hF.up hk⟩
theorem Rm.wr {g g2 : gG} {k j : Nat} {x : Int32} {c : gCt} (hF : frm 35 58 g g2) (hR : Rm (gup g2 k j x) c) (hk : 35 ≤ k ∧ k < 58) : Rm (gup g2 k j x) c ∧ frm 35 58 g (gup g2 k j x) := ⟨hR, hF.up hk⟩
