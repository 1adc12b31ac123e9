/-! ===== longs, parts, rain ===== -/
theorem i2l_nI {t : Nat} (h : t < 2147483648) : (nI t).toInt64 = lN t := by
  rw [← Int64.toInt_inj, Int32.toInt_toInt64, nI_z, zI_toInt (by omega) (by omega), pk_lT (by omega)]
theorem lN_n0 {p : Nat} (h : 0 < p) (hp : p < 2 ^ 63) : ¬ lN p = 0 := fun q => by
  have := (pk_lEQ (a := p) (b := 0) hp (by decide)).mp q
  omega
theorem lcmp0 {q : Nat} (hq : q < 2 ^ 63) : lg_cmp (lN q) (lN 0) = 0 ↔ q = 0 := (lg_cmp_eq _ _).trans (pk_lEQ hq (by decide))
def ptN (a b k : Nat) : Nat := if k = 0 then a / Nat.gcd a b else b / Nat.gcd a b
theorem eu1 {p q m : Nat} (hq : 0 < q) (h : p * q < 2 ^ m ∨ q ≤ p ∧ p * q < 2 ^ (m + 1)) : p % q ≤ q ∧ q * (p % q) < 2 ^ m := by
  have h1 := Nat.mod_lt p hq
  refine ⟨by omega, ?_⟩
  rcases h with h | ⟨h2, h3⟩
  · have := Nat.mul_le_mul_left q (Nat.mod_le p q)
    rw [Nat.mul_comm q p] at this
    omega
  · have e := Nat.div_add_mod p q
    have d1 : 1 ≤ p / q := (Nat.one_le_div_iff hq).mpr h2
    have d2 := Nat.mul_le_mul_left q d1
    have h4 : 2 * (p % q) ≤ p := by omega
    have h5 := Nat.mul_le_mul_left q h4
    rw [Nat.mul_left_comm, Nat.mul_comm q p] at h5
    rw [Nat.pow_succ] at h3
    omega
theorem eu0 {p q : Nat} (h : q ≤ p) (h1 : p * q < 2 ^ 0) : q = 0 := by
  cases q with
  | zero => rfl
  | succ q =>
    have := Nat.mul_le_mul h (Nat.le_refl (q + 1))
    have h2 : 1 ≤ (q + 1) * (q + 1) := Nat.mul_pos (by omega) (by omega)
    omega
theorem gcd_st (p q : Nat) : Nat.gcd q (p % q) = Nat.gcd p q := by rw [Nat.gcd_comm q, ← Nat.gcd_rec, Nat.gcd_comm]
def ansL (w : Int32) (v : Int64) : Int64 := if w = 0 then v else 4000000000000000000 - w.toInt64
def bt (m t : Nat) : Bool := decide (m / 2 ^ t % 2 = 1)
theorem bt_1 : ∀ t, t < 7 → ∀ m, m < 128 → (nI m >>> (nI t &&& 31) &&& nI 1 = nI 1 ↔ bt m t = true) := by decide +kernel
theorem bt_0 : ∀ t, t < 7 → ∀ m, m < 128 → (nI m >>> (nI t &&& 31) &&& nI 1 = 0 ↔ bt m t = false) := by decide +kernel
theorem sh_n : ∀ n, n < 8 → nI 1 <<< (nI n &&& 31) = nI (2 ^ n) := by decide +kernel
theorem pw_n : ∀ n, n < 8 → 2 ^ n ≤ 128 := by decide
theorem rainC_ok {c : gCt} (h : gok c) : gsame c (rainC c) := by
  refine gfold_inv (I := fun x => gsame c x) (c 7 0) 0 c ⟨rfl, rfl, rfl, h⟩ (fun j s h1 h2 hs => ?_)
  exact ⟨hs.1, hs.2.1, hs.2.2.1, gok_2 hs.2.2.2 (cap_le _ _)⟩
def rnR (m t : Nat) (d : gCt) : gCt := if bt m t = true then rainC d else d
def lvD (i : Nat) (d : gCt) : gCt := live (cup d 7 3 (d 7 3 + 1)) i
def rnD (i m t : Nat) (d : gCt) : gCt := lvD i (rnR m t d)
theorem rnR_ok {d : gCt} (h : gok d) (m t : Nat) : gsame d (rnR m t d) := by
  unfold rnR
  split
  · exact rainC_ok h
  · exact ⟨rfl, rfl, rfl, h⟩
theorem lvD_ok {d : gCt} (h : gok d) {i : Nat} (hi : i < d 7 1) (h3 : d 7 3 + 1 ≤ 2000) : lvD i d 7 0 = d 7 0 ∧ lvD i d 7 1 = d 7 1 ∧ lvD i d 7 3 = d 7 3 + 1 ∧ gok (lvD i d) := by
  have h7 := live_7 (cup d 7 3 (d 7 3 + 1)) i
  exact ⟨h7.1, h7.2.1, h7.2.2, live_gok (gok_73 h h3) hi⟩
theorem rnD_ok {d : gCt} (h : gok d) {i : Nat} (hi : i < d 7 1) (h3 : d 7 3 + 1 ≤ 2000) (m t : Nat) : rnD i m t d 7 0 = d 7 0 ∧ rnD i m t d 7 1 = d 7 1 ∧ rnD i m t d 7 3 = d 7 3 + 1 ∧ gok (rnD i m t d) := by
  obtain ⟨a, b, e, f⟩ := rnR_ok h m t
  obtain ⟨a2, b2, e2, f2⟩ := lvD_ok f (i := i) (by rw [b]; exact hi) (by rw [e]; exact h3)
  exact ⟨a2.trans a, b2.trans b, by rw [rnD, e2, e], f2⟩
def rnE (c : gCt) (i n m : Nat) : gCt := gfold (rnD i m) n 0 c
def sir (c : gCt) (i n m : Nat) : Nat := rnE c i n m 5 i
theorem rnE_ok {c : gCt} (h : gok c) {i : Nat} (hi : i < c 7 1) (m : Nat) : ∀ n, c 7 3 + n ≤ 2000 → rnE c i n m 7 1 = c 7 1 ∧ rnE c i n m 7 3 = c 7 3 + n ∧ gok (rnE c i n m)
  | 0, _ => ⟨rfl, rfl, h⟩
  | n + 1, hn => by
    obtain ⟨a, b, e⟩ := rnE_ok h hi m n (by omega)
    have hs : rnE c i (n + 1) m = rnD i m (0 + n) (rnE c i n m) := gfold_succ _ _ _ _
    obtain ⟨-, a2, b2, e2⟩ := rnD_ok e (i := i) (by rw [a]; exact hi) (by rw [b]; omega) m (0 + n)
    rw [hs]
    exact ⟨a2.trans a, by rw [b2, b]; omega, e2⟩
theorem sir_le {c : gCt} (h : gok c) {i : Nat} (hi : i < c 7 1) (m : Nat) {n : Nat} (hn : c 7 3 + n ≤ 2000) : sir c i n m ≤ 6 := by
  obtain ⟨a, b, e⟩ := rnE_ok h hi m n hn
  exact (e.2.2.2 i (by rw [a]; exact hi)).2.2.1
def wayF (t m j a : Nat) : Nat := if bt m j = true then a else a * (t - 1)
def way (n t m : Nat) : Nat := gfold (wayF t m) n 0 1
theorem way_le {t m : Nat} (ht : t ≤ 20) : ∀ n j a, gfold (wayF t m) n j a ≤ a * 19 ^ n
  | 0, _, a => by simp [gfold]
  | n + 1, j, a => by
    have h := way_le (m := m) ht n (j + 1) (wayF t m j a)
    have h2 : wayF t m j a ≤ a * 19 := by
      unfold wayF
      split
      · omega
      · exact Nat.mul_le_mul_left a (by omega)
    have h3 := Nat.mul_le_mul_right (19 ^ n) h2
    show gfold (wayF t m) n (j + 1) (wayF t m j a) ≤ _
    rw [Nat.pow_succ, Nat.mul_comm (19 ^ n) 19, ← Nat.mul_assoc]
    omega
theorem way_le7 {t n : Nat} (ht : t ≤ 20) (hn : n ≤ 7) (m : Nat) : way n t m ≤ 893871739 := by
  have h := way_le (m := m) ht n 0 1
  have h2 : 19 ^ n ≤ 19 ^ 7 := Nat.pow_le_pow_right (by decide) hn
  unfold way
  have : (19 : Nat) ^ 7 = 893871739 := by decide
  omega
def rnF (c : gCt) (i n t v m a : Nat) : Nat := if v ≤ sir c i n m then a + way n t m else a
def rnS (c : gCt) (i n t v : Nat) : Nat := gfold (rnF c i n t v) (2 ^ n) 0 0
theorem rnS_le {c : gCt} {i n t v : Nat} (ht : t ≤ 20) (hn : n ≤ 7) : ∀ k m a, gfold (rnF c i n t v) k m a ≤ a + k * 893871739
  | 0, _, a => by simp [gfold]
  | k + 1, m, a => by
    have h := rnS_le (c := c) (i := i) (v := v) ht hn k (m + 1) (rnF c i n t v m a)
    have h2 : rnF c i n t v m a ≤ a + 893871739 := by
      have := way_le7 (n := n) ht hn m
      unfold rnF
      split <;> omega
    show gfold (rnF c i n t v) k (m + 1) (rnF c i n t v m a) ≤ _
    rw [Nat.succ_mul]
    omega
theorem rnS_lt {c : gCt} {i n t v : Nat} (ht : t ≤ 20) (hn : n ≤ 7) : rnS c i n t v < 2 ^ 62 := by
  have h := rnS_le (c := c) (i := i) (v := v) ht hn (2 ^ n) 0 0
  have h2 := Nat.mul_le_mul_right 893871739 (pw_n n (by omega))
  unfold rnS
  omega
theorem tn_lt {t n : Nat} (ht : t ≤ 20) (hn : n ≤ 7) : t ^ n < 2 ^ 62 := by
  have h1 : t ^ n ≤ 20 ^ n := Nat.pow_le_pow_left ht n
  have h2 : 20 ^ n ≤ 20 ^ 7 := Nat.pow_le_pow_right (by decide) hn
  have : (20 : Nat) ^ 7 < 2 ^ 62 := by decide
  omega
def rainW (c : gCt) (x n t v w : Int32) : Int32 := fstI (calW c x) (rnW n t v) (whyB (inB w 2) (-2))
def rainV (c : gCt) (i n t v k : Nat) : Int64 := lN (ptN (rnS c i n t v) (t ^ n) k)
theorem rn_0 {n t v : Int32} (h : rnW n t v = 0) : ∃ a b d : Nat, a ≤ 7 ∧ 2 ≤ b ∧ b ≤ 20 ∧ d ≤ 6 ∧ n = nI a ∧ t = nI b ∧ v = nI d := by
  unfold rnW at h
  split at h
  · exact absurd h (by decide)
  · rename_i h1
    split at h
    · exact absurd h (by decide)
    · rename_i h2
      have n1 : ¬ n < nI 0 := fun q => h1 (Or.inl q)
      have v1 : ¬ v < nI 0 := fun q => h1 (Or.inr (Or.inl q))
      have t1 : ¬ t < nI 2 := fun q => h1 (Or.inr (Or.inr q))
      have n2 : ¬ nI 7 < n := fun q => h2 (Or.inl q)
      have t2 : ¬ nI 20 < t := fun q => h2 (Or.inr (Or.inl q))
      have v2 : ¬ nI 6 < v := fun q => h2 (Or.inr (Or.inr q))
      obtain ⟨a, -, ha, e1⟩ := bnd_nat (l := 0) (m := 7) (by decide) (by decide) (show bndI n (nI 0) (nI 7) = 0 by unfold bndI; rw [if_neg n1, if_neg n2]; rfl)
      obtain ⟨b, hb1, hb, e2⟩ := bnd_nat (l := 2) (m := 20) (by decide) (by decide) (show bndI t (nI 2) (nI 20) = 0 by unfold bndI; rw [if_neg t1, if_neg t2]; rfl)
      obtain ⟨d, -, hd, e3⟩ := bnd_nat (l := 0) (m := 6) (by decide) (by decide) (show bndI v (nI 0) (nI 6) = 0 by unfold bndI; rw [if_neg v1, if_neg v2]; rfl)
      exact ⟨a, b, d, ha, hb1, hb, hd, e1, e2, e3⟩
theorem okw_rn (n t v : Int32) : okw (rnW n t v) := by
  unfold rnW okw
  split
  · decide
  · split <;> decide
def bv (c : gCt) (i : Nat) : Nat := covOf c i + c 5 i + 50 - c 3 i - c 4 i / 3
theorem bv_eq {c : gCt} (h : gok c) {i : Nat} (hi : i < c 7 1) : brI c i (covOf c i) + nI 50 = nI (bv c i) ∧ bv c i ≤ 87 := by
  have h1 := h.2.2.2 i hi
  have h2 := covOf_le h hi
  unfold brI bv
  refine ⟨?_, by omega⟩
  rw [nI_z, nI_z (c 5 i), nI_z (c 3 i), nI_z (c 4 i / 3), nI_z 50, zI_add, zI_sub, zI_sub, zI_add, nI_z]
  congr 1
  omega
def mnV (c : gCt) (k : Nat) : Int64 := if c 7 1 = 0 then lN k else lN (ptN (sumN (bv c) (c 7 1)) (c 7 1) k)
section LL
variable {g g1 : gG} {c ck : gCt} {hk : Bool} {lt : Nat → Nat} {nl : Nat} {rv : Nat → Nat} {nr : Nat} {rf : Nat → Int32}
theorem x_refL {g2 : gG} (hR : Rx1 g2 c) (hX : XSr g2 ck hk lt nl rv nr rf) (hF : frm 0 35 g g2) {w : Int32} {v : Int64} (hw : okw w) (hn : ¬ w = 0) : 4000000000000000000 - w.toInt64 = ansL w v ∧ Rx1 (gbmp g2 31 w) c ∧ XSr (gbmp g2 31 w) ck hk lt nl rv nr (rfI rf w) ∧ frm 0 35 g (gbmp g2 31 w) := by
  have h := x_ref hR hX hw hn (v := 0)
  exact ⟨by rw [ansL, if_neg hn], h.2.1, h.2.2.1, hF.tr h.2.2.2⟩
theorem x_okL {g2 : gG} (hR : Rx1 g2 c) (hX : XSr g2 ck hk lt nl rv nr rf) (hF : frm 0 35 g g2) {w : Int32} {v u : Int64} (hw : w = 0) (hv : u = v) : u = ansL w v ∧ Rx1 g2 c ∧ XSr g2 ck hk lt nl rv nr (rfI rf w) ∧ frm 0 35 g g2 := by
  have h := x_ok hR hX hF hw (v := 0) rfl
  exact ⟨by rw [ansL, if_pos hw]; exact hv, h.2.1, h.2.2.1, h.2.2.2⟩
theorem y_refL {g2 : gG} (hR : Rm g2 c) (hX : MSr g2 ck hk lt nl rv nr rf) (hF : frm 35 58 g g2) {w : Int32} {v : Int64} (hw : okw w) (hn : ¬ w = 0) : 4000000000000000000 - w.toInt64 = ansL w v ∧ Rm (gbmp g2 36 w) c ∧ MSr (gbmp g2 36 w) ck hk lt nl rv nr (rfI rf w) ∧ frm 35 58 g (gbmp g2 36 w) := by
  have h := y_ref hR hX hw hn (v := 0)
  exact ⟨by rw [ansL, if_neg hn], h.2.1, h.2.2.1, hF.tr h.2.2.2⟩
theorem y_okL {g2 : gG} (hR : Rm g2 c) (hX : MSr g2 ck hk lt nl rv nr rf) (hF : frm 35 58 g g2) {w : Int32} {v u : Int64} (hw : w = 0) (hv : u = v) : u = ansL w v ∧ Rm g2 c ∧ MSr g2 ck hk lt nl rv nr (rfI rf w) ∧ frm 35 58 g g2 := by
  have h := y_ok hR hX hF hw (v := 0) rfl
  exact ⟨by rw [ansL, if_pos hw]; exact hv, h.2.1, h.2.2.1, h.2.2.2⟩
end LL
