/-! ===== the reference in mind ===== -/
def tfr (g g1 : gG) : Prop := ∀ a b, ¬ (a = 48 ∧ 84 ≤ b) → ¬ (37 ≤ a ∧ a ≤ 43) → ¬ (a = 35 ∧ kx b) → g1 a b = g a b
theorem tfr.rf {g : gG} : tfr g g := fun _ _ _ _ _ => rfl
section TF
variable {g g1 g2 : gG} {c ck : gCt} {hk : Bool} {lt : Nat → Nat} {nl : Nat} {rv : Nat → Nat} {nr : Nat} {rf : Nat → Int32}
theorem tfr.tr (h : tfr g g1) (h2 : tfr g1 g2) : tfr g g2 := fun a b p q r => (h2 a b p q r).trans (h a b p q r)
theorem kfr.tf (h : kfr 84 126 g g1) : tfr g g1 := fun a b p q r => h a b (by omega) (by unfold kx at r; omega)
theorem fmC.tf (h : fmC g g1) : tfr g g1 := fun a b p q r => h a b q (by unfold kx at r; omega)
theorem ufr.tf (h : ufr 37 g g1) : tfr g g1 := fun a b p q r => h a b q r
theorem tfr.frm (h : tfr g g1) : frm 35 58 g g1 := fun k hk => funext fun j => h k j (by omega) (by omega) (by omega)
theorem MSr.tf (h : MSr g ck hk lt nl rv nr rf) (hF : tfr g g1) : MSr g1 ck hk lt nl rv nr rf :=
  h.of ⟨hF _ _ (by decide) (by decide) (by unfold kx; decide), hF _ _ (by decide) (by decide) (by unfold kx; decide), hF _ _ (by decide) (by decide) (by unfold kx; decide)⟩ (fun k hk => funext fun j => hF _ _ (by omega) (by omega) (by omega)) (fun b hb => hF _ _ (by omega) (by decide) (by omega))
theorem Rm.wrT {k j : Nat} {x : Int32} (hF : tfr g g2) (hR : Rm (gup g2 k j x) c) (hk : 37 ≤ k ∧ k ≤ 43) : Rm (gup g2 k j x) c ∧ tfr g (gup g2 k j x) := ⟨hR, fun a b p q r => by rw [gup_o (by omega)]; exact hF a b p q r⟩
theorem Rk.upc {o k j : Nat} {x : Int32} (h : Rk g o c) (hk : 37 ≤ k ∧ k ≤ 43) : Rk (gup g k j x) o c := h.up (by omega)
end TF
def tfX (g g1 : gG) : Prop := ∀ a b, ¬ (a = 48 ∧ 84 ≤ b) → ¬ (37 ≤ a ∧ a ≤ 43) → ¬ (a = 35 ∧ (kx b ∨ (24 ≤ b ∧ b ≤ 27) ∨ b = 31)) → ¬ (49 ≤ a ∧ a ≤ 56) → g1 a b = g a b
theorem tfX.rf {g : gG} : tfX g g := fun _ _ _ _ _ _ => rfl
section TX2
variable {g g1 g2 : gG} {c ck : gCt} {hk : Bool} {lt : Nat → Nat} {nl : Nat} {rv : Nat → Nat} {nr : Nat} {rf : Nat → Int32}
theorem tfX.tr (h : tfX g g1) (h2 : tfX g1 g2) : tfX g g2 := fun a b p q r s => (h2 a b p q r s).trans (h a b p q r s)
theorem tfr.tx (h : tfr g g1) : tfX g g1 := fun a b p q r _ => h a b p q (fun z => r ⟨z.1, Or.inl z.2⟩)
theorem tfX.frm (h : tfX g g1) : frm 35 58 g g1 := fun k hk => funext fun j => h k j (by omega) (by omega) (by omega) (by omega)
theorem MSr.tx (h : MSr g ck hk lt nl rv nr rf) (hF : tfX g g1) : MSr g1 ck hk lt nl rv nr rf :=
  h.of ⟨hF _ _ (by decide) (by decide) (by unfold kx; decide) (by decide), hF _ _ (by decide) (by decide) (by unfold kx; decide) (by decide), hF _ _ (by decide) (by decide) (by unfold kx; decide) (by decide)⟩ (fun k hk => funext fun j => hF _ _ (by omega) (by omega) (by omega) (by omega)) (fun b hb => hF _ _ (by omega) (by decide) (by omega) (by decide))
theorem Rm.wrX {k j : Nat} {x : Int32} (hF : tfX g g2) (hR : Rm (gup g2 k j x) c) (hk : 37 ≤ k ∧ k ≤ 43) : Rm (gup g2 k j x) c ∧ tfX g (gup g2 k j x) := ⟨hR, fun a b p q r s => by rw [gup_o (by omega)]; exact hF a b p q r s⟩
theorem tfX.up {k j : Nat} {x : Int32} (hF : tfX g g2) (hk : k = 35 ∧ 24 ≤ j ∧ j ≤ 27 ∨ k = 35 ∧ j = 31 ∨ 49 ≤ k ∧ k ≤ 56) : tfX g (gup g2 k j x) := fun a b p q r s => by
  rw [gup_o (fun z => by obtain ⟨rfl, rfl⟩ := z; rcases hk with ⟨rfl, h1⟩ | ⟨rfl, h1⟩ | h1 <;> first | exact r ⟨rfl, Or.inr (Or.inl h1)⟩ | exact r ⟨rfl, Or.inr (Or.inr h1)⟩ | exact s h1)]
  exact hF a b p q r s
theorem tfr.at (h : tfr g g1) {j : Nat} (hj : 24 ≤ j) : g1 35 j = g 35 j := h 35 j (by omega) (by omega) (by unfold kx; omega)
end TX2
theorem mx_lt {f : Nat → Nat} {n0 : Nat} : ∀ m i (p : Option Nat × Nat), i + m ≤ n0 → (∀ z, p.1 = some z → z < n0) → ∀ z, (gfold (mxF f) m i p).1 = some z → z < n0
  | 0, _, _, _, h => h
  | m + 1, i, p, hi, h => mx_lt m (i + 1) (mxF f i p) (by omega) (fun z hz => by
    unfold mxF at hz
    split at hz
    · cases hz; omega
    · exact h z hz)
theorem sbV_lt {c : gCt} {i n z : Nat} (h : (sbV c i n).1 = some z) : z < c 7 0 := mx_lt (n0 := c 7 0) (c 7 0) 0 _ (by omega) (fun z hz => by cases hz) z h
theorem gup_at {g g3 : gG} {k j : Nat} {x : Int32} (h : gup g k j x = g3) : g3 k j = x := by rw [← h]; exact gup_s
theorem gup_kp {g g3 : gG} {k j a b : Nat} {x v : Int32} (h : gup g k j x = g3) (hn : ¬ (a = k ∧ b = j)) (e : g a b = v) : g3 a b = v := by rw [← h, gup_o hn]; exact e
theorem tfr.a56 {g g1 : gG} (h : tfr g g1) : g1 56 = g 56 := funext fun j => h 56 j (by omega) (by omega) (by omega)
theorem div_2 : ∀ k, k < 4 → nI k / nI 2 = nI (k / 2) ∧ nI k - nI k / nI 2 * nI 2 = nI (k % 2) := by decide +kernel
theorem k4_c : ∀ k, k < 4 → (k / 2 = 0 ∨ k / 2 = 1) ∧ (k % 2 = 0 ∨ k % 2 = 1) := by decide
theorem k4_r : ∀ k, k < 4 → nI 10 * (nI k / nI 2) + (nI k - nI k / nI 2 * nI 2) = nI (10 * (k / 2) + k % 2) := by decide +kernel
