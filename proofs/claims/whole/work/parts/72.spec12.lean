/-! ===== the reference in mind ===== -/
def tfr (g g1 : gG) : Prop := ∀ a b, ¬ (a = 48 ∧ 84 ≤ b) → ¬ (37 ≤ a ∧ a ≤ 43) → ¬ (a = 35 ∧ kx b) → g1 a b = g a b
theorem tfr.rf {g : gG} : tfr g g := fun _ _ _ _ _ => rfl
section TF
variable {g g1 g2 : gG} {c ck : gCt} {hk : Bool} {lt : Nat → Nat} {nl : Nat} {rv : Nat → Nat} {nr : Nat} {rf : Nat → Int32}
theorem tfr.tr (h : tfr g g1) (h2 : tfr g1 g2) : tfr g g2 := fun a b p q r => (h2 a b p q r).trans (h a b p q r)
theorem kfr.tf (h : kfr 84 126 g g1) : tfr g g1 := fun a b p q r => h a b (by omega) (by unfold kx at r; omega)
theorem fmC.tf (h : fmC g g1) : tfr g g1 := fun a b p q r => h a b q (by unfold kx at r; omega)
theorem ufr.tf (h : ufr 37 g g1) : tfr g g1 := fun a b p q r => h a b q r
theorem tfr.frm (h : tfr g g1) : frm 35 58 g g1 := fun k hk => funext fun j => h k j (by omega) (by omega) (by omega)
theorem MSr.tf (h : MSr g ck hk lt nl rv nr rf) (hF : tfr g g1) : MSr g1 ck hk lt nl rv nr rf :=
  h.of ⟨hF _ _ (by decide) (by decide) (by unfold kx; decide), hF _ _ (by decide) (by decide) (by unfold kx; decide), hF _ _ (by decide) (by decide) (by unfold kx; decide)⟩ (fun k hk => funext fun j => hF _ _ (by omega) (by omega) (by omega)) (fun b hb => hF _ _ (by omega) (by decide) (by omega))
theorem Rm.wrT {k j : Nat} {x : Int32} (hF : tfr g g2) (hR : Rm (gup g2 k j x) c) (hk : 37 ≤ k ∧ k ≤ 43) : Rm (gup g2 k j x) c ∧ tfr g (gup g2 k j x) := ⟨hR, fun a b p q r => by rw [gup_o (by omega)]; exact hF a b p q r⟩
theorem Rk.upc {o k j : Nat} {x : Int32} (h : Rk g o c) (hk : 37 ≤ k ∧ k ≤ 43) : Rk (gup g k j x) o c := h.up (by omega)
end TF
