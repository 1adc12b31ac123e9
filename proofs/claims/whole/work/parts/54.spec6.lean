def mscell (k j : Nat) : Prop := (k = 35 ∧ (j = 16 ∨ j = 20 ∨ j = 30)) ∨ k = 36 ∨ k = 44 ∨ k = 57 ∨ (k = 48 ∧ j < 42)
section SM
variable {g g1 g2 : gG} {c ck : gCt} {hk : Bool} {lt : Nat → Nat} {nl : Nat} {rv : Nat → Nat} {nr : Nat} {rf : Nat → Int32} {k j : Nat} {x : Int32}
theorem MSr.up (h : MSr g ck hk lt nl rv nr rf) (hn : ¬ mscell k j) : MSr (gup g k j x) ck hk lt nl rv nr rf := by
  unfold mscell at hn
  exact h.of ⟨gup_o (by omega), gup_o (by omega), gup_o (by omega)⟩ (fun a ha => funext fun b => gup_o (by omega)) (fun b hb => gup_o (by omega))
theorem Rm.up (h : Rm g c) (h1 : ¬ (37 ≤ k ∧ k ≤ 43)) (h2 : ¬ (k = 35 ∧ 8 ≤ j ∧ j ≤ 11)) : Rm (gup g k j x) c := h.fr ⟨gup_o (by omega), gup_o (by omega), gup_o (by omega), gup_o (by omega)⟩ (fun a _ _ => funext fun b => gup_o (by omega))
theorem Rk.up {o : Nat} (h : Rk g o c) (h1 : ¬ k = 48) : Rk (gup g k j x) o c := h.of fun b _ _ => gup_o (by omega)
theorem Rm.wrM (hF : frm 35 58 g g2) (hX : MSr g2 ck hk lt nl rv nr rf) (hR : Rm (gup g2 k j x) c) (h35 : 35 ≤ k ∧ k < 58) (hn : ¬ mscell k j) : Rm (gup g2 k j x) c ∧ MSr (gup g2 k j x) ck hk lt nl rv nr rf ∧ frm 35 58 g (gup g2 k j x) := ⟨hR, hX.up hn, hF.up h35⟩
end SM
theorem covOf_up {c : gCt} {i s : Nat} (e : c 6 i = s + 1) (r : Nat) : covOf (cup c 2 s r) i = covN (c 0 s) (c 1 s) r := by
  have e1 : cup c 2 s r 6 i = s + 1 := e
  unfold covOf
  rw [if_neg (by omega), e1]
  show covN (c 0 s) (c 1 s) (cup c 2 s r 2 s) = _
  rw [cup_same]
