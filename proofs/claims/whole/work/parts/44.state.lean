/-! ===== all that there is: what an image keeps, whether there is one, letters, the row, refusals ===== -/
def XSr (g : gG) (ck : gCt) (hk : Bool) (lt : Nat → Nat) (nl : Nat) (rv : Nat → Nat) (nr : Nat) (rf : Nat → Int32) : Prop := (g 0 3 = bI hk ∧ (hk = true → Rx17 g ck)) ∧ (g 25 1 = nI nl ∧ nl ≤ 96 ∧ ∀ i, i < nl → g 26 i = nI (lt i) ∧ lt i ≤ 255) ∧ (g 0 7 = nI nr ∧ nr ≤ 16 ∧ ∀ i, i < nr → g 30 i = nI (rv i) ∧ rv i ≤ 99) ∧ ∀ j, j < 7 → g 31 j = rf j
def MSr (g : gG) (ck : gCt) (hk : Bool) (lt : Nat → Nat) (nl : Nat) (rv : Nat → Nat) (nr : Nat) (rf : Nat → Int32) : Prop := (g 35 20 = bI hk ∧ (hk = true → Rk g 0 ck)) ∧ (g 35 16 = nI nl ∧ nl ≤ 96 ∧ ∀ i, i < nl → g 44 i = nI (lt i) ∧ lt i ≤ 255) ∧ (g 35 30 = nI nr ∧ nr ≤ 16 ∧ ∀ i, i < nr → g 57 i = nI (rv i) ∧ rv i ≤ 99) ∧ ∀ j, j < 7 → g 36 j = rf j
def fstI (a b c : Int32) : Int32 := if a = 0 then (if b = 0 then c else b) else a
def whyB (b : Bool) (w : Int32) : Int32 := if b = true then nI 0 else w
def ansI (w v : Int32) : Int32 := if w = 0 then v else w
def rfI (rf : Nat → Int32) (w : Int32) : Nat → Int32 := if w = 0 then rf else fun j => if j = (-w).toNatClampNeg then rf j + nI 1 else rf j
def okw (w : Int32) : Prop := w = 0 ∨ w = -1 ∨ w = -2 ∨ w = -3 ∨ w = -4 ∨ w = -6
theorem okw_b {b : Bool} {w : Int32} (h : okw w) : okw (whyB b w) := by
  unfold whyB
  split
  · exact Or.inl rfl
  · exact h
theorem okw_n {v l m : Int32} : okw (bndI v l m) := by
  unfold bndI okw
  split
  · decide
  · split <;> decide
theorem okw_f {a b c : Int32} (ha : okw a) (hb : okw b) (hc : okw c) : okw (fstI a b c) := by
  unfold fstI
  split
  · split
    · exact hc
    · exact hb
  · exact ha
theorem okw_in {w : Int32} (h : okw w) (hn : ¬ w = 0) : vp_in (-w) 7 ∧ (-w).toNatClampNeg < 7 := by
  rcases h with rfl | rfl | rfl | rfl | rfl | rfl
  · exact absurd rfl hn
  all_goals exact ⟨vp_in_iff.mpr (by decide), by decide⟩
theorem nI00 : nI 0 = (0 : Int32) := nI_0
theorem fst_0 {a b c : Int32} : fstI a b c = 0 ↔ a = 0 ∧ b = 0 ∧ c = 0 := by
  unfold fstI
  by_cases ha : a = 0 <;> by_cases hb : b = 0 <;> simp [ha, hb]
theorem whyB_0 {b : Bool} {w : Int32} (h : ¬ w = 0) : whyB b w = 0 ↔ b = true := by
  unfold whyB
  cases b
  · simp [h]
  · simp [nI00]
theorem bnd_0 {v l m : Int32} : bndI v l m = 0 ↔ ¬ v < l ∧ ¬ m < v := by
  unfold bndI
  by_cases h1 : v < l
  · simp [h1]
  · by_cases h2 : m < v
    · simp [h1, h2]
    · simp [h1, h2, nI00]
/-- a number between: a Nat -/
theorem bnd_nat {v : Int32} {l m : Nat} (hl : l < 2147483648) (hm : m < 2147483647) (h : bndI v (nI l) (nI m) = 0) : ∃ n, l ≤ n ∧ n ≤ m ∧ v = nI n := by
  obtain ⟨h1, h2⟩ := bnd_0.mp h
  rcases pk_ix v (n := m + 1) (by omega) with q | q | ⟨j, hj, rfl⟩
  · exact absurd (Int32.lt_of_lt_of_le q (nI_pos' hl)) h1
  · exfalso
    apply h2
    exact Int32.lt_of_lt_of_le (nI_ltI (by omega) (by omega) |>.mpr (Nat.lt_succ_self m)) q
  · exact ⟨j, Nat.le_of_not_lt fun q => h1 (nI_lt q hl), by omega, rfl⟩
theorem isIn_inB {w : Int32} {m : Nat} (hm : m + 1 < 2147483648) : isInB w (nI 0) (nI m) = inB w (m + 1) := by
  unfold isInB inB
  rw [nI00]
  congr 1
  apply propext
  constructor
  · rintro ⟨h1, h2⟩
    refine ⟨h1, fun q => h2 ?_⟩
    exact Int32.lt_of_lt_of_le (nI_ltI (by omega) hm |>.mpr (Nat.lt_succ_self m)) q
  · rintro ⟨h1, h2⟩
    refine ⟨h1, fun q => ?_⟩
    obtain ⟨j, hj, rfl⟩ := (inB_iff hm).mp (by unfold inB; exact decide_eq_true ⟨h1, h2⟩)
    have := (nI_ltI (by omega) (by omega)).mp q
    omega
section ST
variable {g g1 : gG} {c ck : gCt} {hk : Bool} {lt : Nat → Nat} {nl : Nat} {rv : Nat → Nat} {nr : Nat} {rf : Nat → Int32}
theorem XSr.of (h : XSr g ck hk lt nl rv nr rf) (he : ∀ k, (k = 0 ∨ (17 ≤ k ∧ k ≤ 26) ∨ k = 30 ∨ k = 31) → g1 k = g k) : XSr g1 ck hk lt nl rv nr rf := by
  obtain ⟨⟨h1, h2⟩, ⟨h3, h4, h5⟩, ⟨h6, h7, h8⟩, h9⟩ := h
  refine ⟨⟨?_, fun q => (h2 q).of (fun k a b => he k (by omega))⟩, ⟨?_, h4, fun i hi => ?_⟩, ⟨?_, h7, fun i hi => ?_⟩, fun j hj => ?_⟩
  · rw [he 0 (by omega)]; exact h1
  · rw [he 25 (by omega)]; exact h3
  · rw [he 26 (by omega)]; exact h5 i hi
  · rw [he 0 (by omega)]; exact h6
  · rw [he 30 (by omega)]; exact h8 i hi
  · rw [he 31 (by omega)]; exact h9 j hj
theorem XSr.f9 (h : XSr g ck hk lt nl rv nr rf) (hF : frm 9 17 g g1) : XSr g1 ck hk lt nl rv nr rf := h.of fun k hk => hF k (by omega)
theorem XSr.f1 (h : XSr g ck hk lt nl rv nr rf) (hF : frm 1 9 g g1) : XSr g1 ck hk lt nl rv nr rf := h.of fun k hk => hF k (by omega)
theorem XSr.f27 (h : XSr g ck hk lt nl rv nr rf) (hF : frm 27 30 g g1) : XSr g1 ck hk lt nl rv nr rf := h.of fun k hk => hF k (by omega)
theorem XSr.f32 (h : XSr g ck hk lt nl rv nr rf) (hF : frm 32 35 g g1) : XSr g1 ck hk lt nl rv nr rf := h.of fun k hk => hF k (by omega)
theorem Rx1.f9 (h : Rx1 g c) (hF : frm 9 17 g g1) : Rx1 g1 c := h.of fun k _ _ => hF k (by omega)
theorem Rx1.f27 (h : Rx1 g c) (hF : frm 27 30 g g1) : Rx1 g1 c := h.of fun k _ _ => hF k (by omega)
theorem Rx1.f32 (h : Rx1 g c) (hF : frm 32 35 g g1) : Rx1 g1 c := h.of fun k _ _ => hF k (by omega)
theorem Rx9.f32 (h : Rx9 g c) (hF : frm 32 35 g g1) : Rx9 g1 c := h.of fun k _ _ => hF k (by omega)
theorem gbmp_ne {k a : Nat} {w : Int32} (h : a ≠ k) : gbmp g k w a = g a := gup_ne h
theorem XSr.bmp (h : XSr g ck hk lt nl rv nr rf) {w : Int32} (hw : okw w) (hn : ¬ w = 0) : XSr (gbmp g 31 w) ck hk lt nl rv nr (rfI rf w) := by
  have hi := okw_in hw hn
  obtain ⟨⟨h1, h2⟩, ⟨h3, h4, h5⟩, ⟨h6, h7, h8⟩, h9⟩ := h
  refine ⟨⟨?_, fun q => (h2 q).of (fun k a b => gbmp_ne (by omega))⟩, ⟨?_, h4, fun i hi => ?_⟩, ⟨?_, h7, fun i hi => ?_⟩, fun j hj => ?_⟩
  · rw [gbmp_ne (by decide)]; exact h1
  · rw [gbmp_ne (by decide)]; exact h3
  · rw [gbmp_ne (by decide)]; exact h5 i hi
  · rw [gbmp_ne (by decide)]; exact h6
  · rw [gbmp_ne (by decide)]; exact h8 i hi
  · unfold gbmp rfI
    rw [if_neg hn]
    by_cases e : j = (-w).toNatClampNeg
    · subst e; rw [gup_s, if_pos rfl, h9 _ hj]
    · rw [gup_o (fun z => e z.2), if_neg e]; exact h9 j hj
theorem x_ref (hR : Rx1 g c) (hX : XSr g ck hk lt nl rv nr rf) {w v : Int32} (hw : okw w) (hn : ¬ w = 0) : w = ansI w v ∧ Rx1 (gbmp g 31 w) c ∧ XSr (gbmp g 31 w) ck hk lt nl rv nr (rfI rf w) ∧ frm 0 35 g (gbmp g 31 w) :=
  ⟨by rw [ansI, if_neg hn], hR.of (fun k _ _ => gbmp_ne (by omega)), hX.bmp hw hn, frm.rf.up (by decide)⟩
theorem x_ok {g2 : gG} (hR : Rx1 g2 c) (hX : XSr g2 ck hk lt nl rv nr rf) (hF : frm 0 35 g g2) {w v u : Int32} (hw : w = 0) (hv : u = v) : u = ansI w v ∧ Rx1 g2 c ∧ XSr g2 ck hk lt nl rv nr (rfI rf w) ∧ frm 0 35 g g2 :=
  ⟨by rw [ansI, if_pos hw]; exact hv, hR, by rw [rfI, if_pos hw]; exact hX, hF⟩
/-! the reference's -/
theorem MSr.of (h : MSr g ck hk lt nl rv nr rf) (h35 : g1 35 16 = g 35 16 ∧ g1 35 20 = g 35 20 ∧ g1 35 30 = g 35 30) (he : ∀ k, (k = 36 ∨ k = 44 ∨ k = 57) → g1 k = g k) (h48 : ∀ b, b < 42 → g1 48 b = g 48 b) : MSr g1 ck hk lt nl rv nr rf := by
  obtain ⟨⟨h1, h2⟩, ⟨h3, h4, h5⟩, ⟨h6, h7, h8⟩, h9⟩ := h
  refine ⟨⟨?_, fun q => (h2 q).of (fun b _ hb => h48 b (by omega))⟩, ⟨?_, h4, fun i hi => ?_⟩, ⟨?_, h7, fun i hi => ?_⟩, fun j hj => ?_⟩
  · rw [h35.2.1]; exact h1
  · rw [h35.1]; exact h3
  · rw [he 44 (by omega)]; exact h5 i hi
  · rw [h35.2.2]; exact h6
  · rw [he 57 (by omega)]; exact h8 i hi
  · rw [he 36 (by omega)]; exact h9 j hj
theorem MSr.fm (h : MSr g ck hk lt nl rv nr rf) (hF : fmC g g1) : MSr g1 ck hk lt nl rv nr rf := h.of ⟨hF _ _ (by decide) (by decide), hF _ _ (by decide) (by decide), hF _ _ (by decide) (by decide)⟩ (fun k hk => funext fun j => hF _ _ (by omega) (by omega)) (fun b hb => hF _ _ (by decide) (by omega))
theorem MSr.kf (h : MSr g ck hk lt nl rv nr rf) (hF : kfr 84 126 g g1) : MSr g1 ck hk lt nl rv nr rf := h.of ⟨hF _ _ (by decide) (by decide), hF _ _ (by decide) (by decide), hF _ _ (by decide) (by decide)⟩ (fun k hk => funext fun j => hF _ _ (by omega) (by omega)) (fun b hb => hF _ _ (by omega) (by omega))
theorem MSr.kf1 (h : MSr g ck hk lt nl rv nr rf) (hF : kfr 42 84 g g1) : MSr g1 ck hk lt nl rv nr rf := h.of ⟨hF _ _ (by decide) (by decide), hF _ _ (by decide) (by decide), hF _ _ (by decide) (by decide)⟩ (fun k hk => funext fun j => hF _ _ (by omega) (by omega)) (fun b hb => hF _ _ (by omega) (by omega))
theorem MSr.uf (h : MSr g ck hk lt nl rv nr rf) (hF : ufr 37 g g1) : MSr g1 ck hk lt nl rv nr rf := h.of ⟨hF _ _ (by decide) (by unfold kx; decide), hF _ _ (by decide) (by unfold kx; decide), hF _ _ (by decide) (by unfold kx; decide)⟩ (fun k hk => funext fun j => hF _ _ (by omega) (by unfold kx; omega)) (fun b hb => hF _ _ (by decide) (by unfold kx; omega))
theorem Rm.kf {lo hi : Nat} (h : Rm g c) (hF : kfr lo hi g g1) : Rm g1 c := h.fr ⟨hF _ _ (by omega) (by omega), hF _ _ (by omega) (by omega), hF _ _ (by omega) (by omega), hF _ _ (by omega) (by omega)⟩ (fun k _ _ => funext fun j => hF _ _ (by omega) (by omega))
theorem Rk.fm {o : Nat} (h : Rk g o c) (hF : fmC g g1) : Rk g1 o c := h.of fun b _ _ => hF _ _ (by decide) (by omega)
theorem fmC.frm (h : fmC g g1) : frm 35 58 g g1 := fun k hk => funext fun j => h k j (by omega) (by omega)
theorem kfr.frm {lo hi : Nat} (h : kfr lo hi g g1) : frm 35 58 g g1 := fun k hk => funext fun j => h k j (by omega) (by omega)
theorem ufr.frm (h : ufr 37 g g1) : frm 35 58 g g1 := fun k hk => funext fun j => h k j (by omega) (by omega)
theorem MSr.bmp (h : MSr g ck hk lt nl rv nr rf) {w : Int32} (hw : okw w) (hn : ¬ w = 0) : MSr (gbmp g 36 w) ck hk lt nl rv nr (rfI rf w) := by
  have hi := okw_in hw hn
  obtain ⟨⟨h1, h2⟩, ⟨h3, h4, h5⟩, ⟨h6, h7, h8⟩, h9⟩ := h
  refine ⟨⟨?_, fun q => (h2 q).of (fun b _ _ => by rw [gbmp_ne (by decide)])⟩, ⟨?_, h4, fun i hi => ?_⟩, ⟨?_, h7, fun i hi => ?_⟩, fun j hj => ?_⟩
  · rw [gbmp_ne (by decide)]; exact h1
  · rw [gbmp_ne (by decide)]; exact h3
  · rw [gbmp_ne (by decide)]; exact h5 i hi
  · rw [gbmp_ne (by decide)]; exact h6
  · rw [gbmp_ne (by decide)]; exact h8 i hi
  · unfold gbmp rfI
    rw [if_neg hn]
    by_cases e : j = (-w).toNatClampNeg
    · subst e; rw [gup_s, if_pos rfl, h9 _ hj]
    · rw [gup_o (fun z => e z.2), if_neg e]; exact h9 j hj
theorem Rm.bmp (h : Rm g c) (w : Int32) : Rm (gbmp g 36 w) c := h.fr ⟨by rw [gbmp_ne (by decide)], by rw [gbmp_ne (by decide)], by rw [gbmp_ne (by decide)], by rw [gbmp_ne (by decide)]⟩ (fun k _ _ => gbmp_ne (by omega))
theorem y_ref (hR : Rm g c) (hX : MSr g ck hk lt nl rv nr rf) {w v : Int32} (hw : okw w) (hn : ¬ w = 0) : w = ansI w v ∧ Rm (gbmp g 36 w) c ∧ MSr (gbmp g 36 w) ck hk lt nl rv nr (rfI rf w) ∧ frm 35 58 g (gbmp g 36 w) :=
  ⟨by rw [ansI, if_neg hn], hR.bmp w, hX.bmp hw hn, frm.rf.up (by decide)⟩
theorem y_ok {g2 : gG} (hR : Rm g2 c) (hX : MSr g2 ck hk lt nl rv nr rf) (hF : frm 35 58 g g2) {w v u : Int32} (hw : w = 0) (hv : u = v) : u = ansI w v ∧ Rm g2 c ∧ MSr g2 ck hk lt nl rv nr (rfI rf w) ∧ frm 35 58 g g2 :=
  ⟨by rw [ansI, if_pos hw]; exact hv, hR, by rw [rfI, if_pos hw]; exact hX, hF⟩
end ST
