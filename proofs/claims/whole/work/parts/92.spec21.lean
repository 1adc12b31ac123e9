/-! ===== the reference reads letters ===== -/
def lnI (lt : Nat → Nat) (nl p : Nat) : Int32 := if p < nl then nI (lt p) else -1
def dB (lt : Nat → Nat) (nl p : Nat) : Bool := decide (p < nl) && isD (lt p)
def ksB (lt : Nat → Nat) (nl p : Nat) : Bool := decide (p < nl) && decide (kdx (lt p) < 6)
def kdJ (x : Int32) : Int32 := if x = nI 112 then nI 0 else if x = nI 109 then nI 1 else if x = nI 103 then nI 2 else if x = nI 102 then nI 3 else if x = nI 98 then nI 4 else if x = nI 111 then nI 5 else -1
def dgs (lt : Nat → Nat) (nl : Nat) : Nat → Nat → Nat → Bool × Nat × Nat
  | 0, p, v => (true, p, v)
  | m + 1, p, v => if dB lt nl p = true then dgs lt nl m (p + 1) (10 * v + dg lt p) else (false, p, v)
/-- the first wrong sign behind the statement's letter -/
def rdW (lt : Nat → Nat) (nl p : Nat) : Option Nat := gfind (fun i => !okA lt nl p i) (sgn (lt p)) (p + 1)
def tv1 (lt : Nat → Nat) (p : Nat) : Nat := if lt p = 115 then kdx (lt (p + 1)) else if lt p = 99 ∨ lt p = 100 then nu lt (p + 1) else dg lt (p + 1)
def tv2 (lt : Nat → Nat) (p : Nat) : Nat := if lt p = 102 then nu lt (p + 2) else dg lt (p + 2)
def ofr (q : Nat) (g g1 : gG) : Prop := ∀ a b, ¬ (a = 47 ∧ b = q) → ¬ (a = 35 ∧ b = 17) → g1 a b = g a b
def qfr (q : Nat) (g g1 : gG) : Prop := ∀ a b, ¬ (a = 47 ∧ (b = q ∨ b = q + 1)) → ¬ (a = 35 ∧ b = 17) → g1 a b = g a b
def sfr (k : Nat) (g g1 : gG) : Prop := ∀ a b, ¬ ((a = 45 ∨ a = 46) ∧ b = k) → ¬ (a = 47 ∧ (b = 2 * k ∨ b = 2 * k + 1)) → ¬ (a = 35 ∧ b = 17) → g1 a b = g a b
def rfr (g g1 : gG) : Prop := ∀ a b, ¬ (45 ≤ a ∧ a ≤ 47) → ¬ (a = 35 ∧ (b = 17 ∨ b = 18)) → g1 a b = g a b
theorem rfr.rf {g : gG} : rfr g g := fun _ _ _ _ => rfl
theorem rfr.tr {g g1 g2 : gG} (h : rfr g g1) (h2 : rfr g1 g2) : rfr g g2 := fun a b x y => (h2 a b x y).trans (h a b x y)
theorem ofr.r {q : Nat} {g g1 : gG} (h : ofr q g g1) : rfr g g1 := fun a b x y => h a b (by omega) (by omega)
theorem qfr.r {q : Nat} {g g1 : gG} (h : qfr q g g1) : rfr g g1 := fun a b x y => h a b (by omega) (by omega)
theorem sfr.r {k : Nat} {g g1 : gG} (h : sfr k g g1) : rfr g g1 := fun a b x y => h a b (by omega) (by omega) (by omega)
theorem ofr.rf {q : Nat} {g : gG} : ofr q g g := fun _ _ _ _ => rfl
theorem ofr.u17 {q : Nat} {g g1 : gG} (h : ofr q g g1) (x : Int32) : ofr q g (gup g1 35 17 x) := fun a b p r => (gup_o r).trans (h a b p r)
theorem ofr.u47 {q : Nat} {g g1 : gG} (h : ofr q g g1) (x : Int32) : ofr q g (gup g1 47 q x) := fun a b p r => (gup_o p).trans (h a b p r)
section
variable {g g1 : gG} {ck : gCt} {hk : Bool} {lt : Nat → Nat} {nl : Nat} {rv : Nat → Nat} {nr : Nat} {rf : Nat → Int32} {c : gCt}
theorem MSr.rr (h : MSr g ck hk lt nl rv nr rf) (hF : rfr g g1) : MSr g1 ck hk lt nl rv nr rf := h.of ⟨hF _ _ (by decide) (by decide), hF _ _ (by decide) (by decide), hF _ _ (by decide) (by decide)⟩ (fun k hk => funext fun j => hF _ _ (by omega) (by omega)) (fun b hb => hF _ _ (by decide) (by omega))
theorem Rm.rr (h : Rm g c) (hF : rfr g g1) : Rm g1 c := h.fr ⟨hF _ _ (by decide) (by decide), hF _ _ (by decide) (by decide), hF _ _ (by decide) (by decide), hF _ _ (by decide) (by decide)⟩ (fun k _ _ => funext fun j => hF _ _ (by omega) (by omega))
theorem rfr.frm (h : rfr g g1) : frm 35 58 g g1 := fun k hk => funext fun j => h k j (by omega) (by omega)
theorem MSr.cl (h : MSr g ck hk lt nl rv nr rf) : MSr (gup g 35 16 (nI 0)) ck hk lt 0 rv nr rf := by
  obtain ⟨⟨h1, h2⟩, ⟨h3, h4, h5⟩, ⟨h6, h7, h8⟩, h9⟩ := h
  refine ⟨⟨?_, fun q => (h2 q).of (fun b _ _ => by rw [gup_ne (by decide)])⟩, ⟨gup_s, by omega, fun i hi => by omega⟩, ⟨?_, h7, fun i hi => ?_⟩, fun j hj => ?_⟩
  · rw [gup_o (by decide)]; exact h1
  · rw [gup_o (by decide)]; exact h6
  · rw [gup_ne (by decide)]; exact h8 i hi
  · rw [gup_ne (by decide)]; exact h9 j hj
theorem Rm.c16 (h : Rm g c) (x : Int32) : Rm (gup g 35 16 x) c := h.fr ⟨gup_o (by decide), gup_o (by decide), gup_o (by decide), gup_o (by decide)⟩ (fun k _ _ => gup_ne (by omega))
end
theorem lnD {lt : Nat → Nat} {nl p : Nat} (h : p < nl → lt p ≤ 255) : isInB (lnI lt nl p) (nI 48) (nI 57) = dB lt nl p := by
  unfold lnI dB
  by_cases hp : p < nl
  · have hl := h hp
    rw [if_pos hp, decide_eq_true hp, Bool.true_and]
    unfold isInB isD
    congr 1
    apply propext
    rw [nI_ltI (by omega) (by decide), nI_ltI (by decide) (by omega)]
    omega
  · rw [if_neg hp, decide_eq_false hp, Bool.false_and]
    decide
theorem dB_t {lt : Nat → Nat} {nl p : Nat} (h : dB lt nl p = true) : p < nl ∧ 48 ≤ lt p ∧ lt p ≤ 57 := by
  unfold dB isD at h
  rw [Bool.and_eq_true] at h
  have := of_decide_eq_true h.2
  exact ⟨of_decide_eq_true h.1, this.1, this.2⟩
theorem lnK {lt : Nat → Nat} {nl p : Nat} (h : p < nl → lt p ≤ 255) : kdJ (lnI lt nl p) = if ksB lt nl p = true then nI (kdx (lt p)) else -1 := by
  unfold lnI ksB
  by_cases hp : p < nl
  · have hl := h hp
    rw [if_pos hp, decide_eq_true hp, Bool.true_and]
    exact (show ∀ k, k < 256 → kdJ (nI k) = if decide (kdx k < 6) = true then nI (kdx k) else -1 by decide +kernel) (lt p) (by omega)
  · rw [if_neg hp, decide_eq_false hp, Bool.false_and, if_neg (by decide)]
    decide
theorem ln_eq {lt : Nat → Nat} {nl p k : Nat} (h : p < nl → lt p ≤ 255) (hk : k < 256) (e : lnI lt nl p = nI k) : p < nl ∧ lt p = k := by
  unfold lnI at e
  by_cases hp : p < nl
  · rw [if_pos hp] at e
    exact ⟨hp, (nI_eq (by have := h hp; omega) (by omega)).mp e⟩
  · rw [if_neg hp, nI_z, show (-1 : Int32) = zI (-1) from rfl, zI_eq (by omega) (by omega)] at e
    omega
theorem ln_in {lt : Nat → Nat} {nl p : Nat} (h : p < nl) : lnI lt nl p = nI (lt p) := if_pos h
theorem dgs_1 (lt : Nat → Nat) (nl p : Nat) : dgs lt nl 1 p 0 = if dB lt nl p = true then (true, p + 1, dg lt p) else (false, p, 0) := by
  simp [dgs]
theorem dgs_2 (lt : Nat → Nat) (nl p : Nat) : dgs lt nl 2 p 0 = if dB lt nl p = true then (if dB lt nl (p + 1) = true then (true, p + 2, nu lt p) else (false, p + 1, dg lt p)) else (false, p, 0) := by
  simp [dgs, nu]
/-- one digit, two digits -/
theorem rdp1 {lt : Nat → Nat} {nl p q : Nat} {g g1 : gG} {y : Int32} (h : y = bI (dgs lt nl 1 p 0).1 ∧ g1 35 17 = nI (dgs lt nl 1 p 0).2.1 ∧ ((dgs lt nl 1 p 0).1 = true → g1 47 q = nI (dgs lt nl 1 p 0).2.2) ∧ ofr q g g1) : y = bI (dB lt nl p) ∧ g1 35 17 = nI (if dB lt nl p = true then p + 1 else p) ∧ (dB lt nl p = true → g1 47 q = nI (dg lt p)) ∧ ofr q g g1 := by
  rw [dgs_1] at h
  by_cases hb : dB lt nl p = true
  · rw [if_pos hb] at h ⊢
    rw [hb]
    exact ⟨h.1, h.2.1, fun _ => h.2.2.1 rfl, h.2.2.2⟩
  · rw [if_neg hb] at h ⊢
    rw [Bool.not_eq_true _ |>.mp hb]
    exact ⟨h.1, h.2.1, fun q => (by cases q), h.2.2.2⟩
theorem rdp2 {lt : Nat → Nat} {nl p q : Nat} {g g1 : gG} {y : Int32} (h : y = bI (dgs lt nl 2 p 0).1 ∧ g1 35 17 = nI (dgs lt nl 2 p 0).2.1 ∧ ((dgs lt nl 2 p 0).1 = true → g1 47 q = nI (dgs lt nl 2 p 0).2.2) ∧ ofr q g g1) : y = bI (dB lt nl p && dB lt nl (p + 1)) ∧ g1 35 17 = nI (if dB lt nl p = true then (if dB lt nl (p + 1) = true then p + 2 else p + 1) else p) ∧ ((dB lt nl p && dB lt nl (p + 1)) = true → g1 47 q = nI (nu lt p)) ∧ ofr q g g1 := by
  rw [dgs_2] at h
  by_cases hb : dB lt nl p = true
  · rw [if_pos hb] at h ⊢
    by_cases hc : dB lt nl (p + 1) = true
    · rw [if_pos hc] at h ⊢
      rw [hb, hc]
      exact ⟨h.1, h.2.1, fun _ => h.2.2.1 rfl, h.2.2.2⟩
    · rw [if_neg hc] at h ⊢
      rw [hb, Bool.not_eq_true _ |>.mp hc]
      exact ⟨h.1, h.2.1, fun q => (by cases q), h.2.2.2⟩
  · rw [if_neg hb] at h ⊢
    rw [Bool.not_eq_true _ |>.mp hb]
    exact ⟨h.1, h.2.1, fun q => (by cases q), h.2.2.2⟩
theorem ok_d {lt : Nat → Nat} {nl p j : Nat} (h1 : 1 ≤ j) (h2 : j ≤ sgn (lt p)) (h3 : ¬ (j = 1 ∧ lt p = 115)) : okA lt nl p (p + j) = dB lt nl (p + j) := by
  unfold okA dB
  rw [fit_d h1 h2 h3]
theorem ok_k {lt : Nat → Nat} {nl p : Nat} (h : lt p = 115) : okA lt nl p (p + 1) = ksB lt nl (p + 1) := by
  unfold okA ksB
  rw [fit_k h]
/-- the wrong place behind the letter, by how many signs there are -/
theorem rw_s {lt : Nat → Nat} {nl p : Nat} (e : lt p = 115) : (rdW lt nl p).isNone = (ksB lt nl (p + 1) && dB lt nl (p + 2)) ∧ (rdW lt nl p).getD (p + 1 + sgn (lt p)) = if ksB lt nl (p + 1) = true then (if dB lt nl (p + 2) = true then p + 3 else p + 2) else p + 1 := by
  have a1 := ok_k (nl := nl) e
  have a2 := ok_d (nl := nl) (p := p) (lt := lt) (j := 2) (by decide) (by rw [e, sgn_115]; decide) (by omega)
  have es : sgn (lt p) = 2 := by rw [e, sgn_115]
  unfold rdW
  rw [es, gfind, gfind, gfind, a1, show p + 1 + 1 = p + 2 from rfl, a2]
  cases ksB lt nl (p + 1) <;> cases dB lt nl (p + 2) <;> simp
theorem rw_2 {lt : Nat → Nat} {nl p : Nat} (es : sgn (lt p) = 2) (hn : ¬ lt p = 115) : (rdW lt nl p).isNone = (dB lt nl (p + 1) && dB lt nl (p + 2)) ∧ (rdW lt nl p).getD (p + 1 + sgn (lt p)) = if dB lt nl (p + 1) = true then (if dB lt nl (p + 2) = true then p + 3 else p + 2) else p + 1 := by
  have a1 := ok_d (nl := nl) (p := p) (lt := lt) (j := 1) (by decide) (by omega) (by omega)
  have a2 := ok_d (nl := nl) (p := p) (lt := lt) (j := 2) (by decide) (by omega) (by omega)
  unfold rdW
  rw [es, gfind, gfind, gfind, a1, show p + 1 + 1 = p + 2 from rfl, a2]
  cases dB lt nl (p + 1) <;> cases dB lt nl (p + 2) <;> simp
theorem rw_1 {lt : Nat → Nat} {nl p : Nat} (es : sgn (lt p) = 1) (hn : ¬ lt p = 115) : (rdW lt nl p).isNone = dB lt nl (p + 1) ∧ (rdW lt nl p).getD (p + 1 + sgn (lt p)) = if dB lt nl (p + 1) = true then p + 2 else p + 1 := by
  have a1 := ok_d (nl := nl) (p := p) (lt := lt) (j := 1) (by decide) (by omega) (by omega)
  unfold rdW
  rw [es, gfind, gfind, a1]
  cases dB lt nl (p + 1) <;> simp
theorem rw_3 {lt : Nat → Nat} {nl p : Nat} (es : sgn (lt p) = 3) (hn : ¬ lt p = 115) : (rdW lt nl p).isNone = (dB lt nl (p + 1) && (dB lt nl (p + 2) && dB lt nl (p + 3))) ∧ (rdW lt nl p).getD (p + 1 + sgn (lt p)) = if dB lt nl (p + 1) = true then (if dB lt nl (p + 2) = true then (if dB lt nl (p + 3) = true then p + 4 else p + 3) else p + 2) else p + 1 := by
  have a1 := ok_d (nl := nl) (p := p) (lt := lt) (j := 1) (by decide) (by omega) (by omega)
  have a2 := ok_d (nl := nl) (p := p) (lt := lt) (j := 2) (by decide) (by omega) (by omega)
  have a3 := ok_d (nl := nl) (p := p) (lt := lt) (j := 3) (by decide) (by omega) (by omega)
  unfold rdW
  rw [es, gfind, gfind, gfind, gfind, a1, show p + 1 + 1 = p + 2 from rfl, a2, show p + 2 + 1 = p + 3 from rfl, a3]
  cases dB lt nl (p + 1) <;> cases dB lt nl (p + 2) <;> cases dB lt nl (p + 3) <;> simp
theorem gfind_snoc (f : Nat → Bool) : ∀ m i, gfind f (m + 1) i = match gfind f m i with
    | some q => some q
    | none => if f (i + m) = true then some (i + m) else none
  | 0, i => rfl
  | m + 1, i => by
    have e1 : gfind f (m + 1 + 1) i = if f i = true then some i else gfind f (m + 1) (i + 1) := rfl
    have e2 : gfind f (m + 1) i = if f i = true then some i else gfind f m (i + 1) := rfl
    rw [e1, e2]
    by_cases h : f i = true
    · rw [if_pos h, if_pos h]
    · rw [if_neg h, if_neg h, gfind_snoc f m (i + 1), show i + 1 + m = i + (m + 1) by omega]
theorem stB_no {lt : Nat → Nat} {nl p : Nat} (h : ¬ (p < nl ∧ 0 < sgn (lt p))) : stB lt nl p = some p := by
  unfold stB
  rw [gfind, if_pos]
  unfold okA fitB
  rw [if_pos rfl]
  by_cases h1 : p < nl
  · rw [decide_eq_false (p := 0 < sgn (lt p)) (fun q => h ⟨h1, q⟩), Bool.and_false]; rfl
  · rw [decide_eq_false h1]; rfl
theorem stB_rd {lt : Nat → Nat} {nl p : Nat} (h1 : p < nl) (h2 : 0 < sgn (lt p)) : stB lt nl p = match rdW lt nl p with
    | some q => some q
    | none => if (decide (p + 1 + sgn (lt p) < nl) && (lt (p + 1 + sgn (lt p)) == 59)) = true then none else some (p + 1 + sgn (lt p)) := by
  have e0 : okA lt nl p p = true := by
    unfold okA fitB
    rw [if_pos rfl, decide_eq_true h1, decide_eq_true h2]; rfl
  have e1 : okA lt nl p (p + 1 + sgn (lt p)) = (decide (p + 1 + sgn (lt p) < nl) && (lt (p + 1 + sgn (lt p)) == 59)) := by
    unfold okA fitB
    rw [if_neg (by omega), if_pos (by omega)]
  unfold stB rdW
  rw [gfind, if_neg (by rw [e0]; decide), gfind_snoc, e1]
  split
  · rfl
  · cases (decide (p + 1 + sgn (lt p) < nl) && (lt (p + 1 + sgn (lt p)) == 59)) <;> rfl
/-- the statements that were read -/
def TBl (g : gG) (lt : Nat → Nat) (n : Nat) : Prop := ∀ k, k < n → g 45 k = nI (lt (pos lt k)) ∧ g 46 k = nI (pos lt k) ∧ g 47 (2 * k) = nI (tv1 lt (pos lt k)) ∧ (¬ lt (pos lt k) = 99 → ¬ lt (pos lt k) = 100 → ¬ lt (pos lt k) = 111 → g 47 (2 * k + 1) = nI (tv2 lt (pos lt k)))
theorem TBl.of {g g1 : gG} {lt : Nat → Nat} {n : Nat} (h : TBl g lt n) (he : ∀ a, 45 ≤ a → a ≤ 47 → g1 a = g a) : TBl g1 lt n := fun k hk => by
  rw [he 45 (by decide) (by decide), he 46 (by decide) (by decide), he 47 (by decide) (by decide)]
  exact h k hk
theorem TBl.fm {g g1 : gG} {lt : Nat → Nat} {n : Nat} (h : TBl g lt n) (hF : fmC g g1) : TBl g1 lt n := h.of fun a _ _ => funext fun b => hF a b (by omega) (by omega)
theorem TBl.kf {g g1 : gG} {lt : Nat → Nat} {n lo hi : Nat} (h : TBl g lt n) (hF : kfr lo hi g g1) : TBl g1 lt n := h.of fun a _ _ => funext fun b => hF a b (by omega) (by omega)
theorem TBl.uf {g g1 : gG} {lt : Nat → Nat} {n : Nat} (h : TBl g lt n) (hF : ufr 37 g g1) : TBl g1 lt n := h.of fun a _ _ => funext fun b => hF a b (by omega) (by omega)
theorem TBl.s {g g1 : gG} {lt : Nat → Nat} {k : Nat} (h : TBl g lt k) (hF : sfr k g g1) (hn : g1 45 k = nI (lt (pos lt k)) ∧ g1 46 k = nI (pos lt k) ∧ g1 47 (2 * k) = nI (tv1 lt (pos lt k)) ∧ (¬ lt (pos lt k) = 99 → ¬ lt (pos lt k) = 100 → ¬ lt (pos lt k) = 111 → g1 47 (2 * k + 1) = nI (tv2 lt (pos lt k)))) : TBl g1 lt (k + 1) := fun j hj => by
  by_cases e : j = k
  · subst e; exact hn
  · rw [hF 45 j (by omega) (by omega) (by omega), hF 46 j (by omega) (by omega) (by omega), hF 47 (2 * j) (by omega) (by omega) (by omega), hF 47 (2 * j + 1) (by omega) (by omega) (by omega)]
    exact h j (by omega)
theorem TBl.u35 {g : gG} {lt : Nat → Nat} {n j : Nat} {x : Int32} (h : TBl g lt n) : TBl (gup g 35 j x) lt n := h.of fun a _ _ => gup_ne (by omega)
theorem stA (g : gG) (k : Nat) (b x y : Int32) : let gA := gup (gup (gup g 45 k b) 46 k x) 35 17 y
    (∀ u v, ¬ ((u = 45 ∨ u = 46) ∧ v = k) → ¬ (u = 35 ∧ v = 17) → gA u v = g u v) ∧ gA 45 k = b ∧ gA 46 k = x ∧ gA 35 17 = y := by
  refine ⟨fun u v h1 h2 => ?_, ?_, ?_, gup_s⟩
  · rw [gup_o h2, gup_o (by omega), gup_o (by omega)]
  · rw [gup_o (by omega), gup_o (by omega), gup_s]
  · rw [gup_o (by omega), gup_s]
theorem inB_d {x n : Nat} (hx : x < 2147483648) (hn : n < 2147483648) : inB (nI x) n = decide (x < n) := by
  unfold inB
  congr 1
  apply propext
  constructor
  · intro h
    exact Nat.lt_of_not_le fun q => h.2 (nI_le q hx)
  · intro h
    exact ⟨nI_pos hx, nI_ge h hn⟩
theorem isIn_d {n : Nat} (hn : n < 2147483648) : isInB (nI n) (nI 1) (nI 60) = decide (1 ≤ n ∧ n ≤ 60) := by
  unfold isInB
  congr 1
  apply propext
  rw [nI_ltI hn (by decide), nI_ltI (by decide) hn]
  omega
theorem tv1_s {lt : Nat → Nat} {p : Nat} (e : lt p = 115) : tv1 lt p = kdx (lt (p + 1)) := if_pos e
theorem tv1_n {lt : Nat → Nat} {p : Nat} (h : ¬ lt p = 115) (h2 : lt p = 99 ∨ lt p = 100) : tv1 lt p = nu lt (p + 1) := by rw [tv1, if_neg h, if_pos h2]
theorem tv1_d {lt : Nat → Nat} {p : Nat} (h : ¬ lt p = 115) (h2 : ¬ lt p = 99) (h3 : ¬ lt p = 100) : tv1 lt p = dg lt (p + 1) := by rw [tv1, if_neg h, if_neg (by omega)]
theorem tv2_n {lt : Nat → Nat} {p : Nat} (h : ¬ lt p = 102) : tv2 lt p = dg lt (p + 2) := if_neg h
theorem tv2_f {lt : Nat → Nat} {p : Nat} (e : lt p = 102) : tv2 lt p = nu lt (p + 2) := if_pos e
