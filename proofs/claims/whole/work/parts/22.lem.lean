theorem cup_ne {c : gCt} {k i v a b : Nat} (h : ¬ (a = k ∧ b = i)) : cup c k i v a b = c a b := if_neg h
theorem cup_same {c : gCt} {k i v : Nat} : cup c k i v k i = v := if_pos ⟨rfl, rfl⟩
theorem cup_id (c : gCt) (k i : Nat) : cup c k i (c k i) = c := by
  funext a b
  unfold cup
  split
  · next h => rw [h.1, h.2]
  · rfl
theorem cup_twice (c : gCt) (k i v w : Nat) : cup (cup c k i v) k i w = cup c k i w := by
  funext a b
  unfold cup
  split <;> simp_all
theorem gok_0 {c : gCt} (h : gok c) {i v : Nat} (hv : v < 6) : gok (cup c 0 i v) := by
  obtain ⟨h1, h2, h3, h4⟩ := h
  refine ⟨by simpa [cup] using h1, by simpa [cup] using h2, fun j hj => ?_, fun j hj => ?_⟩
  · have := h3 j (by simpa [cup] using hj)
    by_cases e : j = i <;> simp [cup, e] <;> (try subst e) <;> omega
  · have := h4 j (by simpa [cup] using hj)
    simp [cup]; omega
theorem gok_1 {c : gCt} (h : gok c) {i v : Nat} (hv : v ≤ 9) : gok (cup c 1 i v) := by
  obtain ⟨h1, h2, h3, h4⟩ := h
  refine ⟨by simpa [cup] using h1, by simpa [cup] using h2, fun j hj => ?_, fun j hj => ?_⟩
  · have := h3 j (by simpa [cup] using hj)
    by_cases e : j = i <;> simp [cup, e] <;> (try subst e) <;> omega
  · have := h4 j (by simpa [cup] using hj)
    simp [cup]; omega
theorem gok_2 {c : gCt} (h : gok c) {i v : Nat} (hv : v ≤ 9) : gok (cup c 2 i v) := by
  obtain ⟨h1, h2, h3, h4⟩ := h
  refine ⟨by simpa [cup] using h1, by simpa [cup] using h2, fun j hj => ?_, fun j hj => ?_⟩
  · have := h3 j (by simpa [cup] using hj)
    by_cases e : j = i <;> simp [cup, e] <;> (try subst e) <;> omega
  · have := h4 j (by simpa [cup] using hj)
    simp [cup]; omega
theorem gok_3 {c : gCt} (h : gok c) {i v : Nat} (hv : v ≤ 20) : gok (cup c 3 i v) := by
  obtain ⟨h1, h2, h3, h4⟩ := h
  refine ⟨by simpa [cup] using h1, by simpa [cup] using h2, fun j hj => ?_, fun j hj => ?_⟩
  · have := h3 j (by simpa [cup] using hj)
    simp [cup]; omega
  · have := h4 j (by simpa [cup] using hj)
    by_cases e : j = i <;> simp [cup, e] <;> (try subst e) <;> omega
theorem gok_4 {c : gCt} (h : gok c) {i v : Nat} (hv : v ≤ 20) : gok (cup c 4 i v) := by
  obtain ⟨h1, h2, h3, h4⟩ := h
  refine ⟨by simpa [cup] using h1, by simpa [cup] using h2, fun j hj => ?_, fun j hj => ?_⟩
  · have := h3 j (by simpa [cup] using hj)
    simp [cup]; omega
  · have := h4 j (by simpa [cup] using hj)
    by_cases e : j = i <;> simp [cup, e] <;> (try subst e) <;> omega
theorem gok_5 {c : gCt} (h : gok c) {i v : Nat} (hv : v ≤ 6) : gok (cup c 5 i v) := by
  obtain ⟨h1, h2, h3, h4⟩ := h
  refine ⟨by simpa [cup] using h1, by simpa [cup] using h2, fun j hj => ?_, fun j hj => ?_⟩
  · have := h3 j (by simpa [cup] using hj)
    simp [cup]; omega
  · have := h4 j (by simpa [cup] using hj)
    by_cases e : j = i <;> simp [cup, e] <;> (try subst e) <;> omega
theorem gok_6 {c : gCt} (h : gok c) {i v : Nat} (hv : v ≤ c 7 0) : gok (cup c 6 i v) := by
  obtain ⟨h1, h2, h3, h4⟩ := h
  refine ⟨by simpa [cup] using h1, by simpa [cup] using h2, fun j hj => ?_, fun j hj => ?_⟩
  · have := h3 j (by simpa [cup] using hj)
    simp [cup]; omega
  · have := h4 j (by simpa [cup] using hj)
    by_cases e : j = i <;> simp [cup, e] <;> (try subst e) <;> omega
theorem gok_72 {c : gCt} (h : gok c) {v : Nat} (hv : v ≤ 9999) : gok (cup c 7 2 v) := by
  obtain ⟨h1, h2, h3, h4⟩ := h
  refine ⟨by simpa [cup] using hv, by simpa [cup] using h2, fun j hj => ?_, fun j hj => ?_⟩
  · have := h3 j (by simpa [cup] using hj)
    simp [cup]; omega
  · have := h4 j (by simpa [cup] using hj)
    simp [cup]; omega
theorem gok_73 {c : gCt} (h : gok c) {v : Nat} (hv : v ≤ 2000) : gok (cup c 7 3 v) := by
  obtain ⟨h1, h2, h3, h4⟩ := h
  refine ⟨by simpa [cup] using h1, by simpa [cup] using hv, fun j hj => ?_, fun j hj => ?_⟩
  · have := h3 j (by simpa [cup] using hj)
    simp [cup]; omega
  · have := h4 j (by simpa [cup] using hj)
    simp [cup]; omega
/-! a property of the state that each step of a fold keeps -/
theorem gfold_inv {σ : Type} {F : Nat → σ → σ} {I : σ → Prop} : ∀ (n i : Nat) (s : σ), I s → (∀ j s, i ≤ j → j < i + n → I s → I (F j s)) → I (gfold F n i s)
  | 0, _, _, h, _ => h
  | n + 1, i, s, h, hs => gfold_inv n (i + 1) (F i s) (hs i s (by omega) (by omega) h) (fun j s h1 h2 => hs j s (by omega) (by omega))
theorem gfold_succ {σ : Type} (F : Nat → σ → σ) : ∀ (n i : Nat) (s : σ), gfold F (n + 1) i s = F (i + n) (gfold F n i s)
  | 0, _, _ => rfl
  | n + 1, i, s => by
    show gfold F (n + 1) (i + 1) (F i s) = F (i + (n + 1)) (gfold F n (i + 1) (F i s))
    rw [gfold_succ F n (i + 1) (F i s), show i + 1 + n = i + (n + 1) by omega]
theorem gfold_add {σ : Type} (F : Nat → σ → σ) (n m : Nat) : ∀ (i : Nat) (s : σ), gfold F (n + m) i s = gfold F m (i + n) (gfold F n i s) := by
  induction n with
  | zero => intro i s; simp [gfold]
  | succ n ih =>
    intro i s
    rw [show n + 1 + m = (n + m) + 1 by omega]
    show gfold F (n + m) (i + 1) (F i s) = gfold F m (i + (n + 1)) (gfold F n (i + 1) (F i s))
    rw [ih, show i + 1 + n = i + (n + 1) by omega]
theorem covN_le {k f : Nat} (hf : f ≤ 9) (r : Nat) : covN k f r ≤ 31 := by
  unfold covN
  repeat' split
  all_goals omega
theorem chaN_le {k r : Nat} (hr : r ≤ 9) (d : Nat) : chaN k r d ≤ 6 := by
  unfold chaN
  repeat' split
  all_goals omega
theorem priN_le (k : Nat) : priN k ≤ 6 := by
  unfold priN
  repeat' split
  all_goals omega
theorem covOf_le {c : gCt} (h : gok c) {i : Nat} (hi : i < c 7 1) : covOf c i ≤ 31 := by
  unfold covOf
  split
  · omega
  · next h0 => exact covN_le (h.2.2.1 _ (by have := (h.2.2.2 i hi).2.2.2; omega)).2.1 _
theorem liveQ_7 (c : gCt) (i : Nat) : liveQ c i 7 0 = c 7 0 ∧ liveQ c i 7 1 = c 7 1 ∧ liveQ c i 7 3 = c 7 3 := by
  unfold liveQ liveP
  split <;> simp [cup]
theorem live_7 (c : gCt) (i : Nat) : live c i 7 0 = c 7 0 ∧ live c i 7 1 = c 7 1 ∧ live c i 7 3 = c 7 3 := by
  have h := liveQ_7 c i
  unfold live
  split
  · simp [cup]
  · split <;> simp [cup, h]
theorem liveQ_gok {c : gCt} (h : gok c) {i : Nat} (hi : i < c 7 1) : gok (liveQ c i) := by
  have h4 := h.2.2.2 i hi
  have h2 : gok (liveP c i) := gok_72 h (cap_le _ _)
  unfold liveQ
  split
  · next hc =>
    have h5 : c 5 i < 6 := by
      unfold canB at hc
      exact (of_decide_eq_true hc).1
    exact gok_3 (gok_5 h2 (show c 5 i + 1 ≤ 6 by omega)) (show c 3 i - 1 ≤ 20 by omega)
  · exact gok_3 h2 (cap_le _ _)
theorem live_gok {c : gCt} (h : gok c) {i : Nat} (hi : i < c 7 1) : gok (live c i) := by
  have h4 := h.2.2.2 i hi
  have hq := liveQ_gok h hi
  have hs : liveS c i ≤ 20 := cap_le _ _
  unfold live
  split
  · exact gok_4 h (by omega)
  · split
    · exact gok_6 (gok_4 hq hs) (Nat.zero_le _)
    · exact gok_4 hq hs
theorem rstF_7 (c : gCt) (s : Nat) : rstF s c 7 0 = c 7 0 ∧ rstF s c 7 1 = c 7 1 ∧ rstF s c 7 3 = c 7 3 := by
  unfold rstF
  split <;> simp [cup]
theorem rstF_gok {c : gCt} (h : gok c) (s : Nat) : gok (rstF s c) := by
  unfold rstF
  split
  · exact gok_2 h (cap_le _ _)
  · exact h
/-- a city of the same size, in range, on the same day -/
def gsame (c c1 : gCt) : Prop := c1 7 0 = c 7 0 ∧ c1 7 1 = c 7 1 ∧ c1 7 3 = c 7 3 ∧ gok c1
theorem lives_same {c : gCt} (h : gok c) (n i : Nat) (hn : i + n ≤ c 7 1) : gsame c (gfold (fun i c => live c i) n i c) := by
  refine gfold_inv (I := fun x => gsame c x) n i c ⟨rfl, rfl, rfl, h⟩ (fun j s h1 h2 hs => ?_)
  obtain ⟨a, b, d, e⟩ := hs
  obtain ⟨l1, l2, l3⟩ := live_7 s j
  exact ⟨l1.trans a, l2.trans b, l3.trans d, live_gok e (by omega)⟩
theorem rsts_same {c : gCt} (h : gok c) (n i : Nat) : gsame c (gfold rstF n i c) := by
  refine gfold_inv (I := fun x => gsame c x) n i c ⟨rfl, rfl, rfl, h⟩ (fun j s h1 h2 hs => ?_)
  obtain ⟨a, b, d, e⟩ := hs
  obtain ⟨l1, l2, l3⟩ := rstF_7 s j
  exact ⟨l1.trans a, l2.trans b, l3.trans d, rstF_gok e j⟩
theorem dayC_ok {c : gCt} (h : gok c) (hd : c 7 3 + 1 ≤ 2000) : dayC c 7 0 = c 7 0 ∧ dayC c 7 1 = c 7 1 ∧ dayC c 7 3 = c 7 3 + 1 ∧ gok (dayC c) := by
  have h1 : gok (cup c 7 3 (c 7 3 + 1)) := gok_73 h hd
  obtain ⟨a, b, d, e⟩ := lives_same h1 (c 7 1) 0 (by simp [cup])
  have a' : gfold (fun i c => live c i) (c 7 1) 0 (cup c 7 3 (c 7 3 + 1)) 7 0 = c 7 0 := a.trans (by simp [cup])
  have b' : gfold (fun i c => live c i) (c 7 1) 0 (cup c 7 3 (c 7 3 + 1)) 7 1 = c 7 1 := b.trans (by simp [cup])
  have d' : gfold (fun i c => live c i) (c 7 1) 0 (cup c 7 3 (c 7 3 + 1)) 7 3 = c 7 3 + 1 := d.trans (by simp [cup])
  unfold dayC
  dsimp only
  split
  · unfold rstU
    obtain ⟨p, q, r, s⟩ := rsts_same e (gfold (fun i c => live c i) (c 7 1) 0 (cup c 7 3 (c 7 3 + 1)) 7 0) 0
    exact ⟨p.trans a', q.trans b', r.trans d', s⟩
  · exact ⟨a', b', d', e⟩
theorem daysC_succ (n : Nat) (c : gCt) : daysC (n + 1) c = dayC (daysC n c) := by
  unfold daysC
  rw [gfold_succ]
theorem daysC_ok {c : gCt} (h : gok c) : ∀ n, c 7 3 + n ≤ 2000 → daysC n c 7 0 = c 7 0 ∧ daysC n c 7 1 = c 7 1 ∧ daysC n c 7 3 = c 7 3 + n ∧ gok (daysC n c)
  | 0, _ => ⟨rfl, rfl, rfl, h⟩
  | n + 1, hn => by
    obtain ⟨a, b, d, e⟩ := daysC_ok h n (by omega)
    rw [daysC_succ]
    obtain ⟨p, q, r, s⟩ := dayC_ok e (by omega)
    exact ⟨p.trans a, q.trans b, by omega, s⟩
theorem put_7 (c : gCt) (i s : Nat) : put c i s 7 0 = c 7 0 ∧ put c i s 7 1 = c 7 1 ∧ put c i s 7 2 = c 7 2 ∧ put c i s 7 3 = c 7 3 := by
  unfold put
  split <;> simp [cup]
theorem put_gok {c : gCt} (h : gok c) {i s : Nat} (hs : s < c 7 0) : gok (put c i s) := by
  unfold put
  split
  · exact gok_6 (gok_6 h (Nat.zero_le _)) (by simp [cup]; omega)
  · exact gok_6 h (by omega)
theorem wr_lt {c : gCt} {s k : Nat} (h : wr c s = some k) : k < c 7 1 ∧ c 6 k = s + 1 := by
  have := gfind_some h
  exact ⟨by omega, by simpa using this.2.2⟩
/-! ===== numbers of the code ===== -/
theorem covL : ∀ k, k < 6 → ∀ f, f < 10 → ∀ r, r < 10 → (if 0 ≤ (if 0 ≤ nI f + nI 4 - nI r then nI f + nI 4 - nI r else nI 0) * gtab 101 k / nI 2 + gtab 102 k then (if 0 ≤ nI f + nI 4 - nI r then nI f + nI 4 - nI r else nI 0) * gtab 101 k / nI 2 + gtab 102 k else nI 0) = nI (covN k f r) := by decide +kernel
theorem tabE {q k : Nat} (hk : k < 6) : vp_in (nI k) 6 ∧ gtab q (nI k).toNatClampNeg = gtab q k := ⟨vp_in_nI hk (by decide), by rw [nI_clamp (by omega)]⟩
theorem tabP {k : Nat} (hk : k < 6) : vp_in (nI k) 6 ∧ gtab 100 (nI k).toNatClampNeg = nI (priN k) := by
  refine ⟨vp_in_nI hk (by decide), ?_⟩
  rw [nI_clamp (by omega)]
  exact (show ∀ k, k < 6 → gtab 100 k = nI (priN k) by decide +kernel) k hk
theorem chaL : ∀ k, k < 6 → (k = 4 → gtab 103 k = nI 3) ∧ (k = 5 → gtab 103 k = nI 1) ∧ (¬ k = 4 → ¬ k = 5 → ∀ r, r < 10 → ∀ d, d < 3 → gtab 103 k = nI (chaN k r d)) := by decide +kernel
def neI (c : gCt) (i : Nat) : Int32 := nI 2 * nI (c 5 i) + nI 2 - nI 6
theorem canB_lt {c : gCt} {i cov : Nat} (h5 : c 5 i < 6) (h3 : c 3 i ≤ 20) (h4 : c 4 i ≤ 20) (hc : cov ≤ 31) : brI c i cov < neI c i ↔ canB c i cov = false := by
  unfold brI neI canB
  rw [nI_z, nI_z, nI_z, nI_z, nI_z, nI_z, zI_add, zI_sub, zI_sub, zI_mul, zI_add, zI_sub, zI_lt (by omega) (by omega)]
  simp
  omega
def lkN (c : gCt) (i : Nat) : Nat := if 6 ≤ c 5 i then 0 else 2 * c 5 i + c 3 i + c 4 i / 3 - (covOf c i + c 5 i + 4)
theorem lkN_eq {c : gCt} {i : Nat} (h5 : c 5 i < 6) (h3 : c 3 i ≤ 20) (h4 : c 4 i ≤ 20) (hc : covOf c i ≤ 31) : (if neI c i - brI c i (covOf c i) < nI 0 then nI 0 else neI c i - brI c i (covOf c i)) = nI (lkN c i) := by
  have e : neI c i - brI c i (covOf c i) = zI (2 * (c 5 i : Int) + 2 - 6 - ((covOf c i : Int) + c 5 i - c 3 i - (c 4 i / 3 : Nat))) := by
    unfold brI neI
    rw [nI_z, nI_z, nI_z, nI_z, nI_z, nI_z, zI_add, zI_sub, zI_sub, zI_mul, zI_add, zI_sub, zI_sub]
    rfl
  rw [e, nI_z 0]
  have hl : lkN c i = 2 * c 5 i + c 3 i + c 4 i / 3 - (covOf c i + c 5 i + 4) := by unfold lkN; exact if_neg (by omega)
  rw [hl]
  split
  · next q =>
    have q := (zI_lt (by omega) (by omega)).mp q
    rw [show 2 * c 5 i + c 3 i + c 4 i / 3 - (covOf c i + c 5 i + 4) = 0 by omega]
    rfl
  · next q =>
    have q : ¬ (2 * (c 5 i : Int) + 2 - 6 - ((covOf c i : Int) + c 5 i - c 3 i - (c 4 i / 3 : Nat)) < (0 : Nat)) := fun z => q ((zI_lt (by omega) (by omega)).mpr z)
    rw [nI_z]
    congr 1
    omega
theorem oI_none {o : Option Nat} (h : ∀ k, o = some k → k < 2147483648) : oI o = -9 ↔ o = none := by
  cases o with
  | none => simp [oI]
  | some k =>
    have hk := h k rfl
    simp only [oI]
    rw [nI_z, show (-9 : Int32) = zI (-9) by decide, zI_eq (by omega) (by omega)]
    constructor
    · intro q; omega
    · intro q; cases q
theorem wr_9 {c : gCt} {s : Nat} (h : c 7 1 ≤ 5) : oI (wr c s) = -9 ↔ wr c s = none := oI_none fun k hk => by have := (wr_lt hk).1; omega
theorem canB_6 {c : gCt} {i cov : Nat} (h : canB c i cov = true) : c 5 i < 6 := by
  unfold canB at h
  exact (of_decide_eq_true h).1
theorem rainF_same {c : gCt} (h : gok c) (n i : Nat) : gsame c (gfold (fun s c => cup c 2 s (cap (c 2 s + 1) 9)) n i c) := by
  refine gfold_inv (I := fun x => gsame c x) n i c ⟨rfl, rfl, rfl, h⟩ (fun j s h1 h2 hs => ?_)
  obtain ⟨a, b, d, e⟩ := hs
  exact ⟨by simpa [cup] using a, by simpa [cup] using b, by simpa [cup] using d, gok_2 e (cap_le _ _)⟩
