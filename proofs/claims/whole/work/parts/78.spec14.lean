/-! ===== a caller alone ===== -/
def agr (i : Nat) (c d : gCt) : Prop := (c 7 0 = d 7 0 ∧ c 7 1 = d 7 1 ∧ c 7 3 = d 7 3) ∧ (c 3 i = d 3 i ∧ c 4 i = d 4 i ∧ c 5 i = d 5 i ∧ c 6 i = d 6 i) ∧ (¬ c 6 i = 0 → c 0 (c 6 i - 1) = d 0 (c 6 i - 1) ∧ c 1 (c 6 i - 1) = d 1 (c 6 i - 1) ∧ c 2 (c 6 i - 1) = d 2 (c 6 i - 1))
theorem agr_rf {i : Nat} {c : gCt} : agr i c c := ⟨⟨rfl, rfl, rfl⟩, ⟨rfl, rfl, rfl, rfl⟩, fun _ => ⟨rfl, rfl, rfl⟩⟩
theorem live_o {c : gCt} {j a b : Nat} (h : a < 3 ∨ 3 ≤ a ∧ a ≤ 6 ∧ ¬ b = j ∨ a = 7 ∧ ¬ b = 2) : live c j a b = c a b := by
  unfold live liveQ liveP
  repeat' split
  all_goals (simp only [cup]; repeat rw [if_neg (by omega)])
theorem live_z {c : gCt} {i : Nat} (h : c 6 i = 0) : live c i 3 i = c 3 i ∧ live c i 4 i = c 4 i - 1 ∧ live c i 5 i = c 5 i ∧ live c i 6 i = c 6 i := by
  unfold live
  rw [if_pos h]
  simp [cup]
theorem live_w {c : gCt} {i : Nat} (h : ¬ c 6 i = 0) : live c i 3 i = (if canB c i (cvr c (c 6 i - 1)) = true then c 3 i - 1 else cap (c 3 i + 1) 20) ∧ live c i 4 i = liveS c i ∧ live c i 5 i = (if canB c i (cvr c (c 6 i - 1)) = true then c 5 i + 1 else c 5 i) ∧ live c i 6 i = (if 15 ≤ liveS c i then 0 else c 6 i) := by
  unfold live
  rw [if_neg h]
  by_cases h1 : 15 ≤ liveS c i <;> by_cases h2 : canB c i (cvr c (c 6 i - 1)) = true <;> simp [h1, h2, liveQ, liveP, cup]
theorem agr_live {i : Nat} {c d : gCt} (h : agr i c d) : agr i (live c i) (live d i) := by
  obtain ⟨⟨a1, a2, a3⟩, ⟨b3, b4, b5, b6⟩, hs⟩ := h
  have hc := live_7 c i
  have hd := live_7 d i
  refine ⟨⟨by rw [hc.1, hd.1, a1], by rw [hc.2.1, hd.2.1, a2], by rw [hc.2.2, hd.2.2, a3]⟩, ?_⟩
  by_cases z : c 6 i = 0
  · have c1 := live_z z
    have d1 := live_z (c := d) (i := i) (by rw [← b6]; exact z)
    exact ⟨⟨by rw [c1.1, d1.1, b3], by rw [c1.2.1, d1.2.1, b4], by rw [c1.2.2.1, d1.2.2.1, b5], by rw [c1.2.2.2, d1.2.2.2, b6]⟩, fun q => absurd (c1.2.2.2.trans z) q⟩
  · obtain ⟨s0, s1, s2⟩ := hs z
    have c1 := live_w z
    have d1 := live_w (c := d) (i := i) (by rw [← b6]; exact z)
    have eb : canB d i (cvr d (d 6 i - 1)) = canB c i (cvr c (c 6 i - 1)) := by unfold canB cvr; rw [← b6, ← s0, ← s1, ← s2, ← b3, ← b4, ← b5]
    have es : liveS d i = liveS c i := by unfold liveS; rw [← b6, ← s0, ← s2, ← b4, ← a3]
    rw [eb, es, ← b3, ← b5, ← b6] at d1
    refine ⟨⟨by rw [c1.1, d1.1], by rw [c1.2.1, d1.2.1], by rw [c1.2.2.1, d1.2.2.1], by rw [c1.2.2.2, d1.2.2.2]⟩, fun q => ?_⟩
    have e6 : live c i 6 i = c 6 i := by
      rw [c1.2.2.2] at q ⊢
      split
      · rename_i h1; rw [if_pos h1] at q; exact absurd rfl q
      · rfl
    rw [e6, live_o (Or.inl (by decide)), live_o (Or.inl (by decide)), live_o (Or.inl (by decide)), live_o (Or.inl (by decide)), live_o (Or.inl (by decide)), live_o (Or.inl (by decide))]
    exact ⟨s0, s1, s2⟩
theorem agr_other {i j : Nat} {c d : gCt} (h : agr i c d) (hij : ¬ i = j) : agr i (live c j) d := by
  obtain ⟨⟨a1, a2, a3⟩, ⟨b3, b4, b5, b6⟩, hs⟩ := h
  have hc := live_7 c j
  have e : ∀ a, 3 ≤ a → a ≤ 6 → live c j a i = c a i := fun a h1 h2 => live_o (Or.inr (Or.inl ⟨h1, h2, hij⟩))
  refine ⟨⟨by rw [hc.1, a1], by rw [hc.2.1, a2], by rw [hc.2.2, a3]⟩, ⟨by rw [e 3 (by decide) (by decide), b3], by rw [e 4 (by decide) (by decide), b4], by rw [e 5 (by decide) (by decide), b5], by rw [e 6 (by decide) (by decide), b6]⟩, ?_⟩
  rw [e 6 (by decide) (by decide), live_o (Or.inl (by decide)), live_o (Or.inl (by decide)), live_o (Or.inl (by decide))]
  exact hs
theorem agr_others {i : Nat} {d : gCt} : ∀ n j (c : gCt), agr i c d → (i < j ∨ j + n ≤ i) → agr i (gfold (fun i c => live c i) n j c) d
  | 0, _, _, h, _ => h
  | n + 1, j, c, h, hij => agr_others n (j + 1) (live c j) (agr_other h (by omega)) (by omega)
theorem agr_lives {i : Nat} : ∀ n j (c d : gCt), agr i c d → j ≤ i → i < j + n → agr i (gfold (fun i c => live c i) n j c) (live d i)
  | 0, _, _, _, _, h1, h2 => by omega
  | n + 1, j, c, d, h, h1, h2 => by
    by_cases e : j = i
    · subst e
      exact agr_others n (j + 1) (live c j) (agr_live h) (by omega)
    · exact agr_lives n (j + 1) (live c j) d (agr_other h (by omega)) (by omega) (by omega)
theorem rst_inv (c : gCt) : (∀ a b, ¬ a = 2 → rstU c a b = c a b) ∧ ∀ s, ¬ wr c s = none → rstU c 2 s = c 2 s := by
  refine gfold_inv (I := fun x => (∀ a b, ¬ a = 2 → x a b = c a b) ∧ ∀ s, ¬ wr c s = none → x 2 s = c 2 s) (c 7 0) 0 c ⟨fun _ _ _ => rfl, fun _ _ => rfl⟩ (fun j x _ _ hx => ?_)
  have ew : ∀ s, wr x s = wr c s := fun s => by
    unfold wr
    rw [hx.1 7 1 (by decide), show x 6 = c 6 from funext fun b => hx.1 6 b (by decide)]
  show (∀ a b, ¬ a = 2 → rstF j x a b = c a b) ∧ _
  unfold rstF
  split
  · rename_i hn
    rw [ew] at hn
    refine ⟨fun a b ha => ?_, fun s hs => ?_⟩
    · unfold cup; rw [if_neg (fun q => ha q.1)]; exact hx.1 a b ha
    · unfold cup
      rw [if_neg (fun q => hs (by rw [q.2]; exact hn))]
      exact hx.2 s hs
  · exact hx
theorem agr_rst {i : Nat} {c d : gCt} (h : agr i c d) (hi : i < c 7 1) : agr i (rstU c) d := by
  obtain ⟨h1, h2⟩ := rst_inv c
  obtain ⟨⟨a1, a2, a3⟩, ⟨b3, b4, b5, b6⟩, hs⟩ := h
  refine ⟨⟨by rw [h1 _ _ (by decide), a1], by rw [h1 _ _ (by decide), a2], by rw [h1 _ _ (by decide), a3]⟩, ⟨by rw [h1 _ _ (by decide), b3], by rw [h1 _ _ (by decide), b4], by rw [h1 _ _ (by decide), b5], by rw [h1 _ _ (by decide), b6]⟩, ?_⟩
  rw [h1 6 i (by decide)]
  intro z
  have hw : ¬ wr c (c 6 i - 1) = none := fun q => by
    have := gfind_none q i (by omega) (by omega)
    simp only [beq_eq_false_iff_ne, ne_eq] at this
    omega
  rw [h1 0 _ (by decide), h1 1 _ (by decide), h2 _ hw]
  exact hs z
theorem agr_up3 {i v : Nat} {c d : gCt} (h : agr i c d) : agr i (cup c 7 3 v) (cup d 7 3 v) := by
  obtain ⟨⟨a1, a2, a3⟩, ⟨b3, b4, b5, b6⟩, hs⟩ := h
  exact ⟨⟨a1, a2, rfl⟩, ⟨b3, b4, b5, b6⟩, hs⟩
theorem agr_day {i : Nat} {c d : gCt} (h : agr i c d) (hi : i < c 7 1) : agr i (dayC c) (lvD i d) := by
  have h0 : agr i (cup c 7 3 (c 7 3 + 1)) (cup d 7 3 (d 7 3 + 1)) := by rw [← h.1.2.2]; exact agr_up3 h
  have h1 := agr_lives (i := i) (c 7 1) 0 _ _ h0 (Nat.zero_le _) (by omega)
  have e1 : gfold (fun i c => live c i) (c 7 1) 0 (cup c 7 3 (c 7 3 + 1)) 7 1 = c 7 1 := by
    rw [h1.1.2.1]
    exact (live_7 _ i).2.1.trans h.1.2.1.symm
  unfold dayC lvD
  dsimp only
  split
  · exact agr_rst h1 (by rw [e1]; exact hi)
  · exact h1
theorem rain_at (c : gCt) : ∀ n j (x : gCt), (∀ a b, ¬ a = 2 → gfold (fun s c => cup c 2 s (cap (c 2 s + 1) 9)) n j x a b = x a b) ∧ ∀ s, gfold (fun s c => cup c 2 s (cap (c 2 s + 1) 9)) n j x 2 s = if j ≤ s ∧ s < j + n then cap (x 2 s + 1) 9 else x 2 s
  | 0, j, x => ⟨fun _ _ _ => rfl, fun s => by rw [if_neg (by omega)]; rfl⟩
  | n + 1, j, x => by
    obtain ⟨h1, h2⟩ := rain_at c n (j + 1) (cup x 2 j (cap (x 2 j + 1) 9))
    refine ⟨fun a b ha => (h1 a b ha).trans (by unfold cup; rw [if_neg (fun q => ha q.1)]), fun s => (h2 s).trans ?_⟩
    by_cases e : s = j
    · subst e
      rw [if_neg (by omega), if_pos (by omega)]
      unfold cup; rw [if_pos ⟨rfl, rfl⟩]
    · have ex : cup x 2 j (cap (x 2 j + 1) 9) 2 s = x 2 s := by unfold cup; rw [if_neg (fun q => e q.2)]
      rw [ex]
      by_cases e2 : j + 1 ≤ s ∧ s < j + 1 + n
      · rw [if_pos e2, if_pos (by omega)]
      · rw [if_neg e2, if_neg (by omega)]
theorem agr_rain {i : Nat} {c d : gCt} (h : agr i c d) : agr i (rainC c) (rainC d) := by
  obtain ⟨c1, c2⟩ := rain_at c (c 7 0) 0 c
  obtain ⟨d1, d2⟩ := rain_at d (d 7 0) 0 d
  change (∀ a b, ¬ a = 2 → rainC c a b = c a b) at c1
  change (∀ a b, ¬ a = 2 → rainC d a b = d a b) at d1
  change (∀ s, rainC c 2 s = _) at c2
  change (∀ s, rainC d 2 s = _) at d2
  obtain ⟨⟨a1, a2, a3⟩, ⟨b3, b4, b5, b6⟩, hs⟩ := h
  refine ⟨⟨by rw [c1 _ _ (by decide), d1 _ _ (by decide), a1], by rw [c1 _ _ (by decide), d1 _ _ (by decide), a2], by rw [c1 _ _ (by decide), d1 _ _ (by decide), a3]⟩, ⟨by rw [c1 _ _ (by decide), d1 _ _ (by decide), b3], by rw [c1 _ _ (by decide), d1 _ _ (by decide), b4], by rw [c1 _ _ (by decide), d1 _ _ (by decide), b5], by rw [c1 _ _ (by decide), d1 _ _ (by decide), b6]⟩, ?_⟩
  rw [c1 6 i (by decide)]
  intro z
  obtain ⟨s0, s1, s2⟩ := hs z
  rw [c1 0 _ (by decide), d1 0 _ (by decide), c1 1 _ (by decide), d1 1 _ (by decide), c2, d2, a1, s2]
  exact ⟨s0, s1, rfl⟩
theorem agr_rnR {i : Nat} {c d : gCt} (h : agr i c d) (m t : Nat) : agr i (rnR m t c) (rnR m t d) := by
  unfold rnR
  split
  · exact agr_rain h
  · exact h
