/-! ===== the fewest ===== -/
/-- a city with only the suits of a set -/
def wrn (c : gCt) (S : Nat) (n : Nat) : gCt := gfold (fun i c => if bt S i = true then c else cup c 6 i 0) n 0 c
def drO (c : gCt) : Nat := gfold (fun i a => if c 6 i = 0 then a else a ||| 1 <<< i) (c 7 1) 0 0
theorem wrn_o (c : gCt) (S : Nat) : ∀ n j (x : gCt), (∀ a b, ¬ a = 6 → gfold (fun i c => if bt S i = true then c else cup c 6 i 0) n j x a b = x a b) ∧ ∀ b, gfold (fun i c => if bt S i = true then c else cup c 6 i 0) n j x 6 b = if (j ≤ b ∧ b < j + n) ∧ bt S b = false then 0 else x 6 b
  | 0, j, x => ⟨fun _ _ _ => rfl, fun b => by rw [if_neg (by omega)]; rfl⟩
  | n + 1, j, x => by
    obtain ⟨h1, h2⟩ := wrn_o c S n (j + 1) (if bt S j = true then x else cup x 6 j 0)
    refine ⟨fun a b ha => (h1 a b ha).trans ?_, fun b => (h2 b).trans ?_⟩
    · split
      · rfl
      · unfold cup; rw [if_neg (fun q => ha q.1)]
    · by_cases e : b = j
      · subst e
        rw [if_neg (by omega)]
        by_cases hb : bt S b = true
        · rw [if_pos hb, if_neg (fun q => by rw [hb] at q; cases q.2)]
        · rw [if_neg hb, if_pos ⟨by omega, by simpa using hb⟩]
          unfold cup; rw [if_pos ⟨rfl, rfl⟩]
      · have ex : (if bt S j = true then x else cup x 6 j 0) 6 b = x 6 b := by
          split
          · rfl
          · unfold cup; rw [if_neg (fun q => e q.2)]
        rw [ex]
        by_cases e2 : (j + 1 ≤ b ∧ b < j + 1 + n) ∧ bt S b = false
        · rw [if_pos e2, if_pos ⟨by omega, e2.2⟩]
        · rw [if_neg e2, if_neg (fun q => e2 ⟨by omega, q.2⟩)]
/-- days of one caller alone -/
def alone (i : Nat) : Nat → gCt → gCt
  | 0, d => d
  | n + 1, d => lvD i (alone i n d)
theorem agr_days {i : Nat} {c d : gCt} (h : agr i c d) (ho : gok c) (hi : i < c 7 1) : ∀ n, c 7 3 + n ≤ 2000 → agr i (daysC n c) (alone i n d)
  | 0, _ => h
  | n + 1, hn => by
    have hD := daysC_ok ho n (by omega)
    rw [daysC_succ]
    exact agr_day (agr_days h ho hi n (by omega)) (by rw [hD.2.1]; exact hi)
theorem alone_z {i : Nat} {d : gCt} (h : d 6 i = 0) : ∀ n, alone i n d 6 i = 0 ∧ alone i n d 5 i = d 5 i
  | 0 => ⟨h, rfl⟩
  | n + 1 => by
    obtain ⟨h1, h2⟩ := alone_z h n
    have h3 := live_z (c := cup (alone i n d) 7 3 (alone i n d 7 3 + 1)) (i := i) h1
    exact ⟨h3.2.2.2.trans h1, h3.2.2.1.trans h2⟩
theorem said_wrn {c : gCt} (ho : gok c) {S i n : Nat} (hi : i < c 7 1) (hn : c 7 3 + n ≤ 2000) (hg : gok (wrn c S (c 7 1))) : daysC n (wrn c S (c 7 1)) 5 i = if bt S i = true then daysC n c 5 i else c 5 i := by
  obtain ⟨h1, h2⟩ := wrn_o c S (c 7 1) 0 c
  change (∀ a b, ¬ a = 6 → wrn c S (c 7 1) a b = c a b) at h1
  change (∀ b, wrn c S (c 7 1) 6 b = _) at h2
  have e1 := h1 7 1 (by decide)
  have e3 := h1 7 3 (by decide)
  have ha := agr_days (agr_rf (i := i) (c := wrn c S (c 7 1))) hg (by rw [e1]; exact hi) n (by rw [e3]; exact hn)
  by_cases hb : bt S i = true
  · rw [if_pos hb]
    have e6 : wrn c S (c 7 1) 6 i = c 6 i := by rw [h2, if_neg (fun q => by rw [hb] at q; cases q.2)]
    have hag : agr i c (wrn c S (c 7 1)) := ⟨⟨(h1 7 0 (by decide)).symm, e1.symm, e3.symm⟩, ⟨(h1 3 i (by decide)).symm, (h1 4 i (by decide)).symm, (h1 5 i (by decide)).symm, e6.symm⟩, fun _ => ⟨(h1 0 _ (by decide)).symm, (h1 1 _ (by decide)).symm, (h1 2 _ (by decide)).symm⟩⟩
    have hb2 := agr_days hag ho hi n hn
    rw [ha.2.1.2.2.1, hb2.2.1.2.2.1]
  · rw [if_neg hb]
    have e6 : wrn c S (c 7 1) 6 i = 0 := by rw [h2, if_pos ⟨by omega, by simpa using hb⟩]
    rw [ha.2.1.2.2.1, (alone_z e6 n).2, h1 5 i (by decide)]
def pby (c : gCt) (S n : Nat) : Nat := gfold (fun i a => if daysC n (wrn c S (c 7 1)) 5 i = 6 then a + 1 else a) (c 7 1) 0 0
theorem wrn_s (c : gCt) (S n : Nat) : wrn c S (n + 1) = if bt S n = true then wrn c S n else cup (wrn c S n) 6 n 0 := by
  have := gfold_succ (fun i c => if bt S i = true then c else cup c 6 i 0) n 0 c
  rw [Nat.zero_add] at this
  exact this
theorem wrn_ok {c : gCt} (h : gok c) (S n : Nat) : gsame c (wrn c S n) := by
  refine gfold_inv (I := fun x => gsame c x) n 0 c ⟨rfl, rfl, rfl, h⟩ (fun j x _ _ hx => ?_)
  show gsame c (if bt S j = true then x else cup x 6 j 0)
  split
  · exact hx
  · exact ⟨hx.1, hx.2.1, hx.2.2.1, gok_6 hx.2.2.2 (Nat.zero_le _)⟩
