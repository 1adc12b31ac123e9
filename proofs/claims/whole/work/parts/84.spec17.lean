/-! ===== the least set ===== -/
def cntP (P : Nat → Prop) [DecidablePred P] (n : Nat) : Nat := gfold (fun i a => if P i then a + 1 else a) n 0 0
theorem cntP_s (P : Nat → Prop) [DecidablePred P] (n : Nat) : cntP P (n + 1) = if P n then cntP P n + 1 else cntP P n := by
  have := gfold_succ (fun i a => if P i then a + 1 else a) n 0 0
  rw [Nat.zero_add] at this
  exact this
theorem cntP_le {P Q : Nat → Prop} [DecidablePred P] [DecidablePred Q] : ∀ n, (∀ i, i < n → P i → Q i) → cntP P n ≤ cntP Q n
  | 0, _ => Nat.le_refl _
  | n + 1, h => by
    have h1 := cntP_le n (fun i hi => h i (by omega))
    rw [cntP_s, cntP_s]
    by_cases p : P n
    · rw [if_pos p, if_pos (h n (by omega) p)]; omega
    · rw [if_neg p]; split <;> omega
theorem cntP_eq {P Q : Nat → Prop} [DecidablePred P] [DecidablePred Q] : ∀ n, (∀ i, i < n → P i → Q i) → (cntP P n = cntP Q n ↔ ∀ i, i < n → Q i → P i)
  | 0, _ => ⟨fun _ i hi => by omega, fun _ => rfl⟩
  | n + 1, h => by
    have h1 := cntP_le n (fun i hi => h i (by omega))
    have h2 := cntP_eq n (fun i hi => h i (by omega))
    rw [cntP_s, cntP_s]
    by_cases p : P n
    · rw [if_pos p, if_pos (h n (by omega) p)]
      refine ⟨fun e i hi q => ?_, fun e => ?_⟩
      · by_cases z : i = n
        · rw [z]; exact p
        · exact h2.mp (by omega) i (by omega) q
      · rw [h2.mpr (fun i hi => e i (by omega))]
    · rw [if_neg p]
      by_cases q : Q n
      · rw [if_pos q]
        exact ⟨fun e => by omega, fun e => absurd (e n (by omega) q) p⟩
      · rw [if_neg q]
        refine ⟨fun e i hi w => ?_, fun e => h2.mpr (fun i hi => e i (by omega))⟩
        by_cases z : i = n
        · subst z; exact absurd w q
        · exact h2.mp e i (by omega) w
theorem bt_tb (m i : Nat) : bt m i = m.testBit i := by rw [bt, Nat.testBit_eq_decide_div_mod_eq]
def mskF (P : Nat → Bool) (i a : Nat) : Nat := if P i = true then a ||| 1 <<< i else a
theorem msk_tb (P : Nat → Bool) : ∀ n s, (gfold (mskF P) n 0 0).testBit s = (decide (s < n) && P s)
  | 0, s => by simp [gfold]
  | n + 1, s => by
    rw [gfold_succ, Nat.zero_add]
    have h := msk_tb P n s
    unfold mskF
    by_cases p : P n = true
    · rw [if_pos p, Nat.testBit_or, Nat.one_shiftLeft, Nat.testBit_two_pow]
      change (gfold (mskF P) n 0 0).testBit s = _ at h
      change ((gfold (mskF P) n 0 0).testBit s || _) = _
      rw [h]
      by_cases e : n = s
      · subst e; simp [p]
      · rw [decide_eq_false e, Bool.or_false]
        congr 1
        exact decide_eq_decide.mpr (by omega)
    · rw [if_neg p]
      change (gfold (mskF P) n 0 0).testBit s = _
      rw [h]
      by_cases e : s = n
      · subst e; simp [p]
      · congr 1
        exact decide_eq_decide.mpr (by omega)
theorem msk_lt (P : Nat → Bool) {n : Nat} (hn : n ≤ 5) : gfold (mskF P) n 0 0 < 32 := by
  refine gfold_inv (I := fun a => a < 32) n 0 0 (by decide) (fun j a _ hj ha => ?_)
  show mskF P j a < 32
  unfold mskF
  split
  · exact or_lt j (by omega) a ha
  · exact ha
theorem fwV_m (c : gCt) (n : Nat) : fwV c n = gfold (mskF (fwB c n)) (c 7 1) 0 0 := rfl
theorem drO_m (c : gCt) : drO c = gfold (mskF (fun i => !(c 6 i == 0))) (c 7 1) 0 0 := by
  unfold drO
  congr 1
  funext i a
  unfold mskF
  by_cases h : c 6 i = 0 <;> simp [h]
theorem sub_bt : ∀ F, F < 32 → ∀ m, m < 32 → (F &&& m = F ↔ ∀ i, i < 5 → bt F i = true → bt m i = true) := by decide +kernel
theorem lv5 {i : Nat} {d : gCt} : d 5 i ≤ lvD i d 5 i := by
  unfold lvD
  by_cases z : d 6 i = 0
  · exact Nat.le_of_eq (live_z (c := cup d 7 3 (d 7 3 + 1)) (i := i) z).2.2.1.symm
  · rw [(live_w (c := cup d 7 3 (d 7 3 + 1)) (i := i) z).2.2.1]
    split
    · show d 5 i ≤ d 5 i + 1; omega
    · exact Nat.le_refl _
theorem alone5 {i : Nat} {d : gCt} : ∀ n, d 5 i ≤ alone i n d 5 i
  | 0 => Nat.le_refl _
  | n + 1 => Nat.le_trans (alone5 n) lv5
def bst (F D m b : Nat) (bits : Nat → Nat) : Nat := if m &&& D = m ∧ bits m < bits b ∧ F &&& m = F then m else b
def bc (m : Nat) : Nat := m % 2 + m / 2 % 2 + m / 4 % 2 + m / 8 % 2 + m / 16 % 2
theorem bst_all : ∀ D, D < 32 → ∀ F, F < 32 → F &&& D = F → gfold (fun m b => bst F D m b bc) D 0 D = F := by decide +kernel
theorem bits_bc : ∀ m, m < 32 → bitsI (nI m) = nI (bc m) := by decide +kernel
theorem cl_bc : ∀ D, D < 32 → ∀ m, m < 32 → (nI m &&& (nI D ^^^ -1) = 0 ↔ m &&& D = m) := by decide +kernel
theorem bc_le (m : Nat) : bc m ≤ 5 := by unfold bc; omega
theorem pby_c {c : gCt} (ho : gok c) {S n : Nat} (hn : c 7 3 + n ≤ 2000) : pby c S n = cntP (fun i => (if bt S i = true then daysC n c 5 i else c 5 i) = 6) (c 7 1) := by
  unfold pby cntP
  have hg := (wrn_ok ho S (c 7 1)).2.2.2
  suffices h : ∀ m i a, i + m = c 7 1 → gfold (fun i a => if daysC n (wrn c S (c 7 1)) 5 i = 6 then a + 1 else a) m i a = gfold (fun i a => if (if bt S i = true then daysC n c 5 i else c 5 i) = 6 then a + 1 else a) m i a from h _ 0 0 (by omega)
  intro m
  induction m with
  | zero => intro i a _; rfl
  | succ m ih =>
    intro i a hi
    rw [gfold_st, gfold_st, said_wrn ho (by omega) hn hg]
    exact ih (i + 1) _ (by omega)
theorem pby_eq {c : gCt} (ho : gok c) {S n : Nat} (hn : c 7 3 + n ≤ 2000) (h5 : c 7 1 ≤ 5) (hS : S < 32) (hSD : S &&& drO c = S) : pby c S n = pby c (drO c) n ↔ fwV c n &&& S = fwV c n := by
  have hD : ∀ i, i < c 7 1 → (bt (drO c) i = true ↔ ¬ c 6 i = 0) := fun i hi => by
    rw [bt_tb, drO_m, msk_tb, decide_eq_true hi]; simp
  have hF : ∀ i, i < c 7 1 → bt (fwV c n) i = fwB c n i := fun i hi => by rw [bt_tb, fwV_m, msk_tb, decide_eq_true hi, Bool.true_and]
  have hDl : drO c < 32 := by rw [drO_m]; exact msk_lt _ h5
  have hFl : fwV c n < 32 := by rw [fwV_m]; exact msk_lt _ h5
  have hsub := (sub_bt S hS (drO c) hDl).mp hSD
  have hag : ∀ i, i < c 7 1 → agr i (daysC n c) (alone i n c) := fun i hi => agr_days agr_rf ho hi n hn
  have mono : ∀ i, i < c 7 1 → c 5 i ≤ daysC n c 5 i := fun i hi => by rw [(hag i hi).2.1.2.2.1]; exact alone5 n
  have und : ∀ i, i < c 7 1 → c 6 i = 0 → daysC n c 5 i = c 5 i := fun i hi z => by rw [(hag i hi).2.1.2.2.1]; exact (alone_z z n).2
  have le6 : ∀ i, i < c 7 1 → daysC n c 5 i ≤ 6 := fun i hi => by
    have hd := daysC_ok ho n hn
    exact (hd.2.2.2.2.2.2 i (by rw [hd.2.1]; exact hi)).2.2.1
  rw [pby_c ho hn, pby_c ho hn, cntP_eq (c 7 1) (fun i hi p => ?_), sub_bt _ hFl _ hS]
  · refine ⟨fun h i hi hb => ?_, fun h i hi q => ?_⟩
    · by_cases hc : i < c 7 1
      · rw [hF i hc] at hb
        unfold fwB at hb
        rw [Bool.and_eq_true, decide_eq_true_eq, decide_eq_true_eq] at hb
        have h6 := le6 i hc
        have q := h i hc (by
          split
          · omega
          · rename_i nb
            exfalso
            have z : c 6 i = 0 := by
              by_cases z : c 6 i = 0
              · exact z
              · exact absurd ((hD i hc).mpr z) nb
            have := und i hc z
            omega)
        by_cases b : bt S i = true
        · exact b
        · rw [if_neg b] at q; omega
      · rw [bt_tb, fwV_m, msk_tb, decide_eq_false hc, Bool.false_and] at hb; cases hb
    · by_cases b : bt S i = true
      · rw [if_pos b]
        have hm := mono i hi
        have h6 := le6 i hi
        split at q
        · exact q
        · omega
      · rw [if_neg b]
        have hm := mono i hi
        have h6 := le6 i hi
        have nf : ¬ fwB c n i = true := fun z => b (h i (by omega) (by rw [hF i hi]; exact z))
        unfold fwB at nf
        rw [Bool.and_eq_true, decide_eq_true_eq, decide_eq_true_eq] at nf
        split at q <;> omega
  · have hm := mono i hi
    have h6 := le6 i hi
    by_cases b : bt S i = true
    · rw [if_pos b] at p
      rw [if_pos (hsub i (by omega) b)]; exact p
    · rw [if_neg b] at p
      split <;> omega
theorem fw_sub {c : gCt} (ho : gok c) {n : Nat} (hn : c 7 3 + n ≤ 2000) (h5 : c 7 1 ≤ 5) : fwV c n &&& drO c = fwV c n := (pby_eq ho hn h5 (by rw [drO_m]; exact msk_lt _ h5) (Nat.and_self _)).mp rfl
