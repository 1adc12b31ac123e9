def gwsR (ad : Nat → Nat) (cA : Nat → ClassId) (g : gG) : Nat → List gS → va_W
  | _, [] => []
  | k, s :: l => (ad k, gce ad cA g k s) :: gwsR ad cA g (k + 1) l
theorem gwsR_get (ad : Nat → Nat) (cA : Nat → ClassId) (g : gG) : ∀ (l : List gS) (k i : Nat), (gwsR ad cA g k l)[i]? = l[i]?.map (fun s => (ad (k + i), gce ad cA g (k + i) s))
  | [], k, i => by simp [gwsR]
  | s :: l, k, 0 => by simp [gwsR]
  | s :: l, k, i + 1 => by
    show (gwsR ad cA g (k + 1) l)[i]? = l[i]?.map (fun s => (ad (k + (i + 1)), gce ad cA g (k + (i + 1)) s))
    rw [gwsR_get ad cA g l (k + 1) i, show k + 1 + i = k + (i + 1) by omega]
theorem gws_R (ad : Nat → Nat) (cA : Nat → ClassId) (g : gG) : gws ad cA g = gwsR ad cA g 0 gshL := by
  apply List.ext_getElem?
  intro i
  rw [gwsR_get, Nat.zero_add]
  unfold gws
  rw [List.getElem?_mapIdx]
def gfl (ad : Nat → Nat) (g : gG) (k : Nat) : Nat → List (Option Nat) → List Value
  | _, [] => []
  | j, o :: l => gfo ad g k j o :: gfl ad g k (j + 1) l
theorem gfl_get (ad : Nat → Nat) (g : gG) (k : Nat) : ∀ (l : List (Option Nat)) (j i : Nat), (gfl ad g k j l)[i]? = l[i]?.map (gfo ad g k (j + i))
  | [], j, i => by simp [gfl]
  | o :: l, j, 0 => by simp [gfl]
  | o :: l, j, i + 1 => by
    show (gfl ad g k (j + 1) l)[i]? = l[i]?.map (gfo ad g k (j + (i + 1)))
    rw [gfl_get ad g k l (j + 1) i, show j + 1 + i = j + (i + 1) by omega]
theorem gce_o (ad : Nat → Nat) (cA : Nat → ClassId) (g : gG) (k ci : Nat) (fl : List (Option Nat)) : gce ad cA g k (.inl (ci, fl)) = .inr (ci, gfl ad g k 0 fl) := by
  unfold gce
  dsimp only
  congr 2
  apply List.ext_getElem?
  intro i
  rw [gfl_get, List.getElem?_mapIdx, Nat.zero_add]
theorem gsh_get {i : Nat} (h : i < 58) : ∃ s, gshL[i]? = some s := ⟨gshL[i]'h, List.getElem?_eq_getElem h⟩
def wF (cI cC cA : ClassId) (u : Nat → Nat) : va_W := [((u 0), .inr (3, [.ref (u 1), .ref (u 9), .ref (u 17), .int 0, .ref (u 25), .ref (u 27), .ref (u 30), .int 0, .ref (u 31), .ref (u 32), .ref (u 33), .ref (u 34)])), ((u 1), .inr (0, [.ref (u 2), .ref (u 3), .ref (u 4), .ref (u 5), .ref (u 6), .ref (u 7), .ref (u 8), .int 0, .int 0, .int 0, .int 0])), ((u 2), ar cI 6), ((u 3), ar cI 6), ((u 4), ar cI 6), ((u 5), ar cI 5), ((u 6), ar cI 5), ((u 7), ar cI 5), ((u 8), ar cI 5), ((u 9), .inr (0, [.ref (u 10), .ref (u 11), .ref (u 12), .ref (u 13), .ref (u 14), .ref (u 15), .ref (u 16), .int 0, .int 0, .int 0, .int 0])), ((u 10), ar cI 6), ((u 11), ar cI 6), ((u 12), ar cI 6), ((u 13), ar cI 5), ((u 14), ar cI 5), ((u 15), ar cI 5), ((u 16), ar cI 5), ((u 17), .inr (0, [.ref (u 18), .ref (u 19), .ref (u 20), .ref (u 21), .ref (u 22), .ref (u 23), .ref (u 24), .int 0, .int 0, .int 0, .int 0])), ((u 18), ar cI 6), ((u 19), ar cI 6), ((u 20), ar cI 6), ((u 21), ar cI 5), ((u 22), ar cI 5), ((u 23), ar cI 5), ((u 24), ar cI 5), ((u 25), .inr (2, [.ref (u 26), .int 0])), ((u 26), ar cC 96), ((u 27), .inr (1, [.ref (u 28), .ref (u 29)])), ((u 28), ar cI 384), ((u 29), ar cI 5), ((u 30), ar cI 16), ((u 31), ar cI 7), ((u 32), ar cI 69), ((u 33), ar cI 4), ((u 34), ar cI 4), ((u 35), .inr (4, [.ref (u 36), .ref (u 37), .ref (u 38), .ref (u 39), .ref (u 40), .ref (u 41), .ref (u 42), .ref (u 43), .int 0, .int 0, .int 0, .int 0, .ref (u 44), .ref (u 45), .ref (u 46), .ref (u 47), .int 0, .int 0, .int 0, .ref (u 48), .int 0, .int 0, .int 0, .ref (u 49), .int 0, .int 0, .int 0, .int 0, .ref (u 56), .ref (u 57), .int 0, .int 0])), ((u 36), ar cI 7), ((u 37), ar cI 6), ((u 38), ar cI 6), ((u 39), ar cI 6), ((u 40), ar cI 5), ((u 41), ar cI 5), ((u 42), ar cI 5), ((u 43), ar cI 5), ((u 44), ar cI 96), ((u 45), ar cI 48), ((u 46), ar cI 48), ((u 47), ar cI 96), ((u 48), ar cI 126), ((u 49), .inl (cA, 6, .inr (.inr (.inr (.inr fun i => if i < 6 then some (u (49 + 1 + i)) else none))))), ((u 50), ar cI 64), ((u 51), ar cI 64), ((u 52), ar cI 64), ((u 53), ar cI 64), ((u 54), ar cI 64), ((u 55), ar cI 64), ((u 56), ar cI 8), ((u 57), ar cI 16)]
set_option maxRecDepth 100000 in
set_option maxHeartbeats 4000000 in
theorem wF_P {D : va_G} {ad : Nat → Nat} {cA : Nat → ClassId} {H : Heap} (hP : va_P D vwCl (wF (cA 0) (cA 1) (cA 2) ad) H) : va_P D vwCl (gws ad cA (fun _ _ => 0)) H := by
  intro k q hq
  have hk := (gws_some hq).1
  have hcase : k = 0 ∨ k = 1 ∨ k = 2 ∨ k = 3 ∨ k = 4 ∨ k = 5 ∨ k = 6 ∨ k = 7 ∨ k = 8 ∨ k = 9 ∨ k = 10 ∨ k = 11 ∨ k = 12 ∨ k = 13 ∨ k = 14 ∨ k = 15 ∨ k = 16 ∨ k = 17 ∨ k = 18 ∨ k = 19 ∨ k = 20 ∨ k = 21 ∨ k = 22 ∨ k = 23 ∨ k = 24 ∨ k = 25 ∨ k = 26 ∨ k = 27 ∨ k = 28 ∨ k = 29 ∨ k = 30 ∨ k = 31 ∨ k = 32 ∨ k = 33 ∨ k = 34 ∨ k = 35 ∨ k = 36 ∨ k = 37 ∨ k = 38 ∨ k = 39 ∨ k = 40 ∨ k = 41 ∨ k = 42 ∨ k = 43 ∨ k = 44 ∨ k = 45 ∨ k = 46 ∨ k = 47 ∨ k = 48 ∨ k = 49 ∨ k = 50 ∨ k = 51 ∨ k = 52 ∨ k = 53 ∨ k = 54 ∨ k = 55 ∨ k = 56 ∨ k = 57 := by omega
  rcases hcase with rfl | rfl | rfl | rfl | rfl | rfl | rfl | rfl | rfl | rfl | rfl | rfl | rfl | rfl | rfl | rfl | rfl | rfl | rfl | rfl | rfl | rfl | rfl | rfl | rfl | rfl | rfl | rfl | rfl | rfl | rfl | rfl | rfl | rfl | rfl | rfl | rfl | rfl | rfl | rfl | rfl | rfl | rfl | rfl | rfl | rfl | rfl | rfl | rfl | rfl | rfl | rfl | rfl | rfl | rfl | rfl | rfl | rfl
  · rw [gws_at sh_0, gce_o] at hq; cases hq; exact hP 0 _ rfl
  · rw [gws_at sh_1, gce_o] at hq; cases hq; exact hP 1 _ rfl
  · rw [gws_at sh_2] at hq; cases hq; exact hP 2 _ rfl
  · rw [gws_at sh_3] at hq; cases hq; exact hP 3 _ rfl
  · rw [gws_at sh_4] at hq; cases hq; exact hP 4 _ rfl
  · rw [gws_at sh_5] at hq; cases hq; exact hP 5 _ rfl
  · rw [gws_at sh_6] at hq; cases hq; exact hP 6 _ rfl
  · rw [gws_at sh_7] at hq; cases hq; exact hP 7 _ rfl
  · rw [gws_at sh_8] at hq; cases hq; exact hP 8 _ rfl
  · rw [gws_at sh_9, gce_o] at hq; cases hq; exact hP 9 _ rfl
  · rw [gws_at sh_10] at hq; cases hq; exact hP 10 _ rfl
  · rw [gws_at sh_11] at hq; cases hq; exact hP 11 _ rfl
  · rw [gws_at sh_12] at hq; cases hq; exact hP 12 _ rfl
  · rw [gws_at sh_13] at hq; cases hq; exact hP 13 _ rfl
  · rw [gws_at sh_14] at hq; cases hq; exact hP 14 _ rfl
  · rw [gws_at sh_15] at hq; cases hq; exact hP 15 _ rfl
  · rw [gws_at sh_16] at hq; cases hq; exact hP 16 _ rfl
  · rw [gws_at sh_17, gce_o] at hq; cases hq; exact hP 17 _ rfl
  · rw [gws_at sh_18] at hq; cases hq; exact hP 18 _ rfl
  · rw [gws_at sh_19] at hq; cases hq; exact hP 19 _ rfl
  · rw [gws_at sh_20] at hq; cases hq; exact hP 20 _ rfl
  · rw [gws_at sh_21] at hq; cases hq; exact hP 21 _ rfl
  · rw [gws_at sh_22] at hq; cases hq; exact hP 22 _ rfl
  · rw [gws_at sh_23] at hq; cases hq; exact hP 23 _ rfl
  · rw [gws_at sh_24] at hq; cases hq; exact hP 24 _ rfl
  · rw [gws_at sh_25, gce_o] at hq; cases hq; exact hP 25 _ rfl
  · rw [gws_at sh_26] at hq; cases hq; exact hP 26 _ rfl
  · rw [gws_at sh_27, gce_o] at hq; cases hq; exact hP 27 _ rfl
  · rw [gws_at sh_28] at hq; cases hq; exact hP 28 _ rfl
  · rw [gws_at sh_29] at hq; cases hq; exact hP 29 _ rfl
  · rw [gws_at sh_30] at hq; cases hq; exact hP 30 _ rfl
  · rw [gws_at sh_31] at hq; cases hq; exact hP 31 _ rfl
  · rw [gws_at sh_32] at hq; cases hq; exact hP 32 _ rfl
  · rw [gws_at sh_33] at hq; cases hq; exact hP 33 _ rfl
  · rw [gws_at sh_34] at hq; cases hq; exact hP 34 _ rfl
  · rw [gws_at sh_35, gce_o] at hq; cases hq; exact hP 35 _ rfl
  · rw [gws_at sh_36] at hq; cases hq; exact hP 36 _ rfl
  · rw [gws_at sh_37] at hq; cases hq; exact hP 37 _ rfl
  · rw [gws_at sh_38] at hq; cases hq; exact hP 38 _ rfl
  · rw [gws_at sh_39] at hq; cases hq; exact hP 39 _ rfl
  · rw [gws_at sh_40] at hq; cases hq; exact hP 40 _ rfl
  · rw [gws_at sh_41] at hq; cases hq; exact hP 41 _ rfl
  · rw [gws_at sh_42] at hq; cases hq; exact hP 42 _ rfl
  · rw [gws_at sh_43] at hq; cases hq; exact hP 43 _ rfl
  · rw [gws_at sh_44] at hq; cases hq; exact hP 44 _ rfl
  · rw [gws_at sh_45] at hq; cases hq; exact hP 45 _ rfl
  · rw [gws_at sh_46] at hq; cases hq; exact hP 46 _ rfl
  · rw [gws_at sh_47] at hq; cases hq; exact hP 47 _ rfl
  · rw [gws_at sh_48] at hq; cases hq; exact hP 48 _ rfl
  · rw [gws_at sh_49] at hq; cases hq; exact hP 49 _ rfl
  · rw [gws_at sh_50] at hq; cases hq; exact hP 50 _ rfl
  · rw [gws_at sh_51] at hq; cases hq; exact hP 51 _ rfl
  · rw [gws_at sh_52] at hq; cases hq; exact hP 52 _ rfl
  · rw [gws_at sh_53] at hq; cases hq; exact hP 53 _ rfl
  · rw [gws_at sh_54] at hq; cases hq; exact hP 54 _ rfl
  · rw [gws_at sh_55] at hq; cases hq; exact hP 55 _ rfl
  · rw [gws_at sh_56] at hq; cases hq; exact hP 56 _ rfl
  · rw [gws_at sh_57] at hq; cases hq; exact hP 57 _ rfl
set_option maxRecDepth 100000 in
set_option maxHeartbeats 4000000 in
theorem wF_at (cI cC cA : ClassId) (ad : Nat → Nat) {k : Nat} (hk : k < 58) : ∃ e, (wF cI cC cA ad)[k]? = some (ad k, e) := by
  have hcase : k = 0 ∨ k = 1 ∨ k = 2 ∨ k = 3 ∨ k = 4 ∨ k = 5 ∨ k = 6 ∨ k = 7 ∨ k = 8 ∨ k = 9 ∨ k = 10 ∨ k = 11 ∨ k = 12 ∨ k = 13 ∨ k = 14 ∨ k = 15 ∨ k = 16 ∨ k = 17 ∨ k = 18 ∨ k = 19 ∨ k = 20 ∨ k = 21 ∨ k = 22 ∨ k = 23 ∨ k = 24 ∨ k = 25 ∨ k = 26 ∨ k = 27 ∨ k = 28 ∨ k = 29 ∨ k = 30 ∨ k = 31 ∨ k = 32 ∨ k = 33 ∨ k = 34 ∨ k = 35 ∨ k = 36 ∨ k = 37 ∨ k = 38 ∨ k = 39 ∨ k = 40 ∨ k = 41 ∨ k = 42 ∨ k = 43 ∨ k = 44 ∨ k = 45 ∨ k = 46 ∨ k = 47 ∨ k = 48 ∨ k = 49 ∨ k = 50 ∨ k = 51 ∨ k = 52 ∨ k = 53 ∨ k = 54 ∨ k = 55 ∨ k = 56 ∨ k = 57 := by omega
  rcases hcase with rfl | rfl | rfl | rfl | rfl | rfl | rfl | rfl | rfl | rfl | rfl | rfl | rfl | rfl | rfl | rfl | rfl | rfl | rfl | rfl | rfl | rfl | rfl | rfl | rfl | rfl | rfl | rfl | rfl | rfl | rfl | rfl | rfl | rfl | rfl | rfl | rfl | rfl | rfl | rfl | rfl | rfl | rfl | rfl | rfl | rfl | rfl | rfl | rfl | rfl | rfl | rfl | rfl | rfl | rfl | rfl | rfl | rfl
  all_goals exact ⟨_, rfl⟩
set_option maxRecDepth 100000 in
set_option maxHeartbeats 4000000 in
theorem gws_0 {ad : Nat → Nat} {cA : Nat → ClassId} {q0 q8 : Nat} {v3 v4 : Nat → Nat} (h0 : ad 0 = q0) (h3 : ∀ k, 1 ≤ k → k < 35 → ad k = v3 k) (h35 : ad 35 = q8) (h4 : ∀ k, k < 22 → ad (36 + k) = v4 k) : wF (cA 0) (cA 1) (cA 2) ad = wX3 (cA 0) (cA 1) q0 v3 ++ wX4 (cA 0) (cA 2) q8 v4 := by
  have er : (fun i => if i < 6 then some (v4 (14 + i)) else none) = (fun i => if i < 6 then some (ad (49 + 1 + i)) else none) := by
    funext i
    by_cases h : i < 6
    · rw [if_pos h, if_pos h, ← h4 (14 + i) (by omega), show 36 + (14 + i) = 49 + 1 + i by omega]
    · rw [if_neg h, if_neg h]
  have e1 : ad 1 = v3 1 := h3 1 (by decide) (by decide)
  have e2 : ad 2 = v3 2 := h3 2 (by decide) (by decide)
  have e3 : ad 3 = v3 3 := h3 3 (by decide) (by decide)
  have e4 : ad 4 = v3 4 := h3 4 (by decide) (by decide)
  have e5 : ad 5 = v3 5 := h3 5 (by decide) (by decide)
  have e6 : ad 6 = v3 6 := h3 6 (by decide) (by decide)
  have e7 : ad 7 = v3 7 := h3 7 (by decide) (by decide)
  have e8 : ad 8 = v3 8 := h3 8 (by decide) (by decide)
  have e9 : ad 9 = v3 9 := h3 9 (by decide) (by decide)
  have e10 : ad 10 = v3 10 := h3 10 (by decide) (by decide)
  have e11 : ad 11 = v3 11 := h3 11 (by decide) (by decide)
  have e12 : ad 12 = v3 12 := h3 12 (by decide) (by decide)
  have e13 : ad 13 = v3 13 := h3 13 (by decide) (by decide)
  have e14 : ad 14 = v3 14 := h3 14 (by decide) (by decide)
  have e15 : ad 15 = v3 15 := h3 15 (by decide) (by decide)
  have e16 : ad 16 = v3 16 := h3 16 (by decide) (by decide)
  have e17 : ad 17 = v3 17 := h3 17 (by decide) (by decide)
  have e18 : ad 18 = v3 18 := h3 18 (by decide) (by decide)
  have e19 : ad 19 = v3 19 := h3 19 (by decide) (by decide)
  have e20 : ad 20 = v3 20 := h3 20 (by decide) (by decide)
  have e21 : ad 21 = v3 21 := h3 21 (by decide) (by decide)
  have e22 : ad 22 = v3 22 := h3 22 (by decide) (by decide)
  have e23 : ad 23 = v3 23 := h3 23 (by decide) (by decide)
  have e24 : ad 24 = v3 24 := h3 24 (by decide) (by decide)
  have e25 : ad 25 = v3 25 := h3 25 (by decide) (by decide)
  have e26 : ad 26 = v3 26 := h3 26 (by decide) (by decide)
  have e27 : ad 27 = v3 27 := h3 27 (by decide) (by decide)
  have e28 : ad 28 = v3 28 := h3 28 (by decide) (by decide)
  have e29 : ad 29 = v3 29 := h3 29 (by decide) (by decide)
  have e30 : ad 30 = v3 30 := h3 30 (by decide) (by decide)
  have e31 : ad 31 = v3 31 := h3 31 (by decide) (by decide)
  have e32 : ad 32 = v3 32 := h3 32 (by decide) (by decide)
  have e33 : ad 33 = v3 33 := h3 33 (by decide) (by decide)
  have e34 : ad 34 = v3 34 := h3 34 (by decide) (by decide)
  have e36 : ad 36 = v4 0 := h4 0 (by decide)
  have e37 : ad 37 = v4 1 := h4 1 (by decide)
  have e38 : ad 38 = v4 2 := h4 2 (by decide)
  have e39 : ad 39 = v4 3 := h4 3 (by decide)
  have e40 : ad 40 = v4 4 := h4 4 (by decide)
  have e41 : ad 41 = v4 5 := h4 5 (by decide)
  have e42 : ad 42 = v4 6 := h4 6 (by decide)
  have e43 : ad 43 = v4 7 := h4 7 (by decide)
  have e44 : ad 44 = v4 8 := h4 8 (by decide)
  have e45 : ad 45 = v4 9 := h4 9 (by decide)
  have e46 : ad 46 = v4 10 := h4 10 (by decide)
  have e47 : ad 47 = v4 11 := h4 11 (by decide)
  have e48 : ad 48 = v4 12 := h4 12 (by decide)
  have e49 : ad 49 = v4 13 := h4 13 (by decide)
  have e50 : ad 50 = v4 14 := h4 14 (by decide)
  have e51 : ad 51 = v4 15 := h4 15 (by decide)
  have e52 : ad 52 = v4 16 := h4 16 (by decide)
  have e53 : ad 53 = v4 17 := h4 17 (by decide)
  have e54 : ad 54 = v4 18 := h4 18 (by decide)
  have e55 : ad 55 = v4 19 := h4 19 (by decide)
  have e56 : ad 56 = v4 20 := h4 20 (by decide)
  have e57 : ad 57 = v4 21 := h4 21 (by decide)
  unfold wF wX3 wX4
  rw [er, h0, e1, e2, e3, e4, e5, e6, e7, e8, e9, e10, e11, e12, e13, e14, e15, e16, e17, e18, e19, e20, e21, e22, e23, e24, e25, e26, e27, e28, e29, e30, e31, e32, e33, e34, h35, e36, e37, e38, e39, e40, e41, e42, e43, e44, e45, e46, e47, e48, e49, e50, e51, e52, e53, e54, e55, e56, e57]
  rfl
