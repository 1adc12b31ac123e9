theorem gw_sub {ws : List Cond} (ps : List Nat) (hp : ws = ps.filterMap (fun i => lw_tbl[i]?)) (h : ws.all goodWord = true) : ∀ w ∈ ws, w ∈ gw := by
  intro w hw
  have h1 := List.all_eq_true.mp h w hw
  rw [hp] at hw
  obtain ⟨i, -, hi⟩ := List.mem_filterMap.mp hw
  exact gw_mem i hi h1
theorem gin0 : ∀ w ∈ u_ws RX0 TX0 11, w ∈ gw := gw_sub [125, 127, 129, 131, 133, 135, 137, 139, 141, 143, 145] (by decide +kernel) (by decide +kernel)
theorem gin1 : ∀ w ∈ u_ws RX1 TX1 2, w ∈ gw := gw_sub [172, 174] (by decide +kernel) (by decide +kernel)
theorem gin2 : ∀ w ∈ u_ws RX2 TX2 2, w ∈ gw := gw_sub [158, 160] (by decide +kernel) (by decide +kernel)
theorem gin3 : ∀ w ∈ u_ws RX3 TX3 12, w ∈ gw := gw_sub [189, 191, 193, 195, 197, 199, 201, 203, 205, 207, 209, 211] (by decide +kernel) (by decide +kernel)
theorem gin4 : ∀ w ∈ u_ws RX4 TX4 32, w ∈ gw := gw_sub [749, 751, 753, 755, 757, 759, 761, 763, 765, 767, 769, 771, 773, 775, 777, 779, 781, 783, 785, 787, 789, 791, 793, 795, 797, 799, 801, 803, 805, 807, 809, 811] (by decide +kernel) (by decide +kernel)
theorem gtyok {ci : Nat} {C : String} {T : u_T} {N : Nat} (h : vwCl[ci]? = some (C, T, N)) : ∃ ty0 : Nat → FieldType, (∀ k, k < N → parseFieldDescriptor (T k).2.2.1 = some (ty0 k)) ∧ ∀ a, a < N → ∀ b, b < N → a ≠ b → (T a).2.1 ≠ (T b).2.1 := by
  match ci, h with
  | 0, h => cases h; exact ⟨tyX0, tyX0_ok, nmX0⟩
  | 1, h => cases h; exact ⟨tyX1, tyX1_ok, nmX1⟩
  | 2, h => cases h; exact ⟨tyX2, tyX2_ok, nmX2⟩
  | 3, h => cases h; exact ⟨tyX3, tyX3_ok, nmX3⟩
  | 4, h => cases h; exact ⟨tyX4, tyX4_ok, nmX4⟩
  | k + 5, h => simp [vwCl] at h
theorem gw_acn : Cond.native arraycopyName ∈ gw := gw_mem 341 (by decide +kernel) (by decide +kernel)
theorem gw_acs : Cond.static arraycopyName ∈ gw := gw_mem 340 (by decide +kernel) (by decide +kernel)
theorem gw_sys : Cond.initialized "java/lang/System" ∈ gw := gw_mem 80 (by decide +kernel) (by decide +kernel)
