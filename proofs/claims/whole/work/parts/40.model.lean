set_option maxRecDepth 100000 in
set_option maxHeartbeats 4000000 in
theorem c_X4_isIn {g : gG} (v l m : Int32) : gCi mX4_isIn [.int v, .int l, .int m] g (fun x g1 => x = bI (isInB v l m) ∧ g1 = g) := by
  refine gCi_of (own := RX4) (ls0 := [.int v, .int l, .int m]) ⟨rfl, pl_X4⟩ rfl (Nat.le_of_ble_eq_true rfl) (fun G (h : gR RX4 cX4_isIn 0 0 G) (t : gTi cX4_isIn .boolean _ G) => ?_)
  refine r_iload_n (pc := 0) h dX4_isIn_0 rfl ?_
  refine r_iload_n (pc := 1) h dX4_isIn_1 rfl ?_
  refine r_icmp_lt (pc := 2) (tgt := 14) h dX4_isIn_2 (by decide) (fun c2 => ?_) (fun c2 => ?_)
  · refine r_iconst (pc := 14) h dX4_isIn_14 ci_0 ?_
    refine r_ri t (pc := 15) dX4_isIn_15 (by decide) ?_
    exact ⟨by simp [isInB, c2, bI], rfl⟩
  · refine r_iload_n (pc := 5) h dX4_isIn_5 rfl ?_
    refine r_iload_n (pc := 6) h dX4_isIn_6 rfl ?_
    refine r_icmp_gt (pc := 7) (tgt := 14) h dX4_isIn_7 (by decide) (fun c7 => ?_) (fun c7 => ?_)
    · refine r_iconst (pc := 14) h dX4_isIn_14 ci_0 ?_
      refine r_ri t (pc := 15) dX4_isIn_15 (by decide) ?_
      exact ⟨by simp [isInB, c2, c7, bI], rfl⟩
    · refine r_iconst (pc := 10) h dX4_isIn_10 ci_1 ?_
      refine r_goto (pc := 11) (tgt := 15) h dX4_isIn_11 (by decide) ?_
      refine r_ri t (pc := 15) dX4_isIn_15 (by decide) ?_
      exact ⟨by simp [isInB, c2, c7, bI], rfl⟩
set_option maxRecDepth 100000 in
set_option maxHeartbeats 4000000 in
theorem c_X4_bound {g : gG} (v l m : Int32) : gCi mX4_bound [.int v, .int l, .int m] g (fun x g1 => x = bndI v l m ∧ g1 = g) := by
  refine gCi_of (own := RX4) (ls0 := [.int v, .int l, .int m]) ⟨rfl, pl_X4⟩ rfl (Nat.le_of_ble_eq_true rfl) (fun G (h : gR RX4 cX4_bound 0 0 G) (t : gTi cX4_bound .int _ G) => ?_)
  refine r_iload_n (pc := 0) h dX4_bound_0 rfl ?_
  refine r_iload_n (pc := 1) h dX4_bound_1 rfl ?_
  refine r_icmp_ge (pc := 2) (tgt := 10) h dX4_bound_2 (by decide) (fun c2 => ?_) (fun c2 => ?_)
  · refine r_iload_n (pc := 10) h dX4_bound_10 rfl ?_
    refine r_iload_n (pc := 11) h dX4_bound_11 rfl ?_
    refine r_icmp_le (pc := 12) (tgt := 20) h dX4_bound_12 (by decide) (fun c12 => ?_) (fun c12 => ?_)
    · refine r_iconst (pc := 20) h dX4_bound_20 ci_0 ?_
      refine r_ri t (pc := 21) dX4_bound_21 rfl ?_
      first | exact ⟨by rw [bndI, if_neg (Int32.not_lt.mpr c2), if_neg (Int32.not_lt.mpr c12)], rfl⟩ | exact ⟨by rw [bndI, if_neg (Int32.not_lt.mpr c2), if_pos (Int32.not_le.mp c12)], rfl⟩ | exact ⟨by rw [bndI, if_pos (Int32.not_le.mp c2)], rfl⟩
    · refine r_bipush (pc := 15) h dX4_bound_15 cb_m6 ?_
      refine r_goto (pc := 17) (tgt := 21) h dX4_bound_17 (by decide) ?_
      refine r_ri t (pc := 21) dX4_bound_21 rfl ?_
      first | exact ⟨by rw [bndI, if_neg (Int32.not_lt.mpr c2), if_neg (Int32.not_lt.mpr c12)], rfl⟩ | exact ⟨by rw [bndI, if_neg (Int32.not_lt.mpr c2), if_pos (Int32.not_le.mp c12)], rfl⟩ | exact ⟨by rw [bndI, if_pos (Int32.not_le.mp c2)], rfl⟩
  · refine r_bipush (pc := 5) h dX4_bound_5 cb_m4 ?_
    refine r_goto (pc := 7) (tgt := 21) h dX4_bound_7 (by decide) ?_
    refine r_ri t (pc := 21) dX4_bound_21 rfl ?_
    first | exact ⟨by rw [bndI, if_neg (Int32.not_lt.mpr c2), if_neg (Int32.not_lt.mpr c12)], rfl⟩ | exact ⟨by rw [bndI, if_neg (Int32.not_lt.mpr c2), if_pos (Int32.not_le.mp c12)], rfl⟩ | exact ⟨by rw [bndI, if_pos (Int32.not_le.mp c2)], rfl⟩
set_option maxRecDepth 100000 in
set_option maxHeartbeats 4000000 in
theorem c_X4_held {g : gG} (v m : Int32) : gCi mX4_held [.int v, .int m] g (fun x g1 => x = hldI v m ∧ g1 = g) := by
  refine gCi_of (own := RX4) (ls0 := [.int v, .int m]) ⟨rfl, pl_X4⟩ rfl (Nat.le_of_ble_eq_true rfl) (fun G (h : gR RX4 cX4_held 0 0 G) (t : gTi cX4_held .int _ G) => ?_)
  refine r_iload_n (pc := 0) h dX4_held_0 rfl ?_
  refine r_if_ge (pc := 1) (tgt := 8) h dX4_held_1 (by decide) (fun c1 => ?_) (fun c1 => ?_)
  · refine r_iload_n (pc := 8) h dX4_held_8 rfl ?_
    refine r_iload_n (pc := 9) h dX4_held_9 rfl ?_
    refine r_icmp_le (pc := 10) (tgt := 17) h dX4_held_10 (by decide) (fun c10 => ?_) (fun c10 => ?_)
    · refine r_iload_n (pc := 17) h dX4_held_17 rfl ?_
      refine r_ri t (pc := 18) dX4_held_18 rfl ?_
      first | exact ⟨by rw [hldI, if_pos c1, if_pos c10], rfl⟩ | exact ⟨by rw [hldI, if_pos c1, if_neg c10], rfl⟩ | exact ⟨by rw [hldI, if_neg c1], rfl⟩
    · refine r_iload_n (pc := 13) h dX4_held_13 rfl ?_
      refine r_goto (pc := 14) (tgt := 18) h dX4_held_14 (by decide) ?_
      refine r_ri t (pc := 18) dX4_held_18 rfl ?_
      first | exact ⟨by rw [hldI, if_pos c1, if_pos c10], rfl⟩ | exact ⟨by rw [hldI, if_pos c1, if_neg c10], rfl⟩ | exact ⟨by rw [hldI, if_neg c1], rfl⟩
  · refine r_iconst (pc := 4) h dX4_held_4 ci_0 ?_
    refine r_goto (pc := 5) (tgt := 18) h dX4_held_5 (by decide) ?_
    refine r_ri t (pc := 18) dX4_held_18 rfl ?_
    first | exact ⟨by rw [hldI, if_pos c1, if_pos c10], rfl⟩ | exact ⟨by rw [hldI, if_pos c1, if_neg c10], rfl⟩ | exact ⟨by rw [hldI, if_neg c1], rfl⟩
set_option maxRecDepth 100000 in
set_option maxHeartbeats 4000000 in
theorem c_X4_has {g : gG} (s k : Int32) : gCi mX4_has [.int s, .int k] g (fun x g1 => x = bI (hasB s k) ∧ g1 = g) := by
  refine gCi_of (own := RX4) (ls0 := [.int s, .int k]) ⟨rfl, pl_X4⟩ rfl (Nat.le_of_ble_eq_true rfl) (fun G (h : gR RX4 cX4_has 0 0 G) (t : gTi cX4_has .boolean _ G) => ?_)
  refine r_iload_n (pc := 0) h dX4_has_0 rfl ?_
  refine r_iload_n (pc := 1) h dX4_has_1 rfl ?_
  refine r_ishr (pc := 2) h dX4_has_2 ?_
  refine r_iconst (pc := 3) h dX4_has_3 ci_1 ?_
  refine r_iand (pc := 4) h dX4_has_4 ?_
  refine r_iconst (pc := 5) h dX4_has_5 ci_1 ?_
  refine r_icmp_ne (pc := 6) (tgt := 13) h dX4_has_6 (by decide) (fun c6 => ?_) (fun c6 => ?_)
  · refine r_iconst (pc := 13) h dX4_has_13 ci_0 ?_
    refine r_ri t (pc := 14) dX4_has_14 (by decide) ?_
    first | exact ⟨by rw [hasB, decide_eq_true c6]; rfl, rfl⟩ | exact ⟨by rw [hasB, decide_eq_false c6]; rfl, rfl⟩
  · refine r_iconst (pc := 9) h dX4_has_9 ci_1 ?_
    refine r_goto (pc := 10) (tgt := 14) h dX4_has_10 (by decide) ?_
    refine r_ri t (pc := 14) dX4_has_14 (by decide) ?_
    first | exact ⟨by rw [hasB, decide_eq_true c6]; rfl, rfl⟩ | exact ⟨by rw [hasB, decide_eq_false c6]; rfl, rfl⟩
set_option maxRecDepth 100000 in
set_option maxHeartbeats 4000000 in
theorem c_X4_bits {g : gG} (v : Int32) : gCi mX4_bits [.int v] g (fun x g1 => x = bitsI v ∧ g1 = g) := by
  refine gCi_of (own := RX4) (ls0 := [.int v, .null, .null]) ⟨rfl, pl_X4⟩ rfl (Nat.le_of_ble_eq_true rfl) (fun G (h : gR RX4 cX4_bits 0 0 G) (t : gTi cX4_bits .int _ G) => ?_)
  have loop : ∀ n i (a : Int32), i + n = 31 → gfold (fun k n => n + (v >>> (nI k &&& 31) &&& nI 1)) n i a = bitsI v → G 4 [.int v, .int a, .int (nI i)] [] g := by
    intro n
    induction n with
    | zero =>
      intro i a hi hw
      refine r_iload_n (pc := 4) h dX4_bits_4 rfl ?_
      refine r_bipush (pc := 5) h dX4_bits_5 cb_31 ?_
      refine r_icmp_ge (pc := 7) (tgt := 24) h dX4_bits_7 (by decide) (fun c7 => ?_) (fun c7 => absurd (nI_le (by omega) (by omega)) c7)
      refine r_iload_n (pc := 24) h dX4_bits_24 rfl ?_
      refine r_ri t (pc := 25) dX4_bits_25 rfl ?_
      exact ⟨by rw [← hw]; rfl, rfl⟩
    | succ n ih =>
      intro i a hi hw
      refine r_iload_n (pc := 4) h dX4_bits_4 rfl ?_
      refine r_bipush (pc := 5) h dX4_bits_5 cb_31 ?_
      refine r_icmp_ge (pc := 7) (tgt := 24) h dX4_bits_7 (by decide) (fun c7 => absurd c7 (nI_ge (show i < 31 by omega) (by decide))) (fun c7 => ?_)
      refine r_iload_n (pc := 10) h dX4_bits_10 rfl ?_
      refine r_iload_n (pc := 11) h dX4_bits_11 rfl ?_
      refine r_iload_n (pc := 12) h dX4_bits_12 rfl ?_
      refine r_ishr (pc := 13) h dX4_bits_13 ?_
      refine r_iconst (pc := 14) h dX4_bits_14 ci_1 ?_
      refine r_iand (pc := 15) h dX4_bits_15 ?_
      refine r_iadd (pc := 16) h dX4_bits_16 ?_
      refine r_istore_n (pc := 17) (ls2 := [_, _, _]) h dX4_bits_17 (Nat.le_of_ble_eq_true rfl) rfl ?_
      refine r_iinc (pc := 18) (ls2 := [_, _, _]) h dX4_bits_18 rfl (ic1 _) rfl ?_
      refine r_goto (pc := 21) (tgt := 4) h dX4_bits_21 (by decide) ?_
      exact ih (i + 1) _ (by omega) hw
  refine r_iconst (pc := 0) h dX4_bits_0 ci_0 ?_
  refine r_istore_n (pc := 1) (ls2 := [_, _, _]) h dX4_bits_1 (Nat.le_of_ble_eq_true rfl) rfl ?_
  refine r_iconst (pc := 2) h dX4_bits_2 ci_0 ?_
  refine r_istore_n (pc := 3) (ls2 := [_, _, _]) h dX4_bits_3 (Nat.le_of_ble_eq_true rfl) rfl ?_
  exact loop 31 0 _ rfl rfl
set_option maxRecDepth 100000 in
set_option maxHeartbeats 4000000 in
theorem c_X4_isSuit {g : gG} {c : gCt} (hR : Rm g c) (x : Int32) : gCi mX4_isSuit [.ref 35, .int x] g (fun y g1 => y = bI (inB x (c 7 0)) ∧ g1 = g) := by
  refine gCi_of (own := RX4) (ls0 := [.ref 35, .int x]) ⟨rfl, pl_X4⟩ rfl (Nat.le_of_ble_eq_true rfl) (fun G (h : gR RX4 cX4_isSuit 0 0 G) (t : gTi cX4_isSuit .boolean _ G) => ?_)
  refine r_iload_n (pc := 0) h dX4_isSuit_0 rfl ?_
  refine r_if_lt (pc := 1) (tgt := 16) h dX4_isSuit_1 (by decide) (fun c1 => ?_) (fun c1 => ?_)
  · refine r_iconst (pc := 16) h dX4_isSuit_16 ci_0 ?_
    refine r_ri t (pc := 17) dX4_isSuit_17 (by decide) ?_
    exact ⟨by simp [inB, c1, bI], rfl⟩
  · refine r_iload_n (pc := 4) h dX4_isSuit_4 rfl ?_
    refine r_aload_n (pc := 5) h dX4_isSuit_5 rfl ?_
    refine r_getE (pc := 6) h dX4_isSuit_6 f_X4_60 sh_35 rfl (hR.ns) ?_
    refine r_icmp_ge (pc := 9) (tgt := 16) h dX4_isSuit_9 (by decide) (fun c9 => ?_) (fun c9 => ?_)
    · refine r_iconst (pc := 16) h dX4_isSuit_16 ci_0 ?_
      refine r_ri t (pc := 17) dX4_isSuit_17 (by decide) ?_
      exact ⟨by simp [inB, c1, c9, bI], rfl⟩
    · refine r_iconst (pc := 12) h dX4_isSuit_12 ci_1 ?_
      refine r_goto (pc := 13) (tgt := 17) h dX4_isSuit_13 (by decide) ?_
      refine r_ri t (pc := 17) dX4_isSuit_17 (by decide) ?_
      exact ⟨by simp [inB, c1, c9, bI], rfl⟩
set_option maxRecDepth 100000 in
set_option maxHeartbeats 4000000 in
theorem c_X4_isCaller {g : gG} {c : gCt} (hR : Rm g c) (x : Int32) : gCi mX4_isCaller [.ref 35, .int x] g (fun y g1 => y = bI (inB x (c 7 1)) ∧ g1 = g) := by
  refine gCi_of (own := RX4) (ls0 := [.ref 35, .int x]) ⟨rfl, pl_X4⟩ rfl (Nat.le_of_ble_eq_true rfl) (fun G (h : gR RX4 cX4_isCaller 0 0 G) (t : gTi cX4_isCaller .boolean _ G) => ?_)
  refine r_iload_n (pc := 0) h dX4_isCaller_0 rfl ?_
  refine r_if_lt (pc := 1) (tgt := 16) h dX4_isCaller_1 (by decide) (fun c1 => ?_) (fun c1 => ?_)
  · refine r_iconst (pc := 16) h dX4_isCaller_16 ci_0 ?_
    refine r_ri t (pc := 17) dX4_isCaller_17 (by decide) ?_
    exact ⟨by simp [inB, c1, bI], rfl⟩
  · refine r_iload_n (pc := 4) h dX4_isCaller_4 rfl ?_
    refine r_aload_n (pc := 5) h dX4_isCaller_5 rfl ?_
    refine r_getE (pc := 6) h dX4_isCaller_6 f_X4_67 sh_35 rfl (hR.nc) ?_
    refine r_icmp_ge (pc := 9) (tgt := 16) h dX4_isCaller_9 (by decide) (fun c9 => ?_) (fun c9 => ?_)
    · refine r_iconst (pc := 16) h dX4_isCaller_16 ci_0 ?_
      refine r_ri t (pc := 17) dX4_isCaller_17 (by decide) ?_
      exact ⟨by simp [inB, c1, c9, bI], rfl⟩
    · refine r_iconst (pc := 12) h dX4_isCaller_12 ci_1 ?_
      refine r_goto (pc := 13) (tgt := 17) h dX4_isCaller_13 (by decide) ?_
      refine r_ri t (pc := 17) dX4_isCaller_17 (by decide) ?_
      exact ⟨by simp [inB, c1, c9, bI], rfl⟩
set_option maxRecDepth 100000 in
set_option maxHeartbeats 4000000 in
theorem c_X4_suitOf {g : gG} {n : Nat} (hn : n < 2147483648) : gCi mX4_suitOf [.int (nI n)] g (fun y g1 => y = wz n ∧ g1 = g) := by
  refine gCi_of (own := RX4) (ls0 := [.int (nI n)]) ⟨rfl, pl_X4⟩ rfl (Nat.le_of_ble_eq_true rfl) (fun G (h : gR RX4 cX4_suitOf 0 0 G) (t : gTi cX4_suitOf .int _ G) => ?_)
  refine r_iload_n (pc := 0) h dX4_suitOf_0 rfl ?_
  refine r_if_ne (pc := 1) (tgt := 9) h dX4_suitOf_1 (by decide) (fun c1 => ?_) (fun c1 => ?_)
  · refine r_iload_n (pc := 9) h dX4_suitOf_9 rfl ?_
    refine r_iconst (pc := 10) h dX4_suitOf_10 ci_1 ?_
    refine r_isub (pc := 11) h dX4_suitOf_11 ?_
    refine r_ri t (pc := 12) dX4_suitOf_12 rfl ?_
    have h0 : ¬ n = 0 := fun q => c1 (by rw [q]; rfl)
    exact ⟨by rw [nI_sub (by omega), wz, if_neg h0], rfl⟩
  · refine r_bipush (pc := 4) h dX4_suitOf_4 cb_m9 ?_
    refine r_goto (pc := 6) (tgt := 12) h dX4_suitOf_6 (by decide) ?_
    refine r_ri t (pc := 12) dX4_suitOf_12 rfl ?_
    exact ⟨by rw [show n = 0 from (nI_eq0 hn).mp c1]; rfl, rfl⟩
set_option maxRecDepth 100000 in
set_option maxHeartbeats 4000000 in
theorem c_X4_notDays {g : gG} (v : Int32) : gCi mX4_notDays [.int v] g (fun y g1 => y = bndI v (nI 0) (nI 60) ∧ g1 = g) := by
  refine gCi_of (own := RX4) (ls0 := [.int v]) ⟨rfl, pl_X4⟩ rfl (Nat.le_of_ble_eq_true rfl) (fun G (h : gR RX4 cX4_notDays 1 40 G) (t : gTi cX4_notDays .int _ G) => ?_)
  refine r_iload_n (pc := 0) h dX4_notDays_0 rfl ?_
  refine r_iconst (pc := 1) h dX4_notDays_1 ci_0 ?_
  refine r_bipush (pc := 2) h dX4_notDays_2 cb_60 ?_
  refine r_callSi (pc := 4) (As := [_, _, _]) h dX4_notDays_4 k_X4_70 rfl ⟨Nat.le_of_ble_eq_true rfl, Nat.le_of_ble_eq_true rfl, Nat.le_of_ble_eq_true rfl⟩ (c_X4_bound _ _ _) (fun x_4 g1 hq => ?_)
  obtain ⟨rfl, rfl⟩ := hq
  refine r_ri t (pc := 7) dX4_notDays_7 rfl ?_
  exact ⟨rfl, rfl⟩
set_option maxRecDepth 100000 in
set_option maxHeartbeats 4000000 in
theorem c_X4_no {g : gG} {w : Int32} (hw : vp_in (-w) 7) : gCi mX4_no [.ref 35, .int w] g (fun y g1 => y = w ∧ g1 = gbmp g 36 w) := by
  refine gCi_of (own := RX4) (ls0 := [.ref 35, .int w]) ⟨rfl, pl_X4⟩ rfl (Nat.le_of_ble_eq_true rfl) (fun G (h : gR RX4 cX4_no 0 0 G) (t : gTi cX4_no .int _ G) => ?_)
  refine r_aload_n (pc := 0) h dX4_no_0 rfl ?_
  refine r_getR (pc := 1) h dX4_no_1 f_X4_7 sh_35 rfl ?_
  refine r_iload_n (pc := 4) h dX4_no_4 rfl ?_
  refine r_ineg (pc := 5) h dX4_no_5 ?_
  refine r_dup2 (pc := 6) h dX4_no_6 rfl rfl ?_
  refine r_iaload (pc := 7) h dX4_no_7 sh_36 (hw) ?_
  refine r_iconst (pc := 8) h dX4_no_8 ci_1 ?_
  refine r_iadd (pc := 9) h dX4_no_9 ?_
  refine r_iastore (pc := 10) h dX4_no_10 sh_36 (hw) ?_
  refine r_iload_n (pc := 11) h dX4_no_11 rfl ?_
  refine r_ri t (pc := 12) dX4_no_12 rfl ?_
  exact ⟨rfl, rfl⟩
set_option maxRecDepth 100000 in
set_option maxHeartbeats 4000000 in
theorem c_X4_lower {g : gG} {w : Int32} (hw : vp_in (-w) 7) : gCi mX4_lower [.ref 35, .int w] g (fun y g1 => y = 1000000000 - w ∧ g1 = gbmp g 36 w) := by
  refine gCi_of (own := RX4) (ls0 := [.ref 35, .int w]) ⟨rfl, pl_X4⟩ rfl (Nat.le_of_ble_eq_true rfl) (fun G (h : gR RX4 cX4_lower 0 0 G) (t : gTi cX4_lower .int _ G) => ?_)
  refine r_aload_n (pc := 0) h dX4_lower_0 rfl ?_
  refine r_getR (pc := 1) h dX4_lower_1 f_X4_7 sh_35 rfl ?_
  refine r_iload_n (pc := 4) h dX4_lower_4 rfl ?_
  refine r_ineg (pc := 5) h dX4_lower_5 ?_
  refine r_dup2 (pc := 6) h dX4_lower_6 rfl rfl ?_
  refine r_iaload (pc := 7) h dX4_lower_7 sh_36 (hw) ?_
  refine r_iconst (pc := 8) h dX4_lower_8 ci_1 ?_
  refine r_iadd (pc := 9) h dX4_lower_9 ?_
  refine r_iastore (pc := 10) h dX4_lower_10 sh_36 (hw) ?_
  refine r_ldc (pc := 11) h dX4_lower_11 kc_X4_64 ?_
  refine r_iload_n (pc := 13) h dX4_lower_13 rfl ?_
  refine r_isub (pc := 14) h dX4_lower_14 ?_
  refine r_ri t (pc := 15) dX4_lower_15 rfl ?_
  exact ⟨rfl, rfl⟩
set_option maxRecDepth 100000 in
set_option maxHeartbeats 4000000 in
theorem c_X4_lowestOf {g : gG} {w : Int32} (hw : vp_in (-w) 7) : gCl mX4_lowestOf [.ref 35, .int w] g (fun y g1 => y = 4000000000000000000 - w.toInt64 ∧ g1 = gbmp g 36 w) := by
  refine gCl_of (own := RX4) (ls0 := [.ref 35, .int w]) ⟨rfl, pl_X4⟩ rfl (Nat.le_of_ble_eq_true rfl) (fun G (h : gR RX4 cX4_lowestOf 0 0 G) (t : gTl cX4_lowestOf _ G) => ?_)
  refine r_aload_n (pc := 0) h dX4_lowestOf_0 rfl ?_
  refine r_getR (pc := 1) h dX4_lowestOf_1 f_X4_7 sh_35 rfl ?_
  refine r_iload_n (pc := 4) h dX4_lowestOf_4 rfl ?_
  refine r_ineg (pc := 5) h dX4_lowestOf_5 ?_
  refine r_dup2 (pc := 6) h dX4_lowestOf_6 rfl rfl ?_
  refine r_iaload (pc := 7) h dX4_lowestOf_7 sh_36 (hw) ?_
  refine r_iconst (pc := 8) h dX4_lowestOf_8 ci_1 ?_
  refine r_iadd (pc := 9) h dX4_lowestOf_9 ?_
  refine r_iastore (pc := 10) h dX4_lowestOf_10 sh_36 (hw) ?_
  refine r_ldc2 (pc := 11) h dX4_lowestOf_11 kc_X4_65 ?_
  refine r_iload_n (pc := 14) h dX4_lowestOf_14 rfl ?_
  refine r_i2l (pc := 15) h dX4_lowestOf_15 ?_
  refine r_lsub (pc := 16) h dX4_lowestOf_16 ?_
  refine r_rl t (pc := 17) dX4_lowestOf_17 ?_
  exact ⟨rfl, rfl⟩
set_option maxRecDepth 100000 in
set_option maxHeartbeats 4000000 in
theorem c_X4_covers {g : gG} {c : gCt} (hR : Rm g c) (ho : gok c) {s : Nat} (hs : s < c 7 0) : gCi mX4_covers [.ref 35, .int (nI s)] g (fun x g1 => x = nI (cvr c s) ∧ g1 = g) := by
  refine gCi_of (own := RX4) (ls0 := [.ref 35, .int (nI s), .null]) ⟨rfl, pl_X4⟩ rfl (Nat.le_of_ble_eq_true rfl) (fun G (h : gR RX4 cX4_covers 0 0 G) (t : gTi cX4_covers .int _ G) => ?_)
  have hk := ho.2.2.1 s hs
  refine r_aload_n (pc := 0) h dX4_covers_0 rfl ?_
  refine r_getR (pc := 1) h dX4_covers_1 f_X4_16 sh_35 rfl ?_
  refine r_iload_n (pc := 4) h dX4_covers_4 rfl ?_
  refine r_ialoadE (pc := 5) h dX4_covers_5 sh_38 (hR.fg hs) ?_
  refine r_iconst (pc := 6) h dX4_covers_6 ci_4 ?_
  refine r_iadd (pc := 7) h dX4_covers_7 ?_
  refine r_aload_n (pc := 8) h dX4_covers_8 rfl ?_
  refine r_getR (pc := 9) h dX4_covers_9 f_X4_19 sh_35 rfl ?_
  refine r_iload_n (pc := 12) h dX4_covers_12 rfl ?_
  refine r_ialoadE (pc := 13) h dX4_covers_13 sh_39 (hR.ru hs) ?_
  refine r_icmp_le (pc := 14) (tgt := 35) h dX4_covers_14 (by decide) (fun c14 => ?_) (fun c14 => ?_)
  · rw [nI_add] at c14
    have q : c 1 s + 4 ≤ c 2 s := (nI_leI (by omega) (by omega)).mp c14
    refine r_iconst (pc := 35) h dX4_covers_35 ci_0 ?_
    refine r_top (y := nI (c 1 s + 4 - c 2 s)) h (by first | (rw [nI_add, nI_sub (by omega)]) | (rw [show c 1 s + 4 - c 2 s = 0 by omega])) ?_
    refine r_istore_n (pc := 36) (ls2 := [_, _, _]) h dX4_covers_36 (Nat.le_of_ble_eq_true rfl) rfl ?_
    refine r_aload_n (pc := 37) h dX4_covers_37 rfl ?_
    refine r_getR (pc := 38) h dX4_covers_38 f_X4_13 sh_35 rfl ?_
    refine r_iload_n (pc := 41) h dX4_covers_41 rfl ?_
    refine r_ialoadE (pc := 42) h dX4_covers_42 sh_37 (hR.kd hs) ?_
    have hcase : c 0 s = 0 ∨ c 0 s = 1 ∨ c 0 s = 2 ∨ c 0 s = 3 ∨ c 0 s = 4 ∨ c 0 s = 5 := by omega
    rcases hcase with ek | ek | ek | ek | ek | ek
    · rw [ek]
      refine r_tabOut (pc := 43) (tgt := 103) h dX4_covers_43 (by decide) (by decide) ?_
      refine r_iload_n (pc := 103) h dX4_covers_103 rfl ?_
      refine r_ri t (pc := 104) dX4_covers_104 rfl ?_
      exact ⟨by simp [cvr, covN, ek], rfl⟩
    · rw [ek]
      refine r_tabIn (pc := 43) (o := 33) (tgt := 76) h dX4_covers_43 (by decide) (by decide) (by decide) (by decide) ?_
      refine r_iload_n (pc := 76) h dX4_covers_76 rfl ?_
      refine r_iconst (pc := 77) h dX4_covers_77 ci_2 ?_
      refine r_icmp_le (pc := 78) (tgt := 87) h dX4_covers_78 (by decide) (fun c78 => ?_) (fun c78 => ?_)
      · refine r_iconst (pc := 87) h dX4_covers_87 ci_0 ?_
        refine r_ri t (pc := 88) dX4_covers_88 rfl ?_
        first
          | (have q2 : 2 < c 1 s + 4 - c 2 s := Nat.lt_of_not_le fun z => c78 (nI_le z (by decide))
             exact ⟨by rw [nI_sub (by omega)]; simp [cvr, covN, ek], rfl⟩)
          | (have q2 : c 1 s + 4 - c 2 s ≤ 2 := (nI_leI (by omega) (by decide)).mp c78
             refine ⟨?_, rfl⟩
             rw [cvr, ek, covN]
             simp only [Nat.reduceEqDiff, if_false]
             congr 1
             omega)
      · refine r_iload_n (pc := 81) h dX4_covers_81 rfl ?_
        refine r_iconst (pc := 82) h dX4_covers_82 ci_2 ?_
        refine r_isub (pc := 83) h dX4_covers_83 ?_
        refine r_goto (pc := 84) (tgt := 88) h dX4_covers_84 (by decide) ?_
        refine r_ri t (pc := 88) dX4_covers_88 rfl ?_
        first
          | (have q2 : 2 < c 1 s + 4 - c 2 s := Nat.lt_of_not_le fun z => c78 (nI_le z (by decide))
             exact ⟨by rw [nI_sub (by omega)]; simp [cvr, covN, ek], rfl⟩)
          | (have q2 : c 1 s + 4 - c 2 s ≤ 2 := (nI_leI (by omega) (by decide)).mp c78
             refine ⟨?_, rfl⟩
             rw [cvr, ek, covN]
             simp only [Nat.reduceEqDiff, if_false]
             congr 1
             omega)
    · rw [ek]
      refine r_tabIn (pc := 43) (o := 46) (tgt := 89) h dX4_covers_43 (by decide) (by decide) (by decide) (by decide) ?_
      refine r_iload_n (pc := 89) h dX4_covers_89 rfl ?_
      refine r_iconst (pc := 90) h dX4_covers_90 ci_2 ?_
      refine r_idiv (pc := 91) h dX4_covers_91 (by decide) ?_
      refine r_ri t (pc := 92) dX4_covers_92 rfl ?_
      exact ⟨by rw [pk_div (by omega) (by decide) (by decide)]; simp [cvr, covN, ek], rfl⟩
    · rw [ek]
      refine r_tabIn (pc := 43) (o := 50) (tgt := 93) h dX4_covers_43 (by decide) (by decide) (by decide) (by decide) ?_
      refine r_iconst (pc := 93) h dX4_covers_93 ci_2 ?_
      refine r_iload_n (pc := 94) h dX4_covers_94 rfl ?_
      refine r_imul (pc := 95) h dX4_covers_95 ?_
      refine r_ri t (pc := 96) dX4_covers_96 rfl ?_
      exact ⟨by rw [pk_mul]; simp [cvr, covN, ek], rfl⟩
    · rw [ek]
      refine r_tabIn (pc := 43) (o := 54) (tgt := 97) h dX4_covers_43 (by decide) (by decide) (by decide) (by decide) ?_
      refine r_iconst (pc := 97) h dX4_covers_97 ci_2 ?_
      refine r_iload_n (pc := 98) h dX4_covers_98 rfl ?_
      refine r_imul (pc := 99) h dX4_covers_99 ?_
      refine r_iconst (pc := 100) h dX4_covers_100 ci_5 ?_
      refine r_iadd (pc := 101) h dX4_covers_101 ?_
      refine r_ri t (pc := 102) dX4_covers_102 rfl ?_
      exact ⟨by rw [pk_mul, nI_add]; simp [cvr, covN, ek], rfl⟩
    · rw [ek]
      refine r_tabIn (pc := 43) (o := 33) (tgt := 76) h dX4_covers_43 (by decide) (by decide) (by decide) (by decide) ?_
      refine r_iload_n (pc := 76) h dX4_covers_76 rfl ?_
      refine r_iconst (pc := 77) h dX4_covers_77 ci_2 ?_
      refine r_icmp_le (pc := 78) (tgt := 87) h dX4_covers_78 (by decide) (fun c78 => ?_) (fun c78 => ?_)
      · refine r_iconst (pc := 87) h dX4_covers_87 ci_0 ?_
        refine r_ri t (pc := 88) dX4_covers_88 rfl ?_
        first
          | (have q2 : 2 < c 1 s + 4 - c 2 s := Nat.lt_of_not_le fun z => c78 (nI_le z (by decide))
             exact ⟨by rw [nI_sub (by omega)]; simp [cvr, covN, ek], rfl⟩)
          | (have q2 : c 1 s + 4 - c 2 s ≤ 2 := (nI_leI (by omega) (by decide)).mp c78
             refine ⟨?_, rfl⟩
             rw [cvr, ek, covN]
             simp only [Nat.reduceEqDiff, if_false]
             congr 1
             omega)
      · refine r_iload_n (pc := 81) h dX4_covers_81 rfl ?_
        refine r_iconst (pc := 82) h dX4_covers_82 ci_2 ?_
        refine r_isub (pc := 83) h dX4_covers_83 ?_
        refine r_goto (pc := 84) (tgt := 88) h dX4_covers_84 (by decide) ?_
        refine r_ri t (pc := 88) dX4_covers_88 rfl ?_
        first
          | (have q2 : 2 < c 1 s + 4 - c 2 s := Nat.lt_of_not_le fun z => c78 (nI_le z (by decide))
             exact ⟨by rw [nI_sub (by omega)]; simp [cvr, covN, ek], rfl⟩)
          | (have q2 : c 1 s + 4 - c 2 s ≤ 2 := (nI_leI (by omega) (by decide)).mp c78
             refine ⟨?_, rfl⟩
             rw [cvr, ek, covN]
             simp only [Nat.reduceEqDiff, if_false]
             congr 1
             omega)
  · rw [nI_add] at c14
    have q : ¬ (c 1 s + 4 ≤ c 2 s) := fun z => c14 (nI_le z (by omega))
    refine r_aload_n (pc := 17) h dX4_covers_17 rfl ?_
    refine r_getR (pc := 18) h dX4_covers_18 f_X4_16 sh_35 rfl ?_
    refine r_iload_n (pc := 21) h dX4_covers_21 rfl ?_
    refine r_ialoadE (pc := 22) h dX4_covers_22 sh_38 (hR.fg hs) ?_
    refine r_iconst (pc := 23) h dX4_covers_23 ci_4 ?_
    refine r_iadd (pc := 24) h dX4_covers_24 ?_
    refine r_aload_n (pc := 25) h dX4_covers_25 rfl ?_
    refine r_getR (pc := 26) h dX4_covers_26 f_X4_19 sh_35 rfl ?_
    refine r_iload_n (pc := 29) h dX4_covers_29 rfl ?_
    refine r_ialoadE (pc := 30) h dX4_covers_30 sh_39 (hR.ru hs) ?_
    refine r_isub (pc := 31) h dX4_covers_31 ?_
    refine r_goto (pc := 32) (tgt := 36) h dX4_covers_32 (by decide) ?_
    refine r_top (y := nI (c 1 s + 4 - c 2 s)) h (by first | (rw [nI_add, nI_sub (by omega)]) | (rw [show c 1 s + 4 - c 2 s = 0 by omega])) ?_
    refine r_istore_n (pc := 36) (ls2 := [_, _, _]) h dX4_covers_36 (Nat.le_of_ble_eq_true rfl) rfl ?_
    refine r_aload_n (pc := 37) h dX4_covers_37 rfl ?_
    refine r_getR (pc := 38) h dX4_covers_38 f_X4_13 sh_35 rfl ?_
    refine r_iload_n (pc := 41) h dX4_covers_41 rfl ?_
    refine r_ialoadE (pc := 42) h dX4_covers_42 sh_37 (hR.kd hs) ?_
    have hcase : c 0 s = 0 ∨ c 0 s = 1 ∨ c 0 s = 2 ∨ c 0 s = 3 ∨ c 0 s = 4 ∨ c 0 s = 5 := by omega
    rcases hcase with ek | ek | ek | ek | ek | ek
    · rw [ek]
      refine r_tabOut (pc := 43) (tgt := 103) h dX4_covers_43 (by decide) (by decide) ?_
      refine r_iload_n (pc := 103) h dX4_covers_103 rfl ?_
      refine r_ri t (pc := 104) dX4_covers_104 rfl ?_
      exact ⟨by simp [cvr, covN, ek], rfl⟩
    · rw [ek]
      refine r_tabIn (pc := 43) (o := 33) (tgt := 76) h dX4_covers_43 (by decide) (by decide) (by decide) (by decide) ?_
      refine r_iload_n (pc := 76) h dX4_covers_76 rfl ?_
      refine r_iconst (pc := 77) h dX4_covers_77 ci_2 ?_
      refine r_icmp_le (pc := 78) (tgt := 87) h dX4_covers_78 (by decide) (fun c78 => ?_) (fun c78 => ?_)
      · refine r_iconst (pc := 87) h dX4_covers_87 ci_0 ?_
        refine r_ri t (pc := 88) dX4_covers_88 rfl ?_
        first
          | (have q2 : 2 < c 1 s + 4 - c 2 s := Nat.lt_of_not_le fun z => c78 (nI_le z (by decide))
             exact ⟨by rw [nI_sub (by omega)]; simp [cvr, covN, ek], rfl⟩)
          | (have q2 : c 1 s + 4 - c 2 s ≤ 2 := (nI_leI (by omega) (by decide)).mp c78
             refine ⟨?_, rfl⟩
             rw [cvr, ek, covN]
             simp only [Nat.reduceEqDiff, if_false]
             congr 1
             omega)
      · refine r_iload_n (pc := 81) h dX4_covers_81 rfl ?_
        refine r_iconst (pc := 82) h dX4_covers_82 ci_2 ?_
        refine r_isub (pc := 83) h dX4_covers_83 ?_
        refine r_goto (pc := 84) (tgt := 88) h dX4_covers_84 (by decide) ?_
        refine r_ri t (pc := 88) dX4_covers_88 rfl ?_
        first
          | (have q2 : 2 < c 1 s + 4 - c 2 s := Nat.lt_of_not_le fun z => c78 (nI_le z (by decide))
             exact ⟨by rw [nI_sub (by omega)]; simp [cvr, covN, ek], rfl⟩)
          | (have q2 : c 1 s + 4 - c 2 s ≤ 2 := (nI_leI (by omega) (by decide)).mp c78
             refine ⟨?_, rfl⟩
             rw [cvr, ek, covN]
             simp only [Nat.reduceEqDiff, if_false]
             congr 1
             omega)
    · rw [ek]
      refine r_tabIn (pc := 43) (o := 46) (tgt := 89) h dX4_covers_43 (by decide) (by decide) (by decide) (by decide) ?_
      refine r_iload_n (pc := 89) h dX4_covers_89 rfl ?_
      refine r_iconst (pc := 90) h dX4_covers_90 ci_2 ?_
      refine r_idiv (pc := 91) h dX4_covers_91 (by decide) ?_
      refine r_ri t (pc := 92) dX4_covers_92 rfl ?_
      exact ⟨by rw [pk_div (by omega) (by decide) (by decide)]; simp [cvr, covN, ek], rfl⟩
    · rw [ek]
      refine r_tabIn (pc := 43) (o := 50) (tgt := 93) h dX4_covers_43 (by decide) (by decide) (by decide) (by decide) ?_
      refine r_iconst (pc := 93) h dX4_covers_93 ci_2 ?_
      refine r_iload_n (pc := 94) h dX4_covers_94 rfl ?_
      refine r_imul (pc := 95) h dX4_covers_95 ?_
      refine r_ri t (pc := 96) dX4_covers_96 rfl ?_
      exact ⟨by rw [pk_mul]; simp [cvr, covN, ek], rfl⟩
    · rw [ek]
      refine r_tabIn (pc := 43) (o := 54) (tgt := 97) h dX4_covers_43 (by decide) (by decide) (by decide) (by decide) ?_
      refine r_iconst (pc := 97) h dX4_covers_97 ci_2 ?_
      refine r_iload_n (pc := 98) h dX4_covers_98 rfl ?_
      refine r_imul (pc := 99) h dX4_covers_99 ?_
      refine r_iconst (pc := 100) h dX4_covers_100 ci_5 ?_
      refine r_iadd (pc := 101) h dX4_covers_101 ?_
      refine r_ri t (pc := 102) dX4_covers_102 rfl ?_
      exact ⟨by rw [pk_mul, nI_add]; simp [cvr, covN, ek], rfl⟩
    · rw [ek]
      refine r_tabIn (pc := 43) (o := 33) (tgt := 76) h dX4_covers_43 (by decide) (by decide) (by decide) (by decide) ?_
      refine r_iload_n (pc := 76) h dX4_covers_76 rfl ?_
      refine r_iconst (pc := 77) h dX4_covers_77 ci_2 ?_
      refine r_icmp_le (pc := 78) (tgt := 87) h dX4_covers_78 (by decide) (fun c78 => ?_) (fun c78 => ?_)
      · refine r_iconst (pc := 87) h dX4_covers_87 ci_0 ?_
        refine r_ri t (pc := 88) dX4_covers_88 rfl ?_
        first
          | (have q2 : 2 < c 1 s + 4 - c 2 s := Nat.lt_of_not_le fun z => c78 (nI_le z (by decide))
             exact ⟨by rw [nI_sub (by omega)]; simp [cvr, covN, ek], rfl⟩)
          | (have q2 : c 1 s + 4 - c 2 s ≤ 2 := (nI_leI (by omega) (by decide)).mp c78
             refine ⟨?_, rfl⟩
             rw [cvr, ek, covN]
             simp only [Nat.reduceEqDiff, if_false]
             congr 1
             omega)
      · refine r_iload_n (pc := 81) h dX4_covers_81 rfl ?_
        refine r_iconst (pc := 82) h dX4_covers_82 ci_2 ?_
        refine r_isub (pc := 83) h dX4_covers_83 ?_
        refine r_goto (pc := 84) (tgt := 88) h dX4_covers_84 (by decide) ?_
        refine r_ri t (pc := 88) dX4_covers_88 rfl ?_
        first
          | (have q2 : 2 < c 1 s + 4 - c 2 s := Nat.lt_of_not_le fun z => c78 (nI_le z (by decide))
             exact ⟨by rw [nI_sub (by omega)]; simp [cvr, covN, ek], rfl⟩)
          | (have q2 : c 1 s + 4 - c 2 s ≤ 2 := (nI_leI (by omega) (by decide)).mp c78
             refine ⟨?_, rfl⟩
             rw [cvr, ek, covN]
             simp only [Nat.reduceEqDiff, if_false]
             congr 1
             omega)
set_option maxRecDepth 100000 in
set_option maxHeartbeats 4000000 in
theorem c_X4_chafes {g : gG} {c : gCt} (hR : Rm g c) (ho : gok c) {s d : Nat} (hs : s < c 7 0) (hd : d < 2147483648) : gCi mX4_chafes [.ref 35, .int (nI s), .int (nI d)] g (fun x g1 => x = nI (chaN (c 0 s) (c 2 s) d) ∧ g1 = g) := by
  refine gCi_of (own := RX4) (ls0 := [.ref 35, .int (nI s), .int (nI d)]) ⟨rfl, pl_X4⟩ rfl (Nat.le_of_ble_eq_true rfl) (fun G (h : gR RX4 cX4_chafes 0 0 G) (t : gTi cX4_chafes .int _ G) => ?_)
  have hk := ho.2.2.1 s hs
  refine r_aload_n (pc := 0) h dX4_chafes_0 rfl ?_
  refine r_getR (pc := 1) h dX4_chafes_1 f_X4_13 sh_35 rfl ?_
  refine r_iload_n (pc := 4) h dX4_chafes_4 rfl ?_
  refine r_ialoadE (pc := 5) h dX4_chafes_5 sh_37 (hR.kd hs) ?_
  have hcase : c 0 s = 0 ∨ c 0 s = 1 ∨ c 0 s = 2 ∨ c 0 s = 3 ∨ c 0 s = 4 ∨ c 0 s = 5 := by omega
  rcases hcase with ek | ek | ek | ek | ek | ek
  · rw [ek]
    refine r_tabOut (pc := 6) (tgt := 63) h dX4_chafes_6 (by decide) (by decide) ?_
    refine r_iconst (pc := 63) h dX4_chafes_63 ci_2 ?_
    refine r_ri t (pc := 64) dX4_chafes_64 rfl ?_
    exact ⟨by rw [ek]; rfl, rfl⟩
  · rw [ek]
    refine r_tabIn (pc := 6) (o := 34) (tgt := 40) h dX4_chafes_6 (by decide) (by decide) (by decide) (by decide) ?_
    refine r_iconst (pc := 40) h dX4_chafes_40 ci_1 ?_
    refine r_ri t (pc := 41) dX4_chafes_41 rfl ?_
    exact ⟨by rw [ek]; rfl, rfl⟩
  · rw [ek]
    refine r_tabIn (pc := 6) (o := 36) (tgt := 42) h dX4_chafes_6 (by decide) (by decide) (by decide) (by decide) ?_
    refine r_iconst (pc := 42) h dX4_chafes_42 ci_0 ?_
    refine r_ri t (pc := 43) dX4_chafes_43 rfl ?_
    exact ⟨by rw [ek]; rfl, rfl⟩
  · rw [ek]
    refine r_tabIn (pc := 6) (o := 38) (tgt := 44) h dX4_chafes_6 (by decide) (by decide) (by decide) (by decide) ?_
    refine r_iconst (pc := 44) h dX4_chafes_44 ci_3 ?_
    refine r_ri t (pc := 45) dX4_chafes_45 rfl ?_
    exact ⟨by rw [ek]; rfl, rfl⟩
  · rw [ek]
    refine r_tabIn (pc := 6) (o := 40) (tgt := 46) h dX4_chafes_6 (by decide) (by decide) (by decide) (by decide) ?_
    refine r_iconst (pc := 46) h dX4_chafes_46 ci_3 ?_
    refine r_aload_n (pc := 47) h dX4_chafes_47 rfl ?_
    refine r_getR (pc := 48) h dX4_chafes_48 f_X4_19 sh_35 rfl ?_
    refine r_iload_n (pc := 51) h dX4_chafes_51 rfl ?_
    refine r_ialoadE (pc := 52) h dX4_chafes_52 sh_39 (hR.ru hs) ?_
    refine r_iconst (pc := 53) h dX4_chafes_53 ci_3 ?_
    refine r_idiv (pc := 54) h dX4_chafes_54 (by decide) ?_
    refine r_iadd (pc := 55) h dX4_chafes_55 ?_
    refine r_ri t (pc := 56) dX4_chafes_56 rfl ?_
    exact ⟨by rw [pk_div (by omega) (by decide) (by decide), nI_add, ek]; rfl, rfl⟩
  · rw [ek]
    refine r_tabIn (pc := 6) (o := 51) (tgt := 57) h dX4_chafes_6 (by decide) (by decide) (by decide) (by decide) ?_
    refine r_iconst (pc := 57) h dX4_chafes_57 ci_1 ?_
    refine r_iload_n (pc := 58) h dX4_chafes_58 rfl ?_
    refine r_iconst (pc := 59) h dX4_chafes_59 ci_2 ?_
    refine r_irem (pc := 60) h dX4_chafes_60 (by decide) ?_
    refine r_iadd (pc := 61) h dX4_chafes_61 ?_
    refine r_ri t (pc := 62) dX4_chafes_62 rfl ?_
    exact ⟨by rw [pk_rem (by omega) (by decide) (by decide), nI_add, ek]; rfl, rfl⟩
set_option maxRecDepth 100000 in
set_option maxHeartbeats 4000000 in
theorem c_X4_costs {g : gG} {c : gCt} (hR : Rm g c) (ho : gok c) {s : Nat} (hs : s < c 7 0) : gCi mX4_costs [.ref 35, .int (nI s)] g (fun x g1 => x = nI (priN (c 0 s)) ∧ g1 = g) := by
  refine gCi_of (own := RX4) (ls0 := [.ref 35, .int (nI s)]) ⟨rfl, pl_X4⟩ rfl (Nat.le_of_ble_eq_true rfl) (fun G (h : gR RX4 cX4_costs 0 0 G) (t : gTi cX4_costs .int _ G) => ?_)
  have hk := ho.2.2.1 s hs
  refine r_aload_n (pc := 0) h dX4_costs_0 rfl ?_
  refine r_getR (pc := 1) h dX4_costs_1 f_X4_13 sh_35 rfl ?_
  refine r_iload_n (pc := 4) h dX4_costs_4 rfl ?_
  refine r_ialoadE (pc := 5) h dX4_costs_5 sh_37 (hR.kd hs) ?_
  have hcase : c 0 s = 0 ∨ c 0 s = 1 ∨ c 0 s = 2 ∨ c 0 s = 3 ∨ c 0 s = 4 ∨ c 0 s = 5 := by omega
  rcases hcase with ek | ek | ek | ek | ek | ek
  · rw [ek]
    refine r_tabOut (pc := 6) (tgt := 49) h dX4_costs_6 (by decide) (by decide) ?_
    refine r_iconst (pc := 49) h dX4_costs_49 ci_3 ?_
    refine r_ri t (pc := 50) dX4_costs_50 rfl ?_
    exact ⟨by rw [ek]; rfl, rfl⟩
  · rw [ek]
    refine r_tabIn (pc := 6) (o := 34) (tgt := 40) h dX4_costs_6 (by decide) (by decide) (by decide) (by decide) ?_
    refine r_iconst (pc := 40) h dX4_costs_40 ci_2 ?_
    refine r_ri t (pc := 41) dX4_costs_41 rfl ?_
    exact ⟨by rw [ek]; rfl, rfl⟩
  · rw [ek]
    refine r_tabIn (pc := 6) (o := 36) (tgt := 42) h dX4_costs_6 (by decide) (by decide) (by decide) (by decide) ?_
    refine r_iconst (pc := 42) h dX4_costs_42 ci_1 ?_
    refine r_ri t (pc := 43) dX4_costs_43 rfl ?_
    exact ⟨by rw [ek]; rfl, rfl⟩
  · rw [ek]
    refine r_tabIn (pc := 6) (o := 38) (tgt := 44) h dX4_costs_6 (by decide) (by decide) (by decide) (by decide) ?_
    refine r_bipush (pc := 44) h dX4_costs_44 cb_6 ?_
    refine r_ri t (pc := 46) dX4_costs_46 rfl ?_
    exact ⟨by rw [ek]; rfl, rfl⟩
  · rw [ek]
    refine r_tabIn (pc := 6) (o := 38) (tgt := 44) h dX4_costs_6 (by decide) (by decide) (by decide) (by decide) ?_
    refine r_bipush (pc := 44) h dX4_costs_44 cb_6 ?_
    refine r_ri t (pc := 46) dX4_costs_46 rfl ?_
    exact ⟨by rw [ek]; rfl, rfl⟩
  · rw [ek]
    refine r_tabIn (pc := 6) (o := 41) (tgt := 47) h dX4_costs_6 (by decide) (by decide) (by decide) (by decide) ?_
    refine r_iconst (pc := 47) h dX4_costs_47 ci_0 ?_
    refine r_ri t (pc := 48) dX4_costs_48 rfl ?_
    exact ⟨by rw [ek]; rfl, rfl⟩
set_option maxRecDepth 100000 in
set_option maxHeartbeats 4000000 in
theorem c_X4_wearerOf {g : gG} {c : gCt} (hR : Rm g c) (ho : gok c) {s : Nat} (hs : s < 2147483647) : gCi mX4_wearerOf [.ref 35, .int (nI s)] g (fun x g1 => x = oI (wr c s) ∧ g1 = g) := by
  refine gCi_of (own := RX4) (ls0 := [.ref 35, .int (nI s), .null]) ⟨rfl, pl_X4⟩ rfl (Nat.le_of_ble_eq_true rfl) (fun G (h : gR RX4 cX4_wearerOf 0 0 G) (t : gTi cX4_wearerOf .int _ G) => ?_)
  have hn5 := hR.n5
  have hn6 := hR.n6
  have loop : ∀ n i, i + n = c 7 1 → wr c s = gfind (fun i => c 6 i == s + 1) n i → G 2 [.ref 35, .int (nI s), .int (nI i)] [] g := by
    intro n
    induction n with
    | zero =>
      intro i hi hw
      refine r_iload_n (pc := 2) h dX4_wearerOf_2 rfl ?_
      refine r_aload_n (pc := 3) h dX4_wearerOf_3 rfl ?_
      refine r_getE (pc := 4) h dX4_wearerOf_4 f_X4_67 sh_35 rfl (hR.nc) ?_
      refine r_icmp_ge (pc := 7) (tgt := 30) h dX4_wearerOf_7 (by decide) (fun c7 => ?_) (fun c7 => absurd (nI_le (by omega) (by omega)) c7)
      refine r_bipush (pc := 30) h dX4_wearerOf_30 cb_m9 ?_
      refine r_ri t (pc := 32) dX4_wearerOf_32 rfl ?_
      exact ⟨by rw [hw]; rfl, rfl⟩
    | succ n ih =>
      intro i hin hw
      have hi : i < c 7 1 := by omega
      have hw6 : c 6 i < 2147483648 := by have := (ho.2.2.2 i hi).2.2.2; omega
      refine r_iload_n (pc := 2) h dX4_wearerOf_2 rfl ?_
      refine r_aload_n (pc := 3) h dX4_wearerOf_3 rfl ?_
      refine r_getE (pc := 4) h dX4_wearerOf_4 f_X4_67 sh_35 rfl (hR.nc) ?_
      refine r_icmp_ge (pc := 7) (tgt := 30) h dX4_wearerOf_7 (by decide) (fun c7 => absurd c7 (nI_ge hi (by omega))) (fun c7 => ?_)
      refine r_aload_n (pc := 10) h dX4_wearerOf_10 rfl ?_
      refine r_getR (pc := 11) h dX4_wearerOf_11 f_X4_31 sh_35 rfl ?_
      refine r_iload_n (pc := 14) h dX4_wearerOf_14 rfl ?_
      refine r_ialoadE (pc := 15) h dX4_wearerOf_15 sh_43 (hR.wo hi) ?_
      refine r_iload_n (pc := 16) h dX4_wearerOf_16 rfl ?_
      refine r_iconst (pc := 17) h dX4_wearerOf_17 ci_1 ?_
      refine r_iadd (pc := 18) h dX4_wearerOf_18 ?_
      refine r_top (y := nI (s + 1)) h (nI_add _ _) ?_
      refine r_icmp_ne (pc := 19) (tgt := 24) h dX4_wearerOf_19 (by decide) (fun c19 => ?_) (fun c19 => ?_)
      · refine r_iinc (pc := 24) (ls2 := [_, _, _]) h dX4_wearerOf_24 rfl (ic1 _) rfl ?_
        refine r_goto (pc := 27) (tgt := 2) h dX4_wearerOf_27 (by decide) ?_
        exact ih (i + 1) (by omega) (by rw [hw, gfind, if_neg (by simpa using fun q : c 6 i = s + 1 => c19 (by rw [q]))])
      · refine r_iload_n (pc := 22) h dX4_wearerOf_22 rfl ?_
        refine r_ri t (pc := 23) dX4_wearerOf_23 rfl ?_
        exact ⟨by rw [hw, gfind, if_pos (by simpa using (nI_eq hw6 (by omega)).mp c19)]; rfl, rfl⟩
  refine r_iconst (pc := 0) h dX4_wearerOf_0 ci_0 ?_
  refine r_istore_n (pc := 1) (ls2 := [_, _, _]) h dX4_wearerOf_1 (Nat.le_of_ble_eq_true rfl) rfl ?_
  exact loop (c 7 1) 0 (by omega) rfl
set_option maxRecDepth 100000 in
set_option maxHeartbeats 4000000 in
theorem c_X4_putsOn {g : gG} {c : gCt} (hR : Rm g c) (ho : gok c) {i s : Nat} (hi : i < c 7 1) (hs : s < c 7 0) : gCv mX4_putsOn [.ref 35, .int (nI i), .int (nI s)] g (fun g1 => Rm g1 (put c i s) ∧ fmC g g1) := by
  refine gCv_of (own := RX4) (ls0 := [.ref 35, .int (nI i), .int (nI s), .null]) ⟨rfl, pl_X4⟩ rfl (Nat.le_of_ble_eq_true rfl) (fun G (h : gR RX4 cX4_putsOn 1 40 G) (t : gTv cX4_putsOn _ G) => ?_)
  have hn5 := hR.n5
  have hn6 := hR.n6
  suffices H : ∀ g2 : gG, Rm g2 c → fmC g g2 → G 0 [.ref 35, .int (nI i), .int (nI s), .null] [] g2 from H g hR fmC.rf
  intro g2 hR hF
  refine r_aload_n (pc := 0) h dX4_putsOn_0 rfl ?_
  refine r_iload_n (pc := 1) h dX4_putsOn_1 rfl ?_
  refine r_callVi (pc := 2) (As := [_]) h dX4_putsOn_2 k_X4_169 gc_35 rfl ⟨Nat.le_of_ble_eq_true rfl, Nat.le_of_ble_eq_true rfl, Nat.le_of_ble_eq_true rfl⟩ (c_X4_wearerOf hR ho (by omega)) (fun x_2 g1 hq => ?_)
  obtain ⟨rfl, hg1⟩ := hq
  rw [hg1]
  refine r_istore_n (pc := 5) (ls2 := [_, _, _, _]) h dX4_putsOn_5 (Nat.le_of_ble_eq_true rfl) rfl ?_
  refine r_iload_n (pc := 6) h dX4_putsOn_6 rfl ?_
  refine r_if_lt (pc := 7) (tgt := 17) h dX4_putsOn_7 (by decide) (fun c7 => ?_) (fun c7 => ?_)
  · have hw : wr c s = none := (wr_neg hn5).mp c7
    refine r_aload_n (pc := 17) h dX4_putsOn_17 rfl ?_
    refine r_getR (pc := 18) h dX4_putsOn_18 f_X4_31 sh_35 rfl ?_
    refine r_iload_n (pc := 21) h dX4_putsOn_21 rfl ?_
    refine r_iload_n (pc := 22) h dX4_putsOn_22 rfl ?_
    refine r_iconst (pc := 23) h dX4_putsOn_23 ci_1 ?_
    refine r_iadd (pc := 24) h dX4_putsOn_24 ?_
    refine r_top (y := nI (s + 1)) h (nI_add _ _) ?_
    refine r_iastore (pc := 25) h dX4_putsOn_25 sh_43 (hR.ci hi) ?_
    obtain ⟨hR, hF⟩ := Rm.wrC hF (hR.u_wo hi (s + 1)) (by omega)
    generalize gup g2 43 _ _ = g2 at hR hF ⊢
    refine r_rv t (pc := 26) dX4_putsOn_26 ?_
    refine ⟨?_, hF⟩
    unfold put
    rw [hw]
    exact hR
  · obtain ⟨k, hw⟩ : ∃ k, wr c s = some k := Option.ne_none_iff_exists'.mp (fun q => c7 ((wr_neg hn5).mpr q))
    have hk : k < c 7 1 := (wr_lt hw).1
    rw [show oI (wr c s) = nI k by rw [hw]; rfl]
    refine r_aload_n (pc := 10) h dX4_putsOn_10 rfl ?_
    refine r_getR (pc := 11) h dX4_putsOn_11 f_X4_31 sh_35 rfl ?_
    refine r_iload_n (pc := 14) h dX4_putsOn_14 rfl ?_
    refine r_iconst (pc := 15) h dX4_putsOn_15 ci_0 ?_
    refine r_iastore (pc := 16) h dX4_putsOn_16 sh_43 (hR.ci hk) ?_
    obtain ⟨hR, hF⟩ := Rm.wrC hF (hR.u_wo hk 0) (by omega)
    generalize gup g2 43 _ _ = g2 at hR hF ⊢
    refine r_aload_n (pc := 17) h dX4_putsOn_17 rfl ?_
    refine r_getR (pc := 18) h dX4_putsOn_18 f_X4_31 sh_35 rfl ?_
    refine r_iload_n (pc := 21) h dX4_putsOn_21 rfl ?_
    refine r_iload_n (pc := 22) h dX4_putsOn_22 rfl ?_
    refine r_iconst (pc := 23) h dX4_putsOn_23 ci_1 ?_
    refine r_iadd (pc := 24) h dX4_putsOn_24 ?_
    refine r_top (y := nI (s + 1)) h (nI_add _ _) ?_
    refine r_iastore (pc := 25) h dX4_putsOn_25 sh_43 (hR.ci hi) ?_
    obtain ⟨hR, hF⟩ := Rm.wrC hF (hR.u_wo hi (s + 1)) (by omega)
    generalize gup g2 43 _ _ = g2 at hR hF ⊢
    refine r_rv t (pc := 26) dX4_putsOn_26 ?_
    refine ⟨?_, hF⟩
    unfold put
    rw [hw]
    exact hR
set_option maxRecDepth 100000 in
set_option maxHeartbeats 4000000 in
theorem c_X4_courageIn {g : gG} {c : gCt} (hR : Rm g c) (ho : gok c) {i cov : Nat} (hi : i < c 7 1) : gCi mX4_courageIn [.ref 35, .int (nI i), .int (nI cov)] g (fun x g1 => x = brI c i cov ∧ g1 = g) := by
  refine gCi_of (own := RX4) (ls0 := [.ref 35, .int (nI i), .int (nI cov)]) ⟨rfl, pl_X4⟩ rfl (Nat.le_of_ble_eq_true rfl) (fun G (h : gR RX4 cX4_courageIn 0 0 G) (t : gTi cX4_courageIn .int _ G) => ?_)
  have hk := ho.2.2.2 i hi
  refine r_iload_n (pc := 0) h dX4_courageIn_0 rfl ?_
  refine r_aload_n (pc := 1) h dX4_courageIn_1 rfl ?_
  refine r_getR (pc := 2) h dX4_courageIn_2 f_X4_28 sh_35 rfl ?_
  refine r_iload_n (pc := 5) h dX4_courageIn_5 rfl ?_
  refine r_ialoadE (pc := 6) h dX4_courageIn_6 sh_42 (hR.sa hi) ?_
  refine r_iadd (pc := 7) h dX4_courageIn_7 ?_
  refine r_aload_n (pc := 8) h dX4_courageIn_8 rfl ?_
  refine r_getR (pc := 9) h dX4_courageIn_9 f_X4_22 sh_35 rfl ?_
  refine r_iload_n (pc := 12) h dX4_courageIn_12 rfl ?_
  refine r_ialoadE (pc := 13) h dX4_courageIn_13 sh_40 (hR.fe hi) ?_
  refine r_isub (pc := 14) h dX4_courageIn_14 ?_
  refine r_aload_n (pc := 15) h dX4_courageIn_15 rfl ?_
  refine r_getR (pc := 16) h dX4_courageIn_16 f_X4_25 sh_35 rfl ?_
  refine r_iload_n (pc := 19) h dX4_courageIn_19 rfl ?_
  refine r_ialoadE (pc := 20) h dX4_courageIn_20 sh_41 (hR.so hi) ?_
  refine r_iconst (pc := 21) h dX4_courageIn_21 ci_3 ?_
  refine r_idiv (pc := 22) h dX4_courageIn_22 (by decide) ?_
  refine r_isub (pc := 23) h dX4_courageIn_23 ?_
  refine r_ri t (pc := 24) dX4_courageIn_24 rfl ?_
  exact ⟨by rw [pk_div (by omega) (by decide) (by decide)]; rfl, rfl⟩
set_option maxRecDepth 100000 in
set_option maxHeartbeats 4000000 in
theorem c_X4_courageOf {g : gG} {c : gCt} (hR : Rm g c) (ho : gok c) {i : Nat} (hi : i < c 7 1) : gCi mX4_courageOf [.ref 35, .int (nI i)] g (fun x g1 => x = brI c i (covOf c i) ∧ g1 = g) := by
  refine gCi_of (own := RX4) (ls0 := [.ref 35, .int (nI i)]) ⟨rfl, pl_X4⟩ rfl (Nat.le_of_ble_eq_true rfl) (fun G (h : gR RX4 cX4_courageOf 1 40 G) (t : gTi cX4_courageOf .int _ G) => ?_)
  have hk := ho.2.2.2 i hi
  have hn6 := hR.n6
  refine r_aload_n (pc := 0) h dX4_courageOf_0 rfl ?_
  refine r_iload_n (pc := 1) h dX4_courageOf_1 rfl ?_
  refine r_aload_n (pc := 2) h dX4_courageOf_2 rfl ?_
  refine r_getR (pc := 3) h dX4_courageOf_3 f_X4_31 sh_35 rfl ?_
  refine r_iload_n (pc := 6) h dX4_courageOf_6 rfl ?_
  refine r_ialoadE (pc := 7) h dX4_courageOf_7 sh_43 (hR.wo hi) ?_
  refine r_if_ne (pc := 8) (tgt := 15) h dX4_courageOf_8 (by decide) (fun c8 => ?_) (fun c8 => ?_)
  · have n0 : ¬ c 6 i = 0 := fun q => c8 (by rw [q]; rfl)
    have hs : c 6 i - 1 < c 7 0 := by omega
    have ec : covOf c i = cvr c (c 6 i - 1) := by simp [covOf, n0]
    refine r_aload_n (pc := 15) h dX4_courageOf_15 rfl ?_
    refine r_aload_n (pc := 16) h dX4_courageOf_16 rfl ?_
    refine r_getR (pc := 17) h dX4_courageOf_17 f_X4_31 sh_35 rfl ?_
    refine r_iload_n (pc := 20) h dX4_courageOf_20 rfl ?_
    refine r_ialoadE (pc := 21) h dX4_courageOf_21 sh_43 (hR.wo hi) ?_
    refine r_iconst (pc := 22) h dX4_courageOf_22 ci_1 ?_
    refine r_isub (pc := 23) h dX4_courageOf_23 ?_
    refine r_top (y := nI (c 6 i - 1)) h (nI_sub (by omega)) ?_
    refine r_callVi (pc := 24) (As := [_]) h dX4_courageOf_24 k_X4_172 gc_35 rfl ⟨Nat.le_of_ble_eq_true rfl, Nat.le_of_ble_eq_true rfl, Nat.le_of_ble_eq_true rfl⟩ (c_X4_covers hR ho hs) (fun x_24 g1 hq => ?_)
    obtain ⟨rfl, rfl⟩ := hq
    refine r_callVi (pc := 27) (As := [_, _]) h dX4_courageOf_27 k_X4_175 gc_35 rfl ⟨Nat.le_of_ble_eq_true rfl, Nat.le_of_ble_eq_true rfl, Nat.le_of_ble_eq_true rfl⟩ (c_X4_courageIn hR ho hi) (fun x_27 g1 hq => ?_)
    obtain ⟨rfl, rfl⟩ := hq
    refine r_ri t (pc := 30) dX4_courageOf_30 rfl ?_
    exact ⟨by rw [ec], rfl⟩
  · have e6 : c 6 i = 0 := (nI_eq0 (by omega)).mp c8
    have ec : covOf c i = 0 := by simp [covOf, e6]
    refine r_iconst (pc := 11) h dX4_courageOf_11 ci_0 ?_
    refine r_goto (pc := 12) (tgt := 27) h dX4_courageOf_12 (by decide) ?_
    refine r_callVi (pc := 27) (As := [_, _]) h dX4_courageOf_27 k_X4_175 gc_35 rfl ⟨Nat.le_of_ble_eq_true rfl, Nat.le_of_ble_eq_true rfl, Nat.le_of_ble_eq_true rfl⟩ (c_X4_courageIn hR ho hi) (fun x_27 g1 hq => ?_)
    obtain ⟨rfl, rfl⟩ := hq
    refine r_ri t (pc := 30) dX4_courageOf_30 rfl ?_
    exact ⟨by rw [ec], rfl⟩
set_option maxRecDepth 100000 in
set_option maxHeartbeats 4000000 in
theorem c_X4_isEnough {g : gG} {c : gCt} (hR : Rm g c) (ho : gok c) {i cov : Nat} (hi : i < c 7 1) (hcov : cov ≤ 31) : gCi mX4_isEnough [.ref 35, .int (nI i), .int (nI cov)] g (fun x g1 => x = bI (canB c i cov) ∧ g1 = g) := by
  refine gCi_of (own := RX4) (ls0 := [.ref 35, .int (nI i), .int (nI cov)]) ⟨rfl, pl_X4⟩ rfl (Nat.le_of_ble_eq_true rfl) (fun G (h : gR RX4 cX4_isEnough 1 40 G) (t : gTi cX4_isEnough .boolean _ G) => ?_)
  have hk := ho.2.2.2 i hi
  refine r_aload_n (pc := 0) h dX4_isEnough_0 rfl ?_
  refine r_getR (pc := 1) h dX4_isEnough_1 f_X4_28 sh_35 rfl ?_
  refine r_iload_n (pc := 4) h dX4_isEnough_4 rfl ?_
  refine r_ialoadE (pc := 5) h dX4_isEnough_5 sh_42 (hR.sa hi) ?_
  refine r_bipush (pc := 6) h dX4_isEnough_6 cb_6 ?_
  refine r_icmp_ge (pc := 8) (tgt := 34) h dX4_isEnough_8 (by decide) (fun c8 => ?_) (fun c8 => ?_)
  · have q6 : 6 ≤ c 5 i := (nI_leI (by decide) (by omega)).mp c8
    have q : canB c i cov = false := by simp [canB]; omega
    refine r_iconst (pc := 34) h dX4_isEnough_34 ci_0 ?_
    refine r_ri t (pc := 35) dX4_isEnough_35 (by decide) ?_
    exact ⟨by rw [q]; rfl, rfl⟩
  · have q6 : c 5 i < 6 := Nat.lt_of_not_le fun q => c8 (nI_le q (by omega))
    refine r_aload_n (pc := 11) h dX4_isEnough_11 rfl ?_
    refine r_iload_n (pc := 12) h dX4_isEnough_12 rfl ?_
    refine r_iload_n (pc := 13) h dX4_isEnough_13 rfl ?_
    refine r_callVi (pc := 14) (As := [_, _]) h dX4_isEnough_14 k_X4_175 gc_35 rfl ⟨Nat.le_of_ble_eq_true rfl, Nat.le_of_ble_eq_true rfl, Nat.le_of_ble_eq_true rfl⟩ (c_X4_courageIn hR ho hi) (fun x_14 g1 hq => ?_)
    obtain ⟨rfl, rfl⟩ := hq
    refine r_iconst (pc := 17) h dX4_isEnough_17 ci_2 ?_
    refine r_aload_n (pc := 18) h dX4_isEnough_18 rfl ?_
    refine r_getR (pc := 19) h dX4_isEnough_19 f_X4_28 sh_35 rfl ?_
    refine r_iload_n (pc := 22) h dX4_isEnough_22 rfl ?_
    refine r_ialoadE (pc := 23) h dX4_isEnough_23 sh_42 (hR.sa hi) ?_
    refine r_imul (pc := 24) h dX4_isEnough_24 ?_
    refine r_iconst (pc := 25) h dX4_isEnough_25 ci_4 ?_
    refine r_isub (pc := 26) h dX4_isEnough_26 ?_
    refine r_icmp_lt (pc := 27) (tgt := 34) h dX4_isEnough_27 (by decide) (fun c27 => ?_) (fun c27 => ?_)
    · have q := (canB_lt2 q6 hk.1 hk.2.1 hcov).mp c27
      refine r_iconst (pc := 34) h dX4_isEnough_34 ci_0 ?_
      refine r_ri t (pc := 35) dX4_isEnough_35 (by decide) ?_
      exact ⟨by rw [q]; rfl, rfl⟩
    · have q : canB c i cov = true := by simpa using mt (canB_lt2 q6 hk.1 hk.2.1 hcov).mpr c27
      refine r_iconst (pc := 30) h dX4_isEnough_30 ci_1 ?_
      refine r_goto (pc := 31) (tgt := 35) h dX4_isEnough_31 (by decide) ?_
      refine r_ri t (pc := 35) dX4_isEnough_35 (by decide) ?_
      exact ⟨by rw [q]; rfl, rfl⟩
set_option maxRecDepth 100000 in
set_option maxHeartbeats 4000000 in
theorem c_X4_canSay {g : gG} {c : gCt} (hR : Rm g c) (ho : gok c) {i : Nat} (hi : i < c 7 1) : gCi mX4_canSay [.ref 35, .int (nI i)] g (fun x g1 => x = bI (canB c i (covOf c i)) ∧ g1 = g) := by
  refine gCi_of (own := RX4) (ls0 := [.ref 35, .int (nI i)]) ⟨rfl, pl_X4⟩ rfl (Nat.le_of_ble_eq_true rfl) (fun G (h : gR RX4 cX4_canSay 2 80 G) (t : gTi cX4_canSay .boolean _ G) => ?_)
  have hk := ho.2.2.2 i hi
  have hn6 := hR.n6
  have hcv := covOf_le ho hi
  refine r_aload_n (pc := 0) h dX4_canSay_0 rfl ?_
  refine r_iload_n (pc := 1) h dX4_canSay_1 rfl ?_
  refine r_aload_n (pc := 2) h dX4_canSay_2 rfl ?_
  refine r_getR (pc := 3) h dX4_canSay_3 f_X4_31 sh_35 rfl ?_
  refine r_iload_n (pc := 6) h dX4_canSay_6 rfl ?_
  refine r_ialoadE (pc := 7) h dX4_canSay_7 sh_43 (hR.wo hi) ?_
  refine r_if_ne (pc := 8) (tgt := 15) h dX4_canSay_8 (by decide) (fun c8 => ?_) (fun c8 => ?_)
  · have n0 : ¬ c 6 i = 0 := fun q => c8 (by rw [q]; rfl)
    have hs : c 6 i - 1 < c 7 0 := by omega
    have ec : covOf c i = cvr c (c 6 i - 1) := by simp [covOf, n0]
    refine r_aload_n (pc := 15) h dX4_canSay_15 rfl ?_
    refine r_aload_n (pc := 16) h dX4_canSay_16 rfl ?_
    refine r_getR (pc := 17) h dX4_canSay_17 f_X4_31 sh_35 rfl ?_
    refine r_iload_n (pc := 20) h dX4_canSay_20 rfl ?_
    refine r_ialoadE (pc := 21) h dX4_canSay_21 sh_43 (hR.wo hi) ?_
    refine r_iconst (pc := 22) h dX4_canSay_22 ci_1 ?_
    refine r_isub (pc := 23) h dX4_canSay_23 ?_
    refine r_top (y := nI (c 6 i - 1)) h (nI_sub (by omega)) ?_
    refine r_callVi (pc := 24) (As := [_]) h dX4_canSay_24 k_X4_172 gc_35 rfl ⟨Nat.le_of_ble_eq_true rfl, Nat.le_of_ble_eq_true rfl, Nat.le_of_ble_eq_true rfl⟩ (c_X4_covers hR ho hs) (fun x_24 g1 hq => ?_)
    obtain ⟨rfl, rfl⟩ := hq
    refine r_callVi (pc := 27) (As := [_, _]) h dX4_canSay_27 k_X4_179 gc_35 rfl ⟨Nat.le_of_ble_eq_true rfl, Nat.le_of_ble_eq_true rfl, Nat.le_of_ble_eq_true rfl⟩ (c_X4_isEnough hR ho hi (by rw [← ec]; exact hcv)) (fun x_27 g1 hq => ?_)
    obtain ⟨rfl, rfl⟩ := hq
    refine r_ri t (pc := 30) dX4_canSay_30 (bI_nar _) ?_
    exact ⟨by rw [ec], rfl⟩
  · have e6 : c 6 i = 0 := (nI_eq0 (by omega)).mp c8
    have ec : covOf c i = 0 := by simp [covOf, e6]
    refine r_iconst (pc := 11) h dX4_canSay_11 ci_0 ?_
    refine r_goto (pc := 12) (tgt := 27) h dX4_canSay_12 (by decide) ?_
    refine r_callVi (pc := 27) (As := [_, _]) h dX4_canSay_27 k_X4_179 gc_35 rfl ⟨Nat.le_of_ble_eq_true rfl, Nat.le_of_ble_eq_true rfl, Nat.le_of_ble_eq_true rfl⟩ (c_X4_isEnough hR ho hi (by rw [← ec]; exact hcv)) (fun x_27 g1 hq => ?_)
    obtain ⟨rfl, rfl⟩ := hq
    refine r_ri t (pc := 30) dX4_canSay_30 (bI_nar _) ?_
    exact ⟨by rw [ec], rfl⟩
set_option maxRecDepth 100000 in
set_option maxHeartbeats 4000000 in
theorem c_X4_lacks {g : gG} {c : gCt} (hR : Rm g c) (ho : gok c) {i : Nat} (hi : i < c 7 1) : gCi mX4_lacks [.ref 35, .int (nI i)] g (fun x g1 => x = nI (lkN c i) ∧ g1 = g) := by
  refine gCi_of (own := RX4) (ls0 := [.ref 35, .int (nI i)]) ⟨rfl, pl_X4⟩ rfl (Nat.le_of_ble_eq_true rfl) (fun G (h : gR RX4 cX4_lacks 3 120 G) (t : gTi cX4_lacks .int _ G) => ?_)
  have hk := ho.2.2.2 i hi
  refine r_aload_n (pc := 0) h dX4_lacks_0 rfl ?_
  refine r_getR (pc := 1) h dX4_lacks_1 f_X4_28 sh_35 rfl ?_
  refine r_iload_n (pc := 4) h dX4_lacks_4 rfl ?_
  refine r_ialoadE (pc := 5) h dX4_lacks_5 sh_42 (hR.sa hi) ?_
  refine r_bipush (pc := 6) h dX4_lacks_6 cb_6 ?_
  refine r_icmp_eq (pc := 8) (tgt := 19) h dX4_lacks_8 (by decide) (fun c8 => ?_) (fun c8 => ?_)
  · have q6 : c 5 i = 6 := (nI_eq (by omega) (by decide)).mp c8
    have q : lkN c i = 0 := by simp [lkN, q6]
    refine r_iconst (pc := 19) h dX4_lacks_19 ci_0 ?_
    refine r_goto (pc := 20) (tgt := 39) h dX4_lacks_20 (by decide) ?_
    refine r_ri t (pc := 39) dX4_lacks_39 rfl ?_
    first | exact ⟨by rw [q], rfl⟩ | exact ⟨lkN_eq2 q q6, rfl⟩
  · have q6 : c 5 i < 6 := by have : ¬ c 5 i = 6 := fun q => c8 (by rw [q]); omega
    refine r_aload_n (pc := 11) h dX4_lacks_11 rfl ?_
    refine r_iload_n (pc := 12) h dX4_lacks_12 rfl ?_
    refine r_callVi (pc := 13) (As := [_]) h dX4_lacks_13 k_X4_182 gc_35 rfl ⟨Nat.le_of_ble_eq_true rfl, Nat.le_of_ble_eq_true rfl, Nat.le_of_ble_eq_true rfl⟩ (c_X4_canSay hR ho hi) (fun x_13 g1 hq => ?_)
    obtain ⟨rfl, rfl⟩ := hq
    refine r_if_eq (pc := 16) (tgt := 23) h dX4_lacks_16 (by decide) (fun c16 => ?_) (fun c16 => ?_)
    · have q := (bI_0 _).mp c16
      refine r_iconst (pc := 23) h dX4_lacks_23 ci_2 ?_
      refine r_aload_n (pc := 24) h dX4_lacks_24 rfl ?_
      refine r_getR (pc := 25) h dX4_lacks_25 f_X4_28 sh_35 rfl ?_
      refine r_iload_n (pc := 28) h dX4_lacks_28 rfl ?_
      refine r_ialoadE (pc := 29) h dX4_lacks_29 sh_42 (hR.sa hi) ?_
      refine r_imul (pc := 30) h dX4_lacks_30 ?_
      refine r_iconst (pc := 31) h dX4_lacks_31 ci_4 ?_
      refine r_isub (pc := 32) h dX4_lacks_32 ?_
      refine r_aload_n (pc := 33) h dX4_lacks_33 rfl ?_
      refine r_iload_n (pc := 34) h dX4_lacks_34 rfl ?_
      refine r_callVi (pc := 35) (As := [_]) h dX4_lacks_35 k_X4_185 gc_35 rfl ⟨Nat.le_of_ble_eq_true rfl, Nat.le_of_ble_eq_true rfl, Nat.le_of_ble_eq_true rfl⟩ (c_X4_courageOf hR ho hi) (fun x_35 g1 hq => ?_)
      obtain ⟨rfl, rfl⟩ := hq
      refine r_isub (pc := 38) h dX4_lacks_38 ?_
      refine r_ri t (pc := 39) dX4_lacks_39 rfl ?_
      first | exact ⟨by rw [q], rfl⟩ | exact ⟨lkN_eq2 q q6, rfl⟩
    · have q0 : canB c i (covOf c i) = true := by simpa using mt (bI_0 (canB c i (covOf c i))).mpr c16
      have q : lkN c i = 0 := by unfold canB at q0; have := of_decide_eq_true q0; unfold lkN; split <;> omega
      refine r_iconst (pc := 19) h dX4_lacks_19 ci_0 ?_
      refine r_goto (pc := 20) (tgt := 39) h dX4_lacks_20 (by decide) ?_
      refine r_ri t (pc := 39) dX4_lacks_39 rfl ?_
      first | exact ⟨by rw [q], rfl⟩ | exact ⟨lkN_eq2 q q6, rfl⟩
set_option maxRecDepth 100000 in
set_option maxHeartbeats 4000000 in
theorem c_X4_goesCaller {g : gG} {c : gCt} (hR : Rm g c) (ho : gok c) {i : Nat} (hi : i < c 7 1) : gCv mX4_goesCaller [.ref 35, .int (nI i)] g (fun g1 => Rm g1 (live c i) ∧ fmC g g1) := by
  refine gCv_of (own := RX4) (ls0 := [.ref 35, .int (nI i), .null, .null]) ⟨rfl, pl_X4⟩ rfl (Nat.le_of_ble_eq_true rfl) (fun G (h : gR RX4 cX4_goesCaller 3 120 G) (t : gTv cX4_goesCaller _ G) => ?_)
  have hn5 := hR.n5
  have hn6 := hR.n6
  have hk4 := ho.2.2.2 i hi
  have hpd := ho.1
  have hdy := ho.2.1
  suffices H : ∀ g2 : gG, Rm g2 c → fmC g g2 → G 0 [.ref 35, .int (nI i), .null, .null] [] g2 from H g hR fmC.rf
  intro g2 hR hF
  refine r_aload_n (pc := 0) h dX4_goesCaller_0 rfl ?_
  refine r_getR (pc := 1) h dX4_goesCaller_1 f_X4_31 sh_35 rfl ?_
  refine r_iload_n (pc := 4) h dX4_goesCaller_4 rfl ?_
  refine r_ialoadE (pc := 5) h dX4_goesCaller_5 sh_43 (hR.wo hi) ?_
  refine r_if_ne (pc := 6) (tgt := 29) h dX4_goesCaller_6 (by decide) (fun c6 => ?_) (fun c6 => ?_)
  · have n0 : ¬ c 6 i = 0 := fun q => c6 (by rw [q]; rfl)
    obtain ⟨s, e6⟩ : ∃ s, c 6 i = s + 1 := ⟨c 6 i - 1, by omega⟩
    have hs : s < c 7 0 := by omega
    have es : c 6 i - 1 = s := by omega
    have hk := ho.2.2.1 s hs
    have hpr := priN_le (c 0 s)
    have hch := chaN_le hk.2.2 (k := c 0 s) (c 7 3)
    have ec : covOf c i = cvr c s := by simp [covOf, e6]
    refine r_aload_n (pc := 29) h dX4_goesCaller_29 rfl ?_
    refine r_getR (pc := 30) h dX4_goesCaller_30 f_X4_31 sh_35 rfl ?_
    refine r_iload_n (pc := 33) h dX4_goesCaller_33 rfl ?_
    refine r_ialoadE (pc := 34) h dX4_goesCaller_34 sh_43 (hR.wo hi) ?_
    refine r_iconst (pc := 35) h dX4_goesCaller_35 ci_1 ?_
    refine r_isub (pc := 36) h dX4_goesCaller_36 ?_
    refine r_top (y := nI s) h (by rw [nI_sub (by omega), es]) ?_
    refine r_istore_n (pc := 37) (ls2 := [_, _, _, _]) h dX4_goesCaller_37 (Nat.le_of_ble_eq_true rfl) rfl ?_
    refine r_aload_n (pc := 38) h dX4_goesCaller_38 rfl ?_
    refine r_aload_n (pc := 39) h dX4_goesCaller_39 rfl ?_
    refine r_getE (pc := 40) h dX4_goesCaller_40 f_X4_163 sh_35 rfl (hR.pd) ?_
    refine r_aload_n (pc := 43) h dX4_goesCaller_43 rfl ?_
    refine r_iload_n (pc := 44) h dX4_goesCaller_44 rfl ?_
    refine r_callVi (pc := 45) (As := [_]) h dX4_goesCaller_45 k_X4_191 gc_35 rfl ⟨Nat.le_of_ble_eq_true rfl, Nat.le_of_ble_eq_true rfl, Nat.le_of_ble_eq_true rfl⟩ (c_X4_costs hR ho hs) (fun x_45 g1 hq => ?_)
    obtain ⟨rfl, hg1⟩ := hq
    rw [hg1]
    refine r_iadd (pc := 48) h dX4_goesCaller_48 ?_
    refine r_sipush (pc := 49) h dX4_goesCaller_49 cs_9999 ?_
    refine r_callSi (pc := 52) (As := [_, _]) h dX4_goesCaller_52 k_X4_188 rfl ⟨Nat.le_of_ble_eq_true rfl, Nat.le_of_ble_eq_true rfl, Nat.le_of_ble_eq_true rfl⟩ (c_X4_held _ _) (fun x_52 g1 hq => ?_)
    obtain ⟨rfl, hg1⟩ := hq
    rw [hg1]
    refine r_top (y := nI (cap (c 7 2 + priN (c 0 s)) 9999)) h (by rw [nI_add]; exact hld_add (by omega) (by decide)) ?_
    refine r_putI (pc := 55) h dX4_goesCaller_55 fw_X4_163 sh_35 rfl rfl rfl ?_
    obtain ⟨hR, hF⟩ := Rm.wrC hF (hR.u_pd _) (by omega)
    generalize gup g2 35 _ _ = g2 at hR hF ⊢
    refine r_aload_n (pc := 58) h dX4_goesCaller_58 rfl ?_
    refine r_iload_n (pc := 59) h dX4_goesCaller_59 rfl ?_
    refine r_callVi (pc := 60) (As := [_]) h dX4_goesCaller_60 k_X4_182 gc_35 rfl ⟨Nat.le_of_ble_eq_true rfl, Nat.le_of_ble_eq_true rfl, Nat.le_of_ble_eq_true rfl⟩ (c_X4_canSay hR (gok_72 ho (cap_le _ _)) hi) (fun x_60 g1 hq => ?_)
    obtain ⟨rfl, hg1⟩ := hq
    rw [hg1]
    refine r_istore_n (pc := 63) (ls2 := [_, _, _, _]) h dX4_goesCaller_63 (Nat.le_of_ble_eq_true rfl) rfl ?_
    refine r_aload_n (pc := 64) h dX4_goesCaller_64 rfl ?_
    refine r_getR (pc := 65) h dX4_goesCaller_65 f_X4_28 sh_35 rfl ?_
    refine r_iload_n (pc := 68) h dX4_goesCaller_68 rfl ?_
    refine r_dup2 (pc := 69) h dX4_goesCaller_69 rfl rfl ?_
    refine r_ialoadE (pc := 70) h dX4_goesCaller_70 sh_42 (hR.sa hi) ?_
    refine r_iload_n (pc := 71) h dX4_goesCaller_71 rfl ?_
    refine r_if_eq (pc := 72) (tgt := 79) h dX4_goesCaller_72 (by decide) (fun c72 => ?_) (fun c72 => ?_)
    · have hc : canB c i (covOf c i) = false := (bI_0 (canB c i (covOf c i))).mp c72
      rw [ec] at hc
      refine r_iconst (pc := 79) h dX4_goesCaller_79 ci_0 ?_
      refine r_iadd (pc := 80) h dX4_goesCaller_80 ?_
      refine r_top (y := nI (c 5 i + (if canB c i (cvr c s) = true then 1 else 0))) h (by rw [nI_add, hc]; rfl) ?_
      refine r_iastore (pc := 81) h dX4_goesCaller_81 sh_42 (hR.ci hi) ?_
      obtain ⟨hR, hF⟩ := Rm.wrC hF (hR.u_sa hi _) (by omega)
      generalize gup g2 42 _ _ = g2 at hR hF ⊢
      rw [show cup (cup c 7 2 (cap (c 7 2 + priN (c 0 s)) 9999)) 5 i (c 5 i + (if canB c i (cvr c s) = true then 1 else 0)) = if canB c i (cvr c s) = true then cup (cup c 7 2 (cap (c 7 2 + priN (c 0 s)) 9999)) 5 i (c 5 i + 1) else cup c 7 2 (cap (c 7 2 + priN (c 0 s)) 9999) by first | (rw [if_pos hc, if_pos hc]) | (rw [if_neg (by rw [hc]; decide), if_neg (by rw [hc]; decide)]; exact cup_id (cup c 7 2 (cap (c 7 2 + priN (c 0 s)) 9999)) 5 i)] at hR
      first | rw [if_pos hc] at hR | rw [if_neg (by rw [hc]; decide)] at hR
      refine r_aload_n (pc := 82) h dX4_goesCaller_82 rfl ?_
      refine r_getR (pc := 83) h dX4_goesCaller_83 f_X4_22 sh_35 rfl ?_
      refine r_iload_n (pc := 86) h dX4_goesCaller_86 rfl ?_
      refine r_iload_n (pc := 87) h dX4_goesCaller_87 rfl ?_
      refine r_if_eq (pc := 88) (tgt := 102) h dX4_goesCaller_88 (by decide) (fun c88 => ?_) (fun c88 => absurd (c72) c88)
      refine r_aload_n (pc := 102) h dX4_goesCaller_102 rfl ?_
      refine r_getR (pc := 103) h dX4_goesCaller_103 f_X4_22 sh_35 rfl ?_
      refine r_iload_n (pc := 106) h dX4_goesCaller_106 rfl ?_
      refine r_ialoadE (pc := 107) h dX4_goesCaller_107 sh_40 (hR.fe hi) ?_
      refine r_iconst (pc := 108) h dX4_goesCaller_108 ci_1 ?_
      refine r_iadd (pc := 109) h dX4_goesCaller_109 ?_
      refine r_bipush (pc := 110) h dX4_goesCaller_110 cb_20 ?_
      refine r_callSi (pc := 112) (As := [_, _]) h dX4_goesCaller_112 k_X4_188 rfl ⟨Nat.le_of_ble_eq_true rfl, Nat.le_of_ble_eq_true rfl, Nat.le_of_ble_eq_true rfl⟩ (c_X4_held _ _) (fun x_112 g1 hq => ?_)
      obtain ⟨rfl, hg1⟩ := hq
      rw [hg1]
      first | (refine r_top (y := nI (if canB c i (cvr c s) = true then c 3 i - 1 else cap (c 3 i + 1) 20)) h (by rw [if_pos hc]; exact hld_sub (a := c 3 i) (b := 1) (by omega) (by decide) (by decide)) ?_) | (refine r_top (y := nI (if canB c i (cvr c s) = true then c 3 i - 1 else cap (c 3 i + 1) 20)) h (by rw [if_neg (by rw [hc]; decide), nI_add]; exact hld_add (a := c 3 i + 1) (m := 20) (by omega) (by decide)) ?_)
      refine r_iastore (pc := 115) h dX4_goesCaller_115 sh_40 (hR.ci hi) ?_
      obtain ⟨hR, hF⟩ := Rm.wrC hF (hR.u_fe hi _) (by omega)
      generalize gup g2 40 _ _ = g2 at hR hF ⊢
      first | rw [if_pos hc] at hR | rw [if_neg (by rw [hc]; decide)] at hR
      refine r_aload_n (pc := 116) h dX4_goesCaller_116 rfl ?_
      refine r_getR (pc := 117) h dX4_goesCaller_117 f_X4_25 sh_35 rfl ?_
      refine r_iload_n (pc := 120) h dX4_goesCaller_120 rfl ?_
      refine r_aload_n (pc := 121) h dX4_goesCaller_121 rfl ?_
      refine r_getR (pc := 122) h dX4_goesCaller_122 f_X4_25 sh_35 rfl ?_
      refine r_iload_n (pc := 125) h dX4_goesCaller_125 rfl ?_
      refine r_ialoadE (pc := 126) h dX4_goesCaller_126 sh_41 (hR.so hi) ?_
      refine r_aload_n (pc := 127) h dX4_goesCaller_127 rfl ?_
      refine r_iload_n (pc := 128) h dX4_goesCaller_128 rfl ?_
      refine r_aload_n (pc := 129) h dX4_goesCaller_129 rfl ?_
      refine r_getE (pc := 130) h dX4_goesCaller_130 f_X4_119 sh_35 rfl (hR.dy) ?_
      refine r_callVi (pc := 133) (As := [_, _]) h dX4_goesCaller_133 k_X4_194 gc_35 rfl ⟨Nat.le_of_ble_eq_true rfl, Nat.le_of_ble_eq_true rfl, Nat.le_of_ble_eq_true rfl⟩ (c_X4_chafes hR (by first | exact gok_3 (gok_5 (gok_72 ho (cap_le _ _)) h56) (by omega) | exact gok_3 (gok_72 ho (cap_le _ _)) (cap_le _ _)) hs (Nat.lt_of_le_of_lt hdy (by decide))) (fun x_133 g1 hq => ?_)
      obtain ⟨rfl, hg1⟩ := hq
      rw [hg1]
      refine r_iadd (pc := 136) h dX4_goesCaller_136 ?_
      refine r_bipush (pc := 137) h dX4_goesCaller_137 cb_20 ?_
      refine r_callSi (pc := 139) (As := [_, _]) h dX4_goesCaller_139 k_X4_188 rfl ⟨Nat.le_of_ble_eq_true rfl, Nat.le_of_ble_eq_true rfl, Nat.le_of_ble_eq_true rfl⟩ (c_X4_held _ _) (fun x_139 g1 hq => ?_)
      obtain ⟨rfl, hg1⟩ := hq
      rw [hg1]
      have hS20 : liveS c i ≤ 20 := cap_le _ _
      refine r_top (y := nI (liveS c i)) h (by unfold liveS; rw [es, nI_add]; exact hld_add (a := c 4 i + chaN (c 0 s) (c 2 s) (c 7 3)) (m := 20) (by omega) (by decide)) ?_
      refine r_iastore (pc := 142) h dX4_goesCaller_142 sh_41 (hR.ci hi) ?_
      obtain ⟨hR, hF⟩ := Rm.wrC hF (hR.u_so hi _) (by omega)
      generalize gup g2 41 _ _ = g2 at hR hF ⊢
      refine r_aload_n (pc := 143) h dX4_goesCaller_143 rfl ?_
      refine r_getR (pc := 144) h dX4_goesCaller_144 f_X4_25 sh_35 rfl ?_
      refine r_iload_n (pc := 147) h dX4_goesCaller_147 rfl ?_
      refine r_ialoadE (pc := 148) h dX4_goesCaller_148 sh_41 (hR.so hi) ?_
      refine r_top (y := nI (liveS c i)) h (by rw [cup_same]) ?_
      refine r_bipush (pc := 149) h dX4_goesCaller_149 cb_15 ?_
      refine r_icmp_lt (pc := 151) (tgt := 161) h dX4_goesCaller_151 (by decide) (fun c151 => ?_) (fun c151 => ?_)
      · have h15 : ¬ 15 ≤ liveS c i := Nat.not_le_of_lt ((nI_ltI (Nat.lt_of_le_of_lt hS20 (by decide)) (by decide)).mp c151)
        refine r_rv t (pc := 161) dX4_goesCaller_161 ?_
        refine ⟨?_, hF⟩
        unfold live liveQ liveP
        rw [if_neg n0, es]
        first
          | (rw [if_pos h15, if_pos hc]; exact hR)
          | (rw [if_neg h15, if_pos hc]; exact hR)
          | (rw [if_pos h15, if_neg (by rw [hc]; decide)]; exact hR)
          | (rw [if_neg h15, if_neg (by rw [hc]; decide)]; exact hR)
      · have h15 : 15 ≤ liveS c i := Nat.le_of_not_lt fun q => c151 (nI_lt q (by decide))
        refine r_aload_n (pc := 154) h dX4_goesCaller_154 rfl ?_
        refine r_getR (pc := 155) h dX4_goesCaller_155 f_X4_31 sh_35 rfl ?_
        refine r_iload_n (pc := 158) h dX4_goesCaller_158 rfl ?_
        refine r_iconst (pc := 159) h dX4_goesCaller_159 ci_0 ?_
        refine r_iastore (pc := 160) h dX4_goesCaller_160 sh_43 (hR.ci hi) ?_
        obtain ⟨hR, hF⟩ := Rm.wrC hF (hR.u_wo hi 0) (by omega)
        generalize gup g2 43 _ _ = g2 at hR hF ⊢
        refine r_rv t (pc := 161) dX4_goesCaller_161 ?_
        refine ⟨?_, hF⟩
        unfold live liveQ liveP
        rw [if_neg n0, es]
        first
          | (rw [if_pos h15, if_pos hc]; exact hR)
          | (rw [if_neg h15, if_pos hc]; exact hR)
          | (rw [if_pos h15, if_neg (by rw [hc]; decide)]; exact hR)
          | (rw [if_neg h15, if_neg (by rw [hc]; decide)]; exact hR)
    · have hc : canB c i (covOf c i) = true := by simpa using mt (bI_0 (canB c i (covOf c i))).mpr c72
      rw [ec] at hc
      have h56 : c 5 i + 1 ≤ 6 := canB_6 hc
      refine r_iconst (pc := 75) h dX4_goesCaller_75 ci_1 ?_
      refine r_goto (pc := 76) (tgt := 80) h dX4_goesCaller_76 (by decide) ?_
      refine r_iadd (pc := 80) h dX4_goesCaller_80 ?_
      refine r_top (y := nI (c 5 i + (if canB c i (cvr c s) = true then 1 else 0))) h (by rw [nI_add, hc]; rfl) ?_
      refine r_iastore (pc := 81) h dX4_goesCaller_81 sh_42 (hR.ci hi) ?_
      obtain ⟨hR, hF⟩ := Rm.wrC hF (hR.u_sa hi _) (by omega)
      generalize gup g2 42 _ _ = g2 at hR hF ⊢
      rw [show cup (cup c 7 2 (cap (c 7 2 + priN (c 0 s)) 9999)) 5 i (c 5 i + (if canB c i (cvr c s) = true then 1 else 0)) = if canB c i (cvr c s) = true then cup (cup c 7 2 (cap (c 7 2 + priN (c 0 s)) 9999)) 5 i (c 5 i + 1) else cup c 7 2 (cap (c 7 2 + priN (c 0 s)) 9999) by first | (rw [if_pos hc, if_pos hc]) | (rw [if_neg (by rw [hc]; decide), if_neg (by rw [hc]; decide)]; exact cup_id (cup c 7 2 (cap (c 7 2 + priN (c 0 s)) 9999)) 5 i)] at hR
      first | rw [if_pos hc] at hR | rw [if_neg (by rw [hc]; decide)] at hR
      refine r_aload_n (pc := 82) h dX4_goesCaller_82 rfl ?_
      refine r_getR (pc := 83) h dX4_goesCaller_83 f_X4_22 sh_35 rfl ?_
      refine r_iload_n (pc := 86) h dX4_goesCaller_86 rfl ?_
      refine r_iload_n (pc := 87) h dX4_goesCaller_87 rfl ?_
      refine r_if_eq (pc := 88) (tgt := 102) h dX4_goesCaller_88 (by decide) (fun c88 => absurd c88 (c72)) (fun c88 => ?_)
      refine r_aload_n (pc := 91) h dX4_goesCaller_91 rfl ?_
      refine r_getR (pc := 92) h dX4_goesCaller_92 f_X4_22 sh_35 rfl ?_
      refine r_iload_n (pc := 95) h dX4_goesCaller_95 rfl ?_
      refine r_ialoadE (pc := 96) h dX4_goesCaller_96 sh_40 (hR.fe hi) ?_
      refine r_iconst (pc := 97) h dX4_goesCaller_97 ci_1 ?_
      refine r_isub (pc := 98) h dX4_goesCaller_98 ?_
      refine r_goto (pc := 99) (tgt := 110) h dX4_goesCaller_99 (by decide) ?_
      refine r_bipush (pc := 110) h dX4_goesCaller_110 cb_20 ?_
      refine r_callSi (pc := 112) (As := [_, _]) h dX4_goesCaller_112 k_X4_188 rfl ⟨Nat.le_of_ble_eq_true rfl, Nat.le_of_ble_eq_true rfl, Nat.le_of_ble_eq_true rfl⟩ (c_X4_held _ _) (fun x_112 g1 hq => ?_)
      obtain ⟨rfl, hg1⟩ := hq
      rw [hg1]
      first | (refine r_top (y := nI (if canB c i (cvr c s) = true then c 3 i - 1 else cap (c 3 i + 1) 20)) h (by rw [if_pos hc]; exact hld_sub (a := c 3 i) (b := 1) (by omega) (by decide) (by decide)) ?_) | (refine r_top (y := nI (if canB c i (cvr c s) = true then c 3 i - 1 else cap (c 3 i + 1) 20)) h (by rw [if_neg (by rw [hc]; decide), nI_add]; exact hld_add (a := c 3 i + 1) (m := 20) (by omega) (by decide)) ?_)
      refine r_iastore (pc := 115) h dX4_goesCaller_115 sh_40 (hR.ci hi) ?_
      obtain ⟨hR, hF⟩ := Rm.wrC hF (hR.u_fe hi _) (by omega)
      generalize gup g2 40 _ _ = g2 at hR hF ⊢
      first | rw [if_pos hc] at hR | rw [if_neg (by rw [hc]; decide)] at hR
      refine r_aload_n (pc := 116) h dX4_goesCaller_116 rfl ?_
      refine r_getR (pc := 117) h dX4_goesCaller_117 f_X4_25 sh_35 rfl ?_
      refine r_iload_n (pc := 120) h dX4_goesCaller_120 rfl ?_
      refine r_aload_n (pc := 121) h dX4_goesCaller_121 rfl ?_
      refine r_getR (pc := 122) h dX4_goesCaller_122 f_X4_25 sh_35 rfl ?_
      refine r_iload_n (pc := 125) h dX4_goesCaller_125 rfl ?_
      refine r_ialoadE (pc := 126) h dX4_goesCaller_126 sh_41 (hR.so hi) ?_
      refine r_aload_n (pc := 127) h dX4_goesCaller_127 rfl ?_
      refine r_iload_n (pc := 128) h dX4_goesCaller_128 rfl ?_
      refine r_aload_n (pc := 129) h dX4_goesCaller_129 rfl ?_
      refine r_getE (pc := 130) h dX4_goesCaller_130 f_X4_119 sh_35 rfl (hR.dy) ?_
      refine r_callVi (pc := 133) (As := [_, _]) h dX4_goesCaller_133 k_X4_194 gc_35 rfl ⟨Nat.le_of_ble_eq_true rfl, Nat.le_of_ble_eq_true rfl, Nat.le_of_ble_eq_true rfl⟩ (c_X4_chafes hR (by first | exact gok_3 (gok_5 (gok_72 ho (cap_le _ _)) h56) (by omega) | exact gok_3 (gok_72 ho (cap_le _ _)) (cap_le _ _)) hs (Nat.lt_of_le_of_lt hdy (by decide))) (fun x_133 g1 hq => ?_)
      obtain ⟨rfl, hg1⟩ := hq
      rw [hg1]
      refine r_iadd (pc := 136) h dX4_goesCaller_136 ?_
      refine r_bipush (pc := 137) h dX4_goesCaller_137 cb_20 ?_
      refine r_callSi (pc := 139) (As := [_, _]) h dX4_goesCaller_139 k_X4_188 rfl ⟨Nat.le_of_ble_eq_true rfl, Nat.le_of_ble_eq_true rfl, Nat.le_of_ble_eq_true rfl⟩ (c_X4_held _ _) (fun x_139 g1 hq => ?_)
      obtain ⟨rfl, hg1⟩ := hq
      rw [hg1]
      have hS20 : liveS c i ≤ 20 := cap_le _ _
      refine r_top (y := nI (liveS c i)) h (by unfold liveS; rw [es, nI_add]; exact hld_add (a := c 4 i + chaN (c 0 s) (c 2 s) (c 7 3)) (m := 20) (by omega) (by decide)) ?_
      refine r_iastore (pc := 142) h dX4_goesCaller_142 sh_41 (hR.ci hi) ?_
      obtain ⟨hR, hF⟩ := Rm.wrC hF (hR.u_so hi _) (by omega)
      generalize gup g2 41 _ _ = g2 at hR hF ⊢
      refine r_aload_n (pc := 143) h dX4_goesCaller_143 rfl ?_
      refine r_getR (pc := 144) h dX4_goesCaller_144 f_X4_25 sh_35 rfl ?_
      refine r_iload_n (pc := 147) h dX4_goesCaller_147 rfl ?_
      refine r_ialoadE (pc := 148) h dX4_goesCaller_148 sh_41 (hR.so hi) ?_
      refine r_top (y := nI (liveS c i)) h (by rw [cup_same]) ?_
      refine r_bipush (pc := 149) h dX4_goesCaller_149 cb_15 ?_
      refine r_icmp_lt (pc := 151) (tgt := 161) h dX4_goesCaller_151 (by decide) (fun c151 => ?_) (fun c151 => ?_)
      · have h15 : ¬ 15 ≤ liveS c i := Nat.not_le_of_lt ((nI_ltI (Nat.lt_of_le_of_lt hS20 (by decide)) (by decide)).mp c151)
        refine r_rv t (pc := 161) dX4_goesCaller_161 ?_
        refine ⟨?_, hF⟩
        unfold live liveQ liveP
        rw [if_neg n0, es]
        first
          | (rw [if_pos h15, if_pos hc]; exact hR)
          | (rw [if_neg h15, if_pos hc]; exact hR)
          | (rw [if_pos h15, if_neg (by rw [hc]; decide)]; exact hR)
          | (rw [if_neg h15, if_neg (by rw [hc]; decide)]; exact hR)
      · have h15 : 15 ≤ liveS c i := Nat.le_of_not_lt fun q => c151 (nI_lt q (by decide))
        refine r_aload_n (pc := 154) h dX4_goesCaller_154 rfl ?_
        refine r_getR (pc := 155) h dX4_goesCaller_155 f_X4_31 sh_35 rfl ?_
        refine r_iload_n (pc := 158) h dX4_goesCaller_158 rfl ?_
        refine r_iconst (pc := 159) h dX4_goesCaller_159 ci_0 ?_
        refine r_iastore (pc := 160) h dX4_goesCaller_160 sh_43 (hR.ci hi) ?_
        obtain ⟨hR, hF⟩ := Rm.wrC hF (hR.u_wo hi 0) (by omega)
        generalize gup g2 43 _ _ = g2 at hR hF ⊢
        refine r_rv t (pc := 161) dX4_goesCaller_161 ?_
        refine ⟨?_, hF⟩
        unfold live liveQ liveP
        rw [if_neg n0, es]
        first
          | (rw [if_pos h15, if_pos hc]; exact hR)
          | (rw [if_neg h15, if_pos hc]; exact hR)
          | (rw [if_pos h15, if_neg (by rw [hc]; decide)]; exact hR)
          | (rw [if_neg h15, if_neg (by rw [hc]; decide)]; exact hR)
  · have e6 : c 6 i = 0 := (nI_eq0 (by omega)).mp c6
    refine r_aload_n (pc := 9) h dX4_goesCaller_9 rfl ?_
    refine r_getR (pc := 10) h dX4_goesCaller_10 f_X4_25 sh_35 rfl ?_
    refine r_iload_n (pc := 13) h dX4_goesCaller_13 rfl ?_
    refine r_aload_n (pc := 14) h dX4_goesCaller_14 rfl ?_
    refine r_getR (pc := 15) h dX4_goesCaller_15 f_X4_25 sh_35 rfl ?_
    refine r_iload_n (pc := 18) h dX4_goesCaller_18 rfl ?_
    refine r_ialoadE (pc := 19) h dX4_goesCaller_19 sh_41 (hR.so hi) ?_
    refine r_iconst (pc := 20) h dX4_goesCaller_20 ci_1 ?_
    refine r_isub (pc := 21) h dX4_goesCaller_21 ?_
    refine r_bipush (pc := 22) h dX4_goesCaller_22 cb_20 ?_
    refine r_callSi (pc := 24) (As := [_, _]) h dX4_goesCaller_24 k_X4_188 rfl ⟨Nat.le_of_ble_eq_true rfl, Nat.le_of_ble_eq_true rfl, Nat.le_of_ble_eq_true rfl⟩ (c_X4_held _ _) (fun x_24 g1 hq => ?_)
    obtain ⟨rfl, hg1⟩ := hq
    rw [hg1]
    refine r_top (y := nI (c 4 i - 1)) h (hld_sub (by omega) (by decide) (by decide)) ?_
    refine r_iastore (pc := 27) h dX4_goesCaller_27 sh_41 (hR.ci hi) ?_
    obtain ⟨hR, hF⟩ := Rm.wrC hF (hR.u_so hi _) (by omega)
    generalize gup g2 41 _ _ = g2 at hR hF ⊢
    refine r_rv t (pc := 28) dX4_goesCaller_28 ?_
    exact ⟨by rw [live, if_pos e6]; exact hR, hF⟩
