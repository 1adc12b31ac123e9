section TX
variable {g : gG} {c ck : gCt} {hk : Bool} {lt : Nat → Nat} {nl : Nat} {rv : Nat → Nat} {nr : Nat} {rf : Nat → Int32}
set_option maxRecDepth 100000 in
set_option maxHeartbeats 4000000 in
theorem c_X4_worthIn_s {g : gG} {c : gCt} (hR : Rm g c) (ho : gok c) {i : Nat} {s : Nat} (hi : i < c 7 1) (hs : s < c 7 0) : gCi mX4_worthIn [.ref 35, .int (nI i), .int (nI s)] g (fun y g1 => y = nI (cn c i s) ∧ g1 = g) := by
  refine gCi_of (own := RX4) (ls0 := [.ref 35, .int (nI i), .int (nI s)]) ⟨rfl, pl_X4⟩ rfl (Nat.le_of_ble_eq_true rfl) (fun G (h : gR RX4 cX4_worthIn 2 80 G) (t : gTi cX4_worthIn .int _ G) => ?_)
  have hn5 := hR.n5
  have hn6 := hR.n6
  refine r_aload_n (pc := 0) h dX4_worthIn_0 rfl ?_
  refine r_iload_n (pc := 1) h dX4_worthIn_1 rfl ?_
  refine r_iload_n (pc := 2) h dX4_worthIn_2 rfl ?_
  refine r_if_ge (pc := 3) (tgt := 10) h dX4_worthIn_3 (by decide) (fun c3 => ?_) (fun c3 => absurd (show (0 : Int32) ≤ nI s from Int32.not_lt.mp (show ¬ nI s < nI 0 from nI_nlt (Nat.zero_le _) (by omega))) c3)
  refine r_aload_n (pc := 10) h dX4_worthIn_10 rfl ?_
  refine r_iload_n (pc := 11) h dX4_worthIn_11 rfl ?_
  refine r_callVi (pc := 12) (As := [_]) h dX4_worthIn_12 k_X4_172 gc_35 rfl ⟨Nat.le_of_ble_eq_true rfl, Nat.le_of_ble_eq_true rfl, Nat.le_of_ble_eq_true rfl⟩ (c_X4_covers hR ho hs) (fun x_12 g2 hq => ?_)
  obtain ⟨rfl, rfl⟩ := hq
  refine r_callVi (pc := 15) (As := [_, _]) h dX4_worthIn_15 k_X4_179 gc_35 rfl ⟨Nat.le_of_ble_eq_true rfl, Nat.le_of_ble_eq_true rfl, Nat.le_of_ble_eq_true rfl⟩ (c_X4_isEnough hR ho hi (covN_le (ho.2.2.1 s hs).2.1 _)) (fun x_15 g2 hq => ?_)
  obtain ⟨rfl, rfl⟩ := hq
  refine r_if_eq (pc := 18) (tgt := 25) h dX4_worthIn_18 (by decide) (fun c18 => ?_) (fun c18 => ?_)
  · have hb : canB c i (cvr c s) = false := (bI_0 (canB c i (cvr c s))).mp c18
    refine r_iconst (pc := 25) h dX4_worthIn_25 ci_0 ?_
    refine r_ri t (pc := 26) dX4_worthIn_26 rfl ?_
    exact ⟨by unfold cn; rw [if_pos hs, if_neg (by rw [hb]; decide)], rfl⟩
  · have hb : canB c i (cvr c s) = true := by simpa using mt (bI_0 (canB c i (cvr c s))).mpr c18
    refine r_iconst (pc := 21) h dX4_worthIn_21 ci_1 ?_
    refine r_goto (pc := 22) (tgt := 26) h dX4_worthIn_22 (by decide) ?_
    refine r_ri t (pc := 26) dX4_worthIn_26 rfl ?_
    exact ⟨by unfold cn; rw [if_pos hs, if_pos hb], rfl⟩
set_option maxRecDepth 100000 in
set_option maxHeartbeats 4000000 in
theorem c_X4_worthIn_n {g : gG} {c : gCt} (hR : Rm g c) (ho : gok c) {i : Nat} (hi : i < c 7 1) : gCi mX4_worthIn [.ref 35, .int (nI i), .int (-9)] g (fun y g1 => y = nI (cn c i (c 7 0)) ∧ g1 = g) := by
  refine gCi_of (own := RX4) (ls0 := [.ref 35, .int (nI i), .int (-9)]) ⟨rfl, pl_X4⟩ rfl (Nat.le_of_ble_eq_true rfl) (fun G (h : gR RX4 cX4_worthIn 2 80 G) (t : gTi cX4_worthIn .int _ G) => ?_)
  have hn5 := hR.n5
  have hn6 := hR.n6
  refine r_aload_n (pc := 0) h dX4_worthIn_0 rfl ?_
  refine r_iload_n (pc := 1) h dX4_worthIn_1 rfl ?_
  refine r_iload_n (pc := 2) h dX4_worthIn_2 rfl ?_
  refine r_if_ge (pc := 3) (tgt := 10) h dX4_worthIn_3 (by decide) (fun c3 => absurd c3 (by decide)) (fun c3 => ?_)
  refine r_iconst (pc := 6) h dX4_worthIn_6 ci_0 ?_
  refine r_goto (pc := 7) (tgt := 15) h dX4_worthIn_7 (by decide) ?_
  refine r_callVi (pc := 15) (As := [_, _]) h dX4_worthIn_15 k_X4_179 gc_35 rfl ⟨Nat.le_of_ble_eq_true rfl, Nat.le_of_ble_eq_true rfl, Nat.le_of_ble_eq_true rfl⟩ (c_X4_isEnough hR ho hi (Nat.zero_le _)) (fun x_15 g2 hq => ?_)
  obtain ⟨rfl, rfl⟩ := hq
  refine r_if_eq (pc := 18) (tgt := 25) h dX4_worthIn_18 (by decide) (fun c18 => ?_) (fun c18 => ?_)
  · have hb : canB c i (0) = false := (bI_0 (canB c i (0))).mp c18
    refine r_iconst (pc := 25) h dX4_worthIn_25 ci_0 ?_
    refine r_ri t (pc := 26) dX4_worthIn_26 rfl ?_
    exact ⟨by unfold cn; rw [if_neg (Nat.lt_irrefl _), if_neg (by rw [hb]; decide)], rfl⟩
  · have hb : canB c i (0) = true := by simpa using mt (bI_0 (canB c i (0))).mpr c18
    refine r_iconst (pc := 21) h dX4_worthIn_21 ci_1 ?_
    refine r_goto (pc := 22) (tgt := 26) h dX4_worthIn_22 (by decide) ?_
    refine r_ri t (pc := 26) dX4_worthIn_26 rfl ?_
    exact ⟨by unfold cn; rw [if_neg (Nat.lt_irrefl _), if_pos hb], rfl⟩
end TX
