set_option maxRecDepth 100000 in
set_option maxHeartbeats 4000000 in
theorem c_X0_wearer_1 {g : gG} {c : gCt} (hR : Rx1 g c) (ho : gok c) {s : Nat} (hs : s < 2147483648) : gCi mX0_wearer [.ref 1, .int (nI s)] g (fun x g1 => x = oI (wr c s) ∧ g1 = g) := by
  refine gCi_of (own := RX0) (ls0 := [.ref 1, .int (nI s), .null]) ⟨rfl, pl_X0⟩ rfl (Nat.le_of_ble_eq_true rfl) (fun G (h : gR RX0 cX0_wearer 0 0 G) (t : gTi cX0_wearer .int _ G) => ?_)
  have hn5 := hR.n5
  have hn6 := hR.n6
  have loop : ∀ n i, i + n = c 7 1 → wr c s = gfind (fun i => c 6 i == s + 1) n i → G 2 [.ref 1, .int (nI s), .int (nI i)] [] g := by
    intro n
    induction n with
    | zero =>
      intro i hi hw
      refine r_iload_n (pc := 2) h dX0_wearer_2 rfl ?_
      refine r_aload_n (pc := 3) h dX0_wearer_3 rfl ?_
      refine r_getE (pc := 4) h dX0_wearer_4 f_X0_37 sh_1 rfl (hR.nc) ?_
      refine r_icmp_ge (pc := 7) (tgt := 28) h dX0_wearer_7 (by decide) (fun c7 => ?_) (fun c7 => absurd (nI_le (by omega) (by omega)) c7)
      refine r_bipush (pc := 28) h dX0_wearer_28 cb_m9 ?_
      refine r_ri t (pc := 30) dX0_wearer_30 rfl ?_
      exact ⟨by rw [hw]; rfl, rfl⟩
    | succ n ih =>
      intro i hin hw
      have hi : i < c 7 1 := by omega
      have hw6 : c 6 i < 2147483648 := by have := (ho.2.2.2 i hi).2.2.2; omega
      refine r_iload_n (pc := 2) h dX0_wearer_2 rfl ?_
      refine r_aload_n (pc := 3) h dX0_wearer_3 rfl ?_
      refine r_getE (pc := 4) h dX0_wearer_4 f_X0_37 sh_1 rfl (hR.nc) ?_
      refine r_icmp_ge (pc := 7) (tgt := 28) h dX0_wearer_7 (by decide) (fun c7 => absurd c7 (nI_ge hi (by omega))) (fun c7 => ?_)
      refine r_aload_n (pc := 10) h dX0_wearer_10 rfl ?_
      refine r_getR (pc := 11) h dX0_wearer_11 f_X0_30 sh_1 rfl ?_
      refine r_iload_n (pc := 14) h dX0_wearer_14 rfl ?_
      refine r_ialoadE (pc := 15) h dX0_wearer_15 sh_8 (hR.wo hi) ?_
      refine r_iload_n (pc := 16) h dX0_wearer_16 rfl ?_
      refine r_icmp_ne (pc := 17) (tgt := 22) h dX0_wearer_17 (by decide) (fun c17 => ?_) (fun c17 => ?_)
      · refine r_iinc (pc := 22) (ls2 := [_, _, _]) h dX0_wearer_22 rfl (ic1 _) rfl ?_
        refine r_goto (pc := 25) (tgt := 2) h dX0_wearer_25 (by decide) ?_
        exact ih (i + 1) (by omega) (by rw [hw, gfind, if_neg (by simpa using fun q => c17 ((wz_eq hw6 hs).mpr q))])
      · refine r_iload_n (pc := 20) h dX0_wearer_20 rfl ?_
        refine r_ri t (pc := 21) dX0_wearer_21 rfl ?_
        exact ⟨by rw [hw, gfind, if_pos (by simpa using (wz_eq hw6 hs).mp c17)]; rfl, rfl⟩
  refine r_iconst (pc := 0) h dX0_wearer_0 ci_0 ?_
  refine r_istore_n (pc := 1) (ls2 := [_, _, _]) h dX0_wearer_1 (Nat.le_of_ble_eq_true rfl) rfl ?_
  exact loop (c 7 1) 0 (by omega) rfl
set_option maxRecDepth 100000 in
set_option maxHeartbeats 4000000 in
theorem c_X0_wearer_9 {g : gG} {c : gCt} (hR : Rx9 g c) (ho : gok c) {s : Nat} (hs : s < 2147483648) : gCi mX0_wearer [.ref 9, .int (nI s)] g (fun x g1 => x = oI (wr c s) ∧ g1 = g) := by
  refine gCi_of (own := RX0) (ls0 := [.ref 9, .int (nI s), .null]) ⟨rfl, pl_X0⟩ rfl (Nat.le_of_ble_eq_true rfl) (fun G (h : gR RX0 cX0_wearer 0 0 G) (t : gTi cX0_wearer .int _ G) => ?_)
  have hn5 := hR.n5
  have hn6 := hR.n6
  have loop : ∀ n i, i + n = c 7 1 → wr c s = gfind (fun i => c 6 i == s + 1) n i → G 2 [.ref 9, .int (nI s), .int (nI i)] [] g := by
    intro n
    induction n with
    | zero =>
      intro i hi hw
      refine r_iload_n (pc := 2) h dX0_wearer_2 rfl ?_
      refine r_aload_n (pc := 3) h dX0_wearer_3 rfl ?_
      refine r_getE (pc := 4) h dX0_wearer_4 f_X0_37 sh_9 rfl (hR.nc) ?_
      refine r_icmp_ge (pc := 7) (tgt := 28) h dX0_wearer_7 (by decide) (fun c7 => ?_) (fun c7 => absurd (nI_le (by omega) (by omega)) c7)
      refine r_bipush (pc := 28) h dX0_wearer_28 cb_m9 ?_
      refine r_ri t (pc := 30) dX0_wearer_30 rfl ?_
      exact ⟨by rw [hw]; rfl, rfl⟩
    | succ n ih =>
      intro i hin hw
      have hi : i < c 7 1 := by omega
      have hw6 : c 6 i < 2147483648 := by have := (ho.2.2.2 i hi).2.2.2; omega
      refine r_iload_n (pc := 2) h dX0_wearer_2 rfl ?_
      refine r_aload_n (pc := 3) h dX0_wearer_3 rfl ?_
      refine r_getE (pc := 4) h dX0_wearer_4 f_X0_37 sh_9 rfl (hR.nc) ?_
      refine r_icmp_ge (pc := 7) (tgt := 28) h dX0_wearer_7 (by decide) (fun c7 => absurd c7 (nI_ge hi (by omega))) (fun c7 => ?_)
      refine r_aload_n (pc := 10) h dX0_wearer_10 rfl ?_
      refine r_getR (pc := 11) h dX0_wearer_11 f_X0_30 sh_9 rfl ?_
      refine r_iload_n (pc := 14) h dX0_wearer_14 rfl ?_
      refine r_ialoadE (pc := 15) h dX0_wearer_15 sh_16 (hR.wo hi) ?_
      refine r_iload_n (pc := 16) h dX0_wearer_16 rfl ?_
      refine r_icmp_ne (pc := 17) (tgt := 22) h dX0_wearer_17 (by decide) (fun c17 => ?_) (fun c17 => ?_)
      · refine r_iinc (pc := 22) (ls2 := [_, _, _]) h dX0_wearer_22 rfl (ic1 _) rfl ?_
        refine r_goto (pc := 25) (tgt := 2) h dX0_wearer_25 (by decide) ?_
        exact ih (i + 1) (by omega) (by rw [hw, gfind, if_neg (by simpa using fun q => c17 ((wz_eq hw6 hs).mpr q))])
      · refine r_iload_n (pc := 20) h dX0_wearer_20 rfl ?_
        refine r_ri t (pc := 21) dX0_wearer_21 rfl ?_
        exact ⟨by rw [hw, gfind, if_pos (by simpa using (wz_eq hw6 hs).mp c17)]; rfl, rfl⟩
  refine r_iconst (pc := 0) h dX0_wearer_0 ci_0 ?_
  refine r_istore_n (pc := 1) (ls2 := [_, _, _]) h dX0_wearer_1 (Nat.le_of_ble_eq_true rfl) rfl ?_
  exact loop (c 7 1) 0 (by omega) rfl
