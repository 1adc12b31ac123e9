set_option maxRecDepth 100000 in
set_option maxHeartbeats 4000000 in
theorem c_X0_addSuit_9 {g : gG} {c : gCt} (hR : Rx9 g c) (k f : Nat) : gCi mX0_addSuit [.ref 9, .int (nI k), .int (nI f)] g (fun x g1 => x = bI (decide (c 7 0 < 6)) ∧ (c 7 0 < 6 → Rx9 g1 (addS c k f)) ∧ frm 9 17 g g1) := by
  refine gCi_of (own := RX0) (ls0 := [.ref 9, .int (nI k), .int (nI f)]) ⟨rfl, pl_X0⟩ rfl (Nat.le_of_ble_eq_true rfl) (fun G (h : gR RX0 cX0_addSuit 0 0 G) (t : gTi cX0_addSuit .boolean _ G) => ?_)
  have hn6 := hR.n6
  refine r_aload_n (pc := 0) h dX0_addSuit_0 rfl ?_
  refine r_getE (pc := 1) h dX0_addSuit_1 f_X0_33 sh_9 rfl (hR.ns) ?_
  refine r_bipush (pc := 4) h dX0_addSuit_4 cb_6 ?_
  refine r_icmp_lt (pc := 6) (tgt := 11) h dX0_addSuit_6 (by decide) (fun c6 => ?_) (fun c6 => ?_)
  · have h6 : c 7 0 < 6 := (nI_ltI (by omega) (by decide)).mp c6
    have hin : vp_in (nI (c 7 0)) 6 := vp_in_nI h6 (by decide)
    refine r_aload_n (pc := 11) h dX0_addSuit_11 rfl ?_
    refine r_getR (pc := 12) h dX0_addSuit_12 f_X0_9 sh_9 rfl ?_
    refine r_aload_n (pc := 15) h dX0_addSuit_15 rfl ?_
    refine r_getE (pc := 16) h dX0_addSuit_16 f_X0_33 sh_9 rfl (hR.ns) ?_
    refine r_iload_n (pc := 19) h dX0_addSuit_19 rfl ?_
    refine r_iastore (pc := 20) h dX0_addSuit_20 sh_10 (hin) ?_
    refine r_aload_n (pc := 21) h dX0_addSuit_21 rfl ?_
    refine r_getR (pc := 22) h dX0_addSuit_22 f_X0_15 sh_9 rfl ?_
    refine r_aload_n (pc := 25) h dX0_addSuit_25 rfl ?_
    refine r_getE (pc := 26) h dX0_addSuit_26 f_X0_33 sh_9 rfl ((by rw [gup_ne (by decide)]; exact hR.ns : _ = nI (c 7 0))) ?_
    refine r_iload_n (pc := 29) h dX0_addSuit_29 rfl ?_
    refine r_iastore (pc := 30) h dX0_addSuit_30 sh_11 (hin) ?_
    refine r_aload_n (pc := 31) h dX0_addSuit_31 rfl ?_
    refine r_getR (pc := 32) h dX0_addSuit_32 f_X0_18 sh_9 rfl ?_
    refine r_aload_n (pc := 35) h dX0_addSuit_35 rfl ?_
    refine r_getE (pc := 36) h dX0_addSuit_36 f_X0_33 sh_9 rfl ((by rw [gup_ne (by decide), gup_ne (by decide)]; exact hR.ns : _ = nI (c 7 0))) ?_
    refine r_iconst (pc := 39) h dX0_addSuit_39 ci_0 ?_
    refine r_iastore (pc := 40) h dX0_addSuit_40 sh_12 (hin) ?_
    refine r_aload_n (pc := 41) h dX0_addSuit_41 rfl ?_
    refine r_dup (pc := 42) h dX0_addSuit_42 rfl ?_
    refine r_getE (pc := 43) h dX0_addSuit_43 f_X0_33 sh_9 rfl ((by rw [gup_ne (by decide), gup_ne (by decide), gup_ne (by decide)]; exact hR.ns : _ = nI (c 7 0))) ?_
    refine r_iconst (pc := 46) h dX0_addSuit_46 ci_1 ?_
    refine r_iadd (pc := 47) h dX0_addSuit_47 ?_
    refine r_top (y := nI (c 7 0 + 1)) h (nI_add _ _) ?_
    refine r_putI (pc := 48) h dX0_addSuit_48 fw_X0_33 sh_9 rfl rfl rfl ?_
    refine r_iconst (pc := 51) h dX0_addSuit_51 ci_1 ?_
    refine r_ri t (pc := 52) dX0_addSuit_52 (by decide) ?_
    refine ⟨by simp [h6, bI], fun _ => ?_, (((frm.rf.up (by decide)).up (by decide)).up (by decide)).up (by decide)⟩
    obtain ⟨⟨h1, h2, h3, h4⟩, h5, h6', h7⟩ := hR
    have ei : (nI (c 7 0)).toNatClampNeg = c 7 0 := nI_clamp (by omega)
    unfold addS
    refine ⟨⟨by simp [gup, cup, ei], by simp [gup, cup, ei, h2], by simp [gup, cup, ei, h3], by simp [gup, cup, ei, h4]⟩, by simp [cup]; omega, fun j hj => ?_, fun j hj => ?_⟩
    · by_cases e : j = c 7 0
      · subst e; simp [gup, cup, ei]
      · obtain ⟨a, b, d⟩ := h6' j (by simp [cup] at hj; omega)
        simp [gup, cup, ei, e, a, b, d]
    · obtain ⟨a, b, d, f⟩ := h7 j (by simpa [cup] using hj)
      simp [gup, cup, ei, a, b, d, f]
  · have h6 : ¬ c 7 0 < 6 := fun q => c6 (nI_lt q (by decide))
    refine r_iconst (pc := 9) h dX0_addSuit_9 ci_0 ?_
    refine r_ri t (pc := 10) dX0_addSuit_10 (by decide) ?_
    exact ⟨by simp [h6, bI], fun q => absurd q h6, frm.rf⟩
set_option maxRecDepth 100000 in
set_option maxHeartbeats 4000000 in
theorem c_X0_addCaller_9 {g : gG} {c : gCt} (hR : Rx9 g c) {f : Nat} (hf : f < 2147483648) : gCi mX0_addCaller [.ref 9, .int (nI f)] g (fun x g1 => x = bI (decide (c 7 1 < 5 ∧ f ≤ 20)) ∧ (c 7 1 < 5 ∧ f ≤ 20 → Rx9 g1 (addC c f)) ∧ frm 9 17 g g1) := by
  refine gCi_of (own := RX0) (ls0 := [.ref 9, .int (nI f)]) ⟨rfl, pl_X0⟩ rfl (Nat.le_of_ble_eq_true rfl) (fun G (h : gR RX0 cX0_addCaller 0 0 G) (t : gTi cX0_addCaller .boolean _ G) => ?_)
  have hn5 := hR.n5
  refine r_aload_n (pc := 0) h dX0_addCaller_0 rfl ?_
  refine r_getE (pc := 1) h dX0_addCaller_1 f_X0_37 sh_9 rfl (hR.nc) ?_
  refine r_iconst (pc := 4) h dX0_addCaller_4 ci_5 ?_
  refine r_icmp_ge (pc := 5) (tgt := 14) h dX0_addCaller_5 (by decide) (fun c5 => ?_) (fun c5 => ?_)
  · have h5 : ¬ (c 7 1 < 5 ∧ f ≤ 20) := fun q => nI_ge q.1 (by decide) c5
    refine r_iconst (pc := 14) h dX0_addCaller_14 ci_0 ?_
    refine r_ri t (pc := 15) dX0_addCaller_15 (by decide) ?_
    exact ⟨by simp [h5, bI], fun q => absurd q h5, frm.rf⟩
  · have h5a : c 7 1 < 5 := Nat.lt_of_not_le fun q => c5 (nI_le q (by omega))
    refine r_iload_n (pc := 8) h dX0_addCaller_8 rfl ?_
    refine r_bipush (pc := 9) h dX0_addCaller_9 cb_20 ?_
    refine r_icmp_le (pc := 11) (tgt := 16) h dX0_addCaller_11 (by decide) (fun c11 => ?_) (fun c11 => ?_)
    · have h5 : c 7 1 < 5 ∧ f ≤ 20 := ⟨h5a, (nI_leI hf (by decide)).mp c11⟩
      have hin : vp_in (nI (c 7 1)) 5 := vp_in_nI h5a (by decide)
      refine r_aload_n (pc := 16) h dX0_addCaller_16 rfl ?_
      refine r_getR (pc := 17) h dX0_addCaller_17 f_X0_21 sh_9 rfl ?_
      refine r_aload_n (pc := 20) h dX0_addCaller_20 rfl ?_
      refine r_getE (pc := 21) h dX0_addCaller_21 f_X0_37 sh_9 rfl (hR.nc) ?_
      refine r_iload_n (pc := 24) h dX0_addCaller_24 rfl ?_
      refine r_iastore (pc := 25) h dX0_addCaller_25 sh_13 (hin) ?_
      refine r_aload_n (pc := 26) h dX0_addCaller_26 rfl ?_
      refine r_getR (pc := 27) h dX0_addCaller_27 f_X0_24 sh_9 rfl ?_
      refine r_aload_n (pc := 30) h dX0_addCaller_30 rfl ?_
      refine r_getE (pc := 31) h dX0_addCaller_31 f_X0_37 sh_9 rfl ((by rw [gup_ne (by decide)]; exact hR.nc : _ = nI (c 7 1))) ?_
      refine r_iconst (pc := 34) h dX0_addCaller_34 ci_0 ?_
      refine r_iastore (pc := 35) h dX0_addCaller_35 sh_14 (hin) ?_
      refine r_aload_n (pc := 36) h dX0_addCaller_36 rfl ?_
      refine r_getR (pc := 37) h dX0_addCaller_37 f_X0_27 sh_9 rfl ?_
      refine r_aload_n (pc := 40) h dX0_addCaller_40 rfl ?_
      refine r_getE (pc := 41) h dX0_addCaller_41 f_X0_37 sh_9 rfl ((by rw [gup_ne (by decide), gup_ne (by decide)]; exact hR.nc : _ = nI (c 7 1))) ?_
      refine r_iconst (pc := 44) h dX0_addCaller_44 ci_0 ?_
      refine r_iastore (pc := 45) h dX0_addCaller_45 sh_15 (hin) ?_
      refine r_aload_n (pc := 46) h dX0_addCaller_46 rfl ?_
      refine r_getR (pc := 47) h dX0_addCaller_47 f_X0_30 sh_9 rfl ?_
      refine r_aload_n (pc := 50) h dX0_addCaller_50 rfl ?_
      refine r_getE (pc := 51) h dX0_addCaller_51 f_X0_37 sh_9 rfl ((by rw [gup_ne (by decide), gup_ne (by decide), gup_ne (by decide)]; exact hR.nc : _ = nI (c 7 1))) ?_
      refine r_bipush (pc := 54) h dX0_addCaller_54 cb_m9 ?_
      refine r_iastore (pc := 56) h dX0_addCaller_56 sh_16 (hin) ?_
      refine r_aload_n (pc := 57) h dX0_addCaller_57 rfl ?_
      refine r_dup (pc := 58) h dX0_addCaller_58 rfl ?_
      refine r_getE (pc := 59) h dX0_addCaller_59 f_X0_37 sh_9 rfl ((by rw [gup_ne (by decide), gup_ne (by decide), gup_ne (by decide), gup_ne (by decide)]; exact hR.nc : _ = nI (c 7 1))) ?_
      refine r_iconst (pc := 62) h dX0_addCaller_62 ci_1 ?_
      refine r_iadd (pc := 63) h dX0_addCaller_63 ?_
      refine r_top (y := nI (c 7 1 + 1)) h (nI_add _ _) ?_
      refine r_putI (pc := 64) h dX0_addCaller_64 fw_X0_37 sh_9 rfl rfl rfl ?_
      refine r_iconst (pc := 67) h dX0_addCaller_67 ci_1 ?_
      refine r_ri t (pc := 68) dX0_addCaller_68 (by decide) ?_
      refine ⟨by simp [h5, bI], fun _ => ?_, ((((frm.rf.up (by decide)).up (by decide)).up (by decide)).up (by decide)).up (by decide)⟩
      obtain ⟨⟨h1, h2, h3, h4⟩, h5', h6, h7⟩ := hR
      have ei : (nI (c 7 1)).toNatClampNeg = c 7 1 := nI_clamp (by omega)
      unfold addC
      refine ⟨⟨by simp [gup, cup, ei, h1], by simp [gup, cup, ei], by simp [gup, cup, ei, h3], by simp [gup, cup, ei, h4]⟩, by simp [cup]; omega, fun j hj => ?_, fun j hj => ?_⟩
      · obtain ⟨a, b, d⟩ := h6 j (by simpa [cup] using hj)
        simp [gup, cup, ei, a, b, d]
      · by_cases e : j = c 7 1
        · subst e; simp [gup, cup, ei, wz]
        · obtain ⟨a, b, d, f⟩ := h7 j (by simp [cup] at hj; omega)
          simp [gup, cup, ei, e, a, b, d, f]
    · have h5 : ¬ (c 7 1 < 5 ∧ f ≤ 20) := fun q => c11 (nI_le q.2 (by decide))
      refine r_iconst (pc := 14) h dX0_addCaller_14 ci_0 ?_
      refine r_ri t (pc := 15) dX0_addCaller_15 (by decide) ?_
      exact ⟨by simp [h5, bI], fun q => absurd q h5, frm.rf⟩
set_option maxRecDepth 100000 in
set_option maxHeartbeats 4000000 in
theorem c_X0_rainOnAll_9 {g : gG} {c : gCt} (hR : Rx9 g c) (ho : gok c) : gCv mX0_rainOnAll [.ref 9] g (fun g1 => Rx9 g1 (rainC c) ∧ frm 9 17 g g1) := by
  refine gCv_of (own := RX0) (ls0 := [.ref 9, .null]) ⟨rfl, pl_X0⟩ rfl (Nat.le_of_ble_eq_true rfl) (fun G (h : gR RX0 cX0_rainOnAll 1 40 G) (t : gTv cX0_rainOnAll _ G) => ?_)
  have loop : ∀ n i (d : gCt) (g2 : gG), i + n = d 7 0 → Rx9 g2 d → gok d → frm 9 17 g g2 → gfold (fun s c => cup c 2 s (cap (c 2 s + 1) 9)) n i d = rainC c → G 2 [.ref 9, .int (nI i)] [] g2 := by
    intro n
    induction n with
    | zero =>
      intro i d g2 hi hR ho hF hw
      have hn6 := hR.n6
      refine r_iload_n (pc := 2) h dX0_rainOnAll_2 rfl ?_
      refine r_aload_n (pc := 3) h dX0_rainOnAll_3 rfl ?_
      refine r_getE (pc := 4) h dX0_rainOnAll_4 f_X0_33 sh_9 rfl (hR.ns) ?_
      refine r_icmp_ge (pc := 7) (tgt := 35) h dX0_rainOnAll_7 (by decide) (fun c7 => ?_) (fun c7 => absurd (nI_le (by omega) (by omega)) c7)
      refine r_rv t (pc := 35) dX0_rainOnAll_35 ?_
      exact ⟨by rw [← hw]; exact hR, hF⟩
    | succ n ih =>
      intro i d g2 hin hR ho hF hw
      have hn6 := hR.n6
      have hi : i < d 7 0 := by omega
      have hk := ho.2.2.1 i hi
      refine r_iload_n (pc := 2) h dX0_rainOnAll_2 rfl ?_
      refine r_aload_n (pc := 3) h dX0_rainOnAll_3 rfl ?_
      refine r_getE (pc := 4) h dX0_rainOnAll_4 f_X0_33 sh_9 rfl (hR.ns) ?_
      refine r_icmp_ge (pc := 7) (tgt := 35) h dX0_rainOnAll_7 (by decide) (fun c7 => absurd c7 (nI_ge hi (by omega))) (fun c7 => ?_)
      refine r_aload_n (pc := 10) h dX0_rainOnAll_10 rfl ?_
      refine r_getR (pc := 11) h dX0_rainOnAll_11 f_X0_18 sh_9 rfl ?_
      refine r_iload_n (pc := 14) h dX0_rainOnAll_14 rfl ?_
      refine r_aload_n (pc := 15) h dX0_rainOnAll_15 rfl ?_
      refine r_getR (pc := 16) h dX0_rainOnAll_16 f_X0_18 sh_9 rfl ?_
      refine r_iload_n (pc := 19) h dX0_rainOnAll_19 rfl ?_
      refine r_ialoadE (pc := 20) h dX0_rainOnAll_20 sh_12 (hR.ru hi) ?_
      refine r_iconst (pc := 21) h dX0_rainOnAll_21 ci_1 ?_
      refine r_iadd (pc := 22) h dX0_rainOnAll_22 ?_
      refine r_bipush (pc := 23) h dX0_rainOnAll_23 cb_9 ?_
      refine r_mmin (pc := 25) h dX0_rainOnAll_25 k_X0_93 ⟨Nat.le_of_ble_eq_true rfl, Nat.le_of_ble_eq_true rfl⟩ ?_
      refine r_top (y := nI (cap (d 2 i + 1) 9)) h (by rw [nI_add]; exact nI_cap (by omega) (by decide)) ?_
      refine r_iastore (pc := 28) h dX0_rainOnAll_28 sh_12 (hR.si hi) ?_
      obtain ⟨hR, hF⟩ := Rx9.wr hF (hR.u_ru hi _) (by decide)
      generalize gup g2 12 _ _ = g2 at hR hF ⊢
      refine r_iinc (pc := 29) (ls2 := [_, _]) h dX0_rainOnAll_29 rfl (ic1 _) rfl ?_
      refine r_goto (pc := 32) (tgt := 2) h dX0_rainOnAll_32 (by decide) ?_
      exact ih (i + 1) _ _ (by simp [cup]; omega) hR (gok_2 ho (cap_le _ _)) hF hw
  refine r_iconst (pc := 0) h dX0_rainOnAll_0 ci_0 ?_
  refine r_istore_n (pc := 1) (ls2 := [_, _]) h dX0_rainOnAll_1 (Nat.le_of_ble_eq_true rfl) rfl ?_
  exact loop (c 7 0) 0 c g (by omega) hR ho frm.rf rfl
set_option maxRecDepth 100000 in
set_option maxHeartbeats 4000000 in
theorem c_X0_putIn_1 {g : gG} {c : gCt} (hR : Rx1 g c) (ho : gok c) {i s : Nat} (hi : i < c 7 1) (hs : s < c 7 0) : gCv mX0_putIn [.ref 1, .int (nI i), .int (nI s)] g (fun g1 => Rx1 g1 (put c i s) ∧ frm 1 9 g g1) := by
  refine gCv_of (own := RX0) (ls0 := [.ref 1, .int (nI i), .int (nI s), .null]) ⟨rfl, pl_X0⟩ rfl (Nat.le_of_ble_eq_true rfl) (fun G (h : gR RX0 cX0_putIn 1 40 G) (t : gTv cX0_putIn _ G) => ?_)
  have hn5 := hR.n5
  have hn6 := hR.n6
  suffices H : ∀ g2 : gG, Rx1 g2 c → frm 1 9 g g2 → G 0 [.ref 1, .int (nI i), .int (nI s), .null] [] g2 from H g hR frm.rf
  intro g2 hR hF
  refine r_aload_n (pc := 0) h dX0_putIn_0 rfl ?_
  refine r_iload_n (pc := 1) h dX0_putIn_1 rfl ?_
  refine r_callVi (pc := 2) (As := [_]) h dX0_putIn_2 k_X0_52 gc_1 rfl ⟨Nat.le_of_ble_eq_true rfl, Nat.le_of_ble_eq_true rfl, Nat.le_of_ble_eq_true rfl⟩ (c_X0_wearer_1 hR ho (by omega)) (fun x_2 g1 hq => ?_)
  obtain ⟨rfl, hg1⟩ := hq
  rw [hg1]
  refine r_istore_n (pc := 5) (ls2 := [_, _, _, _]) h dX0_putIn_5 (Nat.le_of_ble_eq_true rfl) rfl ?_
  refine r_iload_n (pc := 6) h dX0_putIn_6 rfl ?_
  refine r_bipush (pc := 7) h dX0_putIn_7 cb_m9 ?_
  refine r_icmp_eq (pc := 9) (tgt := 20) h dX0_putIn_9 (by decide) (fun c9 => ?_) (fun c9 => ?_)
  · have hw : wr c s = none := (wr_9 hn5).mp c9
    refine r_aload_n (pc := 20) h dX0_putIn_20 rfl ?_
    refine r_getR (pc := 21) h dX0_putIn_21 f_X0_30 sh_1 rfl ?_
    refine r_iload_n (pc := 24) h dX0_putIn_24 rfl ?_
    refine r_iload_n (pc := 25) h dX0_putIn_25 rfl ?_
    refine r_top (y := wz (s + 1)) h (wz_s s).symm ?_
    refine r_iastore (pc := 26) h dX0_putIn_26 sh_8 (hR.ci hi) ?_
    obtain ⟨hR, hF⟩ := Rx1.wr hF (hR.u_wo hi (s + 1)) (by decide)
    generalize gup g2 8 _ _ = g2 at hR hF ⊢
    refine r_rv t (pc := 27) dX0_putIn_27 ?_
    refine ⟨?_, hF⟩
    unfold put
    rw [hw]
    exact hR
  · obtain ⟨k, hw⟩ : ∃ k, wr c s = some k := Option.ne_none_iff_exists'.mp (fun q => c9 ((wr_9 hn5).mpr q))
    have hk : k < c 7 1 := (wr_lt hw).1
    rw [show oI (wr c s) = nI k by rw [hw]; rfl]
    refine r_aload_n (pc := 12) h dX0_putIn_12 rfl ?_
    refine r_getR (pc := 13) h dX0_putIn_13 f_X0_30 sh_1 rfl ?_
    refine r_iload_n (pc := 16) h dX0_putIn_16 rfl ?_
    refine r_bipush (pc := 17) h dX0_putIn_17 cb_m9 ?_
    refine r_top (y := wz 0) h rfl ?_
    refine r_iastore (pc := 19) h dX0_putIn_19 sh_8 (hR.ci hk) ?_
    obtain ⟨hR, hF⟩ := Rx1.wr hF (hR.u_wo hk 0) (by decide)
    generalize gup g2 8 _ _ = g2 at hR hF ⊢
    refine r_aload_n (pc := 20) h dX0_putIn_20 rfl ?_
    refine r_getR (pc := 21) h dX0_putIn_21 f_X0_30 sh_1 rfl ?_
    refine r_iload_n (pc := 24) h dX0_putIn_24 rfl ?_
    refine r_iload_n (pc := 25) h dX0_putIn_25 rfl ?_
    refine r_top (y := wz (s + 1)) h (wz_s s).symm ?_
    refine r_iastore (pc := 26) h dX0_putIn_26 sh_8 (hR.ci hi) ?_
    obtain ⟨hR, hF⟩ := Rx1.wr hF (hR.u_wo hi (s + 1)) (by decide)
    generalize gup g2 8 _ _ = g2 at hR hF ⊢
    refine r_rv t (pc := 27) dX0_putIn_27 ?_
    refine ⟨?_, hF⟩
    unfold put
    rw [hw]
    exact hR
set_option maxRecDepth 100000 in
set_option maxHeartbeats 4000000 in
theorem c_X0_liveDay_1 {g : gG} {c : gCt} (hR : Rx1 g c) (ho : gok c) {i : Nat} (hi : i < c 7 1) : gCv mX0_liveDay [.ref 1, .int (nI i)] g (fun g1 => Rx1 g1 (live c i) ∧ frm 1 9 g g1) := by
  refine gCv_of (own := RX0) (ls0 := [.ref 1, .int (nI i), .null]) ⟨rfl, pl_X0⟩ rfl (Nat.le_of_ble_eq_true rfl) (fun G (h : gR RX0 cX0_liveDay 3 120 G) (t : gTv cX0_liveDay _ G) => ?_)
  have hn5 := hR.n5
  have hn6 := hR.n6
  have hk4 := ho.2.2.2 i hi
  have hpd := ho.1
  have hdy := ho.2.1
  suffices H : ∀ g2 : gG, Rx1 g2 c → frm 1 9 g g2 → G 0 [.ref 1, .int (nI i), .null] [] g2 from H g hR frm.rf
  intro g2 hR hF
  refine r_aload_n (pc := 0) h dX0_liveDay_0 rfl ?_
  refine r_getR (pc := 1) h dX0_liveDay_1 f_X0_30 sh_1 rfl ?_
  refine r_iload_n (pc := 4) h dX0_liveDay_4 rfl ?_
  refine r_ialoadE (pc := 5) h dX0_liveDay_5 sh_8 (hR.wo hi) ?_
  refine r_istore_n (pc := 6) (ls2 := [_, _, _]) h dX0_liveDay_6 (Nat.le_of_ble_eq_true rfl) rfl ?_
  refine r_iload_n (pc := 7) h dX0_liveDay_7 rfl ?_
  refine r_bipush (pc := 8) h dX0_liveDay_8 cb_m9 ?_
  refine r_icmp_ne (pc := 10) (tgt := 32) h dX0_liveDay_10 (by decide) (fun c10 => ?_) (fun c10 => ?_)
  · obtain ⟨s, e6⟩ : ∃ s, c 6 i = s + 1 := ⟨c 6 i - 1, by have n0 : ¬ c 6 i = 0 := fun q => c10 ((wz_none (by omega)).mpr q); omega⟩
    have hs : s < c 7 0 := by omega
    have es : c 6 i - 1 = s := by omega
    have hk := ho.2.2.1 s hs
    have hpr := priN_le (c 0 s)
    have hch := chaN_le hk.2.2 (k := c 0 s) (c 7 3)
    have ec : covOf c i = cvr c s := by simp [covOf, e6]
    rw [show wz (c 6 i) = nI s by rw [e6]; exact wz_s s]
    refine r_aload_n (pc := 32) h dX0_liveDay_32 rfl ?_
    refine r_aload_n (pc := 33) h dX0_liveDay_33 rfl ?_
    refine r_getE (pc := 34) h dX0_liveDay_34 f_X0_40 sh_1 rfl (hR.pd) ?_
    refine r_gets (q := 100) (pc := 37) h dX0_liveDay_37 (by decide) (Or.inl ⟨rfl, rfl⟩) ?_
    refine r_aload_n (pc := 40) h dX0_liveDay_40 rfl ?_
    refine r_getR (pc := 41) h dX0_liveDay_41 f_X0_9 sh_1 rfl ?_
    refine r_iload_n (pc := 44) h dX0_liveDay_44 rfl ?_
    refine r_ialoadE (pc := 45) h dX0_liveDay_45 sh_2 (hR.kd hs) ?_
    refine r_tabldE (pc := 46) h dX0_liveDay_46 (by decide) (tabP hk.1) ?_
    refine r_iadd (pc := 47) h dX0_liveDay_47 ?_
    refine r_sipush (pc := 48) h dX0_liveDay_48 cs_9999 ?_
    refine r_mmin (pc := 51) h dX0_liveDay_51 k_X0_93 ⟨Nat.le_of_ble_eq_true rfl, Nat.le_of_ble_eq_true rfl⟩ ?_
    refine r_top (y := nI (cap (c 7 2 + priN (c 0 s)) 9999)) h (by rw [nI_add]; exact nI_cap (by omega) (by decide)) ?_
    refine r_putI (pc := 54) h dX0_liveDay_54 fw_X0_40 sh_1 rfl rfl rfl ?_
    obtain ⟨hR, hF⟩ := Rx1.wr hF (hR.u_pd _) (by decide)
    generalize gup g2 1 _ _ = g2 at hR hF ⊢
    refine r_aload_n (pc := 57) h dX0_liveDay_57 rfl ?_
    refine r_iload_n (pc := 58) h dX0_liveDay_58 rfl ?_
    refine r_callVi (pc := 59) (As := [_]) h dX0_liveDay_59 k_X0_96 gc_1 rfl ⟨Nat.le_of_ble_eq_true rfl, Nat.le_of_ble_eq_true rfl, Nat.le_of_ble_eq_true rfl⟩ (c_X0_can_1 hR (gok_72 ho (cap_le _ _)) hi) (fun x_59 g1 hq => ?_)
    obtain ⟨rfl, hg1⟩ := hq
    rw [hg1]
    refine r_if_eq (pc := 62) (tgt := 96) h dX0_liveDay_62 (by decide) (fun c62 => ?_) (fun c62 => ?_)
    · have hc : canB c i (covOf c i) = false := (bI_0 (canB c i (covOf c i))).mp c62
      rw [ec] at hc
      refine r_aload_n (pc := 96) h dX0_liveDay_96 rfl ?_
      refine r_getR (pc := 97) h dX0_liveDay_97 f_X0_21 sh_1 rfl ?_
      refine r_iload_n (pc := 100) h dX0_liveDay_100 rfl ?_
      refine r_aload_n (pc := 101) h dX0_liveDay_101 rfl ?_
      refine r_getR (pc := 102) h dX0_liveDay_102 f_X0_21 sh_1 rfl ?_
      refine r_iload_n (pc := 105) h dX0_liveDay_105 rfl ?_
      refine r_ialoadE (pc := 106) h dX0_liveDay_106 sh_5 (hR.fe hi) ?_
      refine r_iconst (pc := 107) h dX0_liveDay_107 ci_1 ?_
      refine r_iadd (pc := 108) h dX0_liveDay_108 ?_
      refine r_bipush (pc := 109) h dX0_liveDay_109 cb_20 ?_
      refine r_mmin (pc := 111) h dX0_liveDay_111 k_X0_93 ⟨Nat.le_of_ble_eq_true rfl, Nat.le_of_ble_eq_true rfl⟩ ?_
      refine r_top (y := nI (cap (c 3 i + 1) 20)) h (by rw [nI_add]; exact nI_cap (a := c 3 i + 1) (b := 20) (by omega) (by decide)) ?_
      refine r_iastore (pc := 114) h dX0_liveDay_114 sh_5 (hR.ci hi) ?_
      obtain ⟨hR, hF⟩ := Rx1.wr hF (hR.u_fe hi _) (by decide)
      generalize gup g2 5 _ _ = g2 at hR hF ⊢
      refine r_aload_n (pc := 115) h dX0_liveDay_115 rfl ?_
      refine r_getR (pc := 116) h dX0_liveDay_116 f_X0_24 sh_1 rfl ?_
      refine r_iload_n (pc := 119) h dX0_liveDay_119 rfl ?_
      refine r_aload_n (pc := 120) h dX0_liveDay_120 rfl ?_
      refine r_getR (pc := 121) h dX0_liveDay_121 f_X0_24 sh_1 rfl ?_
      refine r_iload_n (pc := 124) h dX0_liveDay_124 rfl ?_
      refine r_ialoadE (pc := 125) h dX0_liveDay_125 sh_6 (hR.so hi) ?_
      refine r_aload_n (pc := 126) h dX0_liveDay_126 rfl ?_
      refine r_iload_n (pc := 127) h dX0_liveDay_127 rfl ?_
      refine r_aload_n (pc := 128) h dX0_liveDay_128 rfl ?_
      refine r_getE (pc := 129) h dX0_liveDay_129 f_X0_43 sh_1 rfl (hR.dy) ?_
      refine r_callVi (pc := 132) (As := [_, _]) h dX0_liveDay_132 k_X0_100 gc_1 rfl ⟨Nat.le_of_ble_eq_true rfl, Nat.le_of_ble_eq_true rfl, Nat.le_of_ble_eq_true rfl⟩ (c_X0_chafe_1 hR (by first | exact gok_3 (gok_5 (gok_72 ho (cap_le _ _)) h56) (by omega) | exact gok_3 (gok_72 ho (cap_le _ _)) (cap_le _ _)) hs (Nat.lt_of_le_of_lt hdy (by decide))) (fun x_132 g1 hq => ?_)
      obtain ⟨rfl, hg1⟩ := hq
      rw [hg1]
      refine r_iadd (pc := 135) h dX0_liveDay_135 ?_
      refine r_bipush (pc := 136) h dX0_liveDay_136 cb_20 ?_
      refine r_mmin (pc := 138) h dX0_liveDay_138 k_X0_93 ⟨Nat.le_of_ble_eq_true rfl, Nat.le_of_ble_eq_true rfl⟩ ?_
      have hS20 : liveS c i ≤ 20 := cap_le _ _
      refine r_top (y := nI (liveS c i)) h (by unfold liveS; rw [es, nI_add]; exact nI_cap (a := c 4 i + chaN (c 0 s) (c 2 s) (c 7 3)) (b := 20) (by omega) (by decide)) ?_
      refine r_iastore (pc := 141) h dX0_liveDay_141 sh_6 (hR.ci hi) ?_
      obtain ⟨hR, hF⟩ := Rx1.wr hF (hR.u_so hi _) (by decide)
      generalize gup g2 6 _ _ = g2 at hR hF ⊢
      refine r_aload_n (pc := 142) h dX0_liveDay_142 rfl ?_
      refine r_getR (pc := 143) h dX0_liveDay_143 f_X0_24 sh_1 rfl ?_
      refine r_iload_n (pc := 146) h dX0_liveDay_146 rfl ?_
      refine r_ialoadE (pc := 147) h dX0_liveDay_147 sh_6 (hR.so hi) ?_
      refine r_top (y := nI (liveS c i)) h (by rw [cup_same]) ?_
      refine r_bipush (pc := 148) h dX0_liveDay_148 cb_15 ?_
      refine r_icmp_lt (pc := 150) (tgt := 161) h dX0_liveDay_150 (by decide) (fun c150 => ?_) (fun c150 => ?_)
      · have h15 : ¬ 15 ≤ liveS c i := Nat.not_le_of_lt ((nI_ltI (Nat.lt_of_le_of_lt hS20 (by decide)) (by decide)).mp c150)
        refine r_rv t (pc := 161) dX0_liveDay_161 ?_
        refine ⟨?_, hF⟩
        have h0 : ¬ c 6 i = 0 := by omega
        unfold live liveQ liveP
        rw [if_neg h0, es]
        first
          | (rw [if_pos h15, if_pos hc]; exact hR)
          | (rw [if_neg h15, if_pos hc]; exact hR)
          | (rw [if_pos h15, if_neg (by rw [hc]; decide)]; exact hR)
          | (rw [if_neg h15, if_neg (by rw [hc]; decide)]; exact hR)
      · have h15 : 15 ≤ liveS c i := Nat.le_of_not_lt fun q => c150 (nI_lt q (by decide))
        refine r_aload_n (pc := 153) h dX0_liveDay_153 rfl ?_
        refine r_getR (pc := 154) h dX0_liveDay_154 f_X0_30 sh_1 rfl ?_
        refine r_iload_n (pc := 157) h dX0_liveDay_157 rfl ?_
        refine r_bipush (pc := 158) h dX0_liveDay_158 cb_m9 ?_
        refine r_top (y := wz 0) h rfl ?_
        refine r_iastore (pc := 160) h dX0_liveDay_160 sh_8 (hR.ci hi) ?_
        obtain ⟨hR, hF⟩ := Rx1.wr hF (hR.u_wo hi 0) (by decide)
        generalize gup g2 8 _ _ = g2 at hR hF ⊢
        refine r_rv t (pc := 161) dX0_liveDay_161 ?_
        refine ⟨?_, hF⟩
        have h0 : ¬ c 6 i = 0 := by omega
        unfold live liveQ liveP
        rw [if_neg h0, es]
        first
          | (rw [if_pos h15, if_pos hc]; exact hR)
          | (rw [if_neg h15, if_pos hc]; exact hR)
          | (rw [if_pos h15, if_neg (by rw [hc]; decide)]; exact hR)
          | (rw [if_neg h15, if_neg (by rw [hc]; decide)]; exact hR)
    · have hc : canB c i (covOf c i) = true := by simpa using mt (bI_0 (canB c i (covOf c i))).mpr c62
      rw [ec] at hc
      have h56 : c 5 i + 1 ≤ 6 := canB_6 hc
      refine r_aload_n (pc := 65) h dX0_liveDay_65 rfl ?_
      refine r_getR (pc := 66) h dX0_liveDay_66 f_X0_27 sh_1 rfl ?_
      refine r_iload_n (pc := 69) h dX0_liveDay_69 rfl ?_
      refine r_dup2 (pc := 70) h dX0_liveDay_70 rfl rfl ?_
      refine r_ialoadE (pc := 71) h dX0_liveDay_71 sh_7 (hR.sa hi) ?_
      refine r_iconst (pc := 72) h dX0_liveDay_72 ci_1 ?_
      refine r_iadd (pc := 73) h dX0_liveDay_73 ?_
      refine r_top (y := nI (c 5 i + 1)) h (nI_add _ _) ?_
      refine r_iastore (pc := 74) h dX0_liveDay_74 sh_7 (hR.ci hi) ?_
      obtain ⟨hR, hF⟩ := Rx1.wr hF (hR.u_sa hi _) (by decide)
      generalize gup g2 7 _ _ = g2 at hR hF ⊢
      refine r_aload_n (pc := 75) h dX0_liveDay_75 rfl ?_
      refine r_getR (pc := 76) h dX0_liveDay_76 f_X0_21 sh_1 rfl ?_
      refine r_iload_n (pc := 79) h dX0_liveDay_79 rfl ?_
      refine r_aload_n (pc := 80) h dX0_liveDay_80 rfl ?_
      refine r_getR (pc := 81) h dX0_liveDay_81 f_X0_21 sh_1 rfl ?_
      refine r_iload_n (pc := 84) h dX0_liveDay_84 rfl ?_
      refine r_ialoadE (pc := 85) h dX0_liveDay_85 sh_5 (hR.fe hi) ?_
      refine r_iconst (pc := 86) h dX0_liveDay_86 ci_1 ?_
      refine r_isub (pc := 87) h dX0_liveDay_87 ?_
      refine r_iconst (pc := 88) h dX0_liveDay_88 ci_0 ?_
      refine r_mmax (pc := 89) h dX0_liveDay_89 k_X0_78 ⟨Nat.le_of_ble_eq_true rfl, Nat.le_of_ble_eq_true rfl⟩ ?_
      refine r_top (y := nI (c 3 i - 1)) h (nI_low (a := c 3 i) (b := 1) (by omega) (by decide)) ?_
      refine r_iastore (pc := 92) h dX0_liveDay_92 sh_5 (hR.ci hi) ?_
      obtain ⟨hR, hF⟩ := Rx1.wr hF (hR.u_fe hi _) (by decide)
      generalize gup g2 5 _ _ = g2 at hR hF ⊢
      refine r_goto (pc := 93) (tgt := 115) h dX0_liveDay_93 (by decide) ?_
      refine r_aload_n (pc := 115) h dX0_liveDay_115 rfl ?_
      refine r_getR (pc := 116) h dX0_liveDay_116 f_X0_24 sh_1 rfl ?_
      refine r_iload_n (pc := 119) h dX0_liveDay_119 rfl ?_
      refine r_aload_n (pc := 120) h dX0_liveDay_120 rfl ?_
      refine r_getR (pc := 121) h dX0_liveDay_121 f_X0_24 sh_1 rfl ?_
      refine r_iload_n (pc := 124) h dX0_liveDay_124 rfl ?_
      refine r_ialoadE (pc := 125) h dX0_liveDay_125 sh_6 (hR.so hi) ?_
      refine r_aload_n (pc := 126) h dX0_liveDay_126 rfl ?_
      refine r_iload_n (pc := 127) h dX0_liveDay_127 rfl ?_
      refine r_aload_n (pc := 128) h dX0_liveDay_128 rfl ?_
      refine r_getE (pc := 129) h dX0_liveDay_129 f_X0_43 sh_1 rfl (hR.dy) ?_
      refine r_callVi (pc := 132) (As := [_, _]) h dX0_liveDay_132 k_X0_100 gc_1 rfl ⟨Nat.le_of_ble_eq_true rfl, Nat.le_of_ble_eq_true rfl, Nat.le_of_ble_eq_true rfl⟩ (c_X0_chafe_1 hR (by first | exact gok_3 (gok_5 (gok_72 ho (cap_le _ _)) h56) (by omega) | exact gok_3 (gok_72 ho (cap_le _ _)) (cap_le _ _)) hs (Nat.lt_of_le_of_lt hdy (by decide))) (fun x_132 g1 hq => ?_)
      obtain ⟨rfl, hg1⟩ := hq
      rw [hg1]
      refine r_iadd (pc := 135) h dX0_liveDay_135 ?_
      refine r_bipush (pc := 136) h dX0_liveDay_136 cb_20 ?_
      refine r_mmin (pc := 138) h dX0_liveDay_138 k_X0_93 ⟨Nat.le_of_ble_eq_true rfl, Nat.le_of_ble_eq_true rfl⟩ ?_
      have hS20 : liveS c i ≤ 20 := cap_le _ _
      refine r_top (y := nI (liveS c i)) h (by unfold liveS; rw [es, nI_add]; exact nI_cap (a := c 4 i + chaN (c 0 s) (c 2 s) (c 7 3)) (b := 20) (by omega) (by decide)) ?_
      refine r_iastore (pc := 141) h dX0_liveDay_141 sh_6 (hR.ci hi) ?_
      obtain ⟨hR, hF⟩ := Rx1.wr hF (hR.u_so hi _) (by decide)
      generalize gup g2 6 _ _ = g2 at hR hF ⊢
      refine r_aload_n (pc := 142) h dX0_liveDay_142 rfl ?_
      refine r_getR (pc := 143) h dX0_liveDay_143 f_X0_24 sh_1 rfl ?_
      refine r_iload_n (pc := 146) h dX0_liveDay_146 rfl ?_
      refine r_ialoadE (pc := 147) h dX0_liveDay_147 sh_6 (hR.so hi) ?_
      refine r_top (y := nI (liveS c i)) h (by rw [cup_same]) ?_
      refine r_bipush (pc := 148) h dX0_liveDay_148 cb_15 ?_
      refine r_icmp_lt (pc := 150) (tgt := 161) h dX0_liveDay_150 (by decide) (fun c150 => ?_) (fun c150 => ?_)
      · have h15 : ¬ 15 ≤ liveS c i := Nat.not_le_of_lt ((nI_ltI (Nat.lt_of_le_of_lt hS20 (by decide)) (by decide)).mp c150)
        refine r_rv t (pc := 161) dX0_liveDay_161 ?_
        refine ⟨?_, hF⟩
        have h0 : ¬ c 6 i = 0 := by omega
        unfold live liveQ liveP
        rw [if_neg h0, es]
        first
          | (rw [if_pos h15, if_pos hc]; exact hR)
          | (rw [if_neg h15, if_pos hc]; exact hR)
          | (rw [if_pos h15, if_neg (by rw [hc]; decide)]; exact hR)
          | (rw [if_neg h15, if_neg (by rw [hc]; decide)]; exact hR)
      · have h15 : 15 ≤ liveS c i := Nat.le_of_not_lt fun q => c150 (nI_lt q (by decide))
        refine r_aload_n (pc := 153) h dX0_liveDay_153 rfl ?_
        refine r_getR (pc := 154) h dX0_liveDay_154 f_X0_30 sh_1 rfl ?_
        refine r_iload_n (pc := 157) h dX0_liveDay_157 rfl ?_
        refine r_bipush (pc := 158) h dX0_liveDay_158 cb_m9 ?_
        refine r_top (y := wz 0) h rfl ?_
        refine r_iastore (pc := 160) h dX0_liveDay_160 sh_8 (hR.ci hi) ?_
        obtain ⟨hR, hF⟩ := Rx1.wr hF (hR.u_wo hi 0) (by decide)
        generalize gup g2 8 _ _ = g2 at hR hF ⊢
        refine r_rv t (pc := 161) dX0_liveDay_161 ?_
        refine ⟨?_, hF⟩
        have h0 : ¬ c 6 i = 0 := by omega
        unfold live liveQ liveP
        rw [if_neg h0, es]
        first
          | (rw [if_pos h15, if_pos hc]; exact hR)
          | (rw [if_neg h15, if_pos hc]; exact hR)
          | (rw [if_pos h15, if_neg (by rw [hc]; decide)]; exact hR)
          | (rw [if_neg h15, if_neg (by rw [hc]; decide)]; exact hR)
  · have e6 : c 6 i = 0 := (wz_none (by omega)).mp c10
    refine r_aload_n (pc := 13) h dX0_liveDay_13 rfl ?_
    refine r_getR (pc := 14) h dX0_liveDay_14 f_X0_24 sh_1 rfl ?_
    refine r_iload_n (pc := 17) h dX0_liveDay_17 rfl ?_
    refine r_aload_n (pc := 18) h dX0_liveDay_18 rfl ?_
    refine r_getR (pc := 19) h dX0_liveDay_19 f_X0_24 sh_1 rfl ?_
    refine r_iload_n (pc := 22) h dX0_liveDay_22 rfl ?_
    refine r_ialoadE (pc := 23) h dX0_liveDay_23 sh_6 (hR.so hi) ?_
    refine r_iconst (pc := 24) h dX0_liveDay_24 ci_1 ?_
    refine r_isub (pc := 25) h dX0_liveDay_25 ?_
    refine r_iconst (pc := 26) h dX0_liveDay_26 ci_0 ?_
    refine r_mmax (pc := 27) h dX0_liveDay_27 k_X0_78 ⟨Nat.le_of_ble_eq_true rfl, Nat.le_of_ble_eq_true rfl⟩ ?_
    refine r_top (y := nI (c 4 i - 1)) h (nI_low (by omega) (by decide)) ?_
    refine r_iastore (pc := 30) h dX0_liveDay_30 sh_6 (hR.ci hi) ?_
    obtain ⟨hR, hF⟩ := Rx1.wr hF (hR.u_so hi _) (by decide)
    generalize gup g2 6 _ _ = g2 at hR hF ⊢
    refine r_rv t (pc := 31) dX0_liveDay_31 ?_
    exact ⟨by rw [live, if_pos e6]; exact hR, hF⟩
set_option maxRecDepth 100000 in
set_option maxHeartbeats 4000000 in
theorem c_X0_rustUnworn_1 {g : gG} {c : gCt} (hR : Rx1 g c) (ho : gok c) : gCv mX0_rustUnworn [.ref 1] g (fun g1 => Rx1 g1 (rstU c) ∧ frm 1 9 g g1) := by
  refine gCv_of (own := RX0) (ls0 := [.ref 1, .null]) ⟨rfl, pl_X0⟩ rfl (Nat.le_of_ble_eq_true rfl) (fun G (h : gR RX0 cX0_rustUnworn 1 40 G) (t : gTv cX0_rustUnworn _ G) => ?_)
  have loop : ∀ n i (d : gCt) (g2 : gG), i + n = d 7 0 → Rx1 g2 d → gok d → frm 1 9 g g2 → gfold rstF n i d = rstU c → G 2 [.ref 1, .int (nI i)] [] g2 := by
    intro n
    induction n with
    | zero =>
      intro i d g2 hi hR ho hF hw
      have hn6 := hR.n6
      refine r_iload_n (pc := 2) h dX0_rustUnworn_2 rfl ?_
      refine r_aload_n (pc := 3) h dX0_rustUnworn_3 rfl ?_
      refine r_getE (pc := 4) h dX0_rustUnworn_4 f_X0_33 sh_1 rfl (hR.ns) ?_
      refine r_icmp_ge (pc := 7) (tgt := 45) h dX0_rustUnworn_7 (by decide) (fun c7 => ?_) (fun c7 => absurd (nI_le (by omega) (by omega)) c7)
      refine r_rv t (pc := 45) dX0_rustUnworn_45 ?_
      exact ⟨by rw [← hw]; exact hR, hF⟩
    | succ n ih =>
      intro i d g2 hin hR ho hF hw
      have hn6 := hR.n6
      have hn5 := hR.n5
      have hi : i < d 7 0 := by omega
      have hk := ho.2.2.1 i hi
      have h7 := rstF_7 d i
      refine r_iload_n (pc := 2) h dX0_rustUnworn_2 rfl ?_
      refine r_aload_n (pc := 3) h dX0_rustUnworn_3 rfl ?_
      refine r_getE (pc := 4) h dX0_rustUnworn_4 f_X0_33 sh_1 rfl (hR.ns) ?_
      refine r_icmp_ge (pc := 7) (tgt := 45) h dX0_rustUnworn_7 (by decide) (fun c7 => absurd c7 (nI_ge hi (by omega))) (fun c7 => ?_)
      refine r_aload_n (pc := 10) h dX0_rustUnworn_10 rfl ?_
      refine r_iload_n (pc := 11) h dX0_rustUnworn_11 rfl ?_
      refine r_callVi (pc := 12) (As := [_]) h dX0_rustUnworn_12 k_X0_52 gc_1 rfl ⟨Nat.le_of_ble_eq_true rfl, Nat.le_of_ble_eq_true rfl, Nat.le_of_ble_eq_true rfl⟩ (c_X0_wearer_1 hR ho (by omega)) (fun x_12 g1 hq => ?_)
      obtain ⟨rfl, hg1⟩ := hq
      rw [hg1]
      refine r_bipush (pc := 15) h dX0_rustUnworn_15 cb_m9 ?_
      refine r_icmp_ne (pc := 17) (tgt := 39) h dX0_rustUnworn_17 (by decide) (fun c17 => ?_) (fun c17 => ?_)
      · have e : rstF i d = d := by unfold rstF; exact if_neg (fun q => c17 ((wr_9 hn5).mpr q))
        refine r_iinc (pc := 39) (ls2 := [_, _]) h dX0_rustUnworn_39 rfl (ic1 _) rfl ?_
        refine r_goto (pc := 42) (tgt := 2) h dX0_rustUnworn_42 (by decide) ?_
        exact ih (i + 1) (rstF i d) _ (by rw [h7.1]; omega) (by rw [e]; exact hR) (rstF_gok ho i) hF hw
      · have e : rstF i d = cup d 2 i (cap (d 2 i + 1) 9) := by unfold rstF; exact if_pos ((wr_9 hn5).mp c17)
        refine r_aload_n (pc := 20) h dX0_rustUnworn_20 rfl ?_
        refine r_getR (pc := 21) h dX0_rustUnworn_21 f_X0_18 sh_1 rfl ?_
        refine r_iload_n (pc := 24) h dX0_rustUnworn_24 rfl ?_
        refine r_aload_n (pc := 25) h dX0_rustUnworn_25 rfl ?_
        refine r_getR (pc := 26) h dX0_rustUnworn_26 f_X0_18 sh_1 rfl ?_
        refine r_iload_n (pc := 29) h dX0_rustUnworn_29 rfl ?_
        refine r_ialoadE (pc := 30) h dX0_rustUnworn_30 sh_4 (hR.ru hi) ?_
        refine r_iconst (pc := 31) h dX0_rustUnworn_31 ci_1 ?_
        refine r_iadd (pc := 32) h dX0_rustUnworn_32 ?_
        refine r_bipush (pc := 33) h dX0_rustUnworn_33 cb_9 ?_
        refine r_mmin (pc := 35) h dX0_rustUnworn_35 k_X0_93 ⟨Nat.le_of_ble_eq_true rfl, Nat.le_of_ble_eq_true rfl⟩ ?_
        refine r_top (y := nI (cap (d 2 i + 1) 9)) h (by rw [nI_add]; exact nI_cap (by omega) (by decide)) ?_
        refine r_iastore (pc := 38) h dX0_rustUnworn_38 sh_4 (hR.si hi) ?_
        obtain ⟨hR, hF⟩ := Rx1.wr hF (hR.u_ru hi _) (by decide)
        generalize gup g2 4 _ _ = g2 at hR hF ⊢
        refine r_iinc (pc := 39) (ls2 := [_, _]) h dX0_rustUnworn_39 rfl (ic1 _) rfl ?_
        refine r_goto (pc := 42) (tgt := 2) h dX0_rustUnworn_42 (by decide) ?_
        exact ih (i + 1) (rstF i d) _ (by rw [h7.1]; omega) (by rw [e]; exact hR) (rstF_gok ho i) hF hw
  refine r_iconst (pc := 0) h dX0_rustUnworn_0 ci_0 ?_
  refine r_istore_n (pc := 1) (ls2 := [_, _]) h dX0_rustUnworn_1 (Nat.le_of_ble_eq_true rfl) rfl ?_
  exact loop (c 7 0) 0 c g (by omega) hR ho frm.rf rfl
set_option maxRecDepth 100000 in
set_option maxHeartbeats 4000000 in
theorem c_X0_passDays_1 {g : gG} {c : gCt} (hR : Rx1 g c) (ho : gok c) {n : Nat} (hd : c 7 3 + n ≤ 2000) : gCv mX0_passDays [.ref 1, .int (nI n)] g (fun g1 => Rx1 g1 (daysC n c) ∧ frm 1 9 g g1) := by
  refine gCv_of (own := RX0) (ls0 := [.ref 1, .int (nI n), .null, .null]) ⟨rfl, pl_X0⟩ rfl (Nat.le_of_ble_eq_true rfl) (fun G (h : gR RX0 cX0_passDays 4 160 G) (t : gTv cX0_passDays _ G) => ?_)
  have loop : ∀ m k (v : Value) (d : gCt) (g2 : gG), k + m = n → Rx1 g2 d → gok d → d 7 3 + m ≤ 2000 → frm 1 9 g g2 → gfold (fun _ c => dayC c) m k d = daysC n c → G 2 [.ref 1, .int (nI n), .int (nI k), v] [] g2 := by
    intro m
    induction m with
    | zero =>
      intro k v d g2 hk hR ho hd2 hF hw
      refine r_iload_n (pc := 2) h dX0_passDays_2 rfl ?_
      refine r_iload_n (pc := 3) h dX0_passDays_3 rfl ?_
      refine r_icmp_ge (pc := 4) (tgt := 57) h dX0_passDays_4 (by decide) (fun c4 => ?_) (fun c4 => absurd (nI_le (by omega) (by omega)) c4)
      refine r_rv t (pc := 57) dX0_passDays_57 ?_
      exact ⟨by rw [← hw]; exact hR, hF⟩
    | succ m ih =>
      intro k v d g2 hk hR ho hd2 hF hw
      have hd7 := dayC_ok ho (by omega)
      have hn5 := hR.n5
      have inner : ∀ q i (b : gCt) (g2 : gG), i + q = b 7 1 → Rx1 g2 b → gok b → frm 1 9 g g2 → gfold (fun i c => live c i) q i b = gfold (fun i c => live c i) (d 7 1) 0 (cup d 7 3 (d 7 3 + 1)) → G 19 [.ref 1, .int (nI n), .int (nI k), .int (nI i)] [] g2 := by
        intro q
        induction q with
        | zero =>
          intro i b g2 hi hR ho2 hF hw2
          have hn5 := hR.n5
          have hb : b = gfold (fun i c => live c i) (d 7 1) 0 (cup d 7 3 (d 7 3 + 1)) := hw2
          have hdy := ho2.2.1
          refine r_iload_n (pc := 19) h dX0_passDays_19 rfl ?_
          refine r_aload_n (pc := 20) h dX0_passDays_20 rfl ?_
          refine r_getE (pc := 21) h dX0_passDays_21 f_X0_37 sh_1 rfl (hR.nc) ?_
          refine r_icmp_ge (pc := 24) (tgt := 38) h dX0_passDays_24 (by decide) (fun c24 => ?_) (fun c24 => absurd (nI_le (by omega) (by omega)) c24)
          refine r_aload_n (pc := 38) h dX0_passDays_38 rfl ?_
          refine r_getE (pc := 39) h dX0_passDays_39 f_X0_43 sh_1 rfl (hR.dy) ?_
          refine r_iconst (pc := 42) h dX0_passDays_42 ci_5 ?_
          refine r_irem (pc := 43) h dX0_passDays_43 (by decide) ?_
          refine r_top (y := nI (b 7 3 % 5)) h (pk_rem (by omega) (by decide) (by decide)) ?_
          refine r_if_ne (pc := 44) (tgt := 51) h dX0_passDays_44 (by decide) (fun c44 => ?_) (fun c44 => ?_)
          · have h5 : ¬ b 7 3 % 5 = 0 := fun q => c44 (by rw [q]; rfl)
            have e : dayC d = b := by unfold dayC; dsimp only; rw [← hb, if_neg h5]
            refine r_iinc (pc := 51) (ls2 := [_, _, _, _]) h dX0_passDays_51 rfl (ic1 _) rfl ?_
            refine r_goto (pc := 54) (tgt := 2) h dX0_passDays_54 (by decide) ?_
            exact ih (k + 1) _ (dayC d) _ (by omega) (by rw [e]; exact hR) hd7.2.2.2 (by omega) hF hw
          · have h5 : b 7 3 % 5 = 0 := (nI_eq0 (by omega)).mp c44
            have e : dayC d = rstU b := by unfold dayC; dsimp only; rw [← hb, if_pos h5]
            refine r_aload_n (pc := 47) h dX0_passDays_47 rfl ?_
            refine r_callVv (pc := 48) (As := []) h dX0_passDays_48 k_X0_87 gc_1 rfl ⟨Nat.le_of_ble_eq_true rfl, Nat.le_of_ble_eq_true rfl, Nat.le_of_ble_eq_true rfl⟩ (c_X0_rustUnworn_1 hR ho2) (fun g1 hq => ?_)
            obtain ⟨hR, hF1⟩ := hq
            have hF := hF.tr hF1
            refine r_iinc (pc := 51) (ls2 := [_, _, _, _]) h dX0_passDays_51 rfl (ic1 _) rfl ?_
            refine r_goto (pc := 54) (tgt := 2) h dX0_passDays_54 (by decide) ?_
            exact ih (k + 1) _ (dayC d) _ (by omega) (by rw [e]; exact hR) hd7.2.2.2 (by omega) hF hw
        | succ q ih2 =>
          intro i b g2 hin hR ho2 hF hw2
          have hn5 := hR.n5
          have hi : i < b 7 1 := by omega
          refine r_iload_n (pc := 19) h dX0_passDays_19 rfl ?_
          refine r_aload_n (pc := 20) h dX0_passDays_20 rfl ?_
          refine r_getE (pc := 21) h dX0_passDays_21 f_X0_37 sh_1 rfl (hR.nc) ?_
          refine r_icmp_ge (pc := 24) (tgt := 38) h dX0_passDays_24 (by decide) (fun c24 => absurd c24 (nI_ge hi (by omega))) (fun c24 => ?_)
          refine r_aload_n (pc := 27) h dX0_passDays_27 rfl ?_
          refine r_iload_n (pc := 28) h dX0_passDays_28 rfl ?_
          refine r_callVv (pc := 29) (As := [_]) h dX0_passDays_29 k_X0_83 gc_1 rfl ⟨Nat.le_of_ble_eq_true rfl, Nat.le_of_ble_eq_true rfl, Nat.le_of_ble_eq_true rfl⟩ (c_X0_liveDay_1 hR ho2 hi) (fun g1 hq => ?_)
          obtain ⟨hR, hF1⟩ := hq
          have hF := hF.tr hF1
          refine r_iinc (pc := 32) (ls2 := [_, _, _, _]) h dX0_passDays_32 rfl (ic1 _) rfl ?_
          refine r_goto (pc := 35) (tgt := 19) h dX0_passDays_35 (by decide) ?_
          exact ih2 (i + 1) (live b i) _ (by rw [(live_7 b i).2.1]; omega) hR (live_gok ho2 hi) hF hw2
      refine r_iload_n (pc := 2) h dX0_passDays_2 rfl ?_
      refine r_iload_n (pc := 3) h dX0_passDays_3 rfl ?_
      refine r_icmp_ge (pc := 4) (tgt := 57) h dX0_passDays_4 (by decide) (fun c4 => absurd c4 (nI_ge (show k < n by omega) (by omega))) (fun c4 => ?_)
      refine r_aload_n (pc := 7) h dX0_passDays_7 rfl ?_
      refine r_dup (pc := 8) h dX0_passDays_8 rfl ?_
      refine r_getE (pc := 9) h dX0_passDays_9 f_X0_43 sh_1 rfl (hR.dy) ?_
      refine r_iconst (pc := 12) h dX0_passDays_12 ci_1 ?_
      refine r_iadd (pc := 13) h dX0_passDays_13 ?_
      refine r_top (y := nI (d 7 3 + 1)) h (nI_add _ _) ?_
      refine r_putI (pc := 14) h dX0_passDays_14 fw_X0_43 sh_1 rfl rfl rfl ?_
      obtain ⟨hR, hF⟩ := Rx1.wr hF (hR.u_dy _) (by decide)
      generalize gup g2 1 _ _ = g2 at hR hF ⊢
      refine r_iconst (pc := 17) h dX0_passDays_17 ci_0 ?_
      refine r_istore_n (pc := 18) (ls2 := [_, _, _, _]) h dX0_passDays_18 (Nat.le_of_ble_eq_true rfl) rfl ?_
      exact inner (d 7 1) 0 _ _ (by simp [cup]) hR (gok_73 ho (by omega)) hF rfl
  refine r_iconst (pc := 0) h dX0_passDays_0 ci_0 ?_
  refine r_istore_n (pc := 1) (ls2 := [_, _, _, _]) h dX0_passDays_1 (Nat.le_of_ble_eq_true rfl) rfl ?_
  exact loop n 0 _ c g (by omega) hR ho hd frm.rf rfl
set_option maxRecDepth 100000 in
set_option maxHeartbeats 4000000 in
theorem c_X0_putIn_9 {g : gG} {c : gCt} (hR : Rx9 g c) (ho : gok c) {i s : Nat} (hi : i < c 7 1) (hs : s < c 7 0) : gCv mX0_putIn [.ref 9, .int (nI i), .int (nI s)] g (fun g1 => Rx9 g1 (put c i s) ∧ frm 9 17 g g1) := by
  refine gCv_of (own := RX0) (ls0 := [.ref 9, .int (nI i), .int (nI s), .null]) ⟨rfl, pl_X0⟩ rfl (Nat.le_of_ble_eq_true rfl) (fun G (h : gR RX0 cX0_putIn 1 40 G) (t : gTv cX0_putIn _ G) => ?_)
  have hn5 := hR.n5
  have hn6 := hR.n6
  suffices H : ∀ g2 : gG, Rx9 g2 c → frm 9 17 g g2 → G 0 [.ref 9, .int (nI i), .int (nI s), .null] [] g2 from H g hR frm.rf
  intro g2 hR hF
  refine r_aload_n (pc := 0) h dX0_putIn_0 rfl ?_
  refine r_iload_n (pc := 1) h dX0_putIn_1 rfl ?_
  refine r_callVi (pc := 2) (As := [_]) h dX0_putIn_2 k_X0_52 gc_9 rfl ⟨Nat.le_of_ble_eq_true rfl, Nat.le_of_ble_eq_true rfl, Nat.le_of_ble_eq_true rfl⟩ (c_X0_wearer_9 hR ho (by omega)) (fun x_2 g1 hq => ?_)
  obtain ⟨rfl, hg1⟩ := hq
  rw [hg1]
  refine r_istore_n (pc := 5) (ls2 := [_, _, _, _]) h dX0_putIn_5 (Nat.le_of_ble_eq_true rfl) rfl ?_
  refine r_iload_n (pc := 6) h dX0_putIn_6 rfl ?_
  refine r_bipush (pc := 7) h dX0_putIn_7 cb_m9 ?_
  refine r_icmp_eq (pc := 9) (tgt := 20) h dX0_putIn_9 (by decide) (fun c9 => ?_) (fun c9 => ?_)
  · have hw : wr c s = none := (wr_9 hn5).mp c9
    refine r_aload_n (pc := 20) h dX0_putIn_20 rfl ?_
    refine r_getR (pc := 21) h dX0_putIn_21 f_X0_30 sh_9 rfl ?_
    refine r_iload_n (pc := 24) h dX0_putIn_24 rfl ?_
    refine r_iload_n (pc := 25) h dX0_putIn_25 rfl ?_
    refine r_top (y := wz (s + 1)) h (wz_s s).symm ?_
    refine r_iastore (pc := 26) h dX0_putIn_26 sh_16 (hR.ci hi) ?_
    obtain ⟨hR, hF⟩ := Rx9.wr hF (hR.u_wo hi (s + 1)) (by decide)
    generalize gup g2 16 _ _ = g2 at hR hF ⊢
    refine r_rv t (pc := 27) dX0_putIn_27 ?_
    refine ⟨?_, hF⟩
    unfold put
    rw [hw]
    exact hR
  · obtain ⟨k, hw⟩ : ∃ k, wr c s = some k := Option.ne_none_iff_exists'.mp (fun q => c9 ((wr_9 hn5).mpr q))
    have hk : k < c 7 1 := (wr_lt hw).1
    rw [show oI (wr c s) = nI k by rw [hw]; rfl]
    refine r_aload_n (pc := 12) h dX0_putIn_12 rfl ?_
    refine r_getR (pc := 13) h dX0_putIn_13 f_X0_30 sh_9 rfl ?_
    refine r_iload_n (pc := 16) h dX0_putIn_16 rfl ?_
    refine r_bipush (pc := 17) h dX0_putIn_17 cb_m9 ?_
    refine r_top (y := wz 0) h rfl ?_
    refine r_iastore (pc := 19) h dX0_putIn_19 sh_16 (hR.ci hk) ?_
    obtain ⟨hR, hF⟩ := Rx9.wr hF (hR.u_wo hk 0) (by decide)
    generalize gup g2 16 _ _ = g2 at hR hF ⊢
    refine r_aload_n (pc := 20) h dX0_putIn_20 rfl ?_
    refine r_getR (pc := 21) h dX0_putIn_21 f_X0_30 sh_9 rfl ?_
    refine r_iload_n (pc := 24) h dX0_putIn_24 rfl ?_
    refine r_iload_n (pc := 25) h dX0_putIn_25 rfl ?_
    refine r_top (y := wz (s + 1)) h (wz_s s).symm ?_
    refine r_iastore (pc := 26) h dX0_putIn_26 sh_16 (hR.ci hi) ?_
    obtain ⟨hR, hF⟩ := Rx9.wr hF (hR.u_wo hi (s + 1)) (by decide)
    generalize gup g2 16 _ _ = g2 at hR hF ⊢
    refine r_rv t (pc := 27) dX0_putIn_27 ?_
    refine ⟨?_, hF⟩
    unfold put
    rw [hw]
    exact hR
set_option maxRecDepth 100000 in
set_option maxHeartbeats 4000000 in
theorem c_X0_liveDay_9 {g : gG} {c : gCt} (hR : Rx9 g c) (ho : gok c) {i : Nat} (hi : i < c 7 1) : gCv mX0_liveDay [.ref 9, .int (nI i)] g (fun g1 => Rx9 g1 (live c i) ∧ frm 9 17 g g1) := by
  refine gCv_of (own := RX0) (ls0 := [.ref 9, .int (nI i), .null]) ⟨rfl, pl_X0⟩ rfl (Nat.le_of_ble_eq_true rfl) (fun G (h : gR RX0 cX0_liveDay 3 120 G) (t : gTv cX0_liveDay _ G) => ?_)
  have hn5 := hR.n5
  have hn6 := hR.n6
  have hk4 := ho.2.2.2 i hi
  have hpd := ho.1
  have hdy := ho.2.1
  suffices H : ∀ g2 : gG, Rx9 g2 c → frm 9 17 g g2 → G 0 [.ref 9, .int (nI i), .null] [] g2 from H g hR frm.rf
  intro g2 hR hF
  refine r_aload_n (pc := 0) h dX0_liveDay_0 rfl ?_
  refine r_getR (pc := 1) h dX0_liveDay_1 f_X0_30 sh_9 rfl ?_
  refine r_iload_n (pc := 4) h dX0_liveDay_4 rfl ?_
  refine r_ialoadE (pc := 5) h dX0_liveDay_5 sh_16 (hR.wo hi) ?_
  refine r_istore_n (pc := 6) (ls2 := [_, _, _]) h dX0_liveDay_6 (Nat.le_of_ble_eq_true rfl) rfl ?_
  refine r_iload_n (pc := 7) h dX0_liveDay_7 rfl ?_
  refine r_bipush (pc := 8) h dX0_liveDay_8 cb_m9 ?_
  refine r_icmp_ne (pc := 10) (tgt := 32) h dX0_liveDay_10 (by decide) (fun c10 => ?_) (fun c10 => ?_)
  · obtain ⟨s, e6⟩ : ∃ s, c 6 i = s + 1 := ⟨c 6 i - 1, by have n0 : ¬ c 6 i = 0 := fun q => c10 ((wz_none (by omega)).mpr q); omega⟩
    have hs : s < c 7 0 := by omega
    have es : c 6 i - 1 = s := by omega
    have hk := ho.2.2.1 s hs
    have hpr := priN_le (c 0 s)
    have hch := chaN_le hk.2.2 (k := c 0 s) (c 7 3)
    have ec : covOf c i = cvr c s := by simp [covOf, e6]
    rw [show wz (c 6 i) = nI s by rw [e6]; exact wz_s s]
    refine r_aload_n (pc := 32) h dX0_liveDay_32 rfl ?_
    refine r_aload_n (pc := 33) h dX0_liveDay_33 rfl ?_
    refine r_getE (pc := 34) h dX0_liveDay_34 f_X0_40 sh_9 rfl (hR.pd) ?_
    refine r_gets (q := 100) (pc := 37) h dX0_liveDay_37 (by decide) (Or.inl ⟨rfl, rfl⟩) ?_
    refine r_aload_n (pc := 40) h dX0_liveDay_40 rfl ?_
    refine r_getR (pc := 41) h dX0_liveDay_41 f_X0_9 sh_9 rfl ?_
    refine r_iload_n (pc := 44) h dX0_liveDay_44 rfl ?_
    refine r_ialoadE (pc := 45) h dX0_liveDay_45 sh_10 (hR.kd hs) ?_
    refine r_tabldE (pc := 46) h dX0_liveDay_46 (by decide) (tabP hk.1) ?_
    refine r_iadd (pc := 47) h dX0_liveDay_47 ?_
    refine r_sipush (pc := 48) h dX0_liveDay_48 cs_9999 ?_
    refine r_mmin (pc := 51) h dX0_liveDay_51 k_X0_93 ⟨Nat.le_of_ble_eq_true rfl, Nat.le_of_ble_eq_true rfl⟩ ?_
    refine r_top (y := nI (cap (c 7 2 + priN (c 0 s)) 9999)) h (by rw [nI_add]; exact nI_cap (by omega) (by decide)) ?_
    refine r_putI (pc := 54) h dX0_liveDay_54 fw_X0_40 sh_9 rfl rfl rfl ?_
    obtain ⟨hR, hF⟩ := Rx9.wr hF (hR.u_pd _) (by decide)
    generalize gup g2 9 _ _ = g2 at hR hF ⊢
    refine r_aload_n (pc := 57) h dX0_liveDay_57 rfl ?_
    refine r_iload_n (pc := 58) h dX0_liveDay_58 rfl ?_
    refine r_callVi (pc := 59) (As := [_]) h dX0_liveDay_59 k_X0_96 gc_9 rfl ⟨Nat.le_of_ble_eq_true rfl, Nat.le_of_ble_eq_true rfl, Nat.le_of_ble_eq_true rfl⟩ (c_X0_can_9 hR (gok_72 ho (cap_le _ _)) hi) (fun x_59 g1 hq => ?_)
    obtain ⟨rfl, hg1⟩ := hq
    rw [hg1]
    refine r_if_eq (pc := 62) (tgt := 96) h dX0_liveDay_62 (by decide) (fun c62 => ?_) (fun c62 => ?_)
    · have hc : canB c i (covOf c i) = false := (bI_0 (canB c i (covOf c i))).mp c62
      rw [ec] at hc
      refine r_aload_n (pc := 96) h dX0_liveDay_96 rfl ?_
      refine r_getR (pc := 97) h dX0_liveDay_97 f_X0_21 sh_9 rfl ?_
      refine r_iload_n (pc := 100) h dX0_liveDay_100 rfl ?_
      refine r_aload_n (pc := 101) h dX0_liveDay_101 rfl ?_
      refine r_getR (pc := 102) h dX0_liveDay_102 f_X0_21 sh_9 rfl ?_
      refine r_iload_n (pc := 105) h dX0_liveDay_105 rfl ?_
      refine r_ialoadE (pc := 106) h dX0_liveDay_106 sh_13 (hR.fe hi) ?_
      refine r_iconst (pc := 107) h dX0_liveDay_107 ci_1 ?_
      refine r_iadd (pc := 108) h dX0_liveDay_108 ?_
      refine r_bipush (pc := 109) h dX0_liveDay_109 cb_20 ?_
      refine r_mmin (pc := 111) h dX0_liveDay_111 k_X0_93 ⟨Nat.le_of_ble_eq_true rfl, Nat.le_of_ble_eq_true rfl⟩ ?_
      refine r_top (y := nI (cap (c 3 i + 1) 20)) h (by rw [nI_add]; exact nI_cap (a := c 3 i + 1) (b := 20) (by omega) (by decide)) ?_
      refine r_iastore (pc := 114) h dX0_liveDay_114 sh_13 (hR.ci hi) ?_
      obtain ⟨hR, hF⟩ := Rx9.wr hF (hR.u_fe hi _) (by decide)
      generalize gup g2 13 _ _ = g2 at hR hF ⊢
      refine r_aload_n (pc := 115) h dX0_liveDay_115 rfl ?_
      refine r_getR (pc := 116) h dX0_liveDay_116 f_X0_24 sh_9 rfl ?_
      refine r_iload_n (pc := 119) h dX0_liveDay_119 rfl ?_
      refine r_aload_n (pc := 120) h dX0_liveDay_120 rfl ?_
      refine r_getR (pc := 121) h dX0_liveDay_121 f_X0_24 sh_9 rfl ?_
      refine r_iload_n (pc := 124) h dX0_liveDay_124 rfl ?_
      refine r_ialoadE (pc := 125) h dX0_liveDay_125 sh_14 (hR.so hi) ?_
      refine r_aload_n (pc := 126) h dX0_liveDay_126 rfl ?_
      refine r_iload_n (pc := 127) h dX0_liveDay_127 rfl ?_
      refine r_aload_n (pc := 128) h dX0_liveDay_128 rfl ?_
      refine r_getE (pc := 129) h dX0_liveDay_129 f_X0_43 sh_9 rfl (hR.dy) ?_
      refine r_callVi (pc := 132) (As := [_, _]) h dX0_liveDay_132 k_X0_100 gc_9 rfl ⟨Nat.le_of_ble_eq_true rfl, Nat.le_of_ble_eq_true rfl, Nat.le_of_ble_eq_true rfl⟩ (c_X0_chafe_9 hR (by first | exact gok_3 (gok_5 (gok_72 ho (cap_le _ _)) h56) (by omega) | exact gok_3 (gok_72 ho (cap_le _ _)) (cap_le _ _)) hs (Nat.lt_of_le_of_lt hdy (by decide))) (fun x_132 g1 hq => ?_)
      obtain ⟨rfl, hg1⟩ := hq
      rw [hg1]
      refine r_iadd (pc := 135) h dX0_liveDay_135 ?_
      refine r_bipush (pc := 136) h dX0_liveDay_136 cb_20 ?_
      refine r_mmin (pc := 138) h dX0_liveDay_138 k_X0_93 ⟨Nat.le_of_ble_eq_true rfl, Nat.le_of_ble_eq_true rfl⟩ ?_
      have hS20 : liveS c i ≤ 20 := cap_le _ _
      refine r_top (y := nI (liveS c i)) h (by unfold liveS; rw [es, nI_add]; exact nI_cap (a := c 4 i + chaN (c 0 s) (c 2 s) (c 7 3)) (b := 20) (by omega) (by decide)) ?_
      refine r_iastore (pc := 141) h dX0_liveDay_141 sh_14 (hR.ci hi) ?_
      obtain ⟨hR, hF⟩ := Rx9.wr hF (hR.u_so hi _) (by decide)
      generalize gup g2 14 _ _ = g2 at hR hF ⊢
      refine r_aload_n (pc := 142) h dX0_liveDay_142 rfl ?_
      refine r_getR (pc := 143) h dX0_liveDay_143 f_X0_24 sh_9 rfl ?_
      refine r_iload_n (pc := 146) h dX0_liveDay_146 rfl ?_
      refine r_ialoadE (pc := 147) h dX0_liveDay_147 sh_14 (hR.so hi) ?_
      refine r_top (y := nI (liveS c i)) h (by rw [cup_same]) ?_
      refine r_bipush (pc := 148) h dX0_liveDay_148 cb_15 ?_
      refine r_icmp_lt (pc := 150) (tgt := 161) h dX0_liveDay_150 (by decide) (fun c150 => ?_) (fun c150 => ?_)
      · have h15 : ¬ 15 ≤ liveS c i := Nat.not_le_of_lt ((nI_ltI (Nat.lt_of_le_of_lt hS20 (by decide)) (by decide)).mp c150)
        refine r_rv t (pc := 161) dX0_liveDay_161 ?_
        refine ⟨?_, hF⟩
        have h0 : ¬ c 6 i = 0 := by omega
        unfold live liveQ liveP
        rw [if_neg h0, es]
        first
          | (rw [if_pos h15, if_pos hc]; exact hR)
          | (rw [if_neg h15, if_pos hc]; exact hR)
          | (rw [if_pos h15, if_neg (by rw [hc]; decide)]; exact hR)
          | (rw [if_neg h15, if_neg (by rw [hc]; decide)]; exact hR)
      · have h15 : 15 ≤ liveS c i := Nat.le_of_not_lt fun q => c150 (nI_lt q (by decide))
        refine r_aload_n (pc := 153) h dX0_liveDay_153 rfl ?_
        refine r_getR (pc := 154) h dX0_liveDay_154 f_X0_30 sh_9 rfl ?_
        refine r_iload_n (pc := 157) h dX0_liveDay_157 rfl ?_
        refine r_bipush (pc := 158) h dX0_liveDay_158 cb_m9 ?_
        refine r_top (y := wz 0) h rfl ?_
        refine r_iastore (pc := 160) h dX0_liveDay_160 sh_16 (hR.ci hi) ?_
        obtain ⟨hR, hF⟩ := Rx9.wr hF (hR.u_wo hi 0) (by decide)
        generalize gup g2 16 _ _ = g2 at hR hF ⊢
        refine r_rv t (pc := 161) dX0_liveDay_161 ?_
        refine ⟨?_, hF⟩
        have h0 : ¬ c 6 i = 0 := by omega
        unfold live liveQ liveP
        rw [if_neg h0, es]
        first
          | (rw [if_pos h15, if_pos hc]; exact hR)
          | (rw [if_neg h15, if_pos hc]; exact hR)
          | (rw [if_pos h15, if_neg (by rw [hc]; decide)]; exact hR)
          | (rw [if_neg h15, if_neg (by rw [hc]; decide)]; exact hR)
    · have hc : canB c i (covOf c i) = true := by simpa using mt (bI_0 (canB c i (covOf c i))).mpr c62
      rw [ec] at hc
      have h56 : c 5 i + 1 ≤ 6 := canB_6 hc
      refine r_aload_n (pc := 65) h dX0_liveDay_65 rfl ?_
      refine r_getR (pc := 66) h dX0_liveDay_66 f_X0_27 sh_9 rfl ?_
      refine r_iload_n (pc := 69) h dX0_liveDay_69 rfl ?_
      refine r_dup2 (pc := 70) h dX0_liveDay_70 rfl rfl ?_
      refine r_ialoadE (pc := 71) h dX0_liveDay_71 sh_15 (hR.sa hi) ?_
      refine r_iconst (pc := 72) h dX0_liveDay_72 ci_1 ?_
      refine r_iadd (pc := 73) h dX0_liveDay_73 ?_
      refine r_top (y := nI (c 5 i + 1)) h (nI_add _ _) ?_
      refine r_iastore (pc := 74) h dX0_liveDay_74 sh_15 (hR.ci hi) ?_
      obtain ⟨hR, hF⟩ := Rx9.wr hF (hR.u_sa hi _) (by decide)
      generalize gup g2 15 _ _ = g2 at hR hF ⊢
      refine r_aload_n (pc := 75) h dX0_liveDay_75 rfl ?_
      refine r_getR (pc := 76) h dX0_liveDay_76 f_X0_21 sh_9 rfl ?_
      refine r_iload_n (pc := 79) h dX0_liveDay_79 rfl ?_
      refine r_aload_n (pc := 80) h dX0_liveDay_80 rfl ?_
      refine r_getR (pc := 81) h dX0_liveDay_81 f_X0_21 sh_9 rfl ?_
      refine r_iload_n (pc := 84) h dX0_liveDay_84 rfl ?_
      refine r_ialoadE (pc := 85) h dX0_liveDay_85 sh_13 (hR.fe hi) ?_
      refine r_iconst (pc := 86) h dX0_liveDay_86 ci_1 ?_
      refine r_isub (pc := 87) h dX0_liveDay_87 ?_
      refine r_iconst (pc := 88) h dX0_liveDay_88 ci_0 ?_
      refine r_mmax (pc := 89) h dX0_liveDay_89 k_X0_78 ⟨Nat.le_of_ble_eq_true rfl, Nat.le_of_ble_eq_true rfl⟩ ?_
      refine r_top (y := nI (c 3 i - 1)) h (nI_low (a := c 3 i) (b := 1) (by omega) (by decide)) ?_
      refine r_iastore (pc := 92) h dX0_liveDay_92 sh_13 (hR.ci hi) ?_
      obtain ⟨hR, hF⟩ := Rx9.wr hF (hR.u_fe hi _) (by decide)
      generalize gup g2 13 _ _ = g2 at hR hF ⊢
      refine r_goto (pc := 93) (tgt := 115) h dX0_liveDay_93 (by decide) ?_
      refine r_aload_n (pc := 115) h dX0_liveDay_115 rfl ?_
      refine r_getR (pc := 116) h dX0_liveDay_116 f_X0_24 sh_9 rfl ?_
      refine r_iload_n (pc := 119) h dX0_liveDay_119 rfl ?_
      refine r_aload_n (pc := 120) h dX0_liveDay_120 rfl ?_
      refine r_getR (pc := 121) h dX0_liveDay_121 f_X0_24 sh_9 rfl ?_
      refine r_iload_n (pc := 124) h dX0_liveDay_124 rfl ?_
      refine r_ialoadE (pc := 125) h dX0_liveDay_125 sh_14 (hR.so hi) ?_
      refine r_aload_n (pc := 126) h dX0_liveDay_126 rfl ?_
      refine r_iload_n (pc := 127) h dX0_liveDay_127 rfl ?_
      refine r_aload_n (pc := 128) h dX0_liveDay_128 rfl ?_
      refine r_getE (pc := 129) h dX0_liveDay_129 f_X0_43 sh_9 rfl (hR.dy) ?_
      refine r_callVi (pc := 132) (As := [_, _]) h dX0_liveDay_132 k_X0_100 gc_9 rfl ⟨Nat.le_of_ble_eq_true rfl, Nat.le_of_ble_eq_true rfl, Nat.le_of_ble_eq_true rfl⟩ (c_X0_chafe_9 hR (by first | exact gok_3 (gok_5 (gok_72 ho (cap_le _ _)) h56) (by omega) | exact gok_3 (gok_72 ho (cap_le _ _)) (cap_le _ _)) hs (Nat.lt_of_le_of_lt hdy (by decide))) (fun x_132 g1 hq => ?_)
      obtain ⟨rfl, hg1⟩ := hq
      rw [hg1]
      refine r_iadd (pc := 135) h dX0_liveDay_135 ?_
      refine r_bipush (pc := 136) h dX0_liveDay_136 cb_20 ?_
      refine r_mmin (pc := 138) h dX0_liveDay_138 k_X0_93 ⟨Nat.le_of_ble_eq_true rfl, Nat.le_of_ble_eq_true rfl⟩ ?_
      have hS20 : liveS c i ≤ 20 := cap_le _ _
      refine r_top (y := nI (liveS c i)) h (by unfold liveS; rw [es, nI_add]; exact nI_cap (a := c 4 i + chaN (c 0 s) (c 2 s) (c 7 3)) (b := 20) (by omega) (by decide)) ?_
      refine r_iastore (pc := 141) h dX0_liveDay_141 sh_14 (hR.ci hi) ?_
      obtain ⟨hR, hF⟩ := Rx9.wr hF (hR.u_so hi _) (by decide)
      generalize gup g2 14 _ _ = g2 at hR hF ⊢
      refine r_aload_n (pc := 142) h dX0_liveDay_142 rfl ?_
      refine r_getR (pc := 143) h dX0_liveDay_143 f_X0_24 sh_9 rfl ?_
      refine r_iload_n (pc := 146) h dX0_liveDay_146 rfl ?_
      refine r_ialoadE (pc := 147) h dX0_liveDay_147 sh_14 (hR.so hi) ?_
      refine r_top (y := nI (liveS c i)) h (by rw [cup_same]) ?_
      refine r_bipush (pc := 148) h dX0_liveDay_148 cb_15 ?_
      refine r_icmp_lt (pc := 150) (tgt := 161) h dX0_liveDay_150 (by decide) (fun c150 => ?_) (fun c150 => ?_)
      · have h15 : ¬ 15 ≤ liveS c i := Nat.not_le_of_lt ((nI_ltI (Nat.lt_of_le_of_lt hS20 (by decide)) (by decide)).mp c150)
        refine r_rv t (pc := 161) dX0_liveDay_161 ?_
        refine ⟨?_, hF⟩
        have h0 : ¬ c 6 i = 0 := by omega
        unfold live liveQ liveP
        rw [if_neg h0, es]
        first
          | (rw [if_pos h15, if_pos hc]; exact hR)
          | (rw [if_neg h15, if_pos hc]; exact hR)
          | (rw [if_pos h15, if_neg (by rw [hc]; decide)]; exact hR)
          | (rw [if_neg h15, if_neg (by rw [hc]; decide)]; exact hR)
      · have h15 : 15 ≤ liveS c i := Nat.le_of_not_lt fun q => c150 (nI_lt q (by decide))
        refine r_aload_n (pc := 153) h dX0_liveDay_153 rfl ?_
        refine r_getR (pc := 154) h dX0_liveDay_154 f_X0_30 sh_9 rfl ?_
        refine r_iload_n (pc := 157) h dX0_liveDay_157 rfl ?_
        refine r_bipush (pc := 158) h dX0_liveDay_158 cb_m9 ?_
        refine r_top (y := wz 0) h rfl ?_
        refine r_iastore (pc := 160) h dX0_liveDay_160 sh_16 (hR.ci hi) ?_
        obtain ⟨hR, hF⟩ := Rx9.wr hF (hR.u_wo hi 0) (by decide)
        generalize gup g2 16 _ _ = g2 at hR hF ⊢
        refine r_rv t (pc := 161) dX0_liveDay_161 ?_
        refine ⟨?_, hF⟩
        have h0 : ¬ c 6 i = 0 := by omega
        unfold live liveQ liveP
        rw [if_neg h0, es]
        first
          | (rw [if_pos h15, if_pos hc]; exact hR)
          | (rw [if_neg h15, if_pos hc]; exact hR)
          | (rw [if_pos h15, if_neg (by rw [hc]; decide)]; exact hR)
          | (rw [if_neg h15, if_neg (by rw [hc]; decide)]; exact hR)
  · have e6 : c 6 i = 0 := (wz_none (by omega)).mp c10
    refine r_aload_n (pc := 13) h dX0_liveDay_13 rfl ?_
    refine r_getR (pc := 14) h dX0_liveDay_14 f_X0_24 sh_9 rfl ?_
    refine r_iload_n (pc := 17) h dX0_liveDay_17 rfl ?_
    refine r_aload_n (pc := 18) h dX0_liveDay_18 rfl ?_
    refine r_getR (pc := 19) h dX0_liveDay_19 f_X0_24 sh_9 rfl ?_
    refine r_iload_n (pc := 22) h dX0_liveDay_22 rfl ?_
    refine r_ialoadE (pc := 23) h dX0_liveDay_23 sh_14 (hR.so hi) ?_
    refine r_iconst (pc := 24) h dX0_liveDay_24 ci_1 ?_
    refine r_isub (pc := 25) h dX0_liveDay_25 ?_
    refine r_iconst (pc := 26) h dX0_liveDay_26 ci_0 ?_
    refine r_mmax (pc := 27) h dX0_liveDay_27 k_X0_78 ⟨Nat.le_of_ble_eq_true rfl, Nat.le_of_ble_eq_true rfl⟩ ?_
    refine r_top (y := nI (c 4 i - 1)) h (nI_low (by omega) (by decide)) ?_
    refine r_iastore (pc := 30) h dX0_liveDay_30 sh_14 (hR.ci hi) ?_
    obtain ⟨hR, hF⟩ := Rx9.wr hF (hR.u_so hi _) (by decide)
    generalize gup g2 14 _ _ = g2 at hR hF ⊢
    refine r_rv t (pc := 31) dX0_liveDay_31 ?_
    exact ⟨by rw [live, if_pos e6]; exact hR, hF⟩
set_option maxRecDepth 100000 in
set_option maxHeartbeats 4000000 in
theorem c_X0_rustUnworn_9 {g : gG} {c : gCt} (hR : Rx9 g c) (ho : gok c) : gCv mX0_rustUnworn [.ref 9] g (fun g1 => Rx9 g1 (rstU c) ∧ frm 9 17 g g1) := by
  refine gCv_of (own := RX0) (ls0 := [.ref 9, .null]) ⟨rfl, pl_X0⟩ rfl (Nat.le_of_ble_eq_true rfl) (fun G (h : gR RX0 cX0_rustUnworn 1 40 G) (t : gTv cX0_rustUnworn _ G) => ?_)
  have loop : ∀ n i (d : gCt) (g2 : gG), i + n = d 7 0 → Rx9 g2 d → gok d → frm 9 17 g g2 → gfold rstF n i d = rstU c → G 2 [.ref 9, .int (nI i)] [] g2 := by
    intro n
    induction n with
    | zero =>
      intro i d g2 hi hR ho hF hw
      have hn6 := hR.n6
      refine r_iload_n (pc := 2) h dX0_rustUnworn_2 rfl ?_
      refine r_aload_n (pc := 3) h dX0_rustUnworn_3 rfl ?_
      refine r_getE (pc := 4) h dX0_rustUnworn_4 f_X0_33 sh_9 rfl (hR.ns) ?_
      refine r_icmp_ge (pc := 7) (tgt := 45) h dX0_rustUnworn_7 (by decide) (fun c7 => ?_) (fun c7 => absurd (nI_le (by omega) (by omega)) c7)
      refine r_rv t (pc := 45) dX0_rustUnworn_45 ?_
      exact ⟨by rw [← hw]; exact hR, hF⟩
    | succ n ih =>
      intro i d g2 hin hR ho hF hw
      have hn6 := hR.n6
      have hn5 := hR.n5
      have hi : i < d 7 0 := by omega
      have hk := ho.2.2.1 i hi
      have h7 := rstF_7 d i
      refine r_iload_n (pc := 2) h dX0_rustUnworn_2 rfl ?_
      refine r_aload_n (pc := 3) h dX0_rustUnworn_3 rfl ?_
      refine r_getE (pc := 4) h dX0_rustUnworn_4 f_X0_33 sh_9 rfl (hR.ns) ?_
      refine r_icmp_ge (pc := 7) (tgt := 45) h dX0_rustUnworn_7 (by decide) (fun c7 => absurd c7 (nI_ge hi (by omega))) (fun c7 => ?_)
      refine r_aload_n (pc := 10) h dX0_rustUnworn_10 rfl ?_
      refine r_iload_n (pc := 11) h dX0_rustUnworn_11 rfl ?_
      refine r_callVi (pc := 12) (As := [_]) h dX0_rustUnworn_12 k_X0_52 gc_9 rfl ⟨Nat.le_of_ble_eq_true rfl, Nat.le_of_ble_eq_true rfl, Nat.le_of_ble_eq_true rfl⟩ (c_X0_wearer_9 hR ho (by omega)) (fun x_12 g1 hq => ?_)
      obtain ⟨rfl, hg1⟩ := hq
      rw [hg1]
      refine r_bipush (pc := 15) h dX0_rustUnworn_15 cb_m9 ?_
      refine r_icmp_ne (pc := 17) (tgt := 39) h dX0_rustUnworn_17 (by decide) (fun c17 => ?_) (fun c17 => ?_)
      · have e : rstF i d = d := by unfold rstF; exact if_neg (fun q => c17 ((wr_9 hn5).mpr q))
        refine r_iinc (pc := 39) (ls2 := [_, _]) h dX0_rustUnworn_39 rfl (ic1 _) rfl ?_
        refine r_goto (pc := 42) (tgt := 2) h dX0_rustUnworn_42 (by decide) ?_
        exact ih (i + 1) (rstF i d) _ (by rw [h7.1]; omega) (by rw [e]; exact hR) (rstF_gok ho i) hF hw
      · have e : rstF i d = cup d 2 i (cap (d 2 i + 1) 9) := by unfold rstF; exact if_pos ((wr_9 hn5).mp c17)
        refine r_aload_n (pc := 20) h dX0_rustUnworn_20 rfl ?_
        refine r_getR (pc := 21) h dX0_rustUnworn_21 f_X0_18 sh_9 rfl ?_
        refine r_iload_n (pc := 24) h dX0_rustUnworn_24 rfl ?_
        refine r_aload_n (pc := 25) h dX0_rustUnworn_25 rfl ?_
        refine r_getR (pc := 26) h dX0_rustUnworn_26 f_X0_18 sh_9 rfl ?_
        refine r_iload_n (pc := 29) h dX0_rustUnworn_29 rfl ?_
        refine r_ialoadE (pc := 30) h dX0_rustUnworn_30 sh_12 (hR.ru hi) ?_
        refine r_iconst (pc := 31) h dX0_rustUnworn_31 ci_1 ?_
        refine r_iadd (pc := 32) h dX0_rustUnworn_32 ?_
        refine r_bipush (pc := 33) h dX0_rustUnworn_33 cb_9 ?_
        refine r_mmin (pc := 35) h dX0_rustUnworn_35 k_X0_93 ⟨Nat.le_of_ble_eq_true rfl, Nat.le_of_ble_eq_true rfl⟩ ?_
        refine r_top (y := nI (cap (d 2 i + 1) 9)) h (by rw [nI_add]; exact nI_cap (by omega) (by decide)) ?_
        refine r_iastore (pc := 38) h dX0_rustUnworn_38 sh_12 (hR.si hi) ?_
        obtain ⟨hR, hF⟩ := Rx9.wr hF (hR.u_ru hi _) (by decide)
        generalize gup g2 12 _ _ = g2 at hR hF ⊢
        refine r_iinc (pc := 39) (ls2 := [_, _]) h dX0_rustUnworn_39 rfl (ic1 _) rfl ?_
        refine r_goto (pc := 42) (tgt := 2) h dX0_rustUnworn_42 (by decide) ?_
        exact ih (i + 1) (rstF i d) _ (by rw [h7.1]; omega) (by rw [e]; exact hR) (rstF_gok ho i) hF hw
  refine r_iconst (pc := 0) h dX0_rustUnworn_0 ci_0 ?_
  refine r_istore_n (pc := 1) (ls2 := [_, _]) h dX0_rustUnworn_1 (Nat.le_of_ble_eq_true rfl) rfl ?_
  exact loop (c 7 0) 0 c g (by omega) hR ho frm.rf rfl
set_option maxRecDepth 100000 in
set_option maxHeartbeats 4000000 in
theorem c_X0_passDays_9 {g : gG} {c : gCt} (hR : Rx9 g c) (ho : gok c) {n : Nat} (hd : c 7 3 + n ≤ 2000) : gCv mX0_passDays [.ref 9, .int (nI n)] g (fun g1 => Rx9 g1 (daysC n c) ∧ frm 9 17 g g1) := by
  refine gCv_of (own := RX0) (ls0 := [.ref 9, .int (nI n), .null, .null]) ⟨rfl, pl_X0⟩ rfl (Nat.le_of_ble_eq_true rfl) (fun G (h : gR RX0 cX0_passDays 4 160 G) (t : gTv cX0_passDays _ G) => ?_)
  have loop : ∀ m k (v : Value) (d : gCt) (g2 : gG), k + m = n → Rx9 g2 d → gok d → d 7 3 + m ≤ 2000 → frm 9 17 g g2 → gfold (fun _ c => dayC c) m k d = daysC n c → G 2 [.ref 9, .int (nI n), .int (nI k), v] [] g2 := by
    intro m
    induction m with
    | zero =>
      intro k v d g2 hk hR ho hd2 hF hw
      refine r_iload_n (pc := 2) h dX0_passDays_2 rfl ?_
      refine r_iload_n (pc := 3) h dX0_passDays_3 rfl ?_
      refine r_icmp_ge (pc := 4) (tgt := 57) h dX0_passDays_4 (by decide) (fun c4 => ?_) (fun c4 => absurd (nI_le (by omega) (by omega)) c4)
      refine r_rv t (pc := 57) dX0_passDays_57 ?_
      exact ⟨by rw [← hw]; exact hR, hF⟩
    | succ m ih =>
      intro k v d g2 hk hR ho hd2 hF hw
      have hd7 := dayC_ok ho (by omega)
      have hn5 := hR.n5
      have inner : ∀ q i (b : gCt) (g2 : gG), i + q = b 7 1 → Rx9 g2 b → gok b → frm 9 17 g g2 → gfold (fun i c => live c i) q i b = gfold (fun i c => live c i) (d 7 1) 0 (cup d 7 3 (d 7 3 + 1)) → G 19 [.ref 9, .int (nI n), .int (nI k), .int (nI i)] [] g2 := by
        intro q
        induction q with
        | zero =>
          intro i b g2 hi hR ho2 hF hw2
          have hn5 := hR.n5
          have hb : b = gfold (fun i c => live c i) (d 7 1) 0 (cup d 7 3 (d 7 3 + 1)) := hw2
          have hdy := ho2.2.1
          refine r_iload_n (pc := 19) h dX0_passDays_19 rfl ?_
          refine r_aload_n (pc := 20) h dX0_passDays_20 rfl ?_
          refine r_getE (pc := 21) h dX0_passDays_21 f_X0_37 sh_9 rfl (hR.nc) ?_
          refine r_icmp_ge (pc := 24) (tgt := 38) h dX0_passDays_24 (by decide) (fun c24 => ?_) (fun c24 => absurd (nI_le (by omega) (by omega)) c24)
          refine r_aload_n (pc := 38) h dX0_passDays_38 rfl ?_
          refine r_getE (pc := 39) h dX0_passDays_39 f_X0_43 sh_9 rfl (hR.dy) ?_
          refine r_iconst (pc := 42) h dX0_passDays_42 ci_5 ?_
          refine r_irem (pc := 43) h dX0_passDays_43 (by decide) ?_
          refine r_top (y := nI (b 7 3 % 5)) h (pk_rem (by omega) (by decide) (by decide)) ?_
          refine r_if_ne (pc := 44) (tgt := 51) h dX0_passDays_44 (by decide) (fun c44 => ?_) (fun c44 => ?_)
          · have h5 : ¬ b 7 3 % 5 = 0 := fun q => c44 (by rw [q]; rfl)
            have e : dayC d = b := by unfold dayC; dsimp only; rw [← hb, if_neg h5]
            refine r_iinc (pc := 51) (ls2 := [_, _, _, _]) h dX0_passDays_51 rfl (ic1 _) rfl ?_
            refine r_goto (pc := 54) (tgt := 2) h dX0_passDays_54 (by decide) ?_
            exact ih (k + 1) _ (dayC d) _ (by omega) (by rw [e]; exact hR) hd7.2.2.2 (by omega) hF hw
          · have h5 : b 7 3 % 5 = 0 := (nI_eq0 (by omega)).mp c44
            have e : dayC d = rstU b := by unfold dayC; dsimp only; rw [← hb, if_pos h5]
            refine r_aload_n (pc := 47) h dX0_passDays_47 rfl ?_
            refine r_callVv (pc := 48) (As := []) h dX0_passDays_48 k_X0_87 gc_9 rfl ⟨Nat.le_of_ble_eq_true rfl, Nat.le_of_ble_eq_true rfl, Nat.le_of_ble_eq_true rfl⟩ (c_X0_rustUnworn_9 hR ho2) (fun g1 hq => ?_)
            obtain ⟨hR, hF1⟩ := hq
            have hF := hF.tr hF1
            refine r_iinc (pc := 51) (ls2 := [_, _, _, _]) h dX0_passDays_51 rfl (ic1 _) rfl ?_
            refine r_goto (pc := 54) (tgt := 2) h dX0_passDays_54 (by decide) ?_
            exact ih (k + 1) _ (dayC d) _ (by omega) (by rw [e]; exact hR) hd7.2.2.2 (by omega) hF hw
        | succ q ih2 =>
          intro i b g2 hin hR ho2 hF hw2
          have hn5 := hR.n5
          have hi : i < b 7 1 := by omega
          refine r_iload_n (pc := 19) h dX0_passDays_19 rfl ?_
          refine r_aload_n (pc := 20) h dX0_passDays_20 rfl ?_
          refine r_getE (pc := 21) h dX0_passDays_21 f_X0_37 sh_9 rfl (hR.nc) ?_
          refine r_icmp_ge (pc := 24) (tgt := 38) h dX0_passDays_24 (by decide) (fun c24 => absurd c24 (nI_ge hi (by omega))) (fun c24 => ?_)
          refine r_aload_n (pc := 27) h dX0_passDays_27 rfl ?_
          refine r_iload_n (pc := 28) h dX0_passDays_28 rfl ?_
          refine r_callVv (pc := 29) (As := [_]) h dX0_passDays_29 k_X0_83 gc_9 rfl ⟨Nat.le_of_ble_eq_true rfl, Nat.le_of_ble_eq_true rfl, Nat.le_of_ble_eq_true rfl⟩ (c_X0_liveDay_9 hR ho2 hi) (fun g1 hq => ?_)
          obtain ⟨hR, hF1⟩ := hq
          have hF := hF.tr hF1
          refine r_iinc (pc := 32) (ls2 := [_, _, _, _]) h dX0_passDays_32 rfl (ic1 _) rfl ?_
          refine r_goto (pc := 35) (tgt := 19) h dX0_passDays_35 (by decide) ?_
          exact ih2 (i + 1) (live b i) _ (by rw [(live_7 b i).2.1]; omega) hR (live_gok ho2 hi) hF hw2
      refine r_iload_n (pc := 2) h dX0_passDays_2 rfl ?_
      refine r_iload_n (pc := 3) h dX0_passDays_3 rfl ?_
      refine r_icmp_ge (pc := 4) (tgt := 57) h dX0_passDays_4 (by decide) (fun c4 => absurd c4 (nI_ge (show k < n by omega) (by omega))) (fun c4 => ?_)
      refine r_aload_n (pc := 7) h dX0_passDays_7 rfl ?_
      refine r_dup (pc := 8) h dX0_passDays_8 rfl ?_
      refine r_getE (pc := 9) h dX0_passDays_9 f_X0_43 sh_9 rfl (hR.dy) ?_
      refine r_iconst (pc := 12) h dX0_passDays_12 ci_1 ?_
      refine r_iadd (pc := 13) h dX0_passDays_13 ?_
      refine r_top (y := nI (d 7 3 + 1)) h (nI_add _ _) ?_
      refine r_putI (pc := 14) h dX0_passDays_14 fw_X0_43 sh_9 rfl rfl rfl ?_
      obtain ⟨hR, hF⟩ := Rx9.wr hF (hR.u_dy _) (by decide)
      generalize gup g2 9 _ _ = g2 at hR hF ⊢
      refine r_iconst (pc := 17) h dX0_passDays_17 ci_0 ?_
      refine r_istore_n (pc := 18) (ls2 := [_, _, _, _]) h dX0_passDays_18 (Nat.le_of_ble_eq_true rfl) rfl ?_
      exact inner (d 7 1) 0 _ _ (by simp [cup]) hR (gok_73 ho (by omega)) hF rfl
  refine r_iconst (pc := 0) h dX0_passDays_0 ci_0 ?_
  refine r_istore_n (pc := 1) (ls2 := [_, _, _, _]) h dX0_passDays_1 (Nat.le_of_ble_eq_true rfl) rfl ?_
  exact loop n 0 _ c g (by omega) hR ho hd frm.rf rfl
set_option maxRecDepth 100000 in
set_option maxHeartbeats 4000000 in
theorem c_X0_passDayOf_9 {g : gG} {c : gCt} (hR : Rx9 g c) (ho : gok c) {i : Nat} (hi : i < c 7 1) (hd : c 7 3 + 1 ≤ 2000) : gCv mX0_passDayOf [.ref 9, .int (nI i)] g (fun g1 => Rx9 g1 (live (cup c 7 3 (c 7 3 + 1)) i) ∧ frm 9 17 g g1) := by
  refine gCv_of (own := RX0) (ls0 := [.ref 9, .int (nI i)]) ⟨rfl, pl_X0⟩ rfl (Nat.le_of_ble_eq_true rfl) (fun G (h : gR RX0 cX0_passDayOf 4 160 G) (t : gTv cX0_passDayOf _ G) => ?_)
  suffices H : ∀ g2 : gG, Rx9 g2 c → frm 9 17 g g2 → G 0 [.ref 9, .int (nI i)] [] g2 from H g hR frm.rf
  intro g2 hR hF
  refine r_aload_n (pc := 0) h dX0_passDayOf_0 rfl ?_
  refine r_dup (pc := 1) h dX0_passDayOf_1 rfl ?_
  refine r_getE (pc := 2) h dX0_passDayOf_2 f_X0_43 sh_9 rfl (hR.dy) ?_
  refine r_iconst (pc := 5) h dX0_passDayOf_5 ci_1 ?_
  refine r_iadd (pc := 6) h dX0_passDayOf_6 ?_
  refine r_top (y := nI (c 7 3 + 1)) h (nI_add _ _) ?_
  refine r_putI (pc := 7) h dX0_passDayOf_7 fw_X0_43 sh_9 rfl rfl rfl ?_
  obtain ⟨hR, hF⟩ := Rx9.wr hF (hR.u_dy _) (by decide)
  generalize gup g2 9 _ _ = g2 at hR hF ⊢
  refine r_aload_n (pc := 10) h dX0_passDayOf_10 rfl ?_
  refine r_iload_n (pc := 11) h dX0_passDayOf_11 rfl ?_
  refine r_callVv (pc := 12) (As := [_]) h dX0_passDayOf_12 k_X0_83 gc_9 rfl ⟨Nat.le_of_ble_eq_true rfl, Nat.le_of_ble_eq_true rfl, Nat.le_of_ble_eq_true rfl⟩ (c_X0_liveDay_9 hR (gok_73 ho hd) hi) (fun g1 hq => ?_)
  obtain ⟨hR, hF1⟩ := hq
  have hF := hF.tr hF1
  refine r_rv t (pc := 15) dX0_passDayOf_15 ?_
  exact ⟨hR, hF⟩
