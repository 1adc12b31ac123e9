section TX
variable {g : gG} {c ck : gCt} {hk : Bool} {lt : Nat → Nat} {nl : Nat} {rv : Nat → Nat} {nr : Nat} {rf : Nat → Int32}
set_option maxRecDepth 100000 in
set_option maxHeartbeats 4000000 in
theorem c_X4_comesSuit (hR : Rm g c) (k f : Nat) : gCi mX4_comesSuit [.ref 35, .int (nI k), .int (nI f)] g (fun x g1 => x = bI (decide (c 7 0 < 6)) ∧ (c 7 0 < 6 → Rm g1 (addS c k f)) ∧ fmC g g1) := by
  refine gCi_of (own := RX4) (ls0 := [.ref 35, .int (nI k), .int (nI f)]) ⟨rfl, pl_X4⟩ rfl (Nat.le_of_ble_eq_true rfl) (fun G (h : gR RX4 cX4_comesSuit 0 0 G) (t : gTi cX4_comesSuit .boolean _ G) => ?_)
  have hn6 := hR.n6
  refine r_aload_n (pc := 0) h dX4_comesSuit_0 rfl ?_
  refine r_getE (pc := 1) h dX4_comesSuit_1 f_X4_60 sh_35 rfl (hR.ns) ?_
  refine r_bipush (pc := 4) h dX4_comesSuit_4 cb_6 ?_
  refine r_icmp_ne (pc := 6) (tgt := 11) h dX4_comesSuit_6 (by decide) (fun c6 => ?_) (fun c6 => ?_)
  · have h6 : c 7 0 < 6 := Nat.lt_of_le_of_ne hn6 (fun q => c6 (by rw [q]))
    have hin : vp_in (nI (c 7 0)) 6 := vp_in_nI h6 (by decide)
    refine r_aload_n (pc := 11) h dX4_comesSuit_11 rfl ?_
    refine r_getR (pc := 12) h dX4_comesSuit_12 f_X4_13 sh_35 rfl ?_
    refine r_aload_n (pc := 15) h dX4_comesSuit_15 rfl ?_
    refine r_getE (pc := 16) h dX4_comesSuit_16 f_X4_60 sh_35 rfl (hR.ns) ?_
    refine r_iload_n (pc := 19) h dX4_comesSuit_19 rfl ?_
    refine r_iastore (pc := 20) h dX4_comesSuit_20 sh_37 (hin) ?_
    refine r_aload_n (pc := 21) h dX4_comesSuit_21 rfl ?_
    refine r_getR (pc := 22) h dX4_comesSuit_22 f_X4_16 sh_35 rfl ?_
    refine r_aload_n (pc := 25) h dX4_comesSuit_25 rfl ?_
    refine r_getE (pc := 26) h dX4_comesSuit_26 f_X4_60 sh_35 rfl ((by rw [gup_ne (by decide)]; exact hR.ns : _ = nI (c 7 0))) ?_
    refine r_iload_n (pc := 29) h dX4_comesSuit_29 rfl ?_
    refine r_iastore (pc := 30) h dX4_comesSuit_30 sh_38 (hin) ?_
    refine r_aload_n (pc := 31) h dX4_comesSuit_31 rfl ?_
    refine r_getR (pc := 32) h dX4_comesSuit_32 f_X4_19 sh_35 rfl ?_
    refine r_aload_n (pc := 35) h dX4_comesSuit_35 rfl ?_
    refine r_getE (pc := 36) h dX4_comesSuit_36 f_X4_60 sh_35 rfl ((by rw [gup_ne (by decide), gup_ne (by decide)]; exact hR.ns : _ = nI (c 7 0))) ?_
    refine r_iconst (pc := 39) h dX4_comesSuit_39 ci_0 ?_
    refine r_iastore (pc := 40) h dX4_comesSuit_40 sh_39 (hin) ?_
    refine r_aload_n (pc := 41) h dX4_comesSuit_41 rfl ?_
    refine r_dup (pc := 42) h dX4_comesSuit_42 rfl ?_
    refine r_getE (pc := 43) h dX4_comesSuit_43 f_X4_60 sh_35 rfl ((by rw [gup_ne (by decide), gup_ne (by decide), gup_ne (by decide)]; exact hR.ns : _ = nI (c 7 0))) ?_
    refine r_iconst (pc := 46) h dX4_comesSuit_46 ci_1 ?_
    refine r_iadd (pc := 47) h dX4_comesSuit_47 ?_
    refine r_top (y := nI (c 7 0 + 1)) h (nI_add _ _) ?_
    refine r_putI (pc := 48) h dX4_comesSuit_48 fw_X4_60 sh_35 rfl rfl rfl ?_
    refine r_iconst (pc := 51) h dX4_comesSuit_51 ci_1 ?_
    refine r_ri t (pc := 52) dX4_comesSuit_52 (by decide) ?_
    refine ⟨by simp [h6, bI], fun _ => ?_, fun a b z1 z2 => ?_⟩
    · obtain ⟨⟨h1, h2, h3, h4⟩, h5, h6', h7⟩ := hR
      have ei : (nI (c 7 0)).toNatClampNeg = c 7 0 := nI_clamp (by omega)
      unfold addS
      refine ⟨⟨by simp [gup, cup, ei], by simp [gup, cup, ei, h2], by simp [gup, cup, ei, h3], by simp [gup, cup, ei, h4]⟩, by simp [cup]; omega, fun j hj => ?_, fun j hj => ?_⟩
      · by_cases e : j = c 7 0
        · subst e; simp [gup, cup, ei]
        · obtain ⟨a, b, d⟩ := h6' j (by simp [cup] at hj; omega)
          simp [gup, cup, ei, e, a, b, d]
      · obtain ⟨a, b, d, f⟩ := h7 j (by simpa [cup] using hj)
        simp [gup, cup, ei, a, b, d, f]
    · rw [gup_o (by omega), gup_o (by omega), gup_o (by omega), gup_o (by omega)]
  · have h6 : ¬ c 7 0 < 6 := by have := (nI_eq (by omega) (by decide)).mp c6; omega
    refine r_iconst (pc := 9) h dX4_comesSuit_9 ci_0 ?_
    refine r_ri t (pc := 10) dX4_comesSuit_10 (by decide) ?_
    exact ⟨by simp [h6, bI], fun q => absurd q h6, fmC.rf⟩
set_option maxRecDepth 100000 in
set_option maxHeartbeats 4000000 in
theorem c_X4_comesCaller (hR : Rm g c) {f : Nat} (hf : f < 2147483648) : gCi mX4_comesCaller [.ref 35, .int (nI f)] g (fun x g1 => x = bI (decide (c 7 1 < 5 ∧ f ≤ 20)) ∧ (c 7 1 < 5 ∧ f ≤ 20 → Rm g1 (addC c f)) ∧ fmC g g1) := by
  refine gCi_of (own := RX4) (ls0 := [.ref 35, .int (nI f)]) ⟨rfl, pl_X4⟩ rfl (Nat.le_of_ble_eq_true rfl) (fun G (h : gR RX4 cX4_comesCaller 0 0 G) (t : gTi cX4_comesCaller .boolean _ G) => ?_)
  have hn5 := hR.n5
  refine r_iload_n (pc := 0) h dX4_comesCaller_0 rfl ?_
  refine r_bipush (pc := 1) h dX4_comesCaller_1 cb_20 ?_
  refine r_icmp_gt (pc := 3) (tgt := 14) h dX4_comesCaller_3 (by decide) (fun c3 => ?_) (fun c3 => ?_)
  · have h5 : ¬ (c 7 1 < 5 ∧ f ≤ 20) := fun q => nI_nlt q.2 (by decide) c3
    refine r_iconst (pc := 14) h dX4_comesCaller_14 ci_0 ?_
    refine r_ri t (pc := 15) dX4_comesCaller_15 (by decide) ?_
    exact ⟨by simp [h5, bI], fun q => absurd q h5, fmC.rf⟩
  · have h20 : f ≤ 20 := Nat.le_of_not_lt fun q => c3 (nI_lt q hf)
    refine r_aload_n (pc := 6) h dX4_comesCaller_6 rfl ?_
    refine r_getE (pc := 7) h dX4_comesCaller_7 f_X4_67 sh_35 rfl (hR.nc) ?_
    refine r_iconst (pc := 10) h dX4_comesCaller_10 ci_5 ?_
    refine r_icmp_ne (pc := 11) (tgt := 16) h dX4_comesCaller_11 (by decide) (fun c11 => ?_) (fun c11 => ?_)
    · have h5a : c 7 1 < 5 := Nat.lt_of_le_of_ne hn5 (fun q => c11 (by rw [q]))
      have h5 : c 7 1 < 5 ∧ f ≤ 20 := ⟨h5a, h20⟩
      have hin : vp_in (nI (c 7 1)) 5 := vp_in_nI h5a (by decide)
      refine r_aload_n (pc := 16) h dX4_comesCaller_16 rfl ?_
      refine r_getR (pc := 17) h dX4_comesCaller_17 f_X4_22 sh_35 rfl ?_
      refine r_aload_n (pc := 20) h dX4_comesCaller_20 rfl ?_
      refine r_getE (pc := 21) h dX4_comesCaller_21 f_X4_67 sh_35 rfl (hR.nc) ?_
      refine r_iload_n (pc := 24) h dX4_comesCaller_24 rfl ?_
      refine r_iastore (pc := 25) h dX4_comesCaller_25 sh_40 (hin) ?_
      refine r_aload_n (pc := 26) h dX4_comesCaller_26 rfl ?_
      refine r_getR (pc := 27) h dX4_comesCaller_27 f_X4_25 sh_35 rfl ?_
      refine r_aload_n (pc := 30) h dX4_comesCaller_30 rfl ?_
      refine r_getE (pc := 31) h dX4_comesCaller_31 f_X4_67 sh_35 rfl ((by rw [gup_ne (by decide)]; exact hR.nc : _ = nI (c 7 1))) ?_
      refine r_iconst (pc := 34) h dX4_comesCaller_34 ci_0 ?_
      refine r_iastore (pc := 35) h dX4_comesCaller_35 sh_41 (hin) ?_
      refine r_aload_n (pc := 36) h dX4_comesCaller_36 rfl ?_
      refine r_getR (pc := 37) h dX4_comesCaller_37 f_X4_28 sh_35 rfl ?_
      refine r_aload_n (pc := 40) h dX4_comesCaller_40 rfl ?_
      refine r_getE (pc := 41) h dX4_comesCaller_41 f_X4_67 sh_35 rfl ((by rw [gup_ne (by decide), gup_ne (by decide)]; exact hR.nc : _ = nI (c 7 1))) ?_
      refine r_iconst (pc := 44) h dX4_comesCaller_44 ci_0 ?_
      refine r_iastore (pc := 45) h dX4_comesCaller_45 sh_42 (hin) ?_
      refine r_aload_n (pc := 46) h dX4_comesCaller_46 rfl ?_
      refine r_getR (pc := 47) h dX4_comesCaller_47 f_X4_31 sh_35 rfl ?_
      refine r_aload_n (pc := 50) h dX4_comesCaller_50 rfl ?_
      refine r_getE (pc := 51) h dX4_comesCaller_51 f_X4_67 sh_35 rfl ((by rw [gup_ne (by decide), gup_ne (by decide), gup_ne (by decide)]; exact hR.nc : _ = nI (c 7 1))) ?_
      refine r_iconst (pc := 54) h dX4_comesCaller_54 ci_0 ?_
      refine r_iastore (pc := 55) h dX4_comesCaller_55 sh_43 (hin) ?_
      refine r_aload_n (pc := 56) h dX4_comesCaller_56 rfl ?_
      refine r_dup (pc := 57) h dX4_comesCaller_57 rfl ?_
      refine r_getE (pc := 58) h dX4_comesCaller_58 f_X4_67 sh_35 rfl ((by rw [gup_ne (by decide), gup_ne (by decide), gup_ne (by decide), gup_ne (by decide)]; exact hR.nc : _ = nI (c 7 1))) ?_
      refine r_iconst (pc := 61) h dX4_comesCaller_61 ci_1 ?_
      refine r_iadd (pc := 62) h dX4_comesCaller_62 ?_
      refine r_top (y := nI (c 7 1 + 1)) h (nI_add _ _) ?_
      refine r_putI (pc := 63) h dX4_comesCaller_63 fw_X4_67 sh_35 rfl rfl rfl ?_
      refine r_iconst (pc := 66) h dX4_comesCaller_66 ci_1 ?_
      refine r_ri t (pc := 67) dX4_comesCaller_67 (by decide) ?_
      refine ⟨by simp [h5, bI], fun _ => ?_, fun a b z1 z2 => ?_⟩
      · obtain ⟨⟨h1, h2, h3, h4⟩, h5', h6, h7⟩ := hR
        have ei : (nI (c 7 1)).toNatClampNeg = c 7 1 := nI_clamp (by omega)
        unfold addC
        refine ⟨⟨by simp [gup, cup, ei, h1], by simp [gup, cup, ei], by simp [gup, cup, ei, h3], by simp [gup, cup, ei, h4]⟩, by simp [cup]; omega, fun j hj => ?_, fun j hj => ?_⟩
        · obtain ⟨a, b, d⟩ := h6 j (by simpa [cup] using hj)
          simp [gup, cup, ei, a, b, d]
        · by_cases e : j = c 7 1
          · subst e; simp [gup, cup, ei]
          · obtain ⟨a, b, d, f⟩ := h7 j (by simp [cup] at hj; omega)
            simp [gup, cup, ei, e, a, b, d, f]
      · rw [gup_o (by omega), gup_o (by omega), gup_o (by omega), gup_o (by omega), gup_o (by omega)]
    · have h5 : ¬ (c 7 1 < 5 ∧ f ≤ 20) := by have := (nI_eq (by omega) (by decide)).mp c11; omega
      refine r_iconst (pc := 14) h dX4_comesCaller_14 ci_0 ?_
      refine r_ri t (pc := 15) dX4_comesCaller_15 (by decide) ?_
      exact ⟨by simp [h5, bI], fun q => absurd q h5, fmC.rf⟩
set_option maxRecDepth 100000 in
set_option maxHeartbeats 4000000 in
theorem c_X4_comesOf_r (hR : Rm g c) (ho : gok c) {x : Nat} (hx : x < 1000) (v : Nat) (hv : v < 1000) : gCi mX4_comesOf [.ref 35, .int (nI 114), .int (nI x), .int (nI v)] g (fun y g1 => y = bI (decide (x < c 7 0)) ∧ (x < c 7 0 → Rm g1 (cup c 2 x v)) ∧ fmC g g1) := by
  refine gCi_of (own := RX4) (ls0 := [.ref 35, .int (nI 114), .int (nI x), .int (nI v)]) ⟨rfl, pl_X4⟩ rfl (Nat.le_of_ble_eq_true rfl) (fun G (h : gR RX4 cX4_comesOf 2 80 G) (t : gTi cX4_comesOf .boolean _ G) => ?_)
  have hn5 := hR.n5
  have hn6 := hR.n6
  refine r_iload_n (pc := 0) h dX4_comesOf_0 rfl ?_
  refine r_bipush (pc := 1) h dX4_comesOf_1 cb_114 ?_
  refine r_icmp_ne (pc := 3) (tgt := 25) h dX4_comesOf_3 (by decide) (fun c3 => absurd (rfl) c3) (fun c3 => ?_)
  refine r_aload_n (pc := 6) h dX4_comesOf_6 rfl ?_
  refine r_iload_n (pc := 7) h dX4_comesOf_7 rfl ?_
  refine r_callVi (pc := 8) (As := [_]) h dX4_comesOf_8 k_X4_109 gc_35 rfl ⟨Nat.le_of_ble_eq_true rfl, Nat.le_of_ble_eq_true rfl, Nat.le_of_ble_eq_true rfl⟩ (c_X4_isSuit hR _) (fun x_8 g3 hq => ?_)
  have hix := inB_d (x := x) (n := c 7 0) (by omega) (by omega)
  rw [hix] at hq
  obtain ⟨rfl, hg3⟩ := hq
  rw [hg3]
  refine r_if_ne (pc := 11) (tgt := 16) h dX4_comesOf_11 (by decide) (fun c11 => ?_) (fun c11 => ?_)
  · have e : x < c 7 0 := of_decide_eq_true (by simpa using mt (bI_0 (decide (x < c 7 0))).mpr c11)
    refine r_aload_n (pc := 16) h dX4_comesOf_16 rfl ?_
    refine r_getR (pc := 17) h dX4_comesOf_17 f_X4_19 sh_35 rfl ?_
    refine r_iload_n (pc := 20) h dX4_comesOf_20 rfl ?_
    refine r_iload_n (pc := 21) h dX4_comesOf_21 rfl ?_
    refine r_iastore (pc := 22) h dX4_comesOf_22 sh_39 (hR.si e) ?_
    refine r_iconst (pc := 23) h dX4_comesOf_23 ci_1 ?_
    refine r_ri t (pc := 24) dX4_comesOf_24 (by decide) ?_
    have hq := Rm.wrC fmC.rf (hR.u_ru e v) (by omega)
    exact ⟨by rw [decide_eq_true e]; rfl, fun _ => hq.1, hq.2⟩
  · have e : ¬ x < c 7 0 := of_decide_eq_false ((bI_0 _).mp c11)
    refine r_iconst (pc := 14) h dX4_comesOf_14 ci_0 ?_
    refine r_ri t (pc := 15) dX4_comesOf_15 (by decide) ?_
    exact ⟨by rw [decide_eq_false e]; rfl, fun q => absurd q e, fmC.rf⟩
set_option maxRecDepth 100000 in
set_option maxHeartbeats 4000000 in
theorem c_X4_comesOf_w (hR : Rm g c) (ho : gok c) {x : Nat} (hx : x < 1000) (v : Nat) (hv : v < 1000) : gCi mX4_comesOf [.ref 35, .int (nI 119), .int (nI x), .int (nI v)] g (fun y g1 => y = bI (decide (x < c 7 1 ∧ v < c 7 0)) ∧ (x < c 7 1 ∧ v < c 7 0 → Rm g1 (put c x v)) ∧ fmC g g1) := by
  refine gCi_of (own := RX4) (ls0 := [.ref 35, .int (nI 119), .int (nI x), .int (nI v)]) ⟨rfl, pl_X4⟩ rfl (Nat.le_of_ble_eq_true rfl) (fun G (h : gR RX4 cX4_comesOf 2 80 G) (t : gTi cX4_comesOf .boolean _ G) => ?_)
  have hn5 := hR.n5
  have hn6 := hR.n6
  refine r_iload_n (pc := 0) h dX4_comesOf_0 rfl ?_
  refine r_bipush (pc := 1) h dX4_comesOf_1 cb_114 ?_
  refine r_icmp_ne (pc := 3) (tgt := 25) h dX4_comesOf_3 (by decide) (fun c3 => ?_) (fun c3 => absurd c3 (by decide))
  refine r_aload_n (pc := 25) h dX4_comesOf_25 rfl ?_
  refine r_iload_n (pc := 26) h dX4_comesOf_26 rfl ?_
  refine r_callVi (pc := 27) (As := [_]) h dX4_comesOf_27 k_X4_112 gc_35 rfl ⟨Nat.le_of_ble_eq_true rfl, Nat.le_of_ble_eq_true rfl, Nat.le_of_ble_eq_true rfl⟩ (c_X4_isCaller hR _) (fun x_27 g3 hq => ?_)
  have hix := inB_d (x := x) (n := c 7 1) (by omega) (by omega)
  rw [hix] at hq
  obtain ⟨rfl, hg3⟩ := hq
  rw [hg3]
  refine r_if_ne (pc := 30) (tgt := 35) h dX4_comesOf_30 (by decide) (fun c30 => ?_) (fun c30 => ?_)
  · have e1 : x < c 7 1 := of_decide_eq_true (by simpa using mt (bI_0 (decide (x < c 7 1))).mpr c30)
    refine r_iload_n (pc := 35) h dX4_comesOf_35 rfl ?_
    refine r_bipush (pc := 36) h dX4_comesOf_36 cb_119 ?_
    refine r_icmp_ne (pc := 38) (tgt := 60) h dX4_comesOf_38 (by decide) (fun c38 => absurd (rfl) c38) (fun c38 => ?_)
    refine r_aload_n (pc := 41) h dX4_comesOf_41 rfl ?_
    refine r_iload_n (pc := 42) h dX4_comesOf_42 rfl ?_
    refine r_callVi (pc := 43) (As := [_]) h dX4_comesOf_43 k_X4_109 gc_35 rfl ⟨Nat.le_of_ble_eq_true rfl, Nat.le_of_ble_eq_true rfl, Nat.le_of_ble_eq_true rfl⟩ (c_X4_isSuit hR _) (fun x_43 g3 hq => ?_)
    have hix := inB_d (x := v) (n := c 7 0) (by omega) (by omega)
    rw [hix] at hq
    obtain ⟨rfl, hg3⟩ := hq
    rw [hg3]
    refine r_if_ne (pc := 46) (tgt := 51) h dX4_comesOf_46 (by decide) (fun c46 => ?_) (fun c46 => ?_)
    · have e2 : v < c 7 0 := of_decide_eq_true (by simpa using mt (bI_0 (decide (v < c 7 0))).mpr c46)
      have e : x < c 7 1 ∧ v < c 7 0 := ⟨e1, e2⟩
      refine r_aload_n (pc := 51) h dX4_comesOf_51 rfl ?_
      refine r_iload_n (pc := 52) h dX4_comesOf_52 rfl ?_
      refine r_iload_n (pc := 53) h dX4_comesOf_53 rfl ?_
      refine r_callVv (pc := 54) (As := [_, _]) h dX4_comesOf_54 k_X4_115 gc_35 rfl ⟨Nat.le_of_ble_eq_true rfl, Nat.le_of_ble_eq_true rfl, Nat.le_of_ble_eq_true rfl⟩ (c_X4_putsOn hR ho e1 e2) (fun g3 hq => ?_)
      obtain ⟨hR2, hF⟩ := hq
      refine r_goto (pc := 57) (tgt := 91) h dX4_comesOf_57 (by decide) ?_
      refine r_iconst (pc := 91) h dX4_comesOf_91 ci_1 ?_
      refine r_ri t (pc := 92) dX4_comesOf_92 (by decide) ?_
      exact ⟨by rw [decide_eq_true e]; rfl, fun _ => hR2, hF⟩
    · have e2 : ¬ v < c 7 0 := of_decide_eq_false ((bI_0 _).mp c46)
      have e : ¬ (x < c 7 1 ∧ v < c 7 0) := fun q => e2 q.2
      refine r_iconst (pc := 49) h dX4_comesOf_49 ci_0 ?_
      refine r_ri t (pc := 50) dX4_comesOf_50 (by decide) ?_
      exact ⟨by rw [decide_eq_false e]; rfl, fun q => absurd q e, fmC.rf⟩
  · have e1 : ¬ x < c 7 1 := of_decide_eq_false ((bI_0 _).mp c30)
    have e : ¬ (x < c 7 1 ∧ v < c 7 0) := fun q => e1 q.1
    refine r_iconst (pc := 33) h dX4_comesOf_33 ci_0 ?_
    refine r_ri t (pc := 34) dX4_comesOf_34 (by decide) ?_
    exact ⟨by rw [decide_eq_false e]; rfl, fun q => absurd q e, fmC.rf⟩
set_option maxRecDepth 100000 in
set_option maxHeartbeats 4000000 in
theorem c_X4_comesOf_o (hR : Rm g c) (ho : gok c) {x : Nat} (hx : x < 1000) (v : Int32)  : gCi mX4_comesOf [.ref 35, .int (nI 111), .int (nI x), .int v] g (fun y g1 => y = bI (decide (x < c 7 1)) ∧ (x < c 7 1 → Rm g1 (cup c 6 x 0)) ∧ fmC g g1) := by
  refine gCi_of (own := RX4) (ls0 := [.ref 35, .int (nI 111), .int (nI x), .int v]) ⟨rfl, pl_X4⟩ rfl (Nat.le_of_ble_eq_true rfl) (fun G (h : gR RX4 cX4_comesOf 2 80 G) (t : gTi cX4_comesOf .boolean _ G) => ?_)
  have hn5 := hR.n5
  have hn6 := hR.n6
  refine r_iload_n (pc := 0) h dX4_comesOf_0 rfl ?_
  refine r_bipush (pc := 1) h dX4_comesOf_1 cb_114 ?_
  refine r_icmp_ne (pc := 3) (tgt := 25) h dX4_comesOf_3 (by decide) (fun c3 => ?_) (fun c3 => absurd c3 (by decide))
  refine r_aload_n (pc := 25) h dX4_comesOf_25 rfl ?_
  refine r_iload_n (pc := 26) h dX4_comesOf_26 rfl ?_
  refine r_callVi (pc := 27) (As := [_]) h dX4_comesOf_27 k_X4_112 gc_35 rfl ⟨Nat.le_of_ble_eq_true rfl, Nat.le_of_ble_eq_true rfl, Nat.le_of_ble_eq_true rfl⟩ (c_X4_isCaller hR _) (fun x_27 g3 hq => ?_)
  have hix := inB_d (x := x) (n := c 7 1) (by omega) (by omega)
  rw [hix] at hq
  obtain ⟨rfl, hg3⟩ := hq
  rw [hg3]
  refine r_if_ne (pc := 30) (tgt := 35) h dX4_comesOf_30 (by decide) (fun c30 => ?_) (fun c30 => ?_)
  · have e : x < c 7 1 := of_decide_eq_true (by simpa using mt (bI_0 (decide (x < c 7 1))).mpr c30)
    refine r_iload_n (pc := 35) h dX4_comesOf_35 rfl ?_
    refine r_bipush (pc := 36) h dX4_comesOf_36 cb_119 ?_
    refine r_icmp_ne (pc := 38) (tgt := 60) h dX4_comesOf_38 (by decide) (fun c38 => ?_) (fun c38 => absurd c38 (by decide))
    refine r_iload_n (pc := 60) h dX4_comesOf_60 rfl ?_
    refine r_bipush (pc := 61) h dX4_comesOf_61 cb_111 ?_
    refine r_icmp_ne (pc := 63) (tgt := 76) h dX4_comesOf_63 (by decide) (fun c63 => absurd (rfl) c63) (fun c63 => ?_)
    refine r_aload_n (pc := 66) h dX4_comesOf_66 rfl ?_
    refine r_getR (pc := 67) h dX4_comesOf_67 f_X4_31 sh_35 rfl ?_
    refine r_iload_n (pc := 70) h dX4_comesOf_70 rfl ?_
    refine r_iconst (pc := 71) h dX4_comesOf_71 ci_0 ?_
    refine r_iastore (pc := 72) h dX4_comesOf_72 sh_43 (hR.ci e) ?_
    refine r_goto (pc := 73) (tgt := 91) h dX4_comesOf_73 (by decide) ?_
    refine r_iconst (pc := 91) h dX4_comesOf_91 ci_1 ?_
    refine r_ri t (pc := 92) dX4_comesOf_92 (by decide) ?_
    have hq := Rm.wrC fmC.rf (hR.u_wo e 0) (by omega)
    exact ⟨by rw [decide_eq_true e]; rfl, fun _ => hq.1, hq.2⟩
  · have e : ¬ x < c 7 1 := of_decide_eq_false ((bI_0 _).mp c30)
    refine r_iconst (pc := 33) h dX4_comesOf_33 ci_0 ?_
    refine r_ri t (pc := 34) dX4_comesOf_34 (by decide) ?_
    exact ⟨by rw [decide_eq_false e]; rfl, fun q => absurd q e, fmC.rf⟩
set_option maxRecDepth 100000 in
set_option maxHeartbeats 4000000 in
theorem c_X4_comesOf_f (hR : Rm g c) (ho : gok c) {x : Nat} (hx : x < 1000) (v : Nat) (hv : v < 1000) : gCi mX4_comesOf [.ref 35, .int (nI 102), .int (nI x), .int (nI v)] g (fun y g1 => y = bI (decide (x < c 7 1 ∧ v ≤ 20)) ∧ (x < c 7 1 ∧ v ≤ 20 → Rm g1 (cup c 3 x v)) ∧ fmC g g1) := by
  refine gCi_of (own := RX4) (ls0 := [.ref 35, .int (nI 102), .int (nI x), .int (nI v)]) ⟨rfl, pl_X4⟩ rfl (Nat.le_of_ble_eq_true rfl) (fun G (h : gR RX4 cX4_comesOf 2 80 G) (t : gTi cX4_comesOf .boolean _ G) => ?_)
  have hn5 := hR.n5
  have hn6 := hR.n6
  refine r_iload_n (pc := 0) h dX4_comesOf_0 rfl ?_
  refine r_bipush (pc := 1) h dX4_comesOf_1 cb_114 ?_
  refine r_icmp_ne (pc := 3) (tgt := 25) h dX4_comesOf_3 (by decide) (fun c3 => ?_) (fun c3 => absurd c3 (by decide))
  refine r_aload_n (pc := 25) h dX4_comesOf_25 rfl ?_
  refine r_iload_n (pc := 26) h dX4_comesOf_26 rfl ?_
  refine r_callVi (pc := 27) (As := [_]) h dX4_comesOf_27 k_X4_112 gc_35 rfl ⟨Nat.le_of_ble_eq_true rfl, Nat.le_of_ble_eq_true rfl, Nat.le_of_ble_eq_true rfl⟩ (c_X4_isCaller hR _) (fun x_27 g3 hq => ?_)
  have hix := inB_d (x := x) (n := c 7 1) (by omega) (by omega)
  rw [hix] at hq
  obtain ⟨rfl, hg3⟩ := hq
  rw [hg3]
  refine r_if_ne (pc := 30) (tgt := 35) h dX4_comesOf_30 (by decide) (fun c30 => ?_) (fun c30 => ?_)
  · have e1 : x < c 7 1 := of_decide_eq_true (by simpa using mt (bI_0 (decide (x < c 7 1))).mpr c30)
    refine r_iload_n (pc := 35) h dX4_comesOf_35 rfl ?_
    refine r_bipush (pc := 36) h dX4_comesOf_36 cb_119 ?_
    refine r_icmp_ne (pc := 38) (tgt := 60) h dX4_comesOf_38 (by decide) (fun c38 => ?_) (fun c38 => absurd c38 (by decide))
    refine r_iload_n (pc := 60) h dX4_comesOf_60 rfl ?_
    refine r_bipush (pc := 61) h dX4_comesOf_61 cb_111 ?_
    refine r_icmp_ne (pc := 63) (tgt := 76) h dX4_comesOf_63 (by decide) (fun c63 => ?_) (fun c63 => absurd c63 (by decide))
    refine r_iload_n (pc := 76) h dX4_comesOf_76 rfl ?_
    refine r_bipush (pc := 77) h dX4_comesOf_77 cb_20 ?_
    refine r_icmp_le (pc := 79) (tgt := 84) h dX4_comesOf_79 (by decide) (fun c79 => ?_) (fun c79 => ?_)
    · have e : x < c 7 1 ∧ v ≤ 20 := ⟨e1, (nI_leI (by omega) (by decide)).mp c79⟩
      refine r_aload_n (pc := 84) h dX4_comesOf_84 rfl ?_
      refine r_getR (pc := 85) h dX4_comesOf_85 f_X4_22 sh_35 rfl ?_
      refine r_iload_n (pc := 88) h dX4_comesOf_88 rfl ?_
      refine r_iload_n (pc := 89) h dX4_comesOf_89 rfl ?_
      refine r_iastore (pc := 90) h dX4_comesOf_90 sh_40 (hR.ci e1) ?_
      refine r_iconst (pc := 91) h dX4_comesOf_91 ci_1 ?_
      refine r_ri t (pc := 92) dX4_comesOf_92 (by decide) ?_
      have hq := Rm.wrC fmC.rf (hR.u_fe e1 v) (by omega)
      exact ⟨by rw [decide_eq_true e]; rfl, fun _ => hq.1, hq.2⟩
    · have e : ¬ (x < c 7 1 ∧ v ≤ 20) := fun q => c79 (nI_le q.2 (by decide))
      refine r_iconst (pc := 82) h dX4_comesOf_82 ci_0 ?_
      refine r_ri t (pc := 83) dX4_comesOf_83 (by decide) ?_
      exact ⟨by rw [decide_eq_false e]; rfl, fun q => absurd q e, fmC.rf⟩
  · have e1 : ¬ x < c 7 1 := of_decide_eq_false ((bI_0 _).mp c30)
    have e : ¬ (x < c 7 1 ∧ v ≤ 20) := fun q => e1 q.1
    refine r_iconst (pc := 33) h dX4_comesOf_33 ci_0 ?_
    refine r_ri t (pc := 34) dX4_comesOf_34 (by decide) ?_
    exact ⟨by rw [decide_eq_false e]; rfl, fun q => absurd q e, fmC.rf⟩
set_option maxRecDepth 100000 in
set_option maxHeartbeats 4000000 in
theorem c_X4_comesDays (hR : Rm g c) (ho : gok c) {n : Nat} (hn : n < 1000) : gCi mX4_comesDays [.ref 35, .int (nI n)] g (fun y g1 => y = bI (decide (1 ≤ n ∧ n ≤ 60 ∧ c 7 3 + n ≤ 999)) ∧ (1 ≤ n ∧ n ≤ 60 ∧ c 7 3 + n ≤ 999 → Rm g1 (daysC n c)) ∧ fmC g g1) := by
  refine gCi_of (own := RX4) (ls0 := [.ref 35, .int (nI n)]) ⟨rfl, pl_X4⟩ rfl (Nat.le_of_ble_eq_true rfl) (fun G (h : gR RX4 cX4_comesDays 6 240 G) (t : gTi cX4_comesDays .boolean _ G) => ?_)
  have hdy := ho.2.1
  refine r_iload_n (pc := 0) h dX4_comesDays_0 rfl ?_
  refine r_iconst (pc := 1) h dX4_comesDays_1 ci_1 ?_
  refine r_bipush (pc := 2) h dX4_comesDays_2 cb_60 ?_
  refine r_callSi (pc := 4) (As := [_, _, _]) h dX4_comesDays_4 k_X4_88 rfl ⟨Nat.le_of_ble_eq_true rfl, Nat.le_of_ble_eq_true rfl, Nat.le_of_ble_eq_true rfl⟩ (c_X4_isIn _ _ _) (fun x_4 g3 hq => ?_)
  rw [isIn_d (by omega)] at hq
  obtain ⟨rfl, hg3⟩ := hq
  rw [hg3]
  refine r_if_eq (pc := 7) (tgt := 22) h dX4_comesDays_7 (by decide) (fun c7 => ?_) (fun c7 => ?_)
  · have e : ¬ (1 ≤ n ∧ n ≤ 60 ∧ c 7 3 + n ≤ 999) := fun q => of_decide_eq_false ((bI_0 _).mp c7) ⟨q.1, q.2.1⟩
    refine r_iconst (pc := 22) h dX4_comesDays_22 ci_0 ?_
    refine r_ri t (pc := 23) dX4_comesDays_23 (by decide) ?_
    exact ⟨by rw [decide_eq_false e]; rfl, fun q => absurd q e, fmC.rf⟩
  · have e1 : 1 ≤ n ∧ n ≤ 60 := of_decide_eq_true (by simpa using mt (bI_0 (decide (1 ≤ n ∧ n ≤ 60))).mpr c7)
    refine r_aload_n (pc := 10) h dX4_comesDays_10 rfl ?_
    refine r_getE (pc := 11) h dX4_comesDays_11 f_X4_119 sh_35 rfl (hR.dy) ?_
    refine r_iload_n (pc := 14) h dX4_comesDays_14 rfl ?_
    refine r_iadd (pc := 15) h dX4_comesDays_15 ?_
    refine r_top (y := nI (c 7 3 + n)) h (nI_add _ _) ?_
    refine r_sipush (pc := 16) h dX4_comesDays_16 cs_999 ?_
    refine r_icmp_le (pc := 19) (tgt := 24) h dX4_comesDays_19 (by decide) (fun c19 => ?_) (fun c19 => ?_)
    · have e : 1 ≤ n ∧ n ≤ 60 ∧ c 7 3 + n ≤ 999 := ⟨e1.1, e1.2, (nI_leI (by omega) (by decide)).mp c19⟩
      refine r_aload_n (pc := 24) h dX4_comesDays_24 rfl ?_
      refine r_iload_n (pc := 25) h dX4_comesDays_25 rfl ?_
      refine r_callVv (pc := 26) (As := [_]) h dX4_comesDays_26 k_X4_122 gc_35 rfl ⟨Nat.le_of_ble_eq_true rfl, Nat.le_of_ble_eq_true rfl, Nat.le_of_ble_eq_true rfl⟩ (c_X4_goes hR ho (by omega)) (fun g3 hq => ?_)
      obtain ⟨hR2, hF⟩ := hq
      refine r_iconst (pc := 29) h dX4_comesDays_29 ci_1 ?_
      refine r_ri t (pc := 30) dX4_comesDays_30 (by decide) ?_
      exact ⟨by rw [decide_eq_true e]; rfl, fun _ => hR2, hF⟩
    · have e : ¬ (1 ≤ n ∧ n ≤ 60 ∧ c 7 3 + n ≤ 999) := fun q => c19 (nI_le q.2.2 (by decide))
      refine r_iconst (pc := 22) h dX4_comesDays_22 ci_0 ?_
      refine r_ri t (pc := 23) dX4_comesDays_23 (by decide) ?_
      exact ⟨by rw [decide_eq_false e]; rfl, fun q => absurd q e, fmC.rf⟩
set_option maxRecDepth 100000 in
set_option maxHeartbeats 4000000 in
theorem c_X4_comes (hR : Rm g c) (ho : gok c) {k n : Nat} (hB : TBl g lt n) (hkn : k < n) (hk48 : k < 48) (hs_ : stB lt nl (pos lt k) = none) : gCi mX4_comes [.ref 35, .int (nI k)] g (fun y g1 => y = bI (tk lt c (pos lt k)).isSome ∧ (∀ d, tk lt c (pos lt k) = some d → Rm g1 d) ∧ fmC g g1) := by
  refine gCi_of (own := RX4) (ls0 := [.ref 35, .int (nI k), .null]) ⟨rfl, pl_X4⟩ rfl (Nat.le_of_ble_eq_true rfl) (fun G (h : gR RX4 cX4_comes 7 280 G) (t : gTi cX4_comes .boolean _ G) => ?_)
  obtain ⟨t0, t00, t3, t4⟩ := hB k hkn
  generalize pos lt k = p at hs_ t0 t00 t3 t4 t ⊢
  have hs := hs_
  have hcase := sgn_0 (st_sg hs)
  have hnu1 : nu lt (p + 1) = 10 * (lt (p + 1) - 48) + (lt (p + 2) - 48) := rfl
  have hnu2 : nu lt (p + 2) = 10 * (lt (p + 2) - 48) + (lt (p + 3) - 48) := rfl
  refine r_iconst (pc := 0) h dX4_comes_0 ci_2 ?_
  refine r_iload_n (pc := 1) h dX4_comes_1 rfl ?_
  refine r_imul (pc := 2) h dX4_comes_2 ?_
  refine r_top (y := nI (2 * k)) h (pk_mul _ _) ?_
  refine r_istore_n (pc := 3) (ls2 := [_, _, _]) h dX4_comes_3 (Nat.le_of_ble_eq_true rfl) rfl ?_
  refine r_aload_n (pc := 4) h dX4_comes_4 rfl ?_
  refine r_getR (pc := 5) h dX4_comes_5 f_X4_37 sh_35 rfl ?_
  refine r_iload_n (pc := 8) h dX4_comes_8 rfl ?_
  refine r_ialoadE (pc := 9) h dX4_comes_9 sh_45 (ixe hk48 (by decide) t0) ?_
  rcases hcase with e | e | e | e | e | e | e
  · refine r_top (y := nI 115) h (by rw [e]) ?_
    refine r_lookup (pc := 10) (o := 34) (tgt := 44) h dX4_comes_10 (by decide) (by decide) (by decide) ?_
    have kk := st_k hs e
    have d2 := st_d hs (j := 2) (by decide) (by rw [e, sgn_115]; decide) (by omega)
    have t1 := t3.trans (congrArg nI (tv1_s e))
    have t2 := (t4 (by omega) (by omega) (by omega)).trans (congrArg nI (tv2_n (by rw [e]; decide)))
    refine r_aload_n (pc := 44) h dX4_comes_44 rfl ?_
    refine r_aload_n (pc := 45) h dX4_comes_45 rfl ?_
    refine r_getR (pc := 46) h dX4_comes_46 f_X4_43 sh_35 rfl ?_
    refine r_iload_n (pc := 49) h dX4_comes_49 rfl ?_
    refine r_ialoadE (pc := 50) h dX4_comes_50 sh_47 (ixe (show 2 * k < 96 by omega) (by decide) t1) ?_
    refine r_aload_n (pc := 51) h dX4_comes_51 rfl ?_
    refine r_getR (pc := 52) h dX4_comes_52 f_X4_43 sh_35 rfl ?_
    refine r_iload_n (pc := 55) h dX4_comes_55 rfl ?_
    refine r_iconst (pc := 56) h dX4_comes_56 ci_1 ?_
    refine r_iadd (pc := 57) h dX4_comes_57 ?_
    refine r_top (y := nI (2 * k + 1)) h (nI_add _ _) ?_
    refine r_ialoadE (pc := 58) h dX4_comes_58 sh_47 (ixe (show 2 * k + 1 < 96 by omega) (by decide) t2) ?_
    refine r_callVi (pc := 59) (As := [_, _]) h dX4_comes_59 k_X4_126 gc_35 rfl ⟨Nat.le_of_ble_eq_true rfl, Nat.le_of_ble_eq_true rfl, Nat.le_of_ble_eq_true rfl⟩ (c_X4_comesSuit hR _ _) (fun x_59 g3 hq => ?_)
    obtain ⟨rfl, hc1, hF⟩ := hq
    refine r_ri t (pc := 62) dX4_comes_62 (bI_nar _) ?_
    rw [tk, if_pos e]
    exact ⟨(tkI hc1).1, (tkI hc1).2, hF⟩
  · refine r_top (y := nI 99) h (by rw [e]) ?_
    refine r_lookup (pc := 10) (o := 53) (tgt := 63) h dX4_comes_10 (by decide) (by decide) (by decide) ?_
    have d1 := st_d hs (j := 1) (by decide) (by rw [e, sgn_99]; decide) (by omega)
    have d2 := st_d hs (j := 2) (by decide) (by rw [e, sgn_99]; decide) (by omega)
    have t1 := t3.trans (congrArg nI (tv1_n (by omega) (by omega)))
    refine r_aload_n (pc := 63) h dX4_comes_63 rfl ?_
    refine r_aload_n (pc := 64) h dX4_comes_64 rfl ?_
    refine r_getR (pc := 65) h dX4_comes_65 f_X4_43 sh_35 rfl ?_
    refine r_iload_n (pc := 68) h dX4_comes_68 rfl ?_
    refine r_ialoadE (pc := 69) h dX4_comes_69 sh_47 (ixe (show 2 * k < 96 by omega) (by decide) t1) ?_
    refine r_callVi (pc := 70) (As := [_]) h dX4_comes_70 k_X4_129 gc_35 rfl ⟨Nat.le_of_ble_eq_true rfl, Nat.le_of_ble_eq_true rfl, Nat.le_of_ble_eq_true rfl⟩ (c_X4_comesCaller hR (by rw [hnu1]; omega)) (fun x_70 g3 hq => ?_)
    obtain ⟨rfl, hc1, hF⟩ := hq
    refine r_ri t (pc := 73) dX4_comes_73 (bI_nar _) ?_
    rw [tk, if_neg (by rw [e]; decide), if_pos e]
    exact ⟨(tkI hc1).1, (tkI hc1).2, hF⟩
  · refine r_top (y := nI 119) h (by rw [e]) ?_
    refine r_lookup (pc := 10) (o := 75) (tgt := 85) h dX4_comes_10 (by decide) (by decide) (by decide) ?_
    have d1 := st_d hs (j := 1) (by decide) (by rw [e, sgn_119]; decide) (by omega)
    have d2 := st_d hs (j := 2) (by decide) (by rw [e, sgn_119]; decide) (by omega)
    have t1 := t3.trans (congrArg nI (tv1_d (by omega) (by omega) (by omega)))
    have t2 := (t4 (by omega) (by omega) (by omega)).trans (congrArg nI (tv2_n (by omega)))
    refine r_aload_n (pc := 85) h dX4_comes_85 rfl ?_
    refine r_aload_n (pc := 86) h dX4_comes_86 rfl ?_
    refine r_getR (pc := 87) h dX4_comes_87 f_X4_37 sh_35 rfl ?_
    refine r_iload_n (pc := 90) h dX4_comes_90 rfl ?_
    refine r_ialoadE (pc := 91) h dX4_comes_91 sh_45 (ixe hk48 (by decide) t0) ?_
    refine r_top (y := nI 119) h (by rw [e]) ?_
    refine r_aload_n (pc := 92) h dX4_comes_92 rfl ?_
    refine r_getR (pc := 93) h dX4_comes_93 f_X4_43 sh_35 rfl ?_
    refine r_iload_n (pc := 96) h dX4_comes_96 rfl ?_
    refine r_ialoadE (pc := 97) h dX4_comes_97 sh_47 (ixe (show 2 * k < 96 by omega) (by decide) t1) ?_
    refine r_aload_n (pc := 98) h dX4_comes_98 rfl ?_
    refine r_getR (pc := 99) h dX4_comes_99 f_X4_43 sh_35 rfl ?_
    refine r_iload_n (pc := 102) h dX4_comes_102 rfl ?_
    refine r_iconst (pc := 103) h dX4_comes_103 ci_1 ?_
    refine r_iadd (pc := 104) h dX4_comes_104 ?_
    refine r_top (y := nI (2 * k + 1)) h (nI_add _ _) ?_
    refine r_ialoadE (pc := 105) h dX4_comes_105 sh_47 (ixe (show 2 * k + 1 < 96 by omega) (by decide) t2) ?_
    refine r_callVi (pc := 106) (As := [_, _, _]) h dX4_comes_106 k_X4_135 gc_35 rfl ⟨Nat.le_of_ble_eq_true rfl, Nat.le_of_ble_eq_true rfl, Nat.le_of_ble_eq_true rfl⟩ (c_X4_comesOf_w hR ho (by unfold dg; omega) _ (by unfold dg; omega)) (fun x_106 g3 hq => ?_)
    obtain ⟨rfl, hc1, hF⟩ := hq
    refine r_ri t (pc := 109) dX4_comes_109 (bI_nar _) ?_
    rw [tk, if_neg (by rw [e]; decide), if_neg (by rw [e]; decide), if_pos e]
    exact ⟨(tkI hc1).1, (tkI hc1).2, hF⟩
  · refine r_top (y := nI 111) h (by rw [e]) ?_
    refine r_lookup (pc := 10) (o := 75) (tgt := 85) h dX4_comes_10 (by decide) (by decide) (by decide) ?_
    have d1 := st_d hs (j := 1) (by decide) (by rw [e, sgn_111]; decide) (by omega)
    have t1 := t3.trans (congrArg nI (tv1_d (by omega) (by omega) (by omega)))
    refine r_aload_n (pc := 85) h dX4_comes_85 rfl ?_
    refine r_aload_n (pc := 86) h dX4_comes_86 rfl ?_
    refine r_getR (pc := 87) h dX4_comes_87 f_X4_37 sh_35 rfl ?_
    refine r_iload_n (pc := 90) h dX4_comes_90 rfl ?_
    refine r_ialoadE (pc := 91) h dX4_comes_91 sh_45 (ixe hk48 (by decide) t0) ?_
    refine r_top (y := nI 111) h (by rw [e]) ?_
    refine r_aload_n (pc := 92) h dX4_comes_92 rfl ?_
    refine r_getR (pc := 93) h dX4_comes_93 f_X4_43 sh_35 rfl ?_
    refine r_iload_n (pc := 96) h dX4_comes_96 rfl ?_
    refine r_ialoadE (pc := 97) h dX4_comes_97 sh_47 (ixe (show 2 * k < 96 by omega) (by decide) t1) ?_
    refine r_aload_n (pc := 98) h dX4_comes_98 rfl ?_
    refine r_getR (pc := 99) h dX4_comes_99 f_X4_43 sh_35 rfl ?_
    refine r_iload_n (pc := 102) h dX4_comes_102 rfl ?_
    refine r_iconst (pc := 103) h dX4_comes_103 ci_1 ?_
    refine r_iadd (pc := 104) h dX4_comes_104 ?_
    refine r_top (y := nI (2 * k + 1)) h (nI_add _ _) ?_
    refine r_iaload (pc := 105) h dX4_comes_105 sh_47 (vp_in_nI (show 2 * k + 1 < 96 by omega) (by decide)) ?_
    refine r_callVi (pc := 106) (As := [_, _, _]) h dX4_comes_106 k_X4_135 gc_35 rfl ⟨Nat.le_of_ble_eq_true rfl, Nat.le_of_ble_eq_true rfl, Nat.le_of_ble_eq_true rfl⟩ (c_X4_comesOf_o hR ho (by unfold dg; omega) _) (fun x_106 g3 hq => ?_)
    obtain ⟨rfl, hc1, hF⟩ := hq
    refine r_ri t (pc := 109) dX4_comes_109 (bI_nar _) ?_
    rw [tk, if_neg (by rw [e]; decide), if_neg (by rw [e]; decide), if_neg (by rw [e]; decide), if_pos e]
    exact ⟨(tkI hc1).1, (tkI hc1).2, hF⟩
  · refine r_top (y := nI 102) h (by rw [e]) ?_
    refine r_lookup (pc := 10) (o := 75) (tgt := 85) h dX4_comes_10 (by decide) (by decide) (by decide) ?_
    have d1 := st_d hs (j := 1) (by decide) (by rw [e, sgn_102]; decide) (by omega)
    have d2 := st_d hs (j := 2) (by decide) (by rw [e, sgn_102]; decide) (by omega)
    have d3 := st_d hs (j := 3) (by decide) (by rw [e, sgn_102]; decide) (by omega)
    have t1 := t3.trans (congrArg nI (tv1_d (by omega) (by omega) (by omega)))
    have t2 := (t4 (by omega) (by omega) (by omega)).trans (congrArg nI (tv2_f e))
    refine r_aload_n (pc := 85) h dX4_comes_85 rfl ?_
    refine r_aload_n (pc := 86) h dX4_comes_86 rfl ?_
    refine r_getR (pc := 87) h dX4_comes_87 f_X4_37 sh_35 rfl ?_
    refine r_iload_n (pc := 90) h dX4_comes_90 rfl ?_
    refine r_ialoadE (pc := 91) h dX4_comes_91 sh_45 (ixe hk48 (by decide) t0) ?_
    refine r_top (y := nI 102) h (by rw [e]) ?_
    refine r_aload_n (pc := 92) h dX4_comes_92 rfl ?_
    refine r_getR (pc := 93) h dX4_comes_93 f_X4_43 sh_35 rfl ?_
    refine r_iload_n (pc := 96) h dX4_comes_96 rfl ?_
    refine r_ialoadE (pc := 97) h dX4_comes_97 sh_47 (ixe (show 2 * k < 96 by omega) (by decide) t1) ?_
    refine r_aload_n (pc := 98) h dX4_comes_98 rfl ?_
    refine r_getR (pc := 99) h dX4_comes_99 f_X4_43 sh_35 rfl ?_
    refine r_iload_n (pc := 102) h dX4_comes_102 rfl ?_
    refine r_iconst (pc := 103) h dX4_comes_103 ci_1 ?_
    refine r_iadd (pc := 104) h dX4_comes_104 ?_
    refine r_top (y := nI (2 * k + 1)) h (nI_add _ _) ?_
    refine r_ialoadE (pc := 105) h dX4_comes_105 sh_47 (ixe (show 2 * k + 1 < 96 by omega) (by decide) t2) ?_
    refine r_callVi (pc := 106) (As := [_, _, _]) h dX4_comes_106 k_X4_135 gc_35 rfl ⟨Nat.le_of_ble_eq_true rfl, Nat.le_of_ble_eq_true rfl, Nat.le_of_ble_eq_true rfl⟩ (c_X4_comesOf_f hR ho (by unfold dg; omega) _ (by rw [hnu2]; omega)) (fun x_106 g3 hq => ?_)
    obtain ⟨rfl, hc1, hF⟩ := hq
    refine r_ri t (pc := 109) dX4_comes_109 (bI_nar _) ?_
    rw [tk, if_neg (by rw [e]; decide), if_neg (by rw [e]; decide), if_neg (by rw [e]; decide), if_neg (by rw [e]; decide), if_pos e]
    exact ⟨(tkI hc1).1, (tkI hc1).2, hF⟩
  · refine r_top (y := nI 114) h (by rw [e]) ?_
    refine r_lookup (pc := 10) (o := 75) (tgt := 85) h dX4_comes_10 (by decide) (by decide) (by decide) ?_
    have d1 := st_d hs (j := 1) (by decide) (by rw [e, sgn_114]; decide) (by omega)
    have d2 := st_d hs (j := 2) (by decide) (by rw [e, sgn_114]; decide) (by omega)
    have t1 := t3.trans (congrArg nI (tv1_d (by omega) (by omega) (by omega)))
    have t2 := (t4 (by omega) (by omega) (by omega)).trans (congrArg nI (tv2_n (by omega)))
    refine r_aload_n (pc := 85) h dX4_comes_85 rfl ?_
    refine r_aload_n (pc := 86) h dX4_comes_86 rfl ?_
    refine r_getR (pc := 87) h dX4_comes_87 f_X4_37 sh_35 rfl ?_
    refine r_iload_n (pc := 90) h dX4_comes_90 rfl ?_
    refine r_ialoadE (pc := 91) h dX4_comes_91 sh_45 (ixe hk48 (by decide) t0) ?_
    refine r_top (y := nI 114) h (by rw [e]) ?_
    refine r_aload_n (pc := 92) h dX4_comes_92 rfl ?_
    refine r_getR (pc := 93) h dX4_comes_93 f_X4_43 sh_35 rfl ?_
    refine r_iload_n (pc := 96) h dX4_comes_96 rfl ?_
    refine r_ialoadE (pc := 97) h dX4_comes_97 sh_47 (ixe (show 2 * k < 96 by omega) (by decide) t1) ?_
    refine r_aload_n (pc := 98) h dX4_comes_98 rfl ?_
    refine r_getR (pc := 99) h dX4_comes_99 f_X4_43 sh_35 rfl ?_
    refine r_iload_n (pc := 102) h dX4_comes_102 rfl ?_
    refine r_iconst (pc := 103) h dX4_comes_103 ci_1 ?_
    refine r_iadd (pc := 104) h dX4_comes_104 ?_
    refine r_top (y := nI (2 * k + 1)) h (nI_add _ _) ?_
    refine r_ialoadE (pc := 105) h dX4_comes_105 sh_47 (ixe (show 2 * k + 1 < 96 by omega) (by decide) t2) ?_
    refine r_callVi (pc := 106) (As := [_, _, _]) h dX4_comes_106 k_X4_135 gc_35 rfl ⟨Nat.le_of_ble_eq_true rfl, Nat.le_of_ble_eq_true rfl, Nat.le_of_ble_eq_true rfl⟩ (c_X4_comesOf_r hR ho (by unfold dg; omega) _ (by unfold dg; omega)) (fun x_106 g3 hq => ?_)
    obtain ⟨rfl, hc1, hF⟩ := hq
    refine r_ri t (pc := 109) dX4_comes_109 (bI_nar _) ?_
    rw [tk, if_neg (by rw [e]; decide), if_neg (by rw [e]; decide), if_neg (by rw [e]; decide), if_neg (by rw [e]; decide), if_neg (by rw [e]; decide), if_pos e]
    exact ⟨(tkI hc1).1, (tkI hc1).2, hF⟩
  · refine r_top (y := nI 100) h (by rw [e]) ?_
    refine r_lookup (pc := 10) (o := 64) (tgt := 74) h dX4_comes_10 (by decide) (by decide) (by decide) ?_
    have d1 := st_d hs (j := 1) (by decide) (by rw [e, sgn_100]; decide) (by omega)
    have d2 := st_d hs (j := 2) (by decide) (by rw [e, sgn_100]; decide) (by omega)
    have t1 := t3.trans (congrArg nI (tv1_n (by omega) (by omega)))
    refine r_aload_n (pc := 74) h dX4_comes_74 rfl ?_
    refine r_aload_n (pc := 75) h dX4_comes_75 rfl ?_
    refine r_getR (pc := 76) h dX4_comes_76 f_X4_43 sh_35 rfl ?_
    refine r_iload_n (pc := 79) h dX4_comes_79 rfl ?_
    refine r_ialoadE (pc := 80) h dX4_comes_80 sh_47 (ixe (show 2 * k < 96 by omega) (by decide) t1) ?_
    refine r_callVi (pc := 81) (As := [_]) h dX4_comes_81 k_X4_132 gc_35 rfl ⟨Nat.le_of_ble_eq_true rfl, Nat.le_of_ble_eq_true rfl, Nat.le_of_ble_eq_true rfl⟩ (c_X4_comesDays hR ho (by rw [hnu1]; omega)) (fun x_81 g3 hq => ?_)
    obtain ⟨rfl, hc1, hF⟩ := hq
    refine r_ri t (pc := 84) dX4_comes_84 (bI_nar _) ?_
    rw [tk, if_neg (by rw [e]; decide), if_neg (by rw [e]; decide), if_neg (by rw [e]; decide), if_neg (by rw [e]; decide), if_neg (by rw [e]; decide), if_neg (by rw [e]; decide)]
    exact ⟨(tkI hc1).1, (tkI hc1).2, hF⟩
set_option maxRecDepth 100000 in
set_option maxHeartbeats 4000000 in
theorem y_city (hR : Rm g c) (hX : MSr g ck hk lt nl rv nr rf) (ho : gok c) (hd : c 7 3 ≤ 999) : gCi mX4_city [.ref 35] g (fun y g1 => y = ansI (nI 0) (cityV lt nl c) ∧ Rm g1 (cityC lt nl c) ∧ MSr g1 ck hk lt 0 rv nr (rfI rf (nI 0)) ∧ frm 35 58 g g1) := by
  refine gCi_of (own := RX4) (ls0 := [.ref 35, .null, .null]) ⟨rfl, pl_X4⟩ rfl (Nat.le_of_ble_eq_true rfl) (fun G (h : gR RX4 cX4_city 8 320 G) (t : gTi cX4_city .int _ G) => ?_)
  have hlq : ∀ i, i < nl → lt i ≤ 255 := fun i hi => (hX.2.1.2.2 i hi).2
  have hn96 := hX.2.1.2.1
  have take : ∀ n, rdN lt nl = (none, n) → ∀ m (g2 : gG), MSr g2 ck hk lt 0 rv nr rf → frm 35 58 g g2 → g2 35 18 = nI n → TBl g2 lt n → ∀ k d, k + m = n → Rm g2 d → Rk g2 42 c → gok d → d 7 3 ≤ 999 → runK lt m k d = runK lt n 0 c → G 86 [.ref 35, .int (nI 1), .int (nI k)] [] g2 := by
    intro n hrd m
    have hn := rdN_n hrd
    have hn2 := pos_2 lt n
    induction m with
    | zero =>
      intro g2 hX2 hF2 h18 hB k d hk0 hR2 hK2 ho2 hd2 hz
      refine r_iload_n (pc := 86) h dX4_city_86 rfl ?_
      refine r_aload_n (pc := 87) h dX4_city_87 rfl ?_
      refine r_getE (pc := 88) h dX4_city_88 f_X4_103 sh_35 rfl (h18) ?_
      refine r_icmp_ge (pc := 91) (tgt := 128) h dX4_city_91 (by decide) (fun c91 => ?_) (fun c91 => absurd (nI_le (by omega) (by omega)) c91)
      refine r_aload_n (pc := 128) h dX4_city_128 rfl ?_
      refine r_getE (pc := 129) h dX4_city_129 f_X4_103 sh_35 rfl (h18) ?_
      refine r_ri t (pc := 132) dX4_city_132 rfl ?_
      rw [show cityC lt nl c = d by unfold cityC; rw [hrd]; dsimp only; rw [← hz]; rfl]
      exact y_ok hR2 hX2 hF2 rfl (by unfold cityV; rw [hrd]; dsimp only; rw [← hz]; rfl)
    | succ m ih =>
      intro g2 hX2 hF2 h18 hB k d hkm hR2 hK2 ho2 hd2 hz
      have hsk := hn.2.2 k (by omega)
      refine r_iload_n (pc := 86) h dX4_city_86 rfl ?_
      refine r_aload_n (pc := 87) h dX4_city_87 rfl ?_
      refine r_getE (pc := 88) h dX4_city_88 f_X4_103 sh_35 rfl (h18) ?_
      refine r_icmp_ge (pc := 91) (tgt := 128) h dX4_city_91 (by decide) (fun c91 => absurd c91 (nI_ge (by omega) (by omega))) (fun c91 => ?_)
      refine r_aload_n (pc := 94) h dX4_city_94 rfl ?_
      refine r_iload_n (pc := 95) h dX4_city_95 rfl ?_
      refine r_callVi (pc := 96) (As := [_]) h dX4_city_96 k_X4_146 gc_35 rfl ⟨Nat.le_of_ble_eq_true rfl, Nat.le_of_ble_eq_true rfl, Nat.le_of_ble_eq_true rfl⟩ (c_X4_comes hR2 ho2 hB (by omega) (by omega) hsk) (fun x_96 g3 hq => ?_)
      obtain ⟨rfl, hc1, hF3⟩ := hq
      refine r_if_eq (pc := 99) (tgt := 105) h dX4_city_99 (by decide) (fun c99 => ?_) (fun c99 => ?_)
      · have hb : (tk lt d (pos lt k)).isSome = false := (bI_0 ((tk lt d (pos lt k)).isSome)).mp c99
        have hk0 : tk lt d (pos lt k) = none := by simpa using hb
        have hz2 : runK lt n 0 c = (none, k) := by rw [← hz, runK, hk0]
        refine r_aload_n (pc := 105) h dX4_city_105 rfl ?_
        refine r_iconst (pc := 106) h dX4_city_106 ci_1 ?_
        refine r_iconst (pc := 107) h dX4_city_107 ci_0 ?_
        refine r_callVv (pc := 108) (As := [_, _]) h dX4_city_108 k_X4_142 gc_35 rfl ⟨Nat.le_of_ble_eq_true rfl, Nat.le_of_ble_eq_true rfl, Nat.le_of_ble_eq_true rfl⟩ (c_X4_passesAll_u42 (hK2.fm hF3)) (fun g4 hq => ?_)
        obtain ⟨hR4, hF4⟩ := hq
        refine r_sipush (pc := 111) h dX4_city_111 cs_m2000 ?_
        refine r_aload_n (pc := 114) h dX4_city_114 rfl ?_
        refine r_getR (pc := 115) h dX4_city_115 f_X4_40 sh_35 rfl ?_
        refine r_iload_n (pc := 118) h dX4_city_118 rfl ?_
        refine r_ialoadE (pc := 119) h dX4_city_119 sh_46 (ixe (show k < 48 by omega) (by decide) (((hB.fm hF3).uf hF4) k (by omega)).2.1) ?_
        refine r_isub (pc := 120) h dX4_city_120 ?_
        refine r_ri t (pc := 121) dX4_city_121 rfl ?_
        rw [show cityC lt nl c = c by unfold cityC; rw [hrd]; dsimp only; rw [hz2]]
        exact y_ok hR4 ((hX2.fm hF3).uf hF4) (hF2.tr (hF3.frm.tr hF4.frm)) rfl (by unfold cityV; rw [hrd]; dsimp only; rw [hz2])
      · obtain ⟨d2, hk0⟩ : ∃ d2, tk lt d (pos lt k) = some d2 := Option.ne_none_iff_exists'.mp (fun q => c99 (by rw [q]; rfl))
        have ho3 := tk_ok hsk ho2 hd2 hk0
        refine r_goto (pc := 102) (tgt := 122) h dX4_city_102 (by decide) ?_
        refine r_iinc (pc := 122) (ls2 := [_, _, _]) h dX4_city_122 rfl (ic1 _) rfl ?_
        refine r_goto (pc := 125) (tgt := 86) h dX4_city_125 (by decide) ?_
        exact ih _ (hX2.fm hF3) (hF2.tr hF3.frm) ((hF3 35 18 (by decide) (by decide)).trans h18) (hB.fm hF3) (k + 1) d2 (by omega) (hc1 d2 hk0) (hK2.fm hF3) ho3.1 ho3.2 (by rw [← hz, runK, hk0])
  have good : ∀ n (g2 : gG), rdN lt nl = (none, n) → rfr g g2 → g2 35 18 = nI n → TBl g2 lt n → ∀ v2 : Value, G 60 [.ref 35, .int (nI 1), v2] [] g2 := by
    intro n g2 hrd hF h18 hB v2
    refine r_aload_n (pc := 60) h dX4_city_60 rfl ?_
    refine r_iconst (pc := 61) h dX4_city_61 ci_0 ?_
    refine r_putI (pc := 62) h dX4_city_62 fw_X4_74 sh_35 rfl rfl rfl ?_
    refine r_iload_n (pc := 65) h dX4_city_65 rfl ?_
    refine r_if_ne (pc := 66) (tgt := 78) h dX4_city_66 (by decide) (fun c66 => ?_) (fun c66 => absurd c66 (by decide))
    refine r_aload_n (pc := 78) h dX4_city_78 rfl ?_
    refine r_iconst (pc := 79) h dX4_city_79 ci_1 ?_
    refine r_iconst (pc := 80) h dX4_city_80 ci_1 ?_
    refine r_callVv (pc := 81) (As := [_, _]) h dX4_city_81 k_X4_142 gc_35 rfl ⟨Nat.le_of_ble_eq_true rfl, Nat.le_of_ble_eq_true rfl, Nat.le_of_ble_eq_true rfl⟩ (c_X4_passesAll_k42 ((hR.rr hF).c16 _)) (fun g3 hq => ?_)
    obtain ⟨hK, hF3⟩ := hq
    refine r_iconst (pc := 84) h dX4_city_84 ci_0 ?_
    refine r_istore_n (pc := 85) (ls2 := [_, _, _]) h dX4_city_85 (Nat.le_of_ble_eq_true rfl) rfl ?_
    exact take n hrd n g3 ((hX.rr hF).cl.kf1 hF3) ((hF.frm.up (by decide)).tr hF3.frm) (by rw [hF3 35 18 (by omega) (by omega), gup_o (by decide)]; exact h18) ((hB.u35).kf hF3) 0 c (by omega) ((hR.rr hF).c16 _ |>.kf hF3) hK ho hd rfl
  have bad : ∀ (g2 : gG) (v2 : Value) (q n : Nat), rdN lt nl = (some q, n) → rfr g g2 → g2 35 17 = nI q → G 12 [.ref 35, .int (nI 0), v2] [] g2 := by
    intro g2 v2 q n hrd hF h17
    refine r_iload_n (pc := 12) h dX4_city_12 rfl ?_
    refine r_if_eq (pc := 13) (tgt := 60) h dX4_city_13 (by decide) (fun c13 => ?_) (fun c13 => absurd (rfl) c13)
    refine r_aload_n (pc := 60) h dX4_city_60 rfl ?_
    refine r_iconst (pc := 61) h dX4_city_61 ci_0 ?_
    refine r_putI (pc := 62) h dX4_city_62 fw_X4_74 sh_35 rfl rfl rfl ?_
    refine r_iload_n (pc := 65) h dX4_city_65 rfl ?_
    refine r_if_ne (pc := 66) (tgt := 78) h dX4_city_66 (by decide) (fun c66 => absurd (rfl) c66) (fun c66 => ?_)
    refine r_sipush (pc := 69) h dX4_city_69 cs_m1000 ?_
    refine r_aload_n (pc := 72) h dX4_city_72 rfl ?_
    refine r_getE (pc := 73) h dX4_city_73 f_X4_81 sh_35 rfl ((gup_o (by decide)).trans h17) ?_
    refine r_isub (pc := 76) h dX4_city_76 ?_
    refine r_ri t (pc := 77) dX4_city_77 rfl ?_
    rw [show cityC lt nl c = c by unfold cityC; rw [hrd]]
    exact y_ok ((hR.rr hF).c16 _) (hX.rr hF).cl (hF.frm.up (by decide)) rfl (by unfold cityV; rw [hrd])
  have loop : ∀ f k (g2 : gG) (v2 : Value), nl + 1 ≤ f + pos lt k → pos lt k ≤ nl → rdK lt nl f k = rdN lt nl → rfr g g2 → g2 35 17 = nI (pos lt k) → g2 35 18 = nI k → TBl g2 lt k → G 12 [.ref 35, .int (nI 1), v2] [] g2 := by
    intro f
    induction f with
    | zero => intro k g2 v2 h1 h2; omega
    | succ f ih =>
      intro k g2 v2 h1 h2 rdq hF h17 h18 hB
      have hk2 := pos_2 lt k
      refine r_iload_n (pc := 12) h dX4_city_12 rfl ?_
      refine r_if_eq (pc := 13) (tgt := 60) h dX4_city_13 (by decide) (fun c13 => absurd c13 (by decide)) (fun c13 => ?_)
      refine r_aload_n (pc := 16) h dX4_city_16 rfl ?_
      refine r_getE (pc := 17) h dX4_city_17 f_X4_81 sh_35 rfl (h17) ?_
      refine r_aload_n (pc := 20) h dX4_city_20 rfl ?_
      refine r_getE (pc := 21) h dX4_city_21 f_X4_74 sh_35 rfl ((hX.rr hF).2.1.1) ?_
      refine r_icmp_lt (pc := 24) (tgt := 34) h dX4_city_24 (by decide) (fun c24 => ?_) (fun c24 => ?_)
      · have hpl : pos lt k < nl := (nI_ltI (by omega) (by omega)).mp c24
        have hne : ¬ (nl ≤ pos lt k ∧ 0 < k) := fun q => by omega
        refine r_aload_n (pc := 34) h dX4_city_34 rfl ?_
        refine r_callVi (pc := 35) (As := []) h dX4_city_35 k_X4_138 gc_35 rfl ⟨Nat.le_of_ble_eq_true rfl, Nat.le_of_ble_eq_true rfl, Nat.le_of_ble_eq_true rfl⟩ (c_X4_statement (hX.rr hF) h17 h18 (by omega) (fun q => by omega)) (fun x_35 g3 hq => ?_)
        obtain ⟨rfl, r1, r2, r3⟩ := hq
        have hF3 := hF.tr r3.r
        refine r_istore_n (pc := 38) (ls2 := [_, _, _]) h dX4_city_38 (Nat.le_of_ble_eq_true rfl) rfl ?_
        refine r_aload_n (pc := 39) h dX4_city_39 rfl ?_
        refine r_dup (pc := 40) h dX4_city_40 rfl ?_
        refine r_getE (pc := 41) h dX4_city_41 f_X4_103 sh_35 rfl ((r3 35 18 (by omega) (by omega) (by omega)).trans h18) ?_
        refine r_iload_n (pc := 44) h dX4_city_44 rfl ?_
        refine r_if_eq (pc := 45) (tgt := 52) h dX4_city_45 (by decide) (fun c45 => ?_) (fun c45 => ?_)
        · have hb : (stB lt nl (pos lt k)).isNone = false := (bI_0 ((stB lt nl (pos lt k)).isNone)).mp c45
          obtain ⟨q, hq1⟩ : ∃ q, stB lt nl (pos lt k) = some q := Option.ne_none_iff_exists'.mp (fun z => absurd hb (by rw [z]; decide))
          rw [hb]
          refine r_iconst (pc := 52) h dX4_city_52 ci_0 ?_
          refine r_iadd (pc := 53) h dX4_city_53 ?_
          first | refine r_top (y := nI (k + 1)) h (nI_add _ _) ?_ | refine r_top (y := nI (k + 0)) h (nI_add _ _) ?_
          refine r_putI (pc := 54) h dX4_city_54 fw_X4_103 sh_35 rfl rfl rfl ?_
          refine r_goto (pc := 57) (tgt := 12) h dX4_city_57 (by decide) ?_
          exact bad _ _ _ _ (rdq.symm.trans (rdK_out hne hq1)) (hF3.tr (fun a b z1 z2 => gup_o (by omega))) ((gup_o (by decide)).trans (by rw [r1, hq1]; rfl))
        · have hb : (stB lt nl (pos lt k)).isNone = true := by simpa using mt (bI_0 ((stB lt nl (pos lt k)).isNone)).mpr c45
          have hq1 : stB lt nl (pos lt k) = none := Option.isNone_iff_eq_none.mp hb
          have hp2 := pos_le hq1
          have rdq2 := (rdK_in hne hq1).symm.trans rdq
          rw [hb]
          refine r_iconst (pc := 48) h dX4_city_48 ci_1 ?_
          refine r_goto (pc := 49) (tgt := 53) h dX4_city_49 (by decide) ?_
          refine r_iadd (pc := 53) h dX4_city_53 ?_
          first | refine r_top (y := nI (k + 1)) h (nI_add _ _) ?_ | refine r_top (y := nI (k + 0)) h (nI_add _ _) ?_
          refine r_putI (pc := 54) h dX4_city_54 fw_X4_103 sh_35 rfl rfl rfl ?_
          refine r_goto (pc := 57) (tgt := 12) h dX4_city_57 (by decide) ?_
          exact ih (k + 1) _ _ (by show nl + 1 ≤ f + (pos lt k + (sgn (lt (pos lt k)) + 2)); omega) hp2.1 (rdq2) (hF3.tr (fun a b z1 z2 => gup_o (by omega))) ((gup_o (by decide)).trans (by rw [r1, hq1]; rfl)) gup_s ((hB.s r3 (r2 hb)).u35)
      · have hpl : ¬ pos lt k < nl := fun q => c24 (nI_lt q (by omega))
        refine r_aload_n (pc := 27) h dX4_city_27 rfl ?_
        refine r_getE (pc := 28) h dX4_city_28 f_X4_103 sh_35 rfl (h18) ?_
        refine r_if_ne (pc := 31) (tgt := 60) h dX4_city_31 (by decide) (fun c31 => ?_) (fun c31 => ?_)
        · have hk0 : 0 < k := Nat.pos_of_ne_zero fun q => c31 (by rw [q]; rfl)
          exact good k _ (rdq.symm.trans (rdK_end ⟨Nat.le_of_not_lt hpl, hk0⟩)) hF h18 hB _
        · have hk0 : k = 0 := (nI_eq0 (by omega)).mp c31
          have hne : ¬ (nl ≤ pos lt k ∧ 0 < k) := fun q => by omega
          refine r_aload_n (pc := 34) h dX4_city_34 rfl ?_
          refine r_callVi (pc := 35) (As := []) h dX4_city_35 k_X4_138 gc_35 rfl ⟨Nat.le_of_ble_eq_true rfl, Nat.le_of_ble_eq_true rfl, Nat.le_of_ble_eq_true rfl⟩ (c_X4_statement (hX.rr hF) h17 h18 (by omega) (fun q => by omega)) (fun x_35 g3 hq => ?_)
          obtain ⟨rfl, r1, r2, r3⟩ := hq
          have hF3 := hF.tr r3.r
          refine r_istore_n (pc := 38) (ls2 := [_, _, _]) h dX4_city_38 (Nat.le_of_ble_eq_true rfl) rfl ?_
          refine r_aload_n (pc := 39) h dX4_city_39 rfl ?_
          refine r_dup (pc := 40) h dX4_city_40 rfl ?_
          refine r_getE (pc := 41) h dX4_city_41 f_X4_103 sh_35 rfl ((r3 35 18 (by omega) (by omega) (by omega)).trans h18) ?_
          refine r_iload_n (pc := 44) h dX4_city_44 rfl ?_
          refine r_if_eq (pc := 45) (tgt := 52) h dX4_city_45 (by decide) (fun c45 => ?_) (fun c45 => ?_)
          · have hb : (stB lt nl (pos lt k)).isNone = false := (bI_0 ((stB lt nl (pos lt k)).isNone)).mp c45
            obtain ⟨q, hq1⟩ : ∃ q, stB lt nl (pos lt k) = some q := Option.ne_none_iff_exists'.mp (fun z => absurd hb (by rw [z]; decide))
            rw [hb]
            refine r_iconst (pc := 52) h dX4_city_52 ci_0 ?_
            refine r_iadd (pc := 53) h dX4_city_53 ?_
            first | refine r_top (y := nI (k + 1)) h (nI_add _ _) ?_ | refine r_top (y := nI (k + 0)) h (nI_add _ _) ?_
            refine r_putI (pc := 54) h dX4_city_54 fw_X4_103 sh_35 rfl rfl rfl ?_
            refine r_goto (pc := 57) (tgt := 12) h dX4_city_57 (by decide) ?_
            exact bad _ _ _ _ (rdq.symm.trans (rdK_out hne hq1)) (hF3.tr (fun a b z1 z2 => gup_o (by omega))) ((gup_o (by decide)).trans (by rw [r1, hq1]; rfl))
          · have hb : (stB lt nl (pos lt k)).isNone = true := by simpa using mt (bI_0 ((stB lt nl (pos lt k)).isNone)).mpr c45
            have hq1 : stB lt nl (pos lt k) = none := Option.isNone_iff_eq_none.mp hb
            have hp2 := pos_le hq1
            have rdq2 := (rdK_in hne hq1).symm.trans rdq
            rw [hb]
            refine r_iconst (pc := 48) h dX4_city_48 ci_1 ?_
            refine r_goto (pc := 49) (tgt := 53) h dX4_city_49 (by decide) ?_
            refine r_iadd (pc := 53) h dX4_city_53 ?_
            first | refine r_top (y := nI (k + 1)) h (nI_add _ _) ?_ | refine r_top (y := nI (k + 0)) h (nI_add _ _) ?_
            refine r_putI (pc := 54) h dX4_city_54 fw_X4_103 sh_35 rfl rfl rfl ?_
            refine r_goto (pc := 57) (tgt := 12) h dX4_city_57 (by decide) ?_
            exact ih (k + 1) _ _ (by show nl + 1 ≤ f + (pos lt k + (sgn (lt (pos lt k)) + 2)); omega) hp2.1 (rdq2) (hF3.tr (fun a b z1 z2 => gup_o (by omega))) ((gup_o (by decide)).trans (by rw [r1, hq1]; rfl)) gup_s ((hB.s r3 (r2 hb)).u35)
  refine r_aload_n (pc := 0) h dX4_city_0 rfl ?_
  refine r_iconst (pc := 1) h dX4_city_1 ci_0 ?_
  refine r_putI (pc := 2) h dX4_city_2 fw_X4_81 sh_35 rfl rfl rfl ?_
  refine r_aload_n (pc := 5) h dX4_city_5 rfl ?_
  refine r_iconst (pc := 6) h dX4_city_6 ci_0 ?_
  refine r_putI (pc := 7) h dX4_city_7 fw_X4_103 sh_35 rfl rfl rfl ?_
  refine r_iconst (pc := 10) h dX4_city_10 ci_1 ?_
  refine r_istore_n (pc := 11) (ls2 := [_, _, _]) h dX4_city_11 (Nat.le_of_ble_eq_true rfl) rfl ?_
  exact loop (nl + 1) 0 _ _ (by omega) (Nat.zero_le _) rfl (fun a b z1 z2 => by rw [gup_o (by omega), gup_o (by omega)]) ((gup_o (by decide)).trans gup_s) gup_s (fun j hj => absurd hj (by omega))
end TX
