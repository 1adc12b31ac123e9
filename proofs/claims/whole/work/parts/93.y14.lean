section TX
variable {g : gG} {c ck : gCt} {hk : Bool} {lt : Nat → Nat} {nl : Nat} {rv : Nat → Nat} {nr : Nat} {rf : Nat → Int32}
set_option maxRecDepth 100000 in
set_option maxHeartbeats 4000000 in
theorem c_X4_letterNow (hX : MSr g ck hk lt nl rv nr rf) {p : Nat} (h17 : g 35 17 = nI p) (hp : p ≤ 1000) : gCi mX4_letterNow [.ref 35] g (fun y g1 => y = lnI lt nl p ∧ g1 = g) := by
  refine gCi_of (own := RX4) (ls0 := [.ref 35]) ⟨rfl, pl_X4⟩ rfl (Nat.le_of_ble_eq_true rfl) (fun G (h : gR RX4 cX4_letterNow 0 0 G) (t : gTi cX4_letterNow .int _ G) => ?_)
  have hlq : ∀ i, i < nl → lt i ≤ 255 := fun i hi => (hX.2.1.2.2 i hi).2
  have hn96 := hX.2.1.2.1
  refine r_aload_n (pc := 0) h dX4_letterNow_0 rfl ?_
  refine r_getE (pc := 1) h dX4_letterNow_1 f_X4_81 sh_35 rfl (h17) ?_
  refine r_aload_n (pc := 4) h dX4_letterNow_4 rfl ?_
  refine r_getE (pc := 5) h dX4_letterNow_5 f_X4_74 sh_35 rfl (hX.2.1.1) ?_
  refine r_icmp_ge (pc := 8) (tgt := 23) h dX4_letterNow_8 (by decide) (fun c8 => ?_) (fun c8 => ?_)
  · have e : ¬ p < nl := fun q => nI_ge q (by omega) c8
    refine r_iconst (pc := 23) h dX4_letterNow_23 ci_m1 ?_
    refine r_ri t (pc := 24) dX4_letterNow_24 rfl ?_
    exact ⟨by rw [lnI, if_neg e], rfl⟩
  · have e : p < nl := Nat.lt_of_not_le fun q => c8 (nI_le q (by omega))
    refine r_aload_n (pc := 11) h dX4_letterNow_11 rfl ?_
    refine r_getR (pc := 12) h dX4_letterNow_12 f_X4_34 sh_35 rfl ?_
    refine r_aload_n (pc := 15) h dX4_letterNow_15 rfl ?_
    refine r_getE (pc := 16) h dX4_letterNow_16 f_X4_81 sh_35 rfl (h17) ?_
    refine r_ialoadE (pc := 19) h dX4_letterNow_19 sh_44 (hX.le e) ?_
    refine r_goto (pc := 20) (tgt := 24) h dX4_letterNow_20 (by decide) ?_
    refine r_ri t (pc := 24) dX4_letterNow_24 rfl ?_
    exact ⟨by rw [lnI, if_pos e], rfl⟩
set_option maxRecDepth 100000 in
set_option maxHeartbeats 4000000 in
theorem c_X4_kindOf (x : Int32) : gCi mX4_kindOf [.int x] g (fun y g1 => y = kdJ x ∧ g1 = g) := by
  refine gCi_of (own := RX4) (ls0 := [.int x]) ⟨rfl, pl_X4⟩ rfl (Nat.le_of_ble_eq_true rfl) (fun G (h : gR RX4 cX4_kindOf 0 0 G) (t : gTi cX4_kindOf .int _ G) => ?_)
  refine r_iload_n (pc := 0) h dX4_kindOf_0 rfl ?_
  refine r_bipush (pc := 1) h dX4_kindOf_1 cb_112 ?_
  refine r_icmp_ne (pc := 3) (tgt := 10) h dX4_kindOf_3 (by decide) (fun c3 => ?_) (fun c3 => ?_)
  · refine r_iload_n (pc := 10) h dX4_kindOf_10 rfl ?_
    refine r_bipush (pc := 11) h dX4_kindOf_11 cb_109 ?_
    refine r_icmp_ne (pc := 13) (tgt := 20) h dX4_kindOf_13 (by decide) (fun c13 => ?_) (fun c13 => ?_)
    · refine r_iload_n (pc := 20) h dX4_kindOf_20 rfl ?_
      refine r_bipush (pc := 21) h dX4_kindOf_21 cb_103 ?_
      refine r_icmp_ne (pc := 23) (tgt := 30) h dX4_kindOf_23 (by decide) (fun c23 => ?_) (fun c23 => ?_)
      · refine r_iload_n (pc := 30) h dX4_kindOf_30 rfl ?_
        refine r_bipush (pc := 31) h dX4_kindOf_31 cb_102 ?_
        refine r_icmp_ne (pc := 33) (tgt := 40) h dX4_kindOf_33 (by decide) (fun c33 => ?_) (fun c33 => ?_)
        · refine r_iload_n (pc := 40) h dX4_kindOf_40 rfl ?_
          refine r_bipush (pc := 41) h dX4_kindOf_41 cb_98 ?_
          refine r_icmp_ne (pc := 43) (tgt := 50) h dX4_kindOf_43 (by decide) (fun c43 => ?_) (fun c43 => ?_)
          · refine r_iload_n (pc := 50) h dX4_kindOf_50 rfl ?_
            refine r_bipush (pc := 51) h dX4_kindOf_51 cb_111 ?_
            refine r_icmp_ne (pc := 53) (tgt := 60) h dX4_kindOf_53 (by decide) (fun c53 => ?_) (fun c53 => ?_)
            · refine r_iconst (pc := 60) h dX4_kindOf_60 ci_m1 ?_
              refine r_ri t (pc := 61) dX4_kindOf_61 rfl ?_
              exact ⟨by rw [kdJ, if_neg c3, if_neg c13, if_neg c23, if_neg c33, if_neg c43, if_neg c53], rfl⟩
            · refine r_iconst (pc := 56) h dX4_kindOf_56 ci_5 ?_
              refine r_goto (pc := 57) (tgt := 61) h dX4_kindOf_57 (by decide) ?_
              refine r_ri t (pc := 61) dX4_kindOf_61 rfl ?_
              exact ⟨by rw [kdJ, if_neg c3, if_neg c13, if_neg c23, if_neg c33, if_neg c43, if_pos c53], rfl⟩
          · refine r_iconst (pc := 46) h dX4_kindOf_46 ci_4 ?_
            refine r_goto (pc := 47) (tgt := 61) h dX4_kindOf_47 (by decide) ?_
            refine r_ri t (pc := 61) dX4_kindOf_61 rfl ?_
            exact ⟨by rw [kdJ, if_neg c3, if_neg c13, if_neg c23, if_neg c33, if_pos c43], rfl⟩
        · refine r_iconst (pc := 36) h dX4_kindOf_36 ci_3 ?_
          refine r_goto (pc := 37) (tgt := 61) h dX4_kindOf_37 (by decide) ?_
          refine r_ri t (pc := 61) dX4_kindOf_61 rfl ?_
          exact ⟨by rw [kdJ, if_neg c3, if_neg c13, if_neg c23, if_pos c33], rfl⟩
      · refine r_iconst (pc := 26) h dX4_kindOf_26 ci_2 ?_
        refine r_goto (pc := 27) (tgt := 61) h dX4_kindOf_27 (by decide) ?_
        refine r_ri t (pc := 61) dX4_kindOf_61 rfl ?_
        exact ⟨by rw [kdJ, if_neg c3, if_neg c13, if_pos c23], rfl⟩
    · refine r_iconst (pc := 16) h dX4_kindOf_16 ci_1 ?_
      refine r_goto (pc := 17) (tgt := 61) h dX4_kindOf_17 (by decide) ?_
      refine r_ri t (pc := 61) dX4_kindOf_61 rfl ?_
      exact ⟨by rw [kdJ, if_neg c3, if_pos c13], rfl⟩
  · refine r_iconst (pc := 6) h dX4_kindOf_6 ci_0 ?_
    refine r_goto (pc := 7) (tgt := 61) h dX4_kindOf_7 (by decide) ?_
    refine r_ri t (pc := 61) dX4_kindOf_61 rfl ?_
    exact ⟨by rw [kdJ, if_pos c3], rfl⟩
set_option maxRecDepth 100000 in
set_option maxHeartbeats 4000000 in
theorem c_X4_readsDigits (hX : MSr g ck hk lt nl rv nr rf) {p0 q d : Nat} (h0 : g 35 17 = nI p0) (hp0 : p0 ≤ 200) (hq : q < 96) (hd2 : d ≤ 2) : gCi mX4_readsDigits [.ref 35, .int (nI q), .int (nI d)] g (fun y g1 => y = bI (dgs lt nl d p0 0).1 ∧ g1 35 17 = nI (dgs lt nl d p0 0).2.1 ∧ ((dgs lt nl d p0 0).1 = true → g1 47 q = nI (dgs lt nl d p0 0).2.2) ∧ ofr q g g1) := by
  refine gCi_of (own := RX4) (ls0 := [.ref 35, .int (nI q), .int (nI d), .null, .null]) ⟨rfl, pl_X4⟩ rfl (Nat.le_of_ble_eq_true rfl) (fun G (h : gR RX4 cX4_readsDigits 1 40 G) (t : gTi cX4_readsDigits .boolean _ G) => ?_)
  have hlq : ∀ i, i < nl → lt i ≤ 255 := fun i hi => (hX.2.1.2.2 i hi).2
  have hn96 := hX.2.1.2.1
  have loop : ∀ m n p v (g2 : gG), n + m = d → p + m ≤ 300 → MSr g2 ck hk lt nl rv nr rf → g2 35 17 = nI p → ofr q g g2 → dgs lt nl m p v = dgs lt nl d p0 0 → G 5 [.ref 35, .int (nI q), .int (nI d), .int (nI v), .int (nI n)] [] g2 := by
    intro m
    induction m with
    | zero =>
      intro n p v g2 hn hp hX2 h17 hF hz
      refine r_iload (pc := 5) h dX4_readsDigits_5 rfl ?_
      refine r_iload_n (pc := 7) h dX4_readsDigits_7 rfl ?_
      refine r_icmp_ge (pc := 8) (tgt := 56) h dX4_readsDigits_8 (by decide) (fun c8 => ?_) (fun c8 => absurd (nI_le (by omega) (by omega)) c8)
      refine r_aload_n (pc := 56) h dX4_readsDigits_56 rfl ?_
      refine r_getR (pc := 57) h dX4_readsDigits_57 f_X4_43 sh_35 rfl ?_
      refine r_iload_n (pc := 60) h dX4_readsDigits_60 rfl ?_
      refine r_iload_n (pc := 61) h dX4_readsDigits_61 rfl ?_
      refine r_iastore (pc := 62) h dX4_readsDigits_62 sh_47 (vp_in_nI hq (by decide)) ?_
      refine r_iconst (pc := 63) h dX4_readsDigits_63 ci_1 ?_
      refine r_ri t (pc := 64) dX4_readsDigits_64 (by decide) ?_
      rw [nI_clamp (by omega)]
      exact ⟨by rw [← hz]; rfl, by rw [gup_ne (by decide), ← hz]; exact h17, fun _ => by rw [gup_s, ← hz]; rfl, hF.u47 _⟩
    | succ m ih =>
      intro n p v g2 hn hp hX2 h17 hF hz
      refine r_iload (pc := 5) h dX4_readsDigits_5 rfl ?_
      refine r_iload_n (pc := 7) h dX4_readsDigits_7 rfl ?_
      refine r_icmp_ge (pc := 8) (tgt := 56) h dX4_readsDigits_8 (by decide) (fun c8 => absurd c8 (nI_ge (by omega) (by omega))) (fun c8 => ?_)
      refine r_aload_n (pc := 11) h dX4_readsDigits_11 rfl ?_
      refine r_callVi (pc := 12) (As := []) h dX4_readsDigits_12 k_X4_84 gc_35 rfl ⟨Nat.le_of_ble_eq_true rfl, Nat.le_of_ble_eq_true rfl, Nat.le_of_ble_eq_true rfl⟩ (c_X4_letterNow hX2 h17 (by omega)) (fun x_12 g3 hq => ?_)
      obtain ⟨rfl, rfl⟩ := hq
      refine r_bipush (pc := 15) h dX4_readsDigits_15 cb_48 ?_
      refine r_bipush (pc := 17) h dX4_readsDigits_17 cb_57 ?_
      refine r_callSi (pc := 19) (As := [_, _, _]) h dX4_readsDigits_19 k_X4_88 rfl ⟨Nat.le_of_ble_eq_true rfl, Nat.le_of_ble_eq_true rfl, Nat.le_of_ble_eq_true rfl⟩ (c_X4_isIn _ _ _) (fun x_19 g3 hq => ?_)
      rw [lnD (hlq p)] at hq
      obtain ⟨rfl, rfl⟩ := hq
      refine r_if_ne (pc := 22) (tgt := 27) h dX4_readsDigits_22 (by decide) (fun c22 => ?_) (fun c22 => ?_)
      · have hb : dB lt nl p = true := by simpa using mt (bI_0 (dB lt nl p)).mpr c22
        have hb3 := dB_t hb
        refine r_bipush (pc := 27) h dX4_readsDigits_27 cb_10 ?_
        refine r_iload_n (pc := 29) h dX4_readsDigits_29 rfl ?_
        refine r_imul (pc := 30) h dX4_readsDigits_30 ?_
        refine r_aload_n (pc := 31) h dX4_readsDigits_31 rfl ?_
        refine r_callVi (pc := 32) (As := []) h dX4_readsDigits_32 k_X4_84 gc_35 rfl ⟨Nat.le_of_ble_eq_true rfl, Nat.le_of_ble_eq_true rfl, Nat.le_of_ble_eq_true rfl⟩ (c_X4_letterNow hX2 h17 (by omega)) (fun x_32 g3 hq => ?_)
        rw [ln_in hb3.1] at hq
        obtain ⟨rfl, rfl⟩ := hq
        refine r_iadd (pc := 35) h dX4_readsDigits_35 ?_
        refine r_bipush (pc := 36) h dX4_readsDigits_36 cb_48 ?_
        refine r_isub (pc := 38) h dX4_readsDigits_38 ?_
        refine r_top (y := nI (10 * v + dg lt p)) h (by rw [pk_mul, nI_add, nI_sub (by omega), show 10 * v + lt p - 48 = 10 * v + dg lt p by unfold dg; omega]) ?_
        refine r_istore_n (pc := 39) (ls2 := [_, _, _, _, _]) h dX4_readsDigits_39 (Nat.le_of_ble_eq_true rfl) rfl ?_
        refine r_aload_n (pc := 40) h dX4_readsDigits_40 rfl ?_
        refine r_dup (pc := 41) h dX4_readsDigits_41 rfl ?_
        refine r_getE (pc := 42) h dX4_readsDigits_42 f_X4_81 sh_35 rfl (h17) ?_
        refine r_iconst (pc := 45) h dX4_readsDigits_45 ci_1 ?_
        refine r_iadd (pc := 46) h dX4_readsDigits_46 ?_
        refine r_top (y := nI (p + 1)) h (nI_add _ _) ?_
        refine r_putI (pc := 47) h dX4_readsDigits_47 fw_X4_81 sh_35 rfl rfl rfl ?_
        refine r_iinc (pc := 50) (ls2 := [_, _, _, _, _]) h dX4_readsDigits_50 rfl (ic1 _) rfl ?_
        refine r_goto (pc := 53) (tgt := 5) h dX4_readsDigits_53 (by decide) ?_
        exact ih (n + 1) (p + 1) _ _ (by omega) (by omega) (hX2.rr ((ofr.rf (q := 0)).u17 _).r) gup_s (hF.u17 _) (by rw [← hz, dgs, if_pos hb])
      · have hb : dB lt nl p = false := (bI_0 (dB lt nl p)).mp c22
        refine r_iconst (pc := 25) h dX4_readsDigits_25 ci_0 ?_
        refine r_ri t (pc := 26) dX4_readsDigits_26 (by decide) ?_
        exact ⟨by rw [← hz, dgs, if_neg (by rw [hb]; decide)]; rfl, by rw [← hz, dgs, if_neg (by rw [hb]; decide)]; exact h17, fun q => absurd q (by rw [← hz, dgs, if_neg (by rw [hb]; decide)]; simp), hF⟩
  refine r_iconst (pc := 0) h dX4_readsDigits_0 ci_0 ?_
  refine r_istore_n (pc := 1) (ls2 := [_, _, _, _, _]) h dX4_readsDigits_1 (Nat.le_of_ble_eq_true rfl) rfl ?_
  refine r_iconst (pc := 2) h dX4_readsDigits_2 ci_0 ?_
  refine r_istore (pc := 3) (ls2 := [_, _, _, _, _]) h dX4_readsDigits_3 (Nat.le_of_ble_eq_true rfl) rfl ?_
  exact loop d 0 p0 0 g (by omega) (by omega) hX h0 ofr.rf rfl
set_option maxRecDepth 100000 in
set_option maxHeartbeats 4000000 in
theorem c_X4_readsSuit (hX : MSr g ck hk lt nl rv nr rf) {p q : Nat} (h17 : g 35 17 = nI p) (hp : p ≤ 150) (hq : q + 1 < 96) : gCi mX4_readsSuit [.ref 35, .int (nI q)] g (fun y g1 => y = bI (ksB lt nl p && dB lt nl (p + 1)) ∧ g1 35 17 = nI (if ksB lt nl p = true then (if dB lt nl (p + 1) = true then p + 2 else p + 1) else p) ∧ ((ksB lt nl p && dB lt nl (p + 1)) = true → g1 47 q = nI (kdx (lt p)) ∧ g1 47 (q + 1) = nI (dg lt (p + 1))) ∧ qfr q g g1) := by
  refine gCi_of (own := RX4) (ls0 := [.ref 35, .int (nI q)]) ⟨rfl, pl_X4⟩ rfl (Nat.le_of_ble_eq_true rfl) (fun G (h : gR RX4 cX4_readsSuit 2 80 G) (t : gTi cX4_readsSuit .boolean _ G) => ?_)
  have hlq : ∀ i, i < nl → lt i ≤ 255 := fun i hi => (hX.2.1.2.2 i hi).2
  have hn96 := hX.2.1.2.1
  have eq : (nI q).toNatClampNeg = q := nI_clamp (by omega)
  refine r_aload_n (pc := 0) h dX4_readsSuit_0 rfl ?_
  refine r_getR (pc := 1) h dX4_readsSuit_1 f_X4_43 sh_35 rfl ?_
  refine r_iload_n (pc := 4) h dX4_readsSuit_4 rfl ?_
  refine r_aload_n (pc := 5) h dX4_readsSuit_5 rfl ?_
  refine r_callVi (pc := 6) (As := []) h dX4_readsSuit_6 k_X4_84 gc_35 rfl ⟨Nat.le_of_ble_eq_true rfl, Nat.le_of_ble_eq_true rfl, Nat.le_of_ble_eq_true rfl⟩ (c_X4_letterNow hX h17 (by omega)) (fun x_6 g3 hq_ => ?_)
  obtain ⟨rfl, hg3⟩ := hq_
  rw [hg3]
  refine r_callSi (pc := 9) (As := [_]) h dX4_readsSuit_9 k_X4_92 rfl ⟨Nat.le_of_ble_eq_true rfl, Nat.le_of_ble_eq_true rfl, Nat.le_of_ble_eq_true rfl⟩ (c_X4_kindOf _) (fun x_9 g3 hq_ => ?_)
  obtain ⟨rfl, hg3⟩ := hq_
  rw [hg3, lnK (hlq p)]
  refine r_iastore (pc := 12) h dX4_readsSuit_12 sh_47 (vp_in_nI (show q < 96 by omega) (by decide)) ?_
  rw [eq]
  refine r_aload_n (pc := 13) h dX4_readsSuit_13 rfl ?_
  refine r_getR (pc := 14) h dX4_readsSuit_14 f_X4_43 sh_35 rfl ?_
  refine r_iload_n (pc := 17) h dX4_readsSuit_17 rfl ?_
  refine r_ialoadE (pc := 18) h dX4_readsSuit_18 sh_47 (⟨vp_in_nI (show q < 96 by omega) (by decide), (by rw [eq]; exact gup_s : gup g 47 q (if ksB lt nl p = true then nI (kdx (lt p)) else -1) 47 (nI q).toNatClampNeg = (if ksB lt nl p = true then nI (kdx (lt p)) else -1))⟩) ?_
  refine r_if_ge (pc := 19) (tgt := 24) h dX4_readsSuit_19 (by decide) (fun c19 => ?_) (fun c19 => ?_)
  · have hb : ksB lt nl p = true := Classical.byContradiction fun q_ => absurd c19 (by rw [if_neg q_]; decide)
    rw [if_pos hb]
    refine r_aload_n (pc := 24) h dX4_readsSuit_24 rfl ?_
    refine r_dup (pc := 25) h dX4_readsSuit_25 rfl ?_
    refine r_getE (pc := 26) h dX4_readsSuit_26 f_X4_81 sh_35 rfl ((by rw [gup_ne (by decide)]; exact h17 : _ = nI p)) ?_
    refine r_iconst (pc := 29) h dX4_readsSuit_29 ci_1 ?_
    refine r_iadd (pc := 30) h dX4_readsSuit_30 ?_
    refine r_top (y := nI (p + 1)) h (nI_add _ _) ?_
    refine r_putI (pc := 31) h dX4_readsSuit_31 fw_X4_81 sh_35 rfl rfl rfl ?_
    refine r_aload_n (pc := 34) h dX4_readsSuit_34 rfl ?_
    refine r_iload_n (pc := 35) h dX4_readsSuit_35 rfl ?_
    refine r_iconst (pc := 36) h dX4_readsSuit_36 ci_1 ?_
    refine r_iadd (pc := 37) h dX4_readsSuit_37 ?_
    refine r_top (y := nI (q + 1)) h (nI_add _ _) ?_
    refine r_iconst (pc := 38) h dX4_readsSuit_38 ci_1 ?_
    refine r_callVi (pc := 39) (As := [_, _]) h dX4_readsSuit_39 k_X4_95 gc_35 rfl ⟨Nat.le_of_ble_eq_true rfl, Nat.le_of_ble_eq_true rfl, Nat.le_of_ble_eq_true rfl⟩ (c_X4_readsDigits (hX.rr (fun a b z1 z2 => by rw [gup_o (by omega), gup_o (by omega)])) gup_s (by omega) hq (by decide)) (fun x_39 g3 hq_ => ?_)
    have hq_ := rdp1 hq_
    obtain ⟨rfl, r1, r2, r3⟩ := hq_
    refine r_ri t (pc := 42) dX4_readsSuit_42 (bI_nar _) ?_
    rw [hb, Bool.true_and, if_pos rfl]
    exact ⟨rfl, r1, fun z => ⟨by rw [r3 47 q (by omega) (by omega), gup_ne (by decide), gup_s], r2 z⟩, fun a b z1 z2 => by rw [r3 a b (by omega) z2, gup_o z2, gup_o (by omega)]⟩
  · have hb : ksB lt nl p = false := Bool.eq_false_iff.mpr fun q_ => c19 (by rw [if_pos q_]; exact nI_pos' (by have := kdx_le (lt p); omega))
    rw [if_neg (by rw [hb]; decide)]
    refine r_iconst (pc := 22) h dX4_readsSuit_22 ci_0 ?_
    refine r_ri t (pc := 23) dX4_readsSuit_23 (by decide) ?_
    exact ⟨by rw [hb]; rfl, by rw [gup_ne (by decide), if_neg (by rw [hb]; decide)]; exact h17, fun q_ => absurd q_ (by rw [hb]; simp), fun a b z1 z2 => gup_o (by omega)⟩
set_option maxRecDepth 100000 in
set_option maxHeartbeats 4000000 in
theorem c_X4_readsAll (hX : MSr g ck hk lt nl rv nr rf) {p q : Nat} (h17 : g 35 17 = nI (p + 1)) (hp : p ≤ 100) (hq : q + 1 < 96) (hcase : lt p = 115 ∨ lt p = 99 ∨ lt p = 119 ∨ lt p = 111 ∨ lt p = 102 ∨ lt p = 114 ∨ lt p = 100) : gCi mX4_readsAll [.ref 35, .int (nI (lt p)), .int (nI q)] g (fun y g1 => y = bI (rdW lt nl p).isNone ∧ g1 35 17 = nI ((rdW lt nl p).getD (p + 1 + sgn (lt p))) ∧ ((rdW lt nl p).isNone = true → g1 47 q = nI (tv1 lt p) ∧ (¬ lt p = 99 → ¬ lt p = 100 → ¬ lt p = 111 → g1 47 (q + 1) = nI (tv2 lt p))) ∧ qfr q g g1) := by
  refine gCi_of (own := RX4) (ls0 := [.ref 35, .int (nI (lt p)), .int (nI q)]) ⟨rfl, pl_X4⟩ rfl (Nat.le_of_ble_eq_true rfl) (fun G (h : gR RX4 cX4_readsAll 3 120 G) (t : gTi cX4_readsAll .boolean _ G) => ?_)
  have hlq : ∀ i, i < nl → lt i ≤ 255 := fun i hi => (hX.2.1.2.2 i hi).2
  have hn96 := hX.2.1.2.1
  refine r_iload_n (pc := 0) h dX4_readsAll_0 rfl ?_
  rcases hcase with e | e | e | e | e | e | e
  · refine r_top (y := nI 115) h (by rw [e]) ?_
    refine r_lookup (pc := 1) (o := 51) (tgt := 52) h dX4_readsAll_1 (by decide) (by decide) (by decide) ?_
    have es : sgn (lt p) = 2 := by rw [e]; decide
    refine r_aload_n (pc := 52) h dX4_readsAll_52 rfl ?_
    refine r_iload_n (pc := 53) h dX4_readsAll_53 rfl ?_
    refine r_callVi (pc := 54) (As := [_]) h dX4_readsAll_54 k_X4_99 gc_35 rfl ⟨Nat.le_of_ble_eq_true rfl, Nat.le_of_ble_eq_true rfl, Nat.le_of_ble_eq_true rfl⟩ (c_X4_readsSuit hX h17 (by omega) hq) (fun x_54 g3 hq_ => ?_)
    obtain ⟨rfl, r1, r2, r3⟩ := hq_
    refine r_ri t (pc := 57) dX4_readsAll_57 (bI_nar _) ?_
    rw [(rw_s e).1, (rw_s e).2]
    exact ⟨rfl, r1, fun z => ⟨by rw [tv1, if_pos e]; exact (r2 z).1, fun _ _ _ => by rw [tv2, if_neg (by rw [e]; decide)]; exact (r2 z).2⟩, r3⟩
  · refine r_top (y := nI 99) h (by rw [e]) ?_
    refine r_lookup (pc := 1) (o := 116) (tgt := 117) h dX4_readsAll_1 (by decide) (by decide) (by decide) ?_
    have es : sgn (lt p) = 2 := by rw [e]; decide
    have en : ¬ lt p = 115 := by rw [e]; decide
    refine r_aload_n (pc := 117) h dX4_readsAll_117 rfl ?_
    refine r_iload_n (pc := 118) h dX4_readsAll_118 rfl ?_
    refine r_iconst (pc := 119) h dX4_readsAll_119 ci_2 ?_
    refine r_callVi (pc := 120) (As := [_, _]) h dX4_readsAll_120 k_X4_95 gc_35 rfl ⟨Nat.le_of_ble_eq_true rfl, Nat.le_of_ble_eq_true rfl, Nat.le_of_ble_eq_true rfl⟩ (c_X4_readsDigits hX h17 (by omega) (by omega) (by decide)) (fun x_120 g3 hq_ => ?_)
    have hq_ := rdp2 hq_
    obtain ⟨rfl, r1, r2, r3⟩ := hq_
    refine r_ri t (pc := 123) dX4_readsAll_123 (bI_nar _) ?_
    rw [(rw_2 es en).1, (rw_2 es en).2]
    exact ⟨rfl, r1, fun z => ⟨by rw [tv1, if_neg en, if_pos (by omega)]; exact r2 z, fun z1 z2 _ => absurd e z1⟩, fun a b z1 z2 => r3 a b (by omega) z2⟩
  · refine r_top (y := nI 119) h (by rw [e]) ?_
    refine r_lookup (pc := 1) (o := 57) (tgt := 58) h dX4_readsAll_1 (by decide) (by decide) (by decide) ?_
    have es : sgn (lt p) = 2 := by rw [e]; decide
    have en : ¬ lt p = 115 := by rw [e]; decide
    refine r_aload_n (pc := 58) h dX4_readsAll_58 rfl ?_
    refine r_iload_n (pc := 59) h dX4_readsAll_59 rfl ?_
    refine r_iconst (pc := 60) h dX4_readsAll_60 ci_1 ?_
    refine r_callVi (pc := 61) (As := [_, _]) h dX4_readsAll_61 k_X4_95 gc_35 rfl ⟨Nat.le_of_ble_eq_true rfl, Nat.le_of_ble_eq_true rfl, Nat.le_of_ble_eq_true rfl⟩ (c_X4_readsDigits hX h17 (by omega) (by omega) (by decide)) (fun x_61 g3 hq_ => ?_)
    have hq_ := rdp1 hq_
    obtain ⟨rfl, r1, r2, r3⟩ := hq_
    refine r_if_eq (pc := 64) (tgt := 82) h dX4_readsAll_64 (by decide) (fun c64 => ?_) (fun c64 => ?_)
    · have hb : dB lt nl (p + 1) = false := (bI_0 (dB lt nl (p + 1))).mp c64
      refine r_iconst (pc := 82) h dX4_readsAll_82 ci_0 ?_
      refine r_ri t (pc := 83) dX4_readsAll_83 (by decide) ?_
      rw [(rw_2 es en).1, (rw_2 es en).2, hb]
      rw [if_neg (by rw [hb]; decide)] at r1
      exact ⟨rfl, r1, fun z => absurd z (by simp), fun a b z1 z2 => r3 a b (by omega) z2⟩
    · have hb : dB lt nl (p + 1) = true := by simpa using mt (bI_0 (dB lt nl (p + 1))).mpr c64
      rw [if_pos hb] at r1
      refine r_aload_n (pc := 67) h dX4_readsAll_67 rfl ?_
      refine r_iload_n (pc := 68) h dX4_readsAll_68 rfl ?_
      refine r_iconst (pc := 69) h dX4_readsAll_69 ci_1 ?_
      refine r_iadd (pc := 70) h dX4_readsAll_70 ?_
      refine r_top (y := nI (q + 1)) h (nI_add _ _) ?_
      refine r_iconst (pc := 71) h dX4_readsAll_71 ci_1 ?_
      refine r_callVi (pc := 72) (As := [_, _]) h dX4_readsAll_72 k_X4_95 gc_35 rfl ⟨Nat.le_of_ble_eq_true rfl, Nat.le_of_ble_eq_true rfl, Nat.le_of_ble_eq_true rfl⟩ (c_X4_readsDigits (hX.rr r3.r) r1 (by omega) (by omega) (by decide)) (fun x_72 g3 hq_ => ?_)
      have hq_ := rdp1 hq_
      obtain ⟨rfl, r1b, r2b, r3b⟩ := hq_
      refine r_if_eq (pc := 75) (tgt := 82) h dX4_readsAll_75 (by decide) (fun c75 => ?_) (fun c75 => ?_)
      · have hc : dB lt nl (p + 2) = false := (bI_0 (dB lt nl (p + 2))).mp c75
        refine r_iconst (pc := 82) h dX4_readsAll_82 ci_0 ?_
        refine r_ri t (pc := 83) dX4_readsAll_83 (by decide) ?_
        rw [show dB lt nl (p + 1 + 1) = false from hc] at r1b
        rw [(rw_2 es en).1, (rw_2 es en).2, hb, hc]
        exact ⟨rfl, r1b, fun z => absurd z (by simp), fun a b z1 z2 => by rw [r3b a b (by omega) z2, r3 a b (by omega) z2]⟩
      · have hc : dB lt nl (p + 2) = true := by simpa using mt (bI_0 (dB lt nl (p + 2))).mpr c75
        refine r_iconst (pc := 78) h dX4_readsAll_78 ci_1 ?_
        refine r_goto (pc := 79) (tgt := 83) h dX4_readsAll_79 (by decide) ?_
        refine r_ri t (pc := 83) dX4_readsAll_83 (by decide) ?_
        rw [show dB lt nl (p + 1 + 1) = true from hc] at r1b
        rw [(rw_2 es en).1, (rw_2 es en).2, hb, hc]
        exact ⟨rfl, r1b, fun z => ⟨by rw [tv1, if_neg en, if_neg (by rw [e]; decide), r3b 47 q (by omega) (by omega)]; exact r2 hb, fun _ _ _ => by rw [tv2, if_neg (by rw [e]; decide)]; exact r2b hc⟩, fun a b z1 z2 => by rw [r3b a b (by omega) z2, r3 a b (by omega) z2]⟩
  · refine r_top (y := nI 111) h (by rw [e]) ?_
    refine r_lookup (pc := 1) (o := 109) (tgt := 110) h dX4_readsAll_1 (by decide) (by decide) (by decide) ?_
    have es : sgn (lt p) = 1 := by rw [e]; decide
    have en : ¬ lt p = 115 := by rw [e]; decide
    refine r_aload_n (pc := 110) h dX4_readsAll_110 rfl ?_
    refine r_iload_n (pc := 111) h dX4_readsAll_111 rfl ?_
    refine r_iconst (pc := 112) h dX4_readsAll_112 ci_1 ?_
    refine r_callVi (pc := 113) (As := [_, _]) h dX4_readsAll_113 k_X4_95 gc_35 rfl ⟨Nat.le_of_ble_eq_true rfl, Nat.le_of_ble_eq_true rfl, Nat.le_of_ble_eq_true rfl⟩ (c_X4_readsDigits hX h17 (by omega) (by omega) (by decide)) (fun x_113 g3 hq_ => ?_)
    have hq_ := rdp1 hq_
    obtain ⟨rfl, r1, r2, r3⟩ := hq_
    refine r_ri t (pc := 116) dX4_readsAll_116 (bI_nar _) ?_
    rw [(rw_1 es en).1, (rw_1 es en).2]
    exact ⟨rfl, r1, fun z => ⟨by rw [tv1, if_neg en, if_neg (by rw [e]; decide)]; exact r2 z, fun _ _ z => absurd e z⟩, fun a b z1 z2 => r3 a b (by omega) z2⟩
  · refine r_top (y := nI 102) h (by rw [e]) ?_
    refine r_lookup (pc := 1) (o := 83) (tgt := 84) h dX4_readsAll_1 (by decide) (by decide) (by decide) ?_
    have es : sgn (lt p) = 3 := by rw [e]; decide
    have en : ¬ lt p = 115 := by rw [e]; decide
    refine r_aload_n (pc := 84) h dX4_readsAll_84 rfl ?_
    refine r_iload_n (pc := 85) h dX4_readsAll_85 rfl ?_
    refine r_iconst (pc := 86) h dX4_readsAll_86 ci_1 ?_
    refine r_callVi (pc := 87) (As := [_, _]) h dX4_readsAll_87 k_X4_95 gc_35 rfl ⟨Nat.le_of_ble_eq_true rfl, Nat.le_of_ble_eq_true rfl, Nat.le_of_ble_eq_true rfl⟩ (c_X4_readsDigits hX h17 (by omega) (by omega) (by decide)) (fun x_87 g3 hq_ => ?_)
    have hq_ := rdp1 hq_
    obtain ⟨rfl, r1, r2, r3⟩ := hq_
    refine r_if_eq (pc := 90) (tgt := 108) h dX4_readsAll_90 (by decide) (fun c90 => ?_) (fun c90 => ?_)
    · have hb : dB lt nl (p + 1) = false := (bI_0 (dB lt nl (p + 1))).mp c90
      refine r_iconst (pc := 108) h dX4_readsAll_108 ci_0 ?_
      refine r_ri t (pc := 109) dX4_readsAll_109 (by decide) ?_
      rw [(rw_3 es en).1, (rw_3 es en).2, hb]
      rw [if_neg (by rw [hb]; decide)] at r1
      exact ⟨rfl, r1, fun z => absurd z (by simp), fun a b z1 z2 => r3 a b (by omega) z2⟩
    · have hb : dB lt nl (p + 1) = true := by simpa using mt (bI_0 (dB lt nl (p + 1))).mpr c90
      rw [if_pos hb] at r1
      refine r_aload_n (pc := 93) h dX4_readsAll_93 rfl ?_
      refine r_iload_n (pc := 94) h dX4_readsAll_94 rfl ?_
      refine r_iconst (pc := 95) h dX4_readsAll_95 ci_1 ?_
      refine r_iadd (pc := 96) h dX4_readsAll_96 ?_
      refine r_top (y := nI (q + 1)) h (nI_add _ _) ?_
      refine r_iconst (pc := 97) h dX4_readsAll_97 ci_2 ?_
      refine r_callVi (pc := 98) (As := [_, _]) h dX4_readsAll_98 k_X4_95 gc_35 rfl ⟨Nat.le_of_ble_eq_true rfl, Nat.le_of_ble_eq_true rfl, Nat.le_of_ble_eq_true rfl⟩ (c_X4_readsDigits (hX.rr r3.r) r1 (by omega) (by omega) (by decide)) (fun x_98 g3 hq_ => ?_)
      have hq_ := rdp2 hq_
      obtain ⟨rfl, r1b, r2b, r3b⟩ := hq_
      refine r_if_eq (pc := 101) (tgt := 108) h dX4_readsAll_101 (by decide) (fun c101 => ?_) (fun c101 => ?_)
      · have hc : (dB lt nl (p + 2) && dB lt nl (p + 3)) = false := (bI_0 ((dB lt nl (p + 2) && dB lt nl (p + 3)))).mp c101
        refine r_iconst (pc := 108) h dX4_readsAll_108 ci_0 ?_
        refine r_ri t (pc := 109) dX4_readsAll_109 (by decide) ?_
        rw [(rw_3 es en).1, (rw_3 es en).2, hb, hc]
        exact ⟨rfl, r1b, fun z => absurd z (by simp), fun a b z1 z2 => by rw [r3b a b (by omega) z2, r3 a b (by omega) z2]⟩
      · have hc : (dB lt nl (p + 2) && dB lt nl (p + 3)) = true := by simpa using mt (bI_0 ((dB lt nl (p + 2) && dB lt nl (p + 3)))).mpr c101
        refine r_iconst (pc := 104) h dX4_readsAll_104 ci_1 ?_
        refine r_goto (pc := 105) (tgt := 109) h dX4_readsAll_105 (by decide) ?_
        refine r_ri t (pc := 109) dX4_readsAll_109 (by decide) ?_
        rw [(rw_3 es en).1, (rw_3 es en).2, hb, hc]
        exact ⟨rfl, r1b, fun z => ⟨by rw [tv1, if_neg en, if_neg (by rw [e]; decide), r3b 47 q (by omega) (by omega)]; exact r2 hb, fun _ _ _ => by rw [tv2, if_pos e]; exact r2b hc⟩, fun a b z1 z2 => by rw [r3b a b (by omega) z2, r3 a b (by omega) z2]⟩
  · refine r_top (y := nI 114) h (by rw [e]) ?_
    refine r_lookup (pc := 1) (o := 57) (tgt := 58) h dX4_readsAll_1 (by decide) (by decide) (by decide) ?_
    have es : sgn (lt p) = 2 := by rw [e]; decide
    have en : ¬ lt p = 115 := by rw [e]; decide
    refine r_aload_n (pc := 58) h dX4_readsAll_58 rfl ?_
    refine r_iload_n (pc := 59) h dX4_readsAll_59 rfl ?_
    refine r_iconst (pc := 60) h dX4_readsAll_60 ci_1 ?_
    refine r_callVi (pc := 61) (As := [_, _]) h dX4_readsAll_61 k_X4_95 gc_35 rfl ⟨Nat.le_of_ble_eq_true rfl, Nat.le_of_ble_eq_true rfl, Nat.le_of_ble_eq_true rfl⟩ (c_X4_readsDigits hX h17 (by omega) (by omega) (by decide)) (fun x_61 g3 hq_ => ?_)
    have hq_ := rdp1 hq_
    obtain ⟨rfl, r1, r2, r3⟩ := hq_
    refine r_if_eq (pc := 64) (tgt := 82) h dX4_readsAll_64 (by decide) (fun c64 => ?_) (fun c64 => ?_)
    · have hb : dB lt nl (p + 1) = false := (bI_0 (dB lt nl (p + 1))).mp c64
      refine r_iconst (pc := 82) h dX4_readsAll_82 ci_0 ?_
      refine r_ri t (pc := 83) dX4_readsAll_83 (by decide) ?_
      rw [(rw_2 es en).1, (rw_2 es en).2, hb]
      rw [if_neg (by rw [hb]; decide)] at r1
      exact ⟨rfl, r1, fun z => absurd z (by simp), fun a b z1 z2 => r3 a b (by omega) z2⟩
    · have hb : dB lt nl (p + 1) = true := by simpa using mt (bI_0 (dB lt nl (p + 1))).mpr c64
      rw [if_pos hb] at r1
      refine r_aload_n (pc := 67) h dX4_readsAll_67 rfl ?_
      refine r_iload_n (pc := 68) h dX4_readsAll_68 rfl ?_
      refine r_iconst (pc := 69) h dX4_readsAll_69 ci_1 ?_
      refine r_iadd (pc := 70) h dX4_readsAll_70 ?_
      refine r_top (y := nI (q + 1)) h (nI_add _ _) ?_
      refine r_iconst (pc := 71) h dX4_readsAll_71 ci_1 ?_
      refine r_callVi (pc := 72) (As := [_, _]) h dX4_readsAll_72 k_X4_95 gc_35 rfl ⟨Nat.le_of_ble_eq_true rfl, Nat.le_of_ble_eq_true rfl, Nat.le_of_ble_eq_true rfl⟩ (c_X4_readsDigits (hX.rr r3.r) r1 (by omega) (by omega) (by decide)) (fun x_72 g3 hq_ => ?_)
      have hq_ := rdp1 hq_
      obtain ⟨rfl, r1b, r2b, r3b⟩ := hq_
      refine r_if_eq (pc := 75) (tgt := 82) h dX4_readsAll_75 (by decide) (fun c75 => ?_) (fun c75 => ?_)
      · have hc : dB lt nl (p + 2) = false := (bI_0 (dB lt nl (p + 2))).mp c75
        refine r_iconst (pc := 82) h dX4_readsAll_82 ci_0 ?_
        refine r_ri t (pc := 83) dX4_readsAll_83 (by decide) ?_
        rw [show dB lt nl (p + 1 + 1) = false from hc] at r1b
        rw [(rw_2 es en).1, (rw_2 es en).2, hb, hc]
        exact ⟨rfl, r1b, fun z => absurd z (by simp), fun a b z1 z2 => by rw [r3b a b (by omega) z2, r3 a b (by omega) z2]⟩
      · have hc : dB lt nl (p + 2) = true := by simpa using mt (bI_0 (dB lt nl (p + 2))).mpr c75
        refine r_iconst (pc := 78) h dX4_readsAll_78 ci_1 ?_
        refine r_goto (pc := 79) (tgt := 83) h dX4_readsAll_79 (by decide) ?_
        refine r_ri t (pc := 83) dX4_readsAll_83 (by decide) ?_
        rw [show dB lt nl (p + 1 + 1) = true from hc] at r1b
        rw [(rw_2 es en).1, (rw_2 es en).2, hb, hc]
        exact ⟨rfl, r1b, fun z => ⟨by rw [tv1, if_neg en, if_neg (by rw [e]; decide), r3b 47 q (by omega) (by omega)]; exact r2 hb, fun _ _ _ => by rw [tv2, if_neg (by rw [e]; decide)]; exact r2b hc⟩, fun a b z1 z2 => by rw [r3b a b (by omega) z2, r3 a b (by omega) z2]⟩
  · refine r_top (y := nI 100) h (by rw [e]) ?_
    refine r_lookup (pc := 1) (o := 116) (tgt := 117) h dX4_readsAll_1 (by decide) (by decide) (by decide) ?_
    have es : sgn (lt p) = 2 := by rw [e]; decide
    have en : ¬ lt p = 115 := by rw [e]; decide
    refine r_aload_n (pc := 117) h dX4_readsAll_117 rfl ?_
    refine r_iload_n (pc := 118) h dX4_readsAll_118 rfl ?_
    refine r_iconst (pc := 119) h dX4_readsAll_119 ci_2 ?_
    refine r_callVi (pc := 120) (As := [_, _]) h dX4_readsAll_120 k_X4_95 gc_35 rfl ⟨Nat.le_of_ble_eq_true rfl, Nat.le_of_ble_eq_true rfl, Nat.le_of_ble_eq_true rfl⟩ (c_X4_readsDigits hX h17 (by omega) (by omega) (by decide)) (fun x_120 g3 hq_ => ?_)
    have hq_ := rdp2 hq_
    obtain ⟨rfl, r1, r2, r3⟩ := hq_
    refine r_ri t (pc := 123) dX4_readsAll_123 (bI_nar _) ?_
    rw [(rw_2 es en).1, (rw_2 es en).2]
    exact ⟨rfl, r1, fun z => ⟨by rw [tv1, if_neg en, if_pos (by omega)]; exact r2 z, fun z1 z2 _ => absurd e z2⟩, fun a b z1 z2 => r3 a b (by omega) z2⟩
set_option maxRecDepth 100000 in
set_option maxHeartbeats 4000000 in
theorem c_X4_statement (hX : MSr g ck hk lt nl rv nr rf) {p k : Nat} (h17 : g 35 17 = nI p) (h18 : g 35 18 = nI k) (hp : p ≤ 100) (hk_ : p < nl → k < 48) : gCi mX4_statement [.ref 35] g (fun y g1 => y = bI (stB lt nl p).isNone ∧ g1 35 17 = nI ((stB lt nl p).getD (p + (sgn (lt p) + 2))) ∧ ((stB lt nl p).isNone = true → g1 45 k = nI (lt p) ∧ g1 46 k = nI p ∧ g1 47 (2 * k) = nI (tv1 lt p) ∧ (¬ lt p = 99 → ¬ lt p = 100 → ¬ lt p = 111 → g1 47 (2 * k + 1) = nI (tv2 lt p))) ∧ sfr k g g1) := by
  refine gCi_of (own := RX4) (ls0 := [.ref 35, .null]) ⟨rfl, pl_X4⟩ rfl (Nat.le_of_ble_eq_true rfl) (fun G (h : gR RX4 cX4_statement 4 160 G) (t : gTi cX4_statement .boolean _ G) => ?_)
  have hlq : ∀ i, i < nl → lt i ≤ 255 := fun i hi => (hX.2.1.2.2 i hi).2
  have hn96 := hX.2.1.2.1
  have hsl := sgn_le (lt p)
  have go : p < nl → 0 < sgn (lt p) → G 49 [.ref 35, .int (lnI lt nl p)] [] g := by
    intro hpl hsg
    have hk48 := hk_ hpl
    have ek : (nI k).toNatClampNeg = k := nI_clamp (by omega)
    rw [ln_in hpl]
    refine r_aload_n (pc := 49) h dX4_statement_49 rfl ?_
    refine r_getR (pc := 50) h dX4_statement_50 f_X4_37 sh_35 rfl ?_
    refine r_aload_n (pc := 53) h dX4_statement_53 rfl ?_
    refine r_getE (pc := 54) h dX4_statement_54 f_X4_103 sh_35 rfl (h18) ?_
    refine r_iload_n (pc := 57) h dX4_statement_57 rfl ?_
    refine r_iastore (pc := 58) h dX4_statement_58 sh_45 (vp_in_nI hk48 (by decide)) ?_
    refine r_aload_n (pc := 59) h dX4_statement_59 rfl ?_
    refine r_getR (pc := 60) h dX4_statement_60 f_X4_40 sh_35 rfl ?_
    refine r_aload_n (pc := 63) h dX4_statement_63 rfl ?_
    refine r_getE (pc := 64) h dX4_statement_64 f_X4_103 sh_35 rfl ((by rw [gup_ne (by decide)]; exact h18 : _ = nI k)) ?_
    refine r_aload_n (pc := 67) h dX4_statement_67 rfl ?_
    refine r_getE (pc := 68) h dX4_statement_68 f_X4_81 sh_35 rfl ((by rw [gup_ne (by decide)]; exact h17 : _ = nI p)) ?_
    refine r_iastore (pc := 71) h dX4_statement_71 sh_46 (vp_in_nI hk48 (by decide)) ?_
    refine r_aload_n (pc := 72) h dX4_statement_72 rfl ?_
    refine r_dup (pc := 73) h dX4_statement_73 rfl ?_
    refine r_getE (pc := 74) h dX4_statement_74 f_X4_81 sh_35 rfl ((by rw [gup_ne (by decide), gup_ne (by decide)]; exact h17 : _ = nI p)) ?_
    refine r_iconst (pc := 77) h dX4_statement_77 ci_1 ?_
    refine r_iadd (pc := 78) h dX4_statement_78 ?_
    refine r_top (y := nI (p + 1)) h (nI_add _ _) ?_
    refine r_putI (pc := 79) h dX4_statement_79 fw_X4_81 sh_35 rfl rfl rfl ?_
    rw [ek]
    obtain ⟨a1, a2, a3, a4⟩ := stA g k (nI (lt p)) (nI p) (nI (p + 1))
    generalize gup (gup (gup g 45 k (nI (lt p))) 46 k (nI p)) 35 17 (nI (p + 1)) = gA at a1 a2 a3 a4 ⊢
    have hXA : MSr gA ck hk lt nl rv nr rf := hX.rr (fun a b z1 z2 => a1 a b (by omega) (by omega))
    refine r_aload_n (pc := 82) h dX4_statement_82 rfl ?_
    refine r_iload_n (pc := 83) h dX4_statement_83 rfl ?_
    refine r_iconst (pc := 84) h dX4_statement_84 ci_2 ?_
    refine r_aload_n (pc := 85) h dX4_statement_85 rfl ?_
    refine r_getE (pc := 86) h dX4_statement_86 f_X4_103 sh_35 rfl ((a1 35 18 (by omega) (by omega)).trans h18) ?_
    refine r_imul (pc := 89) h dX4_statement_89 ?_
    refine r_top (y := nI (2 * k)) h (pk_mul _ _) ?_
    refine r_callVi (pc := 90) (As := [_, _]) h dX4_statement_90 k_X4_106 gc_35 rfl ⟨Nat.le_of_ble_eq_true rfl, Nat.le_of_ble_eq_true rfl, Nat.le_of_ble_eq_true rfl⟩ (c_X4_readsAll hXA a4 (by omega) (by omega) (sgn_0 hsg)) (fun x_90 g3 hq => ?_)
    obtain ⟨rfl, r1, r2, r3⟩ := hq
    have hX3 := hXA.rr r3.r
    refine r_if_eq (pc := 93) (tgt := 105) h dX4_statement_93 (by decide) (fun c93 => ?_) (fun c93 => ?_)
    · have hb : (rdW lt nl p).isNone = false := (bI_0 ((rdW lt nl p).isNone)).mp c93
      refine r_iconst (pc := 105) h dX4_statement_105 ci_0 ?_
      refine r_ri t (pc := 106) dX4_statement_106 (by decide) ?_
      obtain ⟨w, hw⟩ : ∃ w, rdW lt nl p = some w := Option.ne_none_iff_exists'.mp (fun z => absurd hb (by rw [z]; decide))
      have hst : stB lt nl p = some w := by rw [stB_rd hpl hsg, hw]
      rw [hst]
      rw [hw] at r1
      exact ⟨rfl, r1, fun z => absurd z (by simp), fun a b z1 z2 z3 => by rw [r3 a b z2 z3, a1 a b z1 z3]⟩
    · have hb : (rdW lt nl p).isNone = true := by simpa using mt (bI_0 ((rdW lt nl p).isNone)).mpr c93
      have hr0 : rdW lt nl p = none := Option.isNone_iff_eq_none.mp hb
      rw [hr0] at r1
      have r1 : g3 35 17 = nI (p + 1 + sgn (lt p)) := r1
      refine r_aload_n (pc := 96) h dX4_statement_96 rfl ?_
      refine r_callVi (pc := 97) (As := []) h dX4_statement_97 k_X4_84 gc_35 rfl ⟨Nat.le_of_ble_eq_true rfl, Nat.le_of_ble_eq_true rfl, Nat.le_of_ble_eq_true rfl⟩ (c_X4_letterNow hX3 r1 (by omega)) (fun x_97 g4 hq => ?_)
      obtain ⟨rfl, hg4⟩ := hq
      rw [hg4]
      refine r_bipush (pc := 100) h dX4_statement_100 cb_59 ?_
      refine r_icmp_eq (pc := 102) (tgt := 107) h dX4_statement_102 (by decide) (fun c102 => ?_) (fun c102 => ?_)
      · have h59 := ln_eq (hlq _) (by decide) c102
        have h59 : p + 1 + sgn (lt p) < nl ∧ (lt (p + 1 + sgn (lt p)) == 59) = true := ⟨h59.1, by rw [h59.2]; rfl⟩
        refine r_aload_n (pc := 107) h dX4_statement_107 rfl ?_
        refine r_dup (pc := 108) h dX4_statement_108 rfl ?_
        refine r_getE (pc := 109) h dX4_statement_109 f_X4_81 sh_35 rfl (r1) ?_
        refine r_iconst (pc := 112) h dX4_statement_112 ci_1 ?_
        refine r_iadd (pc := 113) h dX4_statement_113 ?_
        refine r_top (y := nI (p + (sgn (lt p) + 2))) h (by rw [nI_add, show p + 1 + sgn (lt p) + 1 = p + (sgn (lt p) + 2) by omega]) ?_
        refine r_putI (pc := 114) h dX4_statement_114 fw_X4_81 sh_35 rfl rfl rfl ?_
        refine r_iconst (pc := 117) h dX4_statement_117 ci_1 ?_
        refine r_ri t (pc := 118) dX4_statement_118 (by decide) ?_
        have hst : stB lt nl p = none := by rw [stB_rd hpl hsg, hr0]; dsimp only; rw [decide_eq_true h59.1, h59.2]; rfl
        rw [hst]
        refine ⟨rfl, gup_s, fun _ => ⟨?_, ?_, ?_, fun z1 z2 z3 => ?_⟩, fun a b z1 z2 z3 => ?_⟩
        · rw [gup_ne (by decide), r3 45 k (by omega) (by omega)]; exact a2
        · rw [gup_ne (by decide), r3 46 k (by omega) (by omega)]; exact a3
        · rw [gup_ne (by decide)]; exact (r2 hb).1
        · rw [gup_ne (by decide)]; exact (r2 hb).2 z1 z2 z3
        · rw [gup_o z3, r3 a b z2 z3, a1 a b z1 z3]
      · refine r_iconst (pc := 105) h dX4_statement_105 ci_0 ?_
        refine r_ri t (pc := 106) dX4_statement_106 (by decide) ?_
        have hst : stB lt nl p = some (p + 1 + sgn (lt p)) := by
          rw [stB_rd hpl hsg, hr0]
          dsimp only
          rw [if_neg]
          intro z
          rw [Bool.and_eq_true] at z
          have z1 := of_decide_eq_true z.1
          exact c102 (by rw [ln_in z1, eq_of_beq z.2])
        rw [hst]
        exact ⟨rfl, r1, fun z => absurd z (by simp), fun a b z1 z2 z3 => by rw [r3 a b z2 z3, a1 a b z1 z3]⟩
  refine r_aload_n (pc := 0) h dX4_statement_0 rfl ?_
  refine r_callVi (pc := 1) (As := []) h dX4_statement_1 k_X4_84 gc_35 rfl ⟨Nat.le_of_ble_eq_true rfl, Nat.le_of_ble_eq_true rfl, Nat.le_of_ble_eq_true rfl⟩ (c_X4_letterNow hX h17 (by omega)) (fun x_1 g3 hq => ?_)
  obtain ⟨rfl, hg3⟩ := hq
  rw [hg3]
  refine r_istore_n (pc := 4) (ls2 := [_, _]) h dX4_statement_4 (Nat.le_of_ble_eq_true rfl) rfl ?_
  refine r_iload_n (pc := 5) h dX4_statement_5 rfl ?_
  refine r_bipush (pc := 6) h dX4_statement_6 cb_115 ?_
  refine r_icmp_eq (pc := 8) (tgt := 49) h dX4_statement_8 (by decide) (fun c8 => ?_) (fun c8 => ?_)
  · have hl := ln_eq (hlq p) (by decide) c8
    exact go hl.1 (by rw [hl.2]; decide)
  · refine r_iload_n (pc := 11) h dX4_statement_11 rfl ?_
    refine r_bipush (pc := 12) h dX4_statement_12 cb_99 ?_
    refine r_icmp_eq (pc := 14) (tgt := 49) h dX4_statement_14 (by decide) (fun c14 => ?_) (fun c14 => ?_)
    · have hl := ln_eq (hlq p) (by decide) c14
      exact go hl.1 (by rw [hl.2]; decide)
    · refine r_iload_n (pc := 17) h dX4_statement_17 rfl ?_
      refine r_bipush (pc := 18) h dX4_statement_18 cb_119 ?_
      refine r_icmp_eq (pc := 20) (tgt := 49) h dX4_statement_20 (by decide) (fun c20 => ?_) (fun c20 => ?_)
      · have hl := ln_eq (hlq p) (by decide) c20
        exact go hl.1 (by rw [hl.2]; decide)
      · refine r_iload_n (pc := 23) h dX4_statement_23 rfl ?_
        refine r_bipush (pc := 24) h dX4_statement_24 cb_111 ?_
        refine r_icmp_eq (pc := 26) (tgt := 49) h dX4_statement_26 (by decide) (fun c26 => ?_) (fun c26 => ?_)
        · have hl := ln_eq (hlq p) (by decide) c26
          exact go hl.1 (by rw [hl.2]; decide)
        · refine r_iload_n (pc := 29) h dX4_statement_29 rfl ?_
          refine r_bipush (pc := 30) h dX4_statement_30 cb_102 ?_
          refine r_icmp_eq (pc := 32) (tgt := 49) h dX4_statement_32 (by decide) (fun c32 => ?_) (fun c32 => ?_)
          · have hl := ln_eq (hlq p) (by decide) c32
            exact go hl.1 (by rw [hl.2]; decide)
          · refine r_iload_n (pc := 35) h dX4_statement_35 rfl ?_
            refine r_bipush (pc := 36) h dX4_statement_36 cb_114 ?_
            refine r_icmp_eq (pc := 38) (tgt := 49) h dX4_statement_38 (by decide) (fun c38 => ?_) (fun c38 => ?_)
            · have hl := ln_eq (hlq p) (by decide) c38
              exact go hl.1 (by rw [hl.2]; decide)
            · refine r_iload_n (pc := 41) h dX4_statement_41 rfl ?_
              refine r_bipush (pc := 42) h dX4_statement_42 cb_100 ?_
              refine r_icmp_eq (pc := 44) (tgt := 49) h dX4_statement_44 (by decide) (fun c44 => ?_) (fun c44 => ?_)
              · have hl := ln_eq (hlq p) (by decide) c44
                exact go hl.1 (by rw [hl.2]; decide)
              · refine r_iconst (pc := 47) h dX4_statement_47 ci_0 ?_
                refine r_ri t (pc := 48) dX4_statement_48 (by decide) ?_
                have hno : stB lt nl p = some p := stB_no (fun z => by
                  have e := ln_in (lt := lt) z.1
                  rcases sgn_0 z.2 with q | q | q | q | q | q | q
                  · exact c8 (by rw [e, q])
                  · exact c14 (by rw [e, q])
                  · exact c20 (by rw [e, q])
                  · exact c26 (by rw [e, q])
                  · exact c32 (by rw [e, q])
                  · exact c38 (by rw [e, q])
                  · exact c44 (by rw [e, q]))
                rw [hno]
                exact ⟨rfl, h17, fun z => absurd z (by simp), fun _ _ _ _ _ => rfl⟩
end TX
