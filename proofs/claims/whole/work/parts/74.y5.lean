section TX
variable {g : gG} {c ck : gCt} {hk : Bool} {lt : Nat → Nat} {nl : Nat} {rv : Nat → Nat} {nr : Nat} {rf : Nat → Int32}
set_option maxRecDepth 100000 in
set_option maxHeartbeats 4000000 in
theorem y_still (hR : Rm g c) (hX : MSr g ck hk lt nl rv nr rf) (ho : gok c) (hd : c 7 3 ≤ 999) : gCi mX4_still [.ref 35] g (fun y g1 => y = oI (stiV c) ∧ Rm g1 c ∧ MSr g1 ck hk lt nl rv nr rf ∧ frm 35 58 g g1) := by
  refine gCi_of (own := RX4) (ls0 := [.ref 35, .null]) ⟨rfl, pl_X4⟩ rfl (Nat.le_of_ble_eq_true rfl) (fun G (h : gR RX4 cX4_still 7 280 G) (t : gTi cX4_still .int _ G) => ?_)
  have hn5 := hR.n5
  have hn6 := hR.n6
  have loop : ∀ m n (g2 : gG), n + m = 61 → Rm g2 c → tfX g g2 → stiV c = gfind (fun n => tot (daysC n c) == tot (daysC (n + 8) c)) m n → G 2 [.ref 35, .int (nI n)] [] g2 := by
    intro m
    induction m with
    | zero =>
      intro n g2 hn hR hF hz
      refine r_iload_n (pc := 2) h dX4_still_2 rfl ?_
      refine r_bipush (pc := 3) h dX4_still_3 cb_60 ?_
      refine r_icmp_gt (pc := 5) (tgt := 32) h dX4_still_5 (by decide) (fun c5 => ?_) (fun c5 => absurd (nI_lt (by omega) (by omega)) c5)
      refine r_bipush (pc := 32) h dX4_still_32 cb_m9 ?_
      refine r_ri t (pc := 34) dX4_still_34 rfl ?_
      exact ⟨by rw [hz]; rfl, hR, hX.tx hF, hF.frm⟩
    | succ m ih =>
      intro n g2 hn hR hF hz
      have hD := daysC_ok ho n (by omega)
      have hD8 := daysC_ok ho (n + 8) (by omega)
      have t1 := tot_le hD.2.2.2 (by rw [hD.2.1]; exact hn5)
      have t2 := tot_le hD8.2.2.2 (by rw [hD8.2.1]; exact hn5)
      refine r_iload_n (pc := 2) h dX4_still_2 rfl ?_
      refine r_bipush (pc := 3) h dX4_still_3 cb_60 ?_
      refine r_icmp_gt (pc := 5) (tgt := 32) h dX4_still_5 (by decide) (fun c5 => absurd c5 (nI_nlt (by omega) (by omega))) (fun c5 => ?_)
      refine r_aload_n (pc := 8) h dX4_still_8 rfl ?_
      refine r_iload_n (pc := 9) h dX4_still_9 rfl ?_
      refine r_callVi (pc := 10) (As := [_]) h dX4_still_10 k_X4_231 gc_35 rfl ⟨Nat.le_of_ble_eq_true rfl, Nat.le_of_ble_eq_true rfl, Nat.le_of_ble_eq_true rfl⟩ (c_X4_saidIn hR ho (by omega)) (fun x_10 g2 hq => ?_)
      obtain ⟨rfl, hR, hF1⟩ := hq
      have hF := hF.tr hF1.tx
      refine r_aload_n (pc := 13) h dX4_still_13 rfl ?_
      refine r_iload_n (pc := 14) h dX4_still_14 rfl ?_
      refine r_bipush (pc := 15) h dX4_still_15 cb_8 ?_
      refine r_iadd (pc := 17) h dX4_still_17 ?_
      refine r_top (y := nI (n + 8)) h (nI_add _ _) ?_
      refine r_callVi (pc := 18) (As := [_]) h dX4_still_18 k_X4_231 gc_35 rfl ⟨Nat.le_of_ble_eq_true rfl, Nat.le_of_ble_eq_true rfl, Nat.le_of_ble_eq_true rfl⟩ (c_X4_saidIn hR ho (by omega)) (fun x_18 g2 hq => ?_)
      obtain ⟨rfl, hR, hF1⟩ := hq
      have hF := hF.tr hF1.tx
      refine r_icmp_ne (pc := 21) (tgt := 26) h dX4_still_21 (by decide) (fun c21 => ?_) (fun c21 => ?_)
      · have q : ¬ tot (daysC n c) = tot (daysC (n + 8) c) := fun z => c21 (by rw [z])
        refine r_iinc (pc := 26) (ls2 := [_, _]) h dX4_still_26 rfl (ic1 _) rfl ?_
        refine r_goto (pc := 29) (tgt := 2) h dX4_still_29 (by decide) ?_
        exact ih (n + 1) g2 (by omega) hR hF (by rw [hz, gfind, if_neg (by simpa using q)])
      · have q : tot (daysC n c) = tot (daysC (n + 8) c) := (nI_eq (by omega) (by omega)).mp c21
        refine r_iload_n (pc := 24) h dX4_still_24 rfl ?_
        refine r_ri t (pc := 25) dX4_still_25 rfl ?_
        exact ⟨by rw [hz, gfind, if_pos (by simpa using q)]; rfl, hR, hX.tx hF, hF.frm⟩
  refine r_iconst (pc := 0) h dX4_still_0 ci_0 ?_
  refine r_istore_n (pc := 1) (ls2 := [_, _]) h dX4_still_1 (Nat.le_of_ble_eq_true rfl) rfl ?_
  exact loop 61 0 g rfl hR tfX.rf rfl
set_option maxRecDepth 100000 in
set_option maxHeartbeats 4000000 in
theorem c_X4_findSuit {g : gG} {c : gCt} (hR : Rm g c) (ho : gok c) (hd : c 7 3 ≤ 999) {i n : Nat} (hi : i < c 7 1) (hn : n ≤ 30) : gCv mX4_findSuit [.ref 35, .int (nI i), .int (nI n)] g (fun g1 => Rm g1 c ∧ g1 35 24 = oI (sbV c i n).1 ∧ g1 35 25 = nI (sbV c i n).2 ∧ tfX g g1) := by
  refine gCv_of (own := RX4) (ls0 := [.ref 35, .int (nI i), .int (nI n), .null, .null]) ⟨rfl, pl_X4⟩ rfl (Nat.le_of_ble_eq_true rfl) (fun G (h : gR RX4 cX4_findSuit 6 240 G) (t : gTv cX4_findSuit _ G) => ?_)
  have hn5 := hR.n5
  have hn6 := hR.n6
  have loop : ∀ m s (p : Option Nat × Nat) (g2 : gG) (v4 : Value), s + m = c 7 0 → Rm g2 c → tfX g g2 → g2 35 24 = oI p.1 → g2 35 25 = nI p.2 → p.2 ≤ 6 → gfold (mxF (fun s => daysC n (put c i s) 5 i)) m s p = sbV c i n → G 18 [.ref 35, .int (nI i), .int (nI n), .int (nI s), v4] [] g2 := by
    intro m
    induction m with
    | zero =>
      intro s p g2 v4 hs0 hR hF h24 h25 hp6 hz
      have hz : p = sbV c i n := hz
      refine r_iload_n (pc := 18) h dX4_findSuit_18 rfl ?_
      refine r_aload_n (pc := 19) h dX4_findSuit_19 rfl ?_
      refine r_getE (pc := 20) h dX4_findSuit_20 f_X4_60 sh_35 rfl (hR.ns) ?_
      refine r_icmp_ge (pc := 23) (tgt := 82) h dX4_findSuit_23 (by decide) (fun c23 => ?_) (fun c23 => absurd (nI_le (by omega) (by omega)) c23)
      refine r_rv t (pc := 82) dX4_findSuit_82 ?_
      exact ⟨hR, by rw [h24, hz], by rw [h25, hz], hF⟩
    | succ m ih =>
      intro s p g2 v4 hs0 hR hF h24 h25 hp6 hz
      have hs : s < c 7 0 := by omega
      have hD := daysC_ok (put_gok (i := i) ho hs) n (by rw [(put_7 c i s).2.2.2]; omega)
      have hi9 : i < daysC n (put c i s) 7 1 := by rw [hD.2.1, (put_7 c i s).2.1]; exact hi
      have h5 := (hD.2.2.2.2.2.2 i hi9).2.2.1
      refine r_iload_n (pc := 18) h dX4_findSuit_18 rfl ?_
      refine r_aload_n (pc := 19) h dX4_findSuit_19 rfl ?_
      refine r_getE (pc := 20) h dX4_findSuit_20 f_X4_60 sh_35 rfl (hR.ns) ?_
      refine r_icmp_ge (pc := 23) (tgt := 82) h dX4_findSuit_23 (by decide) (fun c23 => absurd c23 (nI_ge hs (by omega))) (fun c23 => ?_)
      refine r_aload_n (pc := 26) h dX4_findSuit_26 rfl ?_
      refine r_callVv (pc := 27) (As := []) h dX4_findSuit_27 k_X4_219 gc_35 rfl ⟨Nat.le_of_ble_eq_true rfl, Nat.le_of_ble_eq_true rfl, Nat.le_of_ble_eq_true rfl⟩ (c_X4_thinks hR) (fun g2 hq => ?_)
      obtain ⟨hK, hF1⟩ := hq
      have hR := hR.kf hF1
      have hF1 := hF1.tf
      have hF := hF.tr hF1.tx
      have h24 := (hF1.at (j := 24) (by decide)).trans h24
      have h25 := (hF1.at (j := 25) (by decide)).trans h25
      refine r_aload_n (pc := 30) h dX4_findSuit_30 rfl ?_
      refine r_iload_n (pc := 31) h dX4_findSuit_31 rfl ?_
      refine r_iload_n (pc := 32) h dX4_findSuit_32 rfl ?_
      refine r_callVv (pc := 33) (As := [_, _]) h dX4_findSuit_33 k_X4_115 gc_35 rfl ⟨Nat.le_of_ble_eq_true rfl, Nat.le_of_ble_eq_true rfl, Nat.le_of_ble_eq_true rfl⟩ (c_X4_putsOn hR ho hi hs) (fun g2 hq => ?_)
      obtain ⟨hR, hF1⟩ := hq
      have hK := hK.fm hF1
      have hF1 := hF1.tf
      have hF := hF.tr hF1.tx
      have h24 := (hF1.at (j := 24) (by decide)).trans h24
      have h25 := (hF1.at (j := 25) (by decide)).trans h25
      refine r_aload_n (pc := 36) h dX4_findSuit_36 rfl ?_
      refine r_iload_n (pc := 37) h dX4_findSuit_37 rfl ?_
      refine r_callVv (pc := 38) (As := [_]) h dX4_findSuit_38 k_X4_122 gc_35 rfl ⟨Nat.le_of_ble_eq_true rfl, Nat.le_of_ble_eq_true rfl, Nat.le_of_ble_eq_true rfl⟩ (c_X4_goes hR (put_gok ho hs) (by rw [(put_7 c i s).2.2.2]; omega)) (fun g2 hq => ?_)
      obtain ⟨hR, hF1⟩ := hq
      have hK := hK.fm hF1
      have hF1 := hF1.tf
      have hF := hF.tr hF1.tx
      have h24 := (hF1.at (j := 24) (by decide)).trans h24
      have h25 := (hF1.at (j := 25) (by decide)).trans h25
      refine r_aload_n (pc := 41) h dX4_findSuit_41 rfl ?_
      refine r_getR (pc := 42) h dX4_findSuit_42 f_X4_28 sh_35 rfl ?_
      refine r_iload_n (pc := 45) h dX4_findSuit_45 rfl ?_
      refine r_ialoadE (pc := 46) h dX4_findSuit_46 sh_42 (hR.sa hi9) ?_
      refine r_istore (pc := 47) (ls2 := [_, _, _, _, _]) h dX4_findSuit_47 (Nat.le_of_ble_eq_true rfl) rfl ?_
      refine r_aload_n (pc := 49) h dX4_findSuit_49 rfl ?_
      refine r_callVv (pc := 50) (As := []) h dX4_findSuit_50 k_X4_222 gc_35 rfl ⟨Nat.le_of_ble_eq_true rfl, Nat.le_of_ble_eq_true rfl, Nat.le_of_ble_eq_true rfl⟩ (c_X4_forgets hK) (fun g2 hq => ?_)
      obtain ⟨hR, hF1⟩ := hq
      have hF1 := hF1.tf
      have hF := hF.tr hF1.tx
      have h24 := (hF1.at (j := 24) (by decide)).trans h24
      have h25 := (hF1.at (j := 25) (by decide)).trans h25
      refine r_iload (pc := 53) h dX4_findSuit_53 rfl ?_
      refine r_aload_n (pc := 55) h dX4_findSuit_55 rfl ?_
      refine r_getE (pc := 56) h dX4_findSuit_56 f_X4_249 sh_35 rfl (h25) ?_
      refine r_icmp_gt (pc := 59) (tgt := 65) h dX4_findSuit_59 (by decide) (fun c59 => ?_) (fun c59 => ?_)
      · have e : mxF (fun s => daysC n (put c i s) 5 i) s p = (some s, daysC n (put c i s) 5 i) := if_pos ((nI_ltI (by omega) (by omega)).mp c59)
        refine r_aload_n (pc := 65) h dX4_findSuit_65 rfl ?_
        refine r_iload_n (pc := 66) h dX4_findSuit_66 rfl ?_
        refine r_putI (pc := 67) h dX4_findSuit_67 fw_X4_246 sh_35 rfl rfl rfl ?_
        generalize hg3 : gup g2 35 24 _ = g3
        have hR : Rm g3 c := by rw [← hg3]; exact hR.up (by decide) (by decide)
        have hF : tfX g g3 := by rw [← hg3]; exact hF.up (by decide)
        have h24 := gup_at hg3
        have h25 := gup_kp hg3 (a := 35) (b := 25) (by omega) h25
        clear hg3
        revert g3
        intro g2 hR hF h24 h25
        refine r_aload_n (pc := 70) h dX4_findSuit_70 rfl ?_
        refine r_iload (pc := 71) h dX4_findSuit_71 rfl ?_
        refine r_putI (pc := 73) h dX4_findSuit_73 fw_X4_249 sh_35 rfl rfl rfl ?_
        generalize hg3 : gup g2 35 25 _ = g3
        have hR : Rm g3 c := by rw [← hg3]; exact hR.up (by decide) (by decide)
        have hF : tfX g g3 := by rw [← hg3]; exact hF.up (by decide)
        have h25 := gup_at hg3
        have h24 := gup_kp hg3 (a := 35) (b := 24) (by omega) h24
        clear hg3
        revert g3
        intro g2 hR hF h25 h24
        refine r_iinc (pc := 76) (ls2 := [_, _, _, _, _]) h dX4_findSuit_76 rfl (ic1 _) rfl ?_
        refine r_goto (pc := 79) (tgt := 18) h dX4_findSuit_79 (by decide) ?_
        exact ih (s + 1) (mxF (fun s => daysC n (put c i s) 5 i) s p) g2 _ (by omega) hR hF (h24.trans (mxo e :)) (h25.trans (mxn e :)) (by rw [e]; first | exact hp6 | exact h5) hz
      · have e : mxF (fun s => daysC n (put c i s) 5 i) s p = p := if_neg (fun q => c59 (nI_lt q (by omega)))
        refine r_goto (pc := 62) (tgt := 76) h dX4_findSuit_62 (by decide) ?_
        refine r_iinc (pc := 76) (ls2 := [_, _, _, _, _]) h dX4_findSuit_76 rfl (ic1 _) rfl ?_
        refine r_goto (pc := 79) (tgt := 18) h dX4_findSuit_79 (by decide) ?_
        exact ih (s + 1) (mxF (fun s => daysC n (put c i s) 5 i) s p) g2 _ (by omega) hR hF (h24.trans (mxo e :)) (h25.trans (mxn e :)) (by rw [e]; first | exact hp6 | exact h5) hz
  suffices H : ∀ g2 : gG, Rm g2 c → tfX g g2 → G 0 [.ref 35, .int (nI i), .int (nI n), .null, .null] [] g2 from H g hR tfX.rf
  intro g2 hR hF
  refine r_aload_n (pc := 0) h dX4_findSuit_0 rfl ?_
  refine r_bipush (pc := 1) h dX4_findSuit_1 cb_m9 ?_
  refine r_putI (pc := 3) h dX4_findSuit_3 fw_X4_246 sh_35 rfl rfl rfl ?_
  generalize hg3 : gup g2 35 24 _ = g3
  have hR : Rm g3 c := by rw [← hg3]; exact hR.up (by decide) (by decide)
  have hF : tfX g g3 := by rw [← hg3]; exact hF.up (by decide)
  have h24 := gup_at hg3
  clear hg3
  revert g3
  intro g2 hR hF h24
  refine r_aload_n (pc := 6) h dX4_findSuit_6 rfl ?_
  refine r_aload_n (pc := 7) h dX4_findSuit_7 rfl ?_
  refine r_getR (pc := 8) h dX4_findSuit_8 f_X4_28 sh_35 rfl ?_
  refine r_iload_n (pc := 11) h dX4_findSuit_11 rfl ?_
  refine r_ialoadE (pc := 12) h dX4_findSuit_12 sh_42 (hR.sa hi) ?_
  refine r_putI (pc := 13) h dX4_findSuit_13 fw_X4_249 sh_35 rfl rfl rfl ?_
  generalize hg3 : gup g2 35 25 _ = g3
  have hR : Rm g3 c := by rw [← hg3]; exact hR.up (by decide) (by decide)
  have hF : tfX g g3 := by rw [← hg3]; exact hF.up (by decide)
  have h25 := gup_at hg3
  have h24 := gup_kp hg3 (a := 35) (b := 24) (by omega) h24
  clear hg3
  revert g3
  intro g2 hR hF h25 h24
  refine r_iconst (pc := 16) h dX4_findSuit_16 ci_0 ?_
  refine r_istore_n (pc := 17) (ls2 := [_, _, _, _, _]) h dX4_findSuit_17 (Nat.le_of_ble_eq_true rfl) rfl ?_
  exact loop (c 7 0) 0 (none, c 5 i) g2 _ (by omega) hR hF h24 h25 (ho.2.2.2 i hi).2.2.1 rfl
set_option maxRecDepth 100000 in
set_option maxHeartbeats 4000000 in
theorem y_suitBest (hR : Rm g c) (hX : MSr g ck hk lt nl rv nr rf) (ho : gok c) (hd : c 7 3 ≤ 999) (x v w : Int32) : gCi mX4_suitBest [.ref 35, .int x, .int v, .int w] g (fun y g1 => y = ansI (sbW c x v w) (sbA (sbV c x.toNatClampNeg v.toNatClampNeg) w.toNatClampNeg) ∧ Rm g1 (c) ∧ MSr g1 ck hk lt nl rv nr (rfI rf (sbW c x v w)) ∧ frm 35 58 g g1) := by
  refine gCi_of (own := RX4) (ls0 := [.ref 35, .int x, .int v, .int w, .null]) ⟨rfl, pl_X4⟩ rfl (Nat.le_of_ble_eq_true rfl) (fun G (h : gR RX4 cX4_suitBest 7 280 G) (t : gTi cX4_suitBest .int _ G) => ?_)
  have hn5 := hR.n5
  have hn6 := hR.n6
  suffices H : ∀ g2 : gG, Rm g2 c → tfX g g2 → G 0 [.ref 35, .int x, .int v, .int w, .null] [] g2 from H g hR tfX.rf
  intro g2 hR hF
  refine r_aload_n (pc := 0) h dX4_suitBest_0 rfl ?_
  refine r_iload_n (pc := 1) h dX4_suitBest_1 rfl ?_
  refine r_callVi (pc := 2) (As := [_]) h dX4_suitBest_2 k_X4_112 gc_35 rfl ⟨Nat.le_of_ble_eq_true rfl, Nat.le_of_ble_eq_true rfl, Nat.le_of_ble_eq_true rfl⟩ (c_X4_isCaller hR x) (fun x_2 g2 hq => ?_)
  obtain ⟨rfl, rfl⟩ := hq
  refine r_if_ne (pc := 5) (tgt := 12) h dX4_suitBest_5 (by decide) (fun c5 => ?_) (fun c5 => ?_)
  · have hb : inB x (c 7 1) = true := by simpa using mt (bI_0 (inB x (c 7 1))).mpr c5
    have hc : calW c x = 0 := by unfold calW whyB; rw [if_pos hb]; rfl
    refine r_iload_n (pc := 12) h dX4_suitBest_12 rfl ?_
    refine r_iconst (pc := 13) h dX4_suitBest_13 ci_0 ?_
    refine r_bipush (pc := 14) h dX4_suitBest_14 cb_30 ?_
    refine r_callSi (pc := 16) (As := [_, _, _]) h dX4_suitBest_16 k_X4_70 rfl ⟨Nat.le_of_ble_eq_true rfl, Nat.le_of_ble_eq_true rfl, Nat.le_of_ble_eq_true rfl⟩ (c_X4_bound _ _ _) (fun x_16 g2 hq => ?_)
    obtain ⟨rfl, rfl⟩ := hq
    refine r_istore (pc := 19) (ls2 := [_, _, _, _, _]) h dX4_suitBest_19 (Nat.le_of_ble_eq_true rfl) rfl ?_
    refine r_iload (pc := 21) h dX4_suitBest_21 rfl ?_
    refine r_if_ne (pc := 23) (tgt := 39) h dX4_suitBest_23 (by decide) (fun c23 => ?_) (fun c23 => ?_)
    · have hw : ¬ bndI v (nI 0) (nI 30) = 0 := c23
      have hok : okw (bndI v (nI 0) (nI 30)) := okw_n
      have ew : sbW c x v w = bndI v (nI 0) (nI 30) := by unfold sbW fstI; rw [if_pos hc, if_neg hw]
      refine r_iload (pc := 39) h dX4_suitBest_39 rfl ?_
      refine r_if_eq (pc := 41) (tgt := 51) h dX4_suitBest_41 (by decide) (fun c41 => absurd c41 (c23)) (fun c41 => ?_)
      refine r_aload_n (pc := 44) h dX4_suitBest_44 rfl ?_
      refine r_iload (pc := 45) h dX4_suitBest_45 rfl ?_
      refine r_callVi (pc := 47) (As := [_]) h dX4_suitBest_47 k_X4_77 gc_35 rfl ⟨Nat.le_of_ble_eq_true rfl, Nat.le_of_ble_eq_true rfl, Nat.le_of_ble_eq_true rfl⟩ (c_X4_no (okw_in hok hw).1) (fun x_47 g2 hq => ?_)
      obtain ⟨rfl, rfl⟩ := hq
      refine r_ri t (pc := 50) dX4_suitBest_50 rfl ?_
      rw [ew]
      have hq := y_ref hR (hX.tx hF) hok hw (v := sbA (sbV c x.toNatClampNeg v.toNatClampNeg) w.toNatClampNeg)
      exact ⟨hq.1, hq.2.1, hq.2.2.1, hF.frm.tr hq.2.2.2⟩
    · refine r_iload_n (pc := 26) h dX4_suitBest_26 rfl ?_
      refine r_iconst (pc := 27) h dX4_suitBest_27 ci_0 ?_
      refine r_iconst (pc := 28) h dX4_suitBest_28 ci_1 ?_
      refine r_callSi (pc := 29) (As := [_, _, _]) h dX4_suitBest_29 k_X4_88 rfl ⟨Nat.le_of_ble_eq_true rfl, Nat.le_of_ble_eq_true rfl, Nat.le_of_ble_eq_true rfl⟩ (c_X4_isIn _ _ _) (fun x_29 g2 hq => ?_)
      rw [isIn_inB (by decide)] at hq
      obtain ⟨rfl, rfl⟩ := hq
      refine r_if_ne (pc := 32) (tgt := 39) h dX4_suitBest_32 (by decide) (fun c32 => ?_) (fun c32 => ?_)
      · have hb2 : inB w (1 + 1) = true := by simpa using mt (bI_0 (inB w (1 + 1))).mpr c32
        have hw : sbW c x v w = 0 := fst_0.mpr ⟨hc, c23, by unfold whyB; rw [if_pos hb2]; rfl⟩
        obtain ⟨i, hi, hxi⟩ := (inB_iff (by omega)).mp hb
        obtain ⟨n, -, hn, hvn⟩ := bnd_nat (by decide) (by decide) c23
        obtain ⟨k, hk3, hwk⟩ := (inB_iff (by decide)).mp hb2
        subst hxi; subst hvn; subst hwk
        have ei : (nI i).toNatClampNeg = i := nI_clamp (by omega)
        have en : (nI n).toNatClampNeg = n := nI_clamp (by omega)
        have ek : (nI k).toNatClampNeg = k := nI_clamp (by omega)
        refine r_iload (pc := 39) h dX4_suitBest_39 rfl ?_
        refine r_if_eq (pc := 41) (tgt := 51) h dX4_suitBest_41 (by decide) (fun c41 => ?_) (fun c41 => absurd (c23) c41)
        refine r_aload_n (pc := 51) h dX4_suitBest_51 rfl ?_
        refine r_iload_n (pc := 52) h dX4_suitBest_52 rfl ?_
        refine r_iload_n (pc := 53) h dX4_suitBest_53 rfl ?_
        refine r_callVv (pc := 54) (As := [_, _]) h dX4_suitBest_54 k_X4_252 gc_35 rfl ⟨Nat.le_of_ble_eq_true rfl, Nat.le_of_ble_eq_true rfl, Nat.le_of_ble_eq_true rfl⟩ (c_X4_findSuit hR ho hd hi hn) (fun g2 hq => ?_)
        obtain ⟨hR, h24, h25, hF1⟩ := hq
        have hF := hF.tr hF1
        refine r_iload_n (pc := 57) h dX4_suitBest_57 rfl ?_
        refine r_if_eq (pc := 58) (tgt := 68) h dX4_suitBest_58 (by decide) (fun c58 => ?_) (fun c58 => ?_)
        · have k0 : k = 0 := (nI_eq0 (by omega)).mp c58
          refine r_aload_n (pc := 68) h dX4_suitBest_68 rfl ?_
          refine r_getE (pc := 69) h dX4_suitBest_69 f_X4_246 sh_35 rfl (h24) ?_
          refine r_goto (pc := 72) (tgt := 79) h dX4_suitBest_72 (by decide) ?_
          refine r_ri t (pc := 79) dX4_suitBest_79 rfl ?_
          exact y_ok hR (hX.tx hF) hF.frm hw (by rw [ei, en, ek]; unfold sbA; rw [if_pos (Or.inl k0)])
        · have k0 : ¬ k = 0 := fun q => c58 (by rw [q]; rfl)
          refine r_aload_n (pc := 61) h dX4_suitBest_61 rfl ?_
          refine r_getE (pc := 62) h dX4_suitBest_62 f_X4_246 sh_35 rfl (h24) ?_
          refine r_if_ge (pc := 65) (tgt := 75) h dX4_suitBest_65 (by decide) (fun c65 => ?_) (fun c65 => ?_)
          · have pn : ¬ (sbV c i n).1 = none := fun q => absurd ((oI_neg (fun z hz => by have := sbV_lt hz; omega)).mpr q) (Int32.not_lt.mpr c65)
            refine r_aload_n (pc := 75) h dX4_suitBest_75 rfl ?_
            refine r_getE (pc := 76) h dX4_suitBest_76 f_X4_249 sh_35 rfl (h25) ?_
            refine r_ri t (pc := 79) dX4_suitBest_79 rfl ?_
            exact y_ok hR (hX.tx hF) hF.frm hw (by rw [ei, en, ek]; unfold sbA; rw [if_neg (fun q => q.elim k0 pn)])
          · have pn : (sbV c i n).1 = none := (oI_neg (fun z hz => by have := sbV_lt hz; omega)).mp (Int32.not_le.mp c65)
            refine r_aload_n (pc := 68) h dX4_suitBest_68 rfl ?_
            refine r_getE (pc := 69) h dX4_suitBest_69 f_X4_246 sh_35 rfl (h24) ?_
            refine r_goto (pc := 72) (tgt := 79) h dX4_suitBest_72 (by decide) ?_
            refine r_ri t (pc := 79) dX4_suitBest_79 rfl ?_
            exact y_ok hR (hX.tx hF) hF.frm hw (by rw [ei, en, ek]; unfold sbA; rw [if_pos (Or.inr pn)])
      · have hb2 : inB w (1 + 1) = false := (bI_0 (inB w (1 + 1))).mp c32
        have hw : ¬ (-2 : Int32) = 0 := by decide
        have hok : okw (-2) := okw_2
        have ew : sbW c x v w = -2 := by unfold sbW fstI; rw [if_pos hc, if_pos c23]; unfold whyB; rw [show inB w 2 = false from hb2]; rfl
        refine r_bipush (pc := 35) h dX4_suitBest_35 cb_m2 ?_
        refine r_istore (pc := 37) (ls2 := [_, _, _, _, _]) h dX4_suitBest_37 (Nat.le_of_ble_eq_true rfl) rfl ?_
        refine r_iload (pc := 39) h dX4_suitBest_39 rfl ?_
        refine r_if_eq (pc := 41) (tgt := 51) h dX4_suitBest_41 (by decide) (fun c41 => absurd c41 (by decide)) (fun c41 => ?_)
        refine r_aload_n (pc := 44) h dX4_suitBest_44 rfl ?_
        refine r_iload (pc := 45) h dX4_suitBest_45 rfl ?_
        refine r_callVi (pc := 47) (As := [_]) h dX4_suitBest_47 k_X4_77 gc_35 rfl ⟨Nat.le_of_ble_eq_true rfl, Nat.le_of_ble_eq_true rfl, Nat.le_of_ble_eq_true rfl⟩ (c_X4_no (okw_in hok hw).1) (fun x_47 g2 hq => ?_)
        obtain ⟨rfl, rfl⟩ := hq
        refine r_ri t (pc := 50) dX4_suitBest_50 rfl ?_
        rw [ew]
        have hq := y_ref hR (hX.tx hF) hok hw (v := sbA (sbV c x.toNatClampNeg v.toNatClampNeg) w.toNatClampNeg)
        exact ⟨hq.1, hq.2.1, hq.2.2.1, hF.frm.tr hq.2.2.2⟩
  · have hb : inB x (c 7 1) = false := (bI_0 (inB x (c 7 1))).mp c5
    have hw : ¬ (-1 : Int32) = 0 := by decide
    have hok : okw (-1) := okw_1
    have ew : sbW c x v w = -1 := by unfold sbW calW whyB fstI; rw [hb]; rfl
    refine r_iconst (pc := 8) h dX4_suitBest_8 ci_m1 ?_
    refine r_goto (pc := 9) (tgt := 19) h dX4_suitBest_9 (by decide) ?_
    refine r_istore (pc := 19) (ls2 := [_, _, _, _, _]) h dX4_suitBest_19 (Nat.le_of_ble_eq_true rfl) rfl ?_
    refine r_iload (pc := 21) h dX4_suitBest_21 rfl ?_
    refine r_if_ne (pc := 23) (tgt := 39) h dX4_suitBest_23 (by decide) (fun c23 => ?_) (fun c23 => absurd c23 (by decide))
    refine r_iload (pc := 39) h dX4_suitBest_39 rfl ?_
    refine r_if_eq (pc := 41) (tgt := 51) h dX4_suitBest_41 (by decide) (fun c41 => absurd c41 (by decide)) (fun c41 => ?_)
    refine r_aload_n (pc := 44) h dX4_suitBest_44 rfl ?_
    refine r_iload (pc := 45) h dX4_suitBest_45 rfl ?_
    refine r_callVi (pc := 47) (As := [_]) h dX4_suitBest_47 k_X4_77 gc_35 rfl ⟨Nat.le_of_ble_eq_true rfl, Nat.le_of_ble_eq_true rfl, Nat.le_of_ble_eq_true rfl⟩ (c_X4_no (okw_in hok hw).1) (fun x_47 g2 hq => ?_)
    obtain ⟨rfl, rfl⟩ := hq
    refine r_ri t (pc := 50) dX4_suitBest_50 rfl ?_
    rw [ew]
    have hq := y_ref hR (hX.tx hF) hok hw (v := sbA (sbV c x.toNatClampNeg v.toNatClampNeg) w.toNatClampNeg)
    exact ⟨hq.1, hq.2.1, hq.2.2.1, hF.frm.tr hq.2.2.2⟩
set_option maxRecDepth 100000 in
set_option maxHeartbeats 4000000 in
theorem y_cheer (hR : Rm g c) (hX : MSr g ck hk lt nl rv nr rf) (ho : gok c) (hd : c 7 3 ≤ 999) (v : Int32) : gCi mX4_cheer [.ref 35, .int v] g (fun y g1 => y = ansI (bndI v (nI 0) (nI 30)) (oI (chV c v.toNatClampNeg).1) ∧ Rm g1 (c) ∧ MSr g1 ck hk lt nl rv nr (rfI rf (bndI v (nI 0) (nI 30))) ∧ frm 35 58 g g1) := by
  refine gCi_of (own := RX4) (ls0 := [.ref 35, .int v, .null, .null, .null, .null, .null, .null]) ⟨rfl, pl_X4⟩ rfl (Nat.le_of_ble_eq_true rfl) (fun G (h : gR RX4 cX4_cheer 7 280 G) (t : gTi cX4_cheer .int _ G) => ?_)
  have hn5 := hR.n5
  have hn6 := hR.n6
  have loop : ∀ n, n ≤ 30 → bndI (nI n) (nI 0) (nI 30) = 0 → v = nI n → ∀ (a2 : Int32) m i (p : Option Nat × Nat) (g2 : gG) (b3 b4 : Int32) (v6 v7 : Value), i + m = c 7 1 → Rm g2 c → tfX g g2 → b3 = oI p.1 → b4 = nI p.2 → p.2 ≤ 30 → gfold (mxF (fun i => tot (daysC n (cup c 3 i (c 3 i - 3))))) m i p = chV c n → G 31 [.ref 35, .int (nI n), .int a2, .int b3, .int b4, .int (nI i), v6, v7] [] g2 := by
    intro n hn hw hv a2 m
    subst hv
    have en : (nI n).toNatClampNeg = n := nI_clamp (by omega)
    induction m with
    | zero =>
      intro i p g2 b3 b4 v6 v7 hi0 hR hF e3 e4 hp30 hz
      have hz : p = chV c n := hz
      subst e3; subst e4
      refine r_iload (pc := 31) h dX4_cheer_31 rfl ?_
      refine r_aload_n (pc := 33) h dX4_cheer_33 rfl ?_
      refine r_getE (pc := 34) h dX4_cheer_34 f_X4_67 sh_35 rfl (hR.nc) ?_
      refine r_icmp_ge (pc := 37) (tgt := 104) h dX4_cheer_37 (by decide) (fun c37 => ?_) (fun c37 => absurd (nI_le (by omega) (by omega)) c37)
      refine r_iload_n (pc := 104) h dX4_cheer_104 rfl ?_
      refine r_ri t (pc := 105) dX4_cheer_105 rfl ?_
      exact y_ok hR (hX.tx hF) hF.frm hw (by rw [en, ← hz])
    | succ m ih =>
      intro i p g2 b3 b4 v6 v7 hi0 hR hF e3 e4 hp30 hz
      have hi : i < c 7 1 := by omega
      have hk4 := ho.2.2.2 i hi
      have hD := daysC_ok (gok_3 (i := i) (v := c 3 i - 3) ho (by omega)) n (by show c 7 3 + n ≤ 2000; omega)
      have h30 := tot_le hD.2.2.2 (by rw [hD.2.1]; exact hn5)
      subst e3; subst e4
      refine r_iload (pc := 31) h dX4_cheer_31 rfl ?_
      refine r_aload_n (pc := 33) h dX4_cheer_33 rfl ?_
      refine r_getE (pc := 34) h dX4_cheer_34 f_X4_67 sh_35 rfl (hR.nc) ?_
      refine r_icmp_ge (pc := 37) (tgt := 104) h dX4_cheer_37 (by decide) (fun c37 => absurd c37 (nI_ge hi (by omega))) (fun c37 => ?_)
      refine r_aload_n (pc := 40) h dX4_cheer_40 rfl ?_
      refine r_getR (pc := 41) h dX4_cheer_41 f_X4_22 sh_35 rfl ?_
      refine r_iload (pc := 44) h dX4_cheer_44 rfl ?_
      refine r_ialoadE (pc := 46) h dX4_cheer_46 sh_40 (hR.fe hi) ?_
      refine r_istore (pc := 47) (ls2 := [_, _, _, _, _, _, _, _]) h dX4_cheer_47 (Nat.le_of_ble_eq_true rfl) rfl ?_
      refine r_aload_n (pc := 49) h dX4_cheer_49 rfl ?_
      refine r_getR (pc := 50) h dX4_cheer_50 f_X4_22 sh_35 rfl ?_
      refine r_iload (pc := 53) h dX4_cheer_53 rfl ?_
      refine r_iload (pc := 55) h dX4_cheer_55 rfl ?_
      refine r_iconst (pc := 57) h dX4_cheer_57 ci_3 ?_
      refine r_isub (pc := 58) h dX4_cheer_58 ?_
      refine r_bipush (pc := 59) h dX4_cheer_59 cb_20 ?_
      refine r_callSi (pc := 61) (As := [_, _]) h dX4_cheer_61 k_X4_188 rfl ⟨Nat.le_of_ble_eq_true rfl, Nat.le_of_ble_eq_true rfl, Nat.le_of_ble_eq_true rfl⟩ (c_X4_held _ _) (fun x_61 g2 hq => ?_)
      rw [hld_sub (by omega) (by decide) (by decide)] at hq
      obtain ⟨rfl, rfl⟩ := hq
      refine r_iastore (pc := 64) h dX4_cheer_64 sh_40 (hR.ci hi) ?_
      obtain ⟨hR, hF⟩ := Rm.wrX hF (hR.u_fe hi _) (by decide)
      generalize gup g2 40 _ _ = g2 at hR hF ⊢
      refine r_aload_n (pc := 65) h dX4_cheer_65 rfl ?_
      refine r_iload_n (pc := 66) h dX4_cheer_66 rfl ?_
      refine r_callVi (pc := 67) (As := [_]) h dX4_cheer_67 k_X4_231 gc_35 rfl ⟨Nat.le_of_ble_eq_true rfl, Nat.le_of_ble_eq_true rfl, Nat.le_of_ble_eq_true rfl⟩ (c_X4_saidIn hR (gok_3 ho (by omega)) (by show c 7 3 + n ≤ 2000; omega)) (fun x_67 g2 hq => ?_)
      obtain ⟨rfl, hR, hF1⟩ := hq
      have hF := hF.tr hF1.tx
      refine r_istore (pc := 70) (ls2 := [_, _, _, _, _, _, _, _]) h dX4_cheer_70 (Nat.le_of_ble_eq_true rfl) rfl ?_
      refine r_aload_n (pc := 72) h dX4_cheer_72 rfl ?_
      refine r_getR (pc := 73) h dX4_cheer_73 f_X4_22 sh_35 rfl ?_
      refine r_iload (pc := 76) h dX4_cheer_76 rfl ?_
      refine r_iload (pc := 78) h dX4_cheer_78 rfl ?_
      refine r_iastore (pc := 80) h dX4_cheer_80 sh_40 (hR.ci hi) ?_
      obtain ⟨hR, hF⟩ := Rm.wrX hF (hR.u_fe (show i < cup c 3 i (c 3 i - 3) 7 1 from hi) _) (by decide)
      generalize gup g2 40 _ _ = g2 at hR hF ⊢
      rw [cup_twice, cup_id] at hR
      refine r_iload (pc := 81) h dX4_cheer_81 rfl ?_
      refine r_iload (pc := 83) h dX4_cheer_83 rfl ?_
      refine r_icmp_gt (pc := 85) (tgt := 91) h dX4_cheer_85 (by decide) (fun c85 => ?_) (fun c85 => ?_)
      · have e : mxF (fun i => tot (daysC n (cup c 3 i (c 3 i - 3)))) i p = (some i, tot (daysC n (cup c 3 i (c 3 i - 3)))) := if_pos ((nI_ltI (by omega) (by omega)).mp c85)
        refine r_iload (pc := 91) h dX4_cheer_91 rfl ?_
        refine r_istore_n (pc := 93) (ls2 := [_, _, _, _, _, _, _, _]) h dX4_cheer_93 (Nat.le_of_ble_eq_true rfl) rfl ?_
        refine r_iload (pc := 94) h dX4_cheer_94 rfl ?_
        refine r_istore (pc := 96) (ls2 := [_, _, _, _, _, _, _, _]) h dX4_cheer_96 (Nat.le_of_ble_eq_true rfl) rfl ?_
        refine r_iinc (pc := 98) (ls2 := [_, _, _, _, _, _, _, _]) h dX4_cheer_98 rfl (ic1 _) rfl ?_
        refine r_goto (pc := 101) (tgt := 31) h dX4_cheer_101 (by decide) ?_
        exact ih (i + 1) (mxF (fun i => tot (daysC n (cup c 3 i (c 3 i - 3)))) i p) g2 _ _ _ _ (by omega) hR hF (mxo e :) (mxn e :) (by rw [e]; first | exact hp30 | exact h30) hz
      · have e : mxF (fun i => tot (daysC n (cup c 3 i (c 3 i - 3)))) i p = p := if_neg (fun q => c85 (nI_lt q (by omega)))
        refine r_goto (pc := 88) (tgt := 98) h dX4_cheer_88 (by decide) ?_
        refine r_iinc (pc := 98) (ls2 := [_, _, _, _, _, _, _, _]) h dX4_cheer_98 rfl (ic1 _) rfl ?_
        refine r_goto (pc := 101) (tgt := 31) h dX4_cheer_101 (by decide) ?_
        exact ih (i + 1) (mxF (fun i => tot (daysC n (cup c 3 i (c 3 i - 3)))) i p) g2 _ _ _ _ (by omega) hR hF (mxo e :) (mxn e :) (by rw [e]; first | exact hp30 | exact h30) hz
  suffices H : ∀ g2 : gG, Rm g2 c → tfX g g2 → G 0 [.ref 35, .int v, .null, .null, .null, .null, .null, .null] [] g2 from H g hR tfX.rf
  intro g2 hR hF
  refine r_iload_n (pc := 0) h dX4_cheer_0 rfl ?_
  refine r_iconst (pc := 1) h dX4_cheer_1 ci_0 ?_
  refine r_bipush (pc := 2) h dX4_cheer_2 cb_30 ?_
  refine r_callSi (pc := 4) (As := [_, _, _]) h dX4_cheer_4 k_X4_70 rfl ⟨Nat.le_of_ble_eq_true rfl, Nat.le_of_ble_eq_true rfl, Nat.le_of_ble_eq_true rfl⟩ (c_X4_bound _ _ _) (fun x_4 g2 hq => ?_)
  obtain ⟨rfl, rfl⟩ := hq
  refine r_istore_n (pc := 7) (ls2 := [_, _, _, _, _, _, _, _]) h dX4_cheer_7 (Nat.le_of_ble_eq_true rfl) rfl ?_
  refine r_iload_n (pc := 8) h dX4_cheer_8 rfl ?_
  refine r_if_eq (pc := 9) (tgt := 18) h dX4_cheer_9 (by decide) (fun c9 => ?_) (fun c9 => ?_)
  · have hw : bndI v (nI 0) (nI 30) = 0 := c9
    obtain ⟨n, -, hn, hvn⟩ := bnd_nat (by decide) (by decide) hw
    subst hvn
    refine r_bipush (pc := 18) h dX4_cheer_18 cb_m9 ?_
    refine r_istore_n (pc := 20) (ls2 := [_, _, _, _, _, _, _, _]) h dX4_cheer_20 (Nat.le_of_ble_eq_true rfl) rfl ?_
    refine r_aload_n (pc := 21) h dX4_cheer_21 rfl ?_
    refine r_iload_n (pc := 22) h dX4_cheer_22 rfl ?_
    refine r_callVi (pc := 23) (As := [_]) h dX4_cheer_23 k_X4_231 gc_35 rfl ⟨Nat.le_of_ble_eq_true rfl, Nat.le_of_ble_eq_true rfl, Nat.le_of_ble_eq_true rfl⟩ (c_X4_saidIn hR ho (by omega)) (fun x_23 g2 hq => ?_)
    obtain ⟨rfl, hR, hF1⟩ := hq
    have hF := hF.tr hF1.tx
    refine r_istore (pc := 26) (ls2 := [_, _, _, _, _, _, _, _]) h dX4_cheer_26 (Nat.le_of_ble_eq_true rfl) rfl ?_
    refine r_iconst (pc := 28) h dX4_cheer_28 ci_0 ?_
    refine r_istore (pc := 29) (ls2 := [_, _, _, _, _, _, _, _]) h dX4_cheer_29 (Nat.le_of_ble_eq_true rfl) rfl ?_
    have hD := daysC_ok ho n (by omega)
    exact loop n hn hw rfl _ (c 7 1) 0 (none, tot (daysC n c)) _ _ _ _ _ (by omega) hR hF rfl rfl (tot_le hD.2.2.2 (by rw [hD.2.1]; exact hn5)) rfl
  · have hw : ¬ bndI v (nI 0) (nI 30) = 0 := c9
    have hok : okw (bndI v (nI 0) (nI 30)) := okw_n
    refine r_aload_n (pc := 12) h dX4_cheer_12 rfl ?_
    refine r_iload_n (pc := 13) h dX4_cheer_13 rfl ?_
    refine r_callVi (pc := 14) (As := [_]) h dX4_cheer_14 k_X4_77 gc_35 rfl ⟨Nat.le_of_ble_eq_true rfl, Nat.le_of_ble_eq_true rfl, Nat.le_of_ble_eq_true rfl⟩ (c_X4_no (okw_in hok hw).1) (fun x_14 g2 hq => ?_)
    obtain ⟨rfl, rfl⟩ := hq
    refine r_ri t (pc := 17) dX4_cheer_17 rfl ?_
    have hq := y_ref hR (hX.tx hF) hok hw (v := oI (chV c v.toNatClampNeg).1)
    exact ⟨hq.1, hq.2.1, hq.2.2.1, hF.frm.tr hq.2.2.2⟩
set_option maxRecDepth 100000 in
set_option maxHeartbeats 4000000 in
theorem y_change (hR : Rm g c) (hX : MSr g ck hk lt nl rv nr rf) (ho : gok c) (hd : c 7 3 ≤ 999) (v : Int32) : gCi mX4_change [.ref 35, .int v] g (fun y g1 => y = ansI (bndI v (nI 0) (nI 20)) (oI (cgV c v.toNatClampNeg).1) ∧ Rm g1 (c) ∧ MSr g1 ck hk lt nl rv nr (rfI rf (bndI v (nI 0) (nI 20))) ∧ frm 35 58 g g1) := by
  refine gCi_of (own := RX4) (ls0 := [.ref 35, .int v, .null, .null, .null, .null, .null, .null, .null, .null]) ⟨rfl, pl_X4⟩ rfl (Nat.le_of_ble_eq_true rfl) (fun G (h : gR RX4 cX4_change 7 280 G) (t : gTi cX4_change .int _ G) => ?_)
  have hn5 := hR.n5
  have hn6 := hR.n6
  have loop : ∀ n, n ≤ 20 → bndI (nI n) (nI 0) (nI 20) = 0 → v = nI n → ∀ (a2 : Int32) m a (p : Option Nat × Nat) (g2 : gG) (b3 b4 : Int32) (v6 v7 v8 v9 : Value), a + m = c 7 1 → Rm g2 c → tfX g g2 → b3 = oI p.1 → b4 = nI p.2 → p.2 ≤ 30 → gfold (cgF c n) m a p = cgV c n → G 31 [.ref 35, .int (nI n), .int a2, .int b3, .int b4, .int (nI a), v6, v7, v8, v9] [] g2 := by
    intro n hn hw hv a2 m
    subst hv
    have en : (nI n).toNatClampNeg = n := nI_clamp (by omega)
    induction m with
    | zero =>
      intro a p g2 b3 b4 v6 v7 v8 v9 hi0 hR hF e3 e4 hp30 hz
      have hz : p = cgV c n := hz
      subst e3; subst e4
      refine r_iload (pc := 31) h dX4_change_31 rfl ?_
      refine r_aload_n (pc := 33) h dX4_change_33 rfl ?_
      refine r_getE (pc := 34) h dX4_change_34 f_X4_67 sh_35 rfl (hR.nc) ?_
      refine r_icmp_ge (pc := 37) (tgt := 151) h dX4_change_37 (by decide) (fun c37 => ?_) (fun c37 => absurd (nI_le (by omega) (by omega)) c37)
      refine r_iload_n (pc := 151) h dX4_change_151 rfl ?_
      refine r_ri t (pc := 152) dX4_change_152 rfl ?_
      exact y_ok hR (hX.tx hF) hF.frm hw (by rw [en, ← hz])
    | succ m ih =>
      intro a p0 g2 b3 b4 v6 v7 v8 v9 ha0 hR hF e3 e4 hp30 hz
      have ha : a < c 7 1 := by omega
      have inner : ∀ m2 b (p : Option Nat × Nat) (g2 : gG) (b3 b4 : Int32) (v7 v8 v9 : Value), b + m2 = c 7 1 → a < b → Rm g2 c → tfX g g2 → b3 = oI p.1 → b4 = nI p.2 → p.2 ≤ 30 → gfold (cgI c n a) m2 b p = cgF c n a p0 → G 46 [.ref 35, .int (nI n), .int a2, .int b3, .int b4, .int (nI a), .int (nI b), v7, v8, v9] [] g2 := by
        intro m2
        induction m2 with
        | zero =>
          intro b p g2 b3 b4 v7 v8 v9 hb0 hab hR hF e3 e4 hp30 hy
          have hy : p = cgF c n a p0 := hy
          subst e3; subst e4
          refine r_iload (pc := 46) h dX4_change_46 rfl ?_
          refine r_aload_n (pc := 48) h dX4_change_48 rfl ?_
          refine r_getE (pc := 49) h dX4_change_49 f_X4_67 sh_35 rfl (hR.nc) ?_
          refine r_icmp_ge (pc := 52) (tgt := 145) h dX4_change_52 (by decide) (fun c52 => ?_) (fun c52 => absurd (nI_le (by omega) (by omega)) c52)
          refine r_iinc (pc := 145) (ls2 := [_, _, _, _, _, _, _, _, _, _]) h dX4_change_145 rfl (ic1 _) rfl ?_
          refine r_goto (pc := 148) (tgt := 31) h dX4_change_148 (by decide) ?_
          exact ih (a + 1) p g2 _ _ _ _ _ _ (by omega) hR hF rfl rfl hp30 (by rw [← hz]; show _ = gfold (cgF c n) m (a + 1) (cgF c n a p0); rw [← hy])
        | succ m2 ih2 =>
          intro b p g2 b3 b4 v7 v8 v9 hb0 hab hR hF e3 e4 hp30 hy
          have hb : b < c 7 1 := by omega
          have hsw := swp_ok ho ha hb
          have hD := daysC_ok hsw n (by show c 7 3 + n ≤ 2000; omega)
          have h30 := tot_le hD.2.2.2 (by rw [hD.2.1]; exact hn5)
          subst e3; subst e4
          refine r_iload (pc := 46) h dX4_change_46 rfl ?_
          refine r_aload_n (pc := 48) h dX4_change_48 rfl ?_
          refine r_getE (pc := 49) h dX4_change_49 f_X4_67 sh_35 rfl (hR.nc) ?_
          refine r_icmp_ge (pc := 52) (tgt := 145) h dX4_change_52 (by decide) (fun c52 => absurd c52 (nI_ge hb (by omega))) (fun c52 => ?_)
          refine r_aload_n (pc := 55) h dX4_change_55 rfl ?_
          refine r_getR (pc := 56) h dX4_change_56 f_X4_31 sh_35 rfl ?_
          refine r_iload (pc := 59) h dX4_change_59 rfl ?_
          refine r_ialoadE (pc := 61) h dX4_change_61 sh_43 (hR.wo ha) ?_
          refine r_istore (pc := 62) (ls2 := [_, _, _, _, _, _, _, _, _, _]) h dX4_change_62 (Nat.le_of_ble_eq_true rfl) rfl ?_
          refine r_aload_n (pc := 64) h dX4_change_64 rfl ?_
          refine r_getR (pc := 65) h dX4_change_65 f_X4_31 sh_35 rfl ?_
          refine r_iload (pc := 68) h dX4_change_68 rfl ?_
          refine r_ialoadE (pc := 70) h dX4_change_70 sh_43 (hR.wo hb) ?_
          refine r_istore (pc := 71) (ls2 := [_, _, _, _, _, _, _, _, _, _]) h dX4_change_71 (Nat.le_of_ble_eq_true rfl) rfl ?_
          refine r_aload_n (pc := 73) h dX4_change_73 rfl ?_
          refine r_getR (pc := 74) h dX4_change_74 f_X4_31 sh_35 rfl ?_
          refine r_iload (pc := 77) h dX4_change_77 rfl ?_
          refine r_iload (pc := 79) h dX4_change_79 rfl ?_
          refine r_iastore (pc := 81) h dX4_change_81 sh_43 (hR.ci ha) ?_
          obtain ⟨hR, hF⟩ := Rm.wrX hF (hR.u_wo ha (c 6 b)) (by decide)
          generalize gup g2 43 _ _ = g2 at hR hF ⊢
          refine r_aload_n (pc := 82) h dX4_change_82 rfl ?_
          refine r_getR (pc := 83) h dX4_change_83 f_X4_31 sh_35 rfl ?_
          refine r_iload (pc := 86) h dX4_change_86 rfl ?_
          refine r_iload (pc := 88) h dX4_change_88 rfl ?_
          refine r_iastore (pc := 90) h dX4_change_90 sh_43 (hR.ci (show b < cup c 6 a (c 6 b) 7 1 from hb)) ?_
          obtain ⟨hR, hF⟩ := Rm.wrX hF (hR.u_wo (show b < cup c 6 a (c 6 b) 7 1 from hb) (c 6 a)) (by decide)
          generalize gup g2 43 _ _ = g2 at hR hF ⊢
          have hR : Rm g2 (swp c a b) := hR
          refine r_aload_n (pc := 91) h dX4_change_91 rfl ?_
          refine r_iload_n (pc := 92) h dX4_change_92 rfl ?_
          refine r_callVi (pc := 93) (As := [_]) h dX4_change_93 k_X4_231 gc_35 rfl ⟨Nat.le_of_ble_eq_true rfl, Nat.le_of_ble_eq_true rfl, Nat.le_of_ble_eq_true rfl⟩ (c_X4_saidIn hR hsw (by show c 7 3 + n ≤ 2000; omega)) (fun x_93 g2 hq => ?_)
          obtain ⟨rfl, hR, hF1⟩ := hq
          have hF := hF.tr hF1.tx
          refine r_istore (pc := 96) (ls2 := [_, _, _, _, _, _, _, _, _, _]) h dX4_change_96 (Nat.le_of_ble_eq_true rfl) rfl ?_
          refine r_aload_n (pc := 98) h dX4_change_98 rfl ?_
          refine r_getR (pc := 99) h dX4_change_99 f_X4_31 sh_35 rfl ?_
          refine r_iload (pc := 102) h dX4_change_102 rfl ?_
          refine r_iload (pc := 104) h dX4_change_104 rfl ?_
          refine r_iastore (pc := 106) h dX4_change_106 sh_43 (hR.ci (show a < swp c a b 7 1 from ha)) ?_
          obtain ⟨hR, hF⟩ := Rm.wrX hF (hR.u_wo (show a < swp c a b 7 1 from ha) (c 6 a)) (by decide)
          generalize gup g2 43 _ _ = g2 at hR hF ⊢
          refine r_aload_n (pc := 107) h dX4_change_107 rfl ?_
          refine r_getR (pc := 108) h dX4_change_108 f_X4_31 sh_35 rfl ?_
          refine r_iload (pc := 111) h dX4_change_111 rfl ?_
          refine r_iload (pc := 113) h dX4_change_113 rfl ?_
          refine r_iastore (pc := 115) h dX4_change_115 sh_43 (vp_in_nI (show b < 5 by omega) (by decide)) ?_
          obtain ⟨hR, hF⟩ := Rm.wrX hF (hR.u_wo (show b < cup (swp c a b) 6 a (c 6 a) 7 1 from hb) (c 6 b)) (by decide)
          generalize gup g2 43 _ _ = g2 at hR hF ⊢
          rw [swp_back (by omega)] at hR
          refine r_iload (pc := 116) h dX4_change_116 rfl ?_
          refine r_iload (pc := 118) h dX4_change_118 rfl ?_
          refine r_icmp_gt (pc := 120) (tgt := 126) h dX4_change_120 (by decide) (fun c120 => ?_) (fun c120 => ?_)
          · have e : cgI c n a b p = (some (10 * a + b), tot (daysC n (swp c a b))) := if_pos ((nI_ltI (by omega) (by omega)).mp c120)
            refine r_bipush (pc := 126) h dX4_change_126 cb_10 ?_
            refine r_iload (pc := 128) h dX4_change_128 rfl ?_
            refine r_imul (pc := 130) h dX4_change_130 ?_
            refine r_iload (pc := 131) h dX4_change_131 rfl ?_
            refine r_iadd (pc := 133) h dX4_change_133 ?_
            refine r_top (y := nI (10 * a + b)) h (by rw [nI_mul, nI_add]) ?_
            refine r_istore_n (pc := 134) (ls2 := [_, _, _, _, _, _, _, _, _, _]) h dX4_change_134 (Nat.le_of_ble_eq_true rfl) rfl ?_
            refine r_iload (pc := 135) h dX4_change_135 rfl ?_
            refine r_istore (pc := 137) (ls2 := [_, _, _, _, _, _, _, _, _, _]) h dX4_change_137 (Nat.le_of_ble_eq_true rfl) rfl ?_
            refine r_iinc (pc := 139) (ls2 := [_, _, _, _, _, _, _, _, _, _]) h dX4_change_139 rfl (ic1 _) rfl ?_
            refine r_goto (pc := 142) (tgt := 46) h dX4_change_142 (by decide) ?_
            exact ih2 (b + 1) (cgI c n a b p) g2 _ _ _ _ _ (by omega) (by omega) hR hF (mxo e :) (mxn e :) (by rw [e]; first | exact hp30 | exact h30) hy
          · have e : cgI c n a b p = p := if_neg (fun q => c120 (nI_lt q (by omega)))
            refine r_goto (pc := 123) (tgt := 139) h dX4_change_123 (by decide) ?_
            refine r_iinc (pc := 139) (ls2 := [_, _, _, _, _, _, _, _, _, _]) h dX4_change_139 rfl (ic1 _) rfl ?_
            refine r_goto (pc := 142) (tgt := 46) h dX4_change_142 (by decide) ?_
            exact ih2 (b + 1) (cgI c n a b p) g2 _ _ _ _ _ (by omega) (by omega) hR hF (mxo e :) (mxn e :) (by rw [e]; first | exact hp30 | exact h30) hy
      generalize hp0 : p0 = p at e3 e4 hp30
      rw [hp0] at inner
      subst e3; subst e4
      refine r_iload (pc := 31) h dX4_change_31 rfl ?_
      refine r_aload_n (pc := 33) h dX4_change_33 rfl ?_
      refine r_getE (pc := 34) h dX4_change_34 f_X4_67 sh_35 rfl (hR.nc) ?_
      refine r_icmp_ge (pc := 37) (tgt := 151) h dX4_change_37 (by decide) (fun c37 => absurd c37 (nI_ge ha (by omega))) (fun c37 => ?_)
      refine r_iload (pc := 40) h dX4_change_40 rfl ?_
      refine r_iconst (pc := 42) h dX4_change_42 ci_1 ?_
      refine r_iadd (pc := 43) h dX4_change_43 ?_
      refine r_top (y := nI (a + 1)) h (nI_add _ _) ?_
      refine r_istore (pc := 44) (ls2 := [_, _, _, _, _, _, _, _, _, _]) h dX4_change_44 (Nat.le_of_ble_eq_true rfl) rfl ?_
      exact inner (c 7 1 - (a + 1)) (a + 1) p g2 _ _ _ _ _ (by omega) (by omega) hR hF rfl rfl hp30 rfl
  suffices H : ∀ g2 : gG, Rm g2 c → tfX g g2 → G 0 [.ref 35, .int v, .null, .null, .null, .null, .null, .null, .null, .null] [] g2 from H g hR tfX.rf
  intro g2 hR hF
  refine r_iload_n (pc := 0) h dX4_change_0 rfl ?_
  refine r_iconst (pc := 1) h dX4_change_1 ci_0 ?_
  refine r_bipush (pc := 2) h dX4_change_2 cb_20 ?_
  refine r_callSi (pc := 4) (As := [_, _, _]) h dX4_change_4 k_X4_70 rfl ⟨Nat.le_of_ble_eq_true rfl, Nat.le_of_ble_eq_true rfl, Nat.le_of_ble_eq_true rfl⟩ (c_X4_bound _ _ _) (fun x_4 g2 hq => ?_)
  obtain ⟨rfl, rfl⟩ := hq
  refine r_istore_n (pc := 7) (ls2 := [_, _, _, _, _, _, _, _, _, _]) h dX4_change_7 (Nat.le_of_ble_eq_true rfl) rfl ?_
  refine r_iload_n (pc := 8) h dX4_change_8 rfl ?_
  refine r_if_eq (pc := 9) (tgt := 18) h dX4_change_9 (by decide) (fun c9 => ?_) (fun c9 => ?_)
  · have hw : bndI v (nI 0) (nI 20) = 0 := c9
    obtain ⟨n, -, hn, hvn⟩ := bnd_nat (by decide) (by decide) hw
    subst hvn
    refine r_bipush (pc := 18) h dX4_change_18 cb_m9 ?_
    refine r_istore_n (pc := 20) (ls2 := [_, _, _, _, _, _, _, _, _, _]) h dX4_change_20 (Nat.le_of_ble_eq_true rfl) rfl ?_
    refine r_aload_n (pc := 21) h dX4_change_21 rfl ?_
    refine r_iload_n (pc := 22) h dX4_change_22 rfl ?_
    refine r_callVi (pc := 23) (As := [_]) h dX4_change_23 k_X4_231 gc_35 rfl ⟨Nat.le_of_ble_eq_true rfl, Nat.le_of_ble_eq_true rfl, Nat.le_of_ble_eq_true rfl⟩ (c_X4_saidIn hR ho (by omega)) (fun x_23 g2 hq => ?_)
    obtain ⟨rfl, hR, hF1⟩ := hq
    have hF := hF.tr hF1.tx
    refine r_istore (pc := 26) (ls2 := [_, _, _, _, _, _, _, _, _, _]) h dX4_change_26 (Nat.le_of_ble_eq_true rfl) rfl ?_
    refine r_iconst (pc := 28) h dX4_change_28 ci_0 ?_
    refine r_istore (pc := 29) (ls2 := [_, _, _, _, _, _, _, _, _, _]) h dX4_change_29 (Nat.le_of_ble_eq_true rfl) rfl ?_
    have hD := daysC_ok ho n (by omega)
    exact loop n hn hw rfl _ (c 7 1) 0 (none, tot (daysC n c)) _ _ _ _ _ _ _ (by omega) hR hF rfl rfl (tot_le hD.2.2.2 (by rw [hD.2.1]; exact hn5)) rfl
  · have hw : ¬ bndI v (nI 0) (nI 20) = 0 := c9
    have hok : okw (bndI v (nI 0) (nI 20)) := okw_n
    refine r_aload_n (pc := 12) h dX4_change_12 rfl ?_
    refine r_iload_n (pc := 13) h dX4_change_13 rfl ?_
    refine r_callVi (pc := 14) (As := [_]) h dX4_change_14 k_X4_77 gc_35 rfl ⟨Nat.le_of_ble_eq_true rfl, Nat.le_of_ble_eq_true rfl, Nat.le_of_ble_eq_true rfl⟩ (c_X4_no (okw_in hok hw).1) (fun x_14 g2 hq => ?_)
    obtain ⟨rfl, rfl⟩ := hq
    refine r_ri t (pc := 17) dX4_change_17 rfl ?_
    have hq := y_ref hR (hX.tx hF) hok hw (v := oI (cgV c v.toNatClampNeg).1)
    exact ⟨hq.1, hq.2.1, hq.2.2.1, hF.frm.tr hq.2.2.2⟩
set_option maxRecDepth 100000 in
set_option maxHeartbeats 4000000 in
theorem c_X4_findSpare {g : gG} {c : gCt} (hR : Rm g c) (ho : gok c) (hd : c 7 3 ≤ 999) {n : Nat} (hn : n ≤ 30) : gCv mX4_findSpare [.ref 35, .int (nI n)] g (fun g1 => Rm g1 c ∧ g1 35 26 = oI ((spV c n).map (fun q => q.1)) ∧ g1 35 27 = oI ((spV c n).map (fun q => q.2)) ∧ tfX g g1) := by
  refine gCv_of (own := RX4) (ls0 := [.ref 35, .int (nI n), .null, .null, .null]) ⟨rfl, pl_X4⟩ rfl (Nat.le_of_ble_eq_true rfl) (fun G (h : gR RX4 cX4_findSpare 7 280 G) (t : gTv cX4_findSpare _ G) => ?_)
  have hn5 := hR.n5
  have hn6 := hR.n6
  have loop : ∀ m i (p : Option (Nat × Nat)) (g2 : gG) (v3 v4 : Value), i + m = c 7 1 → Rm g2 c → tfX g g2 → g2 35 26 = oI (p.map (fun q => q.1)) → g2 35 27 = oI (p.map (fun q => q.2)) → (∀ q, p = some q → q.2 ≤ 30) → gfold (spF c n) m i p = spV c n → G 14 [.ref 35, .int (nI n), .int (nI i), v3, v4] [] g2 := by
    intro m
    induction m with
    | zero =>
      intro i p g2 v3 v4 hi0 hR hF h26 h27 hp30 hz
      have hz : p = spV c n := hz
      refine r_iload_n (pc := 14) h dX4_findSpare_14 rfl ?_
      refine r_aload_n (pc := 15) h dX4_findSpare_15 rfl ?_
      refine r_getE (pc := 16) h dX4_findSpare_16 f_X4_67 sh_35 rfl (hR.nc) ?_
      refine r_icmp_ge (pc := 19) (tgt := 86) h dX4_findSpare_19 (by decide) (fun c19 => ?_) (fun c19 => absurd (nI_le (by omega) (by omega)) c19)
      refine r_rv t (pc := 86) dX4_findSpare_86 ?_
      exact ⟨hR, by rw [h26, hz], by rw [h27, hz], hF⟩
    | succ m ih =>
      intro i p g2 v3 v4 hi0 hR hF h26 h27 hp30 hz
      have hi : i < c 7 1 := by omega
      have hk4 := ho.2.2.2 i hi
      have hD := daysC_ok (gok_6 (i := i) (v := 0) ho (Nat.zero_le _)) n (by show c 7 3 + n ≤ 2000; omega)
      have h30 := tot_le hD.2.2.2 (by rw [hD.2.1]; exact hn5)
      refine r_iload_n (pc := 14) h dX4_findSpare_14 rfl ?_
      refine r_aload_n (pc := 15) h dX4_findSpare_15 rfl ?_
      refine r_getE (pc := 16) h dX4_findSpare_16 f_X4_67 sh_35 rfl (hR.nc) ?_
      refine r_icmp_ge (pc := 19) (tgt := 86) h dX4_findSpare_19 (by decide) (fun c19 => absurd c19 (nI_ge hi (by omega))) (fun c19 => ?_)
      refine r_aload_n (pc := 22) h dX4_findSpare_22 rfl ?_
      refine r_getR (pc := 23) h dX4_findSpare_23 f_X4_31 sh_35 rfl ?_
      refine r_iload_n (pc := 26) h dX4_findSpare_26 rfl ?_
      refine r_ialoadE (pc := 27) h dX4_findSpare_27 sh_43 (hR.wo hi) ?_
      refine r_istore_n (pc := 28) (ls2 := [_, _, _, _, _]) h dX4_findSpare_28 (Nat.le_of_ble_eq_true rfl) rfl ?_
      refine r_iload_n (pc := 29) h dX4_findSpare_29 rfl ?_
      refine r_if_ne (pc := 30) (tgt := 36) h dX4_findSpare_30 (by decide) (fun c30 => ?_) (fun c30 => ?_)
      · have q6 : ¬ c 6 i = 0 := fun q => c30 (by rw [q]; rfl)
        refine r_aload_n (pc := 36) h dX4_findSpare_36 rfl ?_
        refine r_getR (pc := 37) h dX4_findSpare_37 f_X4_31 sh_35 rfl ?_
        refine r_iload_n (pc := 40) h dX4_findSpare_40 rfl ?_
        refine r_iconst (pc := 41) h dX4_findSpare_41 ci_0 ?_
        refine r_iastore (pc := 42) h dX4_findSpare_42 sh_43 (hR.ci hi) ?_
        generalize hg3 : gup g2 43 _ _ = g3
        have hR2 := Rm.wrX hF (hR.u_wo hi 0) (by decide)
        rw [hg3] at hR2
        obtain ⟨hR, hF⟩ := hR2
        have h26 := gup_kp hg3 (a := 35) (b := 26) (by omega) h26
        have h27 := gup_kp hg3 (a := 35) (b := 27) (by omega) h27
        clear hg3
        revert g3
        intro g2 hR hF h26 h27
        refine r_aload_n (pc := 43) h dX4_findSpare_43 rfl ?_
        refine r_iload_n (pc := 44) h dX4_findSpare_44 rfl ?_
        refine r_callVi (pc := 45) (As := [_]) h dX4_findSpare_45 k_X4_231 gc_35 rfl ⟨Nat.le_of_ble_eq_true rfl, Nat.le_of_ble_eq_true rfl, Nat.le_of_ble_eq_true rfl⟩ (c_X4_saidIn hR (gok_6 ho (Nat.zero_le _)) (by show c 7 3 + n ≤ 2000; omega)) (fun x_45 g2 hq => ?_)
        obtain ⟨rfl, hR, hF1⟩ := hq
        have hF := hF.tr hF1.tx
        have h26 := (hF1.at (j := 26) (by decide)).trans h26
        have h27 := (hF1.at (j := 27) (by decide)).trans h27
        refine r_istore (pc := 48) (ls2 := [_, _, _, _, _]) h dX4_findSpare_48 (Nat.le_of_ble_eq_true rfl) rfl ?_
        refine r_aload_n (pc := 50) h dX4_findSpare_50 rfl ?_
        refine r_getR (pc := 51) h dX4_findSpare_51 f_X4_31 sh_35 rfl ?_
        refine r_iload_n (pc := 54) h dX4_findSpare_54 rfl ?_
        refine r_iload_n (pc := 55) h dX4_findSpare_55 rfl ?_
        refine r_iastore (pc := 56) h dX4_findSpare_56 sh_43 (hR.ci hi) ?_
        generalize hg3 : gup g2 43 _ _ = g3
        have hR2 := Rm.wrX hF (hR.u_wo (show i < cup c 6 i 0 7 1 from hi) (c 6 i)) (by decide)
        rw [hg3] at hR2
        obtain ⟨hR, hF⟩ := hR2
        have h26 := gup_kp hg3 (a := 35) (b := 26) (by omega) h26
        have h27 := gup_kp hg3 (a := 35) (b := 27) (by omega) h27
        clear hg3
        revert g3
        intro g2 hR hF h26 h27
        rw [cup_twice, cup_id] at hR
        refine r_iload (pc := 57) h dX4_findSpare_57 rfl ?_
        refine r_aload_n (pc := 59) h dX4_findSpare_59 rfl ?_
        refine r_getE (pc := 60) h dX4_findSpare_60 f_X4_267 sh_35 rfl (h27) ?_
        refine r_icmp_gt (pc := 63) (tgt := 69) h dX4_findSpare_63 (by decide) (fun c63 => ?_) (fun c63 => ?_)
        · refine r_aload_n (pc := 69) h dX4_findSpare_69 rfl ?_
          refine r_iload_n (pc := 70) h dX4_findSpare_70 rfl ?_
          refine r_putI (pc := 71) h dX4_findSpare_71 fw_X4_264 sh_35 rfl rfl rfl ?_
          generalize hg3 : gup g2 35 26 _ = g3
          have hR : Rm g3 c := by rw [← hg3]; exact hR.up (by decide) (by decide)
          have hF : tfX g g3 := by rw [← hg3]; exact hF.up (by decide)
          have h26 := gup_at hg3
          have h27 := gup_kp hg3 (a := 35) (b := 27) (by omega) h27
          clear hg3
          revert g3
          intro g2 hR hF h26 h27
          refine r_aload_n (pc := 74) h dX4_findSpare_74 rfl ?_
          refine r_iload (pc := 75) h dX4_findSpare_75 rfl ?_
          refine r_putI (pc := 77) h dX4_findSpare_77 fw_X4_267 sh_35 rfl rfl rfl ?_
          generalize hg3 : gup g2 35 27 _ = g3
          have hR : Rm g3 c := by rw [← hg3]; exact hR.up (by decide) (by decide)
          have hF : tfX g g3 := by rw [← hg3]; exact hF.up (by decide)
          have h27 := gup_at hg3
          have h26 := gup_kp hg3 (a := 35) (b := 26) (by omega) h26
          clear hg3
          revert g3
          intro g2 hR hF h27 h26
          refine r_iinc (pc := 80) (ls2 := [_, _, _, _, _]) h dX4_findSpare_80 rfl (ic1 _) rfl ?_
          refine r_goto (pc := 83) (tgt := 14) h dX4_findSpare_83 (by decide) ?_
          have e := sp_gt q6 hp30 (Int32.not_le.mpr c63)
          exact ih (i + 1) (spF c n i p) g2 _ _ (by omega) hR hF (h26.trans (spo e :)) (h27.trans (spn e :)) (fun z hz => by rw [e] at hz; first | exact hp30 z hz | (cases hz; exact h30)) hz
        · refine r_goto (pc := 66) (tgt := 80) h dX4_findSpare_66 (by decide) ?_
          refine r_iinc (pc := 80) (ls2 := [_, _, _, _, _]) h dX4_findSpare_80 rfl (ic1 _) rfl ?_
          refine r_goto (pc := 83) (tgt := 14) h dX4_findSpare_83 (by decide) ?_
          have e := sp_le q6 h30 hp30 (Int32.not_lt.mp c63)
          exact ih (i + 1) (spF c n i p) g2 _ _ (by omega) hR hF (h26.trans (spo e :)) (h27.trans (spn e :)) (fun z hz => by rw [e] at hz; first | exact hp30 z hz | (cases hz; exact h30)) hz
      · have q6 : c 6 i = 0 := (nI_eq0 (by omega)).mp c30
        refine r_goto (pc := 33) (tgt := 80) h dX4_findSpare_33 (by decide) ?_
        refine r_iinc (pc := 80) (ls2 := [_, _, _, _, _]) h dX4_findSpare_80 rfl (ic1 _) rfl ?_
        refine r_goto (pc := 83) (tgt := 14) h dX4_findSpare_83 (by decide) ?_
        have e := sp_z (n := n) (p := p) q6
        exact ih (i + 1) p g2 _ _ (by omega) hR hF h26 h27 hp30 (by rw [← hz]; show _ = gfold (spF c n) m (i + 1) (spF c n i p); rw [e])
  suffices H : ∀ g2 : gG, Rm g2 c → tfX g g2 → G 0 [.ref 35, .int (nI n), .null, .null, .null] [] g2 from H g hR tfX.rf
  intro g2 hR hF
  refine r_aload_n (pc := 0) h dX4_findSpare_0 rfl ?_
  refine r_bipush (pc := 1) h dX4_findSpare_1 cb_m9 ?_
  refine r_putI (pc := 3) h dX4_findSpare_3 fw_X4_264 sh_35 rfl rfl rfl ?_
  generalize hg3 : gup g2 35 26 _ = g3
  have hR : Rm g3 c := by rw [← hg3]; exact hR.up (by decide) (by decide)
  have hF : tfX g g3 := by rw [← hg3]; exact hF.up (by decide)
  have h26 := gup_at hg3
  clear hg3
  revert g3
  intro g2 hR hF h26
  refine r_aload_n (pc := 6) h dX4_findSpare_6 rfl ?_
  refine r_bipush (pc := 7) h dX4_findSpare_7 cb_m9 ?_
  refine r_putI (pc := 9) h dX4_findSpare_9 fw_X4_267 sh_35 rfl rfl rfl ?_
  generalize hg3 : gup g2 35 27 _ = g3
  have hR : Rm g3 c := by rw [← hg3]; exact hR.up (by decide) (by decide)
  have hF : tfX g g3 := by rw [← hg3]; exact hF.up (by decide)
  have h27 := gup_at hg3
  have h26 := gup_kp hg3 (a := 35) (b := 26) (by omega) h26
  clear hg3
  revert g3
  intro g2 hR hF h27 h26
  refine r_iconst (pc := 12) h dX4_findSpare_12 ci_0 ?_
  refine r_istore_n (pc := 13) (ls2 := [_, _, _, _, _]) h dX4_findSpare_13 (Nat.le_of_ble_eq_true rfl) rfl ?_
  exact loop (c 7 1) 0 none g2 _ _ (by omega) hR hF h26 h27 (fun z hz => by cases hz) rfl
set_option maxRecDepth 100000 in
set_option maxHeartbeats 4000000 in
theorem y_spare (hR : Rm g c) (hX : MSr g ck hk lt nl rv nr rf) (ho : gok c) (hd : c 7 3 ≤ 999) (v w : Int32) : gCi mX4_spare [.ref 35, .int v, .int w] g (fun y g1 => y = ansI (spW v w) (spA (spV c v.toNatClampNeg) w.toNatClampNeg) ∧ Rm g1 (c) ∧ MSr g1 ck hk lt nl rv nr (rfI rf (spW v w)) ∧ frm 35 58 g g1) := by
  refine gCi_of (own := RX4) (ls0 := [.ref 35, .int v, .int w, .null]) ⟨rfl, pl_X4⟩ rfl (Nat.le_of_ble_eq_true rfl) (fun G (h : gR RX4 cX4_spare 8 320 G) (t : gTi cX4_spare .int _ G) => ?_)
  have hn5 := hR.n5
  have hn6 := hR.n6
  suffices H : ∀ g2 : gG, Rm g2 c → tfX g g2 → G 0 [.ref 35, .int v, .int w, .null] [] g2 from H g hR tfX.rf
  intro g2 hR hF
  refine r_iload_n (pc := 0) h dX4_spare_0 rfl ?_
  refine r_iconst (pc := 1) h dX4_spare_1 ci_1 ?_
  refine r_bipush (pc := 2) h dX4_spare_2 cb_30 ?_
  refine r_callSi (pc := 4) (As := [_, _, _]) h dX4_spare_4 k_X4_70 rfl ⟨Nat.le_of_ble_eq_true rfl, Nat.le_of_ble_eq_true rfl, Nat.le_of_ble_eq_true rfl⟩ (c_X4_bound _ _ _) (fun x_4 g2 hq => ?_)
  obtain ⟨rfl, rfl⟩ := hq
  refine r_istore_n (pc := 7) (ls2 := [_, _, _, _]) h dX4_spare_7 (Nat.le_of_ble_eq_true rfl) rfl ?_
  refine r_iload_n (pc := 8) h dX4_spare_8 rfl ?_
  refine r_if_ne (pc := 9) (tgt := 24) h dX4_spare_9 (by decide) (fun c9 => ?_) (fun c9 => ?_)
  · have hw : ¬ bndI v (nI 1) (nI 30) = 0 := c9
    have hok : okw (bndI v (nI 1) (nI 30)) := okw_n
    have ew : spW v w = bndI v (nI 1) (nI 30) := by unfold spW fstI; rw [if_neg hw]
    refine r_iload_n (pc := 24) h dX4_spare_24 rfl ?_
    refine r_if_eq (pc := 25) (tgt := 34) h dX4_spare_25 (by decide) (fun c25 => absurd c25 (c9)) (fun c25 => ?_)
    refine r_aload_n (pc := 28) h dX4_spare_28 rfl ?_
    refine r_iload_n (pc := 29) h dX4_spare_29 rfl ?_
    refine r_callVi (pc := 30) (As := [_]) h dX4_spare_30 k_X4_77 gc_35 rfl ⟨Nat.le_of_ble_eq_true rfl, Nat.le_of_ble_eq_true rfl, Nat.le_of_ble_eq_true rfl⟩ (c_X4_no (okw_in hok hw).1) (fun x_30 g2 hq => ?_)
    obtain ⟨rfl, rfl⟩ := hq
    refine r_ri t (pc := 33) dX4_spare_33 rfl ?_
    rw [ew]
    have hq := y_ref hR (hX.tx hF) hok hw (v := spA (spV c v.toNatClampNeg) w.toNatClampNeg)
    exact ⟨hq.1, hq.2.1, hq.2.2.1, hF.frm.tr hq.2.2.2⟩
  · refine r_iload_n (pc := 12) h dX4_spare_12 rfl ?_
    refine r_iconst (pc := 13) h dX4_spare_13 ci_0 ?_
    refine r_iconst (pc := 14) h dX4_spare_14 ci_1 ?_
    refine r_callSi (pc := 15) (As := [_, _, _]) h dX4_spare_15 k_X4_88 rfl ⟨Nat.le_of_ble_eq_true rfl, Nat.le_of_ble_eq_true rfl, Nat.le_of_ble_eq_true rfl⟩ (c_X4_isIn _ _ _) (fun x_15 g2 hq => ?_)
    rw [isIn_inB (by decide)] at hq
    obtain ⟨rfl, rfl⟩ := hq
    refine r_if_ne (pc := 18) (tgt := 24) h dX4_spare_18 (by decide) (fun c18 => ?_) (fun c18 => ?_)
    · have hb2 : inB w (1 + 1) = true := by simpa using mt (bI_0 (inB w (1 + 1))).mpr c18
      have hw : spW v w = 0 := fst_0.mpr ⟨c9, by unfold whyB; rw [if_pos hb2]; rfl, rfl⟩
      obtain ⟨n, hn1, hn, hvn⟩ := bnd_nat (by decide) (by decide) c9
      obtain ⟨k, hk3, hwk⟩ := (inB_iff (by decide)).mp hb2
      subst hvn; subst hwk
      have en : (nI n).toNatClampNeg = n := nI_clamp (by omega)
      have ek : (nI k).toNatClampNeg = k := nI_clamp (by omega)
      refine r_iload_n (pc := 24) h dX4_spare_24 rfl ?_
      refine r_if_eq (pc := 25) (tgt := 34) h dX4_spare_25 (by decide) (fun c25 => ?_) (fun c25 => absurd (c9) c25)
      refine r_aload_n (pc := 34) h dX4_spare_34 rfl ?_
      refine r_iload_n (pc := 35) h dX4_spare_35 rfl ?_
      refine r_callVv (pc := 36) (As := [_]) h dX4_spare_36 k_X4_270 gc_35 rfl ⟨Nat.le_of_ble_eq_true rfl, Nat.le_of_ble_eq_true rfl, Nat.le_of_ble_eq_true rfl⟩ (c_X4_findSpare hR ho hd hn) (fun g2 hq => ?_)
      obtain ⟨hR, h26, h27, hF1⟩ := hq
      have hF := hF.tr hF1
      refine r_iload_n (pc := 39) h dX4_spare_39 rfl ?_
      refine r_if_ne (pc := 40) (tgt := 50) h dX4_spare_40 (by decide) (fun c40 => ?_) (fun c40 => ?_)
      · have k0 : ¬ k = 0 := fun q => c40 (by rw [q]; rfl)
        refine r_aload_n (pc := 50) h dX4_spare_50 rfl ?_
        refine r_getE (pc := 51) h dX4_spare_51 f_X4_267 sh_35 rfl (h27) ?_
        refine r_ri t (pc := 54) dX4_spare_54 rfl ?_
        exact y_ok hR (hX.tx hF) hF.frm hw (by rw [en, ek]; unfold spA; rw [if_neg k0])
      · have k0 : k = 0 := (nI_eq0 (by omega)).mp c40
        refine r_aload_n (pc := 43) h dX4_spare_43 rfl ?_
        refine r_getE (pc := 44) h dX4_spare_44 f_X4_264 sh_35 rfl (h26) ?_
        refine r_goto (pc := 47) (tgt := 54) h dX4_spare_47 (by decide) ?_
        refine r_ri t (pc := 54) dX4_spare_54 rfl ?_
        exact y_ok hR (hX.tx hF) hF.frm hw (by rw [en, ek]; unfold spA; rw [if_pos k0])
    · have hb2 : inB w (1 + 1) = false := (bI_0 (inB w (1 + 1))).mp c18
      have hw : ¬ (-2 : Int32) = 0 := by decide
      have hok : okw (-2) := okw_2
      have ew : spW v w = -2 := by unfold spW fstI; rw [if_pos c9]; unfold whyB; rw [show inB w 2 = false from hb2]; rfl
      refine r_bipush (pc := 21) h dX4_spare_21 cb_m2 ?_
      refine r_istore_n (pc := 23) (ls2 := [_, _, _, _]) h dX4_spare_23 (Nat.le_of_ble_eq_true rfl) rfl ?_
      refine r_iload_n (pc := 24) h dX4_spare_24 rfl ?_
      refine r_if_eq (pc := 25) (tgt := 34) h dX4_spare_25 (by decide) (fun c25 => absurd c25 (by decide)) (fun c25 => ?_)
      refine r_aload_n (pc := 28) h dX4_spare_28 rfl ?_
      refine r_iload_n (pc := 29) h dX4_spare_29 rfl ?_
      refine r_callVi (pc := 30) (As := [_]) h dX4_spare_30 k_X4_77 gc_35 rfl ⟨Nat.le_of_ble_eq_true rfl, Nat.le_of_ble_eq_true rfl, Nat.le_of_ble_eq_true rfl⟩ (c_X4_no (okw_in hok hw).1) (fun x_30 g2 hq => ?_)
      obtain ⟨rfl, rfl⟩ := hq
      refine r_ri t (pc := 33) dX4_spare_33 rfl ?_
      rw [ew]
      have hq := y_ref hR (hX.tx hF) hok hw (v := spA (spV c v.toNatClampNeg) w.toNatClampNeg)
      exact ⟨hq.1, hq.2.1, hq.2.2.1, hF.frm.tr hq.2.2.2⟩
end TX
