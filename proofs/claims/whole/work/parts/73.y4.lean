section TX
variable {g : gG} {c ck : gCt} {hk : Bool} {lt : Nat → Nat} {nl : Nat} {rv : Nat → Nat} {nr : Nat} {rf : Nat → Int32}
set_option maxRecDepth 100000 in
set_option maxHeartbeats 4000000 in
theorem c_X4_saidIn {g : gG} {c : gCt} (hR : Rm g c) (ho : gok c) {n : Nat} (hd : c 7 3 + n ≤ 2000) : gCi mX4_saidIn [.ref 35, .int (nI n)] g (fun y g1 => y = nI (tot (daysC n c)) ∧ Rm g1 c ∧ tfr g g1) := by
  refine gCi_of (own := RX4) (ls0 := [.ref 35, .int (nI n), .null]) ⟨rfl, pl_X4⟩ rfl (Nat.le_of_ble_eq_true rfl) (fun G (h : gR RX4 cX4_saidIn 6 240 G) (t : gTi cX4_saidIn .int _ G) => ?_)
  have hF : tfr g g := tfr.rf
  refine r_aload_n (pc := 0) h dX4_saidIn_0 rfl ?_
  refine r_callVv (pc := 1) (As := []) h dX4_saidIn_1 k_X4_219 gc_35 rfl ⟨Nat.le_of_ble_eq_true rfl, Nat.le_of_ble_eq_true rfl, Nat.le_of_ble_eq_true rfl⟩ (c_X4_thinks hR) (fun g2 hq => ?_)
  obtain ⟨hK, hF1⟩ := hq
  have hR := hR.kf hF1
  have hF := hF.tr hF1.tf
  refine r_aload_n (pc := 4) h dX4_saidIn_4 rfl ?_
  refine r_iload_n (pc := 5) h dX4_saidIn_5 rfl ?_
  refine r_callVv (pc := 6) (As := [_]) h dX4_saidIn_6 k_X4_122 gc_35 rfl ⟨Nat.le_of_ble_eq_true rfl, Nat.le_of_ble_eq_true rfl, Nat.le_of_ble_eq_true rfl⟩ (c_X4_goes hR ho (by omega)) (fun g2 hq => ?_)
  obtain ⟨hR, hF1⟩ := hq
  have hK := hK.fm hF1
  have hF := hF.tr hF1.tf
  refine r_aload_n (pc := 9) h dX4_saidIn_9 rfl ?_
  refine r_aload_n (pc := 10) h dX4_saidIn_10 rfl ?_
  refine r_getR (pc := 11) h dX4_saidIn_11 f_X4_28 sh_35 rfl ?_
  refine r_callVi (pc := 14) (As := [_]) h dX4_saidIn_14 k_X4_212 gc_35 rfl ⟨Nat.le_of_ble_eq_true rfl, Nat.le_of_ble_eq_true rfl, Nat.le_of_ble_eq_true rfl⟩ (c_X4_allOf_42 hR) (fun x_14 g2 hq => ?_)
  obtain ⟨rfl, rfl⟩ := hq
  refine r_istore_n (pc := 17) (ls2 := [_, _, _]) h dX4_saidIn_17 (Nat.le_of_ble_eq_true rfl) rfl ?_
  refine r_aload_n (pc := 18) h dX4_saidIn_18 rfl ?_
  refine r_callVv (pc := 19) (As := []) h dX4_saidIn_19 k_X4_222 gc_35 rfl ⟨Nat.le_of_ble_eq_true rfl, Nat.le_of_ble_eq_true rfl, Nat.le_of_ble_eq_true rfl⟩ (c_X4_forgets hK) (fun g2 hq => ?_)
  obtain ⟨hR, hF1⟩ := hq
  have hF := hF.tr hF1.tf
  refine r_iload_n (pc := 22) h dX4_saidIn_22 rfl ?_
  refine r_ri t (pc := 23) dX4_saidIn_23 rfl ?_
  exact ⟨by rw [tot_eq], hR, hF⟩
set_option maxRecDepth 100000 in
set_option maxHeartbeats 4000000 in
theorem y_callerThen (hR : Rm g c) (hX : MSr g ck hk lt nl rv nr rf) (ho : gok c) (hd : c 7 3 ≤ 999) (x v w : Int32) : gCi mX4_callerThen [.ref 35, .int x, .int v, .int w] g (fun y g1 => y = ansI (thnW c x v w) (thnV (daysC v.toNatClampNeg c) x.toNatClampNeg w.toNatClampNeg) ∧ Rm g1 (c) ∧ MSr g1 ck hk lt nl rv nr (rfI rf (thnW c x v w)) ∧ frm 35 58 g g1) := by
  refine gCi_of (own := RX4) (ls0 := [.ref 35, .int x, .int v, .int w, .null, .null]) ⟨rfl, pl_X4⟩ rfl (Nat.le_of_ble_eq_true rfl) (fun G (h : gR RX4 cX4_callerThen 6 240 G) (t : gTi cX4_callerThen .int _ G) => ?_)
  have hn5 := hR.n5
  have hn6 := hR.n6
  suffices H : ∀ g2 : gG, Rm g2 c → tfr g g2 → G 0 [.ref 35, .int x, .int v, .int w, .null, .null] [] g2 from H g hR tfr.rf
  intro g2 hR hF
  refine r_aload_n (pc := 0) h dX4_callerThen_0 rfl ?_
  refine r_iload_n (pc := 1) h dX4_callerThen_1 rfl ?_
  refine r_callVi (pc := 2) (As := [_]) h dX4_callerThen_2 k_X4_112 gc_35 rfl ⟨Nat.le_of_ble_eq_true rfl, Nat.le_of_ble_eq_true rfl, Nat.le_of_ble_eq_true rfl⟩ (c_X4_isCaller hR x) (fun x_2 g2 hq => ?_)
  obtain ⟨rfl, rfl⟩ := hq
  refine r_if_ne (pc := 5) (tgt := 12) h dX4_callerThen_5 (by decide) (fun c5 => ?_) (fun c5 => ?_)
  · have hb : inB x (c 7 1) = true := by simpa using mt (bI_0 (inB x (c 7 1))).mpr c5
    have hc : calW c x = 0 := by unfold calW whyB; rw [if_pos hb]; rfl
    refine r_iload_n (pc := 12) h dX4_callerThen_12 rfl ?_
    refine r_callSi (pc := 13) (As := [_]) h dX4_callerThen_13 k_X4_216 rfl ⟨Nat.le_of_ble_eq_true rfl, Nat.le_of_ble_eq_true rfl, Nat.le_of_ble_eq_true rfl⟩ (c_X4_notDays _) (fun x_13 g2 hq => ?_)
    obtain ⟨rfl, rfl⟩ := hq
    refine r_istore (pc := 16) (ls2 := [_, _, _, _, _, _]) h dX4_callerThen_16 (Nat.le_of_ble_eq_true rfl) rfl ?_
    refine r_iload (pc := 18) h dX4_callerThen_18 rfl ?_
    refine r_if_ne (pc := 20) (tgt := 36) h dX4_callerThen_20 (by decide) (fun c20 => ?_) (fun c20 => ?_)
    · have hw : ¬ bndI v (nI 0) (nI 60) = 0 := c20
      have hok : okw (bndI v (nI 0) (nI 60)) := okw_n
      have ew : thnW c x v w = bndI v (nI 0) (nI 60) := by unfold thnW fstI; rw [if_pos hc, if_neg hw]
      refine r_iload (pc := 36) h dX4_callerThen_36 rfl ?_
      refine r_if_eq (pc := 38) (tgt := 48) h dX4_callerThen_38 (by decide) (fun c38 => absurd c38 (c20)) (fun c38 => ?_)
      refine r_aload_n (pc := 41) h dX4_callerThen_41 rfl ?_
      refine r_iload (pc := 42) h dX4_callerThen_42 rfl ?_
      refine r_callVi (pc := 44) (As := [_]) h dX4_callerThen_44 k_X4_77 gc_35 rfl ⟨Nat.le_of_ble_eq_true rfl, Nat.le_of_ble_eq_true rfl, Nat.le_of_ble_eq_true rfl⟩ (c_X4_no (okw_in hok hw).1) (fun x_44 g2 hq => ?_)
      obtain ⟨rfl, rfl⟩ := hq
      refine r_ri t (pc := 47) dX4_callerThen_47 rfl ?_
      rw [ew]
      have hq := y_ref hR (hX.tf hF) hok hw (v := thnV (daysC v.toNatClampNeg c) x.toNatClampNeg w.toNatClampNeg)
      exact ⟨hq.1, hq.2.1, hq.2.2.1, hF.frm.tr hq.2.2.2⟩
    · refine r_iload_n (pc := 23) h dX4_callerThen_23 rfl ?_
      refine r_iconst (pc := 24) h dX4_callerThen_24 ci_0 ?_
      refine r_iconst (pc := 25) h dX4_callerThen_25 ci_2 ?_
      refine r_callSi (pc := 26) (As := [_, _, _]) h dX4_callerThen_26 k_X4_88 rfl ⟨Nat.le_of_ble_eq_true rfl, Nat.le_of_ble_eq_true rfl, Nat.le_of_ble_eq_true rfl⟩ (c_X4_isIn _ _ _) (fun x_26 g2 hq => ?_)
      rw [isIn_inB (by decide)] at hq
      obtain ⟨rfl, rfl⟩ := hq
      refine r_if_ne (pc := 29) (tgt := 36) h dX4_callerThen_29 (by decide) (fun c29 => ?_) (fun c29 => ?_)
      · have hb2 : inB w (2 + 1) = true := by simpa using mt (bI_0 (inB w (2 + 1))).mpr c29
        have hw : thnW c x v w = 0 := fst_0.mpr ⟨hc, c20, by unfold whyB; rw [if_pos hb2]; rfl⟩
        obtain ⟨i, hi, hxi⟩ := (inB_iff (by omega)).mp hb
        obtain ⟨n, -, hn, hvn⟩ := bnd_nat (by decide) (by decide) c20
        obtain ⟨k, hk3, hwk⟩ := (inB_iff (by decide)).mp hb2
        subst hxi; subst hvn; subst hwk
        have ei : (nI i).toNatClampNeg = i := nI_clamp (by omega)
        have en : (nI n).toNatClampNeg = n := nI_clamp (by omega)
        have ek : (nI k).toNatClampNeg = k := nI_clamp (by omega)
        have hD := daysC_ok ho n (by omega)
        have hi9 : i < daysC n c 7 1 := by rw [hD.2.1]; exact hi
        refine r_iload (pc := 36) h dX4_callerThen_36 rfl ?_
        refine r_if_eq (pc := 38) (tgt := 48) h dX4_callerThen_38 (by decide) (fun c38 => ?_) (fun c38 => absurd (c20) c38)
        refine r_aload_n (pc := 48) h dX4_callerThen_48 rfl ?_
        refine r_callVv (pc := 49) (As := []) h dX4_callerThen_49 k_X4_219 gc_35 rfl ⟨Nat.le_of_ble_eq_true rfl, Nat.le_of_ble_eq_true rfl, Nat.le_of_ble_eq_true rfl⟩ (c_X4_thinks hR) (fun g2 hq => ?_)
        obtain ⟨hK, hF1⟩ := hq
        have hR := hR.kf hF1
        have hF := hF.tr hF1.tf
        refine r_aload_n (pc := 52) h dX4_callerThen_52 rfl ?_
        refine r_iload_n (pc := 53) h dX4_callerThen_53 rfl ?_
        refine r_callVv (pc := 54) (As := [_]) h dX4_callerThen_54 k_X4_122 gc_35 rfl ⟨Nat.le_of_ble_eq_true rfl, Nat.le_of_ble_eq_true rfl, Nat.le_of_ble_eq_true rfl⟩ (c_X4_goes hR ho (by omega)) (fun g2 hq => ?_)
        obtain ⟨hR, hF1⟩ := hq
        have hK := hK.fm hF1
        have hF := hF.tr hF1.tf
        refine r_iload_n (pc := 57) h dX4_callerThen_57 rfl ?_
        refine r_if_ne (pc := 58) (tgt := 70) h dX4_callerThen_58 (by decide) (fun c58 => ?_) (fun c58 => ?_)
        · have k0 : ¬ k = 0 := fun q => c58 (by rw [q]; rfl)
          refine r_iload_n (pc := 70) h dX4_callerThen_70 rfl ?_
          refine r_iconst (pc := 71) h dX4_callerThen_71 ci_1 ?_
          refine r_icmp_ne (pc := 72) (tgt := 84) h dX4_callerThen_72 (by decide) (fun c72 => ?_) (fun c72 => ?_)
          · have k1 : ¬ k = 1 := fun q => c72 (by rw [q])
            refine r_aload_n (pc := 84) h dX4_callerThen_84 rfl ?_
            refine r_getR (pc := 85) h dX4_callerThen_85 f_X4_25 sh_35 rfl ?_
            refine r_iload_n (pc := 88) h dX4_callerThen_88 rfl ?_
            refine r_ialoadE (pc := 89) h dX4_callerThen_89 sh_41 (hR.so hi9) ?_
            refine r_istore (pc := 90) (ls2 := [_, _, _, _, _, _]) h dX4_callerThen_90 (Nat.le_of_ble_eq_true rfl) rfl ?_
            refine r_aload_n (pc := 92) h dX4_callerThen_92 rfl ?_
            refine r_callVv (pc := 93) (As := []) h dX4_callerThen_93 k_X4_222 gc_35 rfl ⟨Nat.le_of_ble_eq_true rfl, Nat.le_of_ble_eq_true rfl, Nat.le_of_ble_eq_true rfl⟩ (c_X4_forgets hK) (fun g2 hq => ?_)
            obtain ⟨hR, hF1⟩ := hq
            have hF := hF.tr hF1.tf
            refine r_iload (pc := 96) h dX4_callerThen_96 rfl ?_
            refine r_ri t (pc := 98) dX4_callerThen_98 rfl ?_
            exact y_ok hR (hX.tf hF) hF.frm hw (by rw [ei, en, ek]; unfold thnV; rw [if_neg k0, if_neg k1])
          · have k1 : k = 1 := (nI_eq (by omega) (by decide)).mp c72
            refine r_aload_n (pc := 75) h dX4_callerThen_75 rfl ?_
            refine r_getR (pc := 76) h dX4_callerThen_76 f_X4_22 sh_35 rfl ?_
            refine r_iload_n (pc := 79) h dX4_callerThen_79 rfl ?_
            refine r_ialoadE (pc := 80) h dX4_callerThen_80 sh_40 (hR.fe hi9) ?_
            refine r_goto (pc := 81) (tgt := 90) h dX4_callerThen_81 (by decide) ?_
            refine r_istore (pc := 90) (ls2 := [_, _, _, _, _, _]) h dX4_callerThen_90 (Nat.le_of_ble_eq_true rfl) rfl ?_
            refine r_aload_n (pc := 92) h dX4_callerThen_92 rfl ?_
            refine r_callVv (pc := 93) (As := []) h dX4_callerThen_93 k_X4_222 gc_35 rfl ⟨Nat.le_of_ble_eq_true rfl, Nat.le_of_ble_eq_true rfl, Nat.le_of_ble_eq_true rfl⟩ (c_X4_forgets hK) (fun g2 hq => ?_)
            obtain ⟨hR, hF1⟩ := hq
            have hF := hF.tr hF1.tf
            refine r_iload (pc := 96) h dX4_callerThen_96 rfl ?_
            refine r_ri t (pc := 98) dX4_callerThen_98 rfl ?_
            exact y_ok hR (hX.tf hF) hF.frm hw (by rw [ei, en, ek]; unfold thnV; rw [if_neg k0, if_pos k1])
        · have k0 : k = 0 := (nI_eq0 (by omega)).mp c58
          refine r_aload_n (pc := 61) h dX4_callerThen_61 rfl ?_
          refine r_getR (pc := 62) h dX4_callerThen_62 f_X4_28 sh_35 rfl ?_
          refine r_iload_n (pc := 65) h dX4_callerThen_65 rfl ?_
          refine r_ialoadE (pc := 66) h dX4_callerThen_66 sh_42 (hR.sa hi9) ?_
          refine r_goto (pc := 67) (tgt := 90) h dX4_callerThen_67 (by decide) ?_
          refine r_istore (pc := 90) (ls2 := [_, _, _, _, _, _]) h dX4_callerThen_90 (Nat.le_of_ble_eq_true rfl) rfl ?_
          refine r_aload_n (pc := 92) h dX4_callerThen_92 rfl ?_
          refine r_callVv (pc := 93) (As := []) h dX4_callerThen_93 k_X4_222 gc_35 rfl ⟨Nat.le_of_ble_eq_true rfl, Nat.le_of_ble_eq_true rfl, Nat.le_of_ble_eq_true rfl⟩ (c_X4_forgets hK) (fun g2 hq => ?_)
          obtain ⟨hR, hF1⟩ := hq
          have hF := hF.tr hF1.tf
          refine r_iload (pc := 96) h dX4_callerThen_96 rfl ?_
          refine r_ri t (pc := 98) dX4_callerThen_98 rfl ?_
          exact y_ok hR (hX.tf hF) hF.frm hw (by rw [ei, en, ek]; unfold thnV; rw [if_pos k0])
      · have hb2 : inB w (2 + 1) = false := (bI_0 (inB w (2 + 1))).mp c29
        have hw : ¬ (-2 : Int32) = 0 := by decide
        have hok : okw (-2) := okw_2
        have ew : thnW c x v w = -2 := by unfold thnW fstI; rw [if_pos hc, if_pos c20]; unfold whyB; rw [show inB w 3 = false from hb2]; rfl
        refine r_bipush (pc := 32) h dX4_callerThen_32 cb_m2 ?_
        refine r_istore (pc := 34) (ls2 := [_, _, _, _, _, _]) h dX4_callerThen_34 (Nat.le_of_ble_eq_true rfl) rfl ?_
        refine r_iload (pc := 36) h dX4_callerThen_36 rfl ?_
        refine r_if_eq (pc := 38) (tgt := 48) h dX4_callerThen_38 (by decide) (fun c38 => absurd c38 (by decide)) (fun c38 => ?_)
        refine r_aload_n (pc := 41) h dX4_callerThen_41 rfl ?_
        refine r_iload (pc := 42) h dX4_callerThen_42 rfl ?_
        refine r_callVi (pc := 44) (As := [_]) h dX4_callerThen_44 k_X4_77 gc_35 rfl ⟨Nat.le_of_ble_eq_true rfl, Nat.le_of_ble_eq_true rfl, Nat.le_of_ble_eq_true rfl⟩ (c_X4_no (okw_in hok hw).1) (fun x_44 g2 hq => ?_)
        obtain ⟨rfl, rfl⟩ := hq
        refine r_ri t (pc := 47) dX4_callerThen_47 rfl ?_
        rw [ew]
        have hq := y_ref hR (hX.tf hF) hok hw (v := thnV (daysC v.toNatClampNeg c) x.toNatClampNeg w.toNatClampNeg)
        exact ⟨hq.1, hq.2.1, hq.2.2.1, hF.frm.tr hq.2.2.2⟩
  · have hb : inB x (c 7 1) = false := (bI_0 (inB x (c 7 1))).mp c5
    have hw : ¬ (-1 : Int32) = 0 := by decide
    have hok : okw (-1) := okw_1
    have ew : thnW c x v w = -1 := by unfold thnW calW whyB fstI; rw [hb]; rfl
    refine r_iconst (pc := 8) h dX4_callerThen_8 ci_m1 ?_
    refine r_goto (pc := 9) (tgt := 16) h dX4_callerThen_9 (by decide) ?_
    refine r_istore (pc := 16) (ls2 := [_, _, _, _, _, _]) h dX4_callerThen_16 (Nat.le_of_ble_eq_true rfl) rfl ?_
    refine r_iload (pc := 18) h dX4_callerThen_18 rfl ?_
    refine r_if_ne (pc := 20) (tgt := 36) h dX4_callerThen_20 (by decide) (fun c20 => ?_) (fun c20 => absurd c20 (by decide))
    refine r_iload (pc := 36) h dX4_callerThen_36 rfl ?_
    refine r_if_eq (pc := 38) (tgt := 48) h dX4_callerThen_38 (by decide) (fun c38 => absurd c38 (by decide)) (fun c38 => ?_)
    refine r_aload_n (pc := 41) h dX4_callerThen_41 rfl ?_
    refine r_iload (pc := 42) h dX4_callerThen_42 rfl ?_
    refine r_callVi (pc := 44) (As := [_]) h dX4_callerThen_44 k_X4_77 gc_35 rfl ⟨Nat.le_of_ble_eq_true rfl, Nat.le_of_ble_eq_true rfl, Nat.le_of_ble_eq_true rfl⟩ (c_X4_no (okw_in hok hw).1) (fun x_44 g2 hq => ?_)
    obtain ⟨rfl, rfl⟩ := hq
    refine r_ri t (pc := 47) dX4_callerThen_47 rfl ?_
    rw [ew]
    have hq := y_ref hR (hX.tf hF) hok hw (v := thnV (daysC v.toNatClampNeg c) x.toNatClampNeg w.toNatClampNeg)
    exact ⟨hq.1, hq.2.1, hq.2.2.1, hF.frm.tr hq.2.2.2⟩
set_option maxRecDepth 100000 in
set_option maxHeartbeats 4000000 in
theorem y_suitThen (hR : Rm g c) (hX : MSr g ck hk lt nl rv nr rf) (ho : gok c) (hd : c 7 3 ≤ 999) (x v : Int32) : gCi mX4_suitThen [.ref 35, .int x, .int v] g (fun y g1 => y = ansI (sthW c x v) (oI (wr (daysC v.toNatClampNeg c) x.toNatClampNeg)) ∧ Rm g1 (c) ∧ MSr g1 ck hk lt nl rv nr (rfI rf (sthW c x v)) ∧ frm 35 58 g g1) := by
  refine gCi_of (own := RX4) (ls0 := [.ref 35, .int x, .int v, .null, .null]) ⟨rfl, pl_X4⟩ rfl (Nat.le_of_ble_eq_true rfl) (fun G (h : gR RX4 cX4_suitThen 6 240 G) (t : gTi cX4_suitThen .int _ G) => ?_)
  have hn5 := hR.n5
  have hn6 := hR.n6
  suffices H : ∀ g2 : gG, Rm g2 c → tfr g g2 → G 0 [.ref 35, .int x, .int v, .null, .null] [] g2 from H g hR tfr.rf
  intro g2 hR hF
  refine r_aload_n (pc := 0) h dX4_suitThen_0 rfl ?_
  refine r_iload_n (pc := 1) h dX4_suitThen_1 rfl ?_
  refine r_callVi (pc := 2) (As := [_]) h dX4_suitThen_2 k_X4_109 gc_35 rfl ⟨Nat.le_of_ble_eq_true rfl, Nat.le_of_ble_eq_true rfl, Nat.le_of_ble_eq_true rfl⟩ (c_X4_isSuit hR x) (fun x_2 g2 hq => ?_)
  obtain ⟨rfl, rfl⟩ := hq
  refine r_if_ne (pc := 5) (tgt := 12) h dX4_suitThen_5 (by decide) (fun c5 => ?_) (fun c5 => ?_)
  · have hb : inB x (c 7 0) = true := by simpa using mt (bI_0 (inB x (c 7 0))).mpr c5
    have hc : sufW c x = 0 := by unfold sufW whyB; rw [if_pos hb]; rfl
    refine r_iload_n (pc := 12) h dX4_suitThen_12 rfl ?_
    refine r_callSi (pc := 13) (As := [_]) h dX4_suitThen_13 k_X4_216 rfl ⟨Nat.le_of_ble_eq_true rfl, Nat.le_of_ble_eq_true rfl, Nat.le_of_ble_eq_true rfl⟩ (c_X4_notDays _) (fun x_13 g2 hq => ?_)
    obtain ⟨rfl, rfl⟩ := hq
    refine r_istore_n (pc := 16) (ls2 := [_, _, _, _, _]) h dX4_suitThen_16 (Nat.le_of_ble_eq_true rfl) rfl ?_
    refine r_iload_n (pc := 17) h dX4_suitThen_17 rfl ?_
    refine r_if_eq (pc := 18) (tgt := 27) h dX4_suitThen_18 (by decide) (fun c18 => ?_) (fun c18 => ?_)
    · have hw : sthW c x v = 0 := fst_0.mpr ⟨hc, c18, rfl⟩
      obtain ⟨s, hs, hxs⟩ := (inB_iff (by omega)).mp hb
      obtain ⟨n, -, hn, hvn⟩ := bnd_nat (by decide) (by decide) c18
      subst hxs; subst hvn
      have es : (nI s).toNatClampNeg = s := nI_clamp (by omega)
      have en : (nI n).toNatClampNeg = n := nI_clamp (by omega)
      have hD := daysC_ok ho n (by omega)
      refine r_aload_n (pc := 27) h dX4_suitThen_27 rfl ?_
      refine r_callVv (pc := 28) (As := []) h dX4_suitThen_28 k_X4_219 gc_35 rfl ⟨Nat.le_of_ble_eq_true rfl, Nat.le_of_ble_eq_true rfl, Nat.le_of_ble_eq_true rfl⟩ (c_X4_thinks hR) (fun g2 hq => ?_)
      obtain ⟨hK, hF1⟩ := hq
      have hR := hR.kf hF1
      have hF := hF.tr hF1.tf
      refine r_aload_n (pc := 31) h dX4_suitThen_31 rfl ?_
      refine r_iload_n (pc := 32) h dX4_suitThen_32 rfl ?_
      refine r_callVv (pc := 33) (As := [_]) h dX4_suitThen_33 k_X4_122 gc_35 rfl ⟨Nat.le_of_ble_eq_true rfl, Nat.le_of_ble_eq_true rfl, Nat.le_of_ble_eq_true rfl⟩ (c_X4_goes hR ho (by omega)) (fun g2 hq => ?_)
      obtain ⟨hR, hF1⟩ := hq
      have hK := hK.fm hF1
      have hF := hF.tr hF1.tf
      refine r_aload_n (pc := 36) h dX4_suitThen_36 rfl ?_
      refine r_iload_n (pc := 37) h dX4_suitThen_37 rfl ?_
      refine r_callVi (pc := 38) (As := [_]) h dX4_suitThen_38 k_X4_169 gc_35 rfl ⟨Nat.le_of_ble_eq_true rfl, Nat.le_of_ble_eq_true rfl, Nat.le_of_ble_eq_true rfl⟩ (c_X4_wearerOf hR hD.2.2.2 (by omega)) (fun x_38 g2 hq => ?_)
      obtain ⟨rfl, rfl⟩ := hq
      refine r_istore (pc := 41) (ls2 := [_, _, _, _, _]) h dX4_suitThen_41 (Nat.le_of_ble_eq_true rfl) rfl ?_
      refine r_aload_n (pc := 43) h dX4_suitThen_43 rfl ?_
      refine r_callVv (pc := 44) (As := []) h dX4_suitThen_44 k_X4_222 gc_35 rfl ⟨Nat.le_of_ble_eq_true rfl, Nat.le_of_ble_eq_true rfl, Nat.le_of_ble_eq_true rfl⟩ (c_X4_forgets hK) (fun g2 hq => ?_)
      obtain ⟨hR, hF1⟩ := hq
      have hF := hF.tr hF1.tf
      refine r_iload (pc := 47) h dX4_suitThen_47 rfl ?_
      refine r_ri t (pc := 49) dX4_suitThen_49 rfl ?_
      exact y_ok hR (hX.tf hF) hF.frm hw (by rw [es, en])
    · have hw : ¬ bndI v (nI 0) (nI 60) = 0 := c18
      have hok : okw (bndI v (nI 0) (nI 60)) := okw_n
      have ew : sthW c x v = bndI v (nI 0) (nI 60) := by unfold sthW fstI; rw [if_pos hc, if_neg hw]
      refine r_aload_n (pc := 21) h dX4_suitThen_21 rfl ?_
      refine r_iload_n (pc := 22) h dX4_suitThen_22 rfl ?_
      refine r_callVi (pc := 23) (As := [_]) h dX4_suitThen_23 k_X4_77 gc_35 rfl ⟨Nat.le_of_ble_eq_true rfl, Nat.le_of_ble_eq_true rfl, Nat.le_of_ble_eq_true rfl⟩ (c_X4_no (okw_in hok hw).1) (fun x_23 g2 hq => ?_)
      obtain ⟨rfl, rfl⟩ := hq
      refine r_ri t (pc := 26) dX4_suitThen_26 rfl ?_
      rw [ew]
      have hq := y_ref hR (hX.tf hF) hok hw (v := oI (wr (daysC v.toNatClampNeg c) x.toNatClampNeg))
      exact ⟨hq.1, hq.2.1, hq.2.2.1, hF.frm.tr hq.2.2.2⟩
  · have hb : inB x (c 7 0) = false := (bI_0 (inB x (c 7 0))).mp c5
    have hw : ¬ (-1 : Int32) = 0 := by decide
    have hok : okw (-1) := okw_1
    have ew : sthW c x v = -1 := by unfold sthW sufW whyB fstI; rw [hb]; rfl
    refine r_iconst (pc := 8) h dX4_suitThen_8 ci_m1 ?_
    refine r_goto (pc := 9) (tgt := 16) h dX4_suitThen_9 (by decide) ?_
    refine r_istore_n (pc := 16) (ls2 := [_, _, _, _, _]) h dX4_suitThen_16 (Nat.le_of_ble_eq_true rfl) rfl ?_
    refine r_iload_n (pc := 17) h dX4_suitThen_17 rfl ?_
    refine r_if_eq (pc := 18) (tgt := 27) h dX4_suitThen_18 (by decide) (fun c18 => absurd c18 (by decide)) (fun c18 => ?_)
    refine r_aload_n (pc := 21) h dX4_suitThen_21 rfl ?_
    refine r_iload_n (pc := 22) h dX4_suitThen_22 rfl ?_
    refine r_callVi (pc := 23) (As := [_]) h dX4_suitThen_23 k_X4_77 gc_35 rfl ⟨Nat.le_of_ble_eq_true rfl, Nat.le_of_ble_eq_true rfl, Nat.le_of_ble_eq_true rfl⟩ (c_X4_no (okw_in hok hw).1) (fun x_23 g2 hq => ?_)
    obtain ⟨rfl, rfl⟩ := hq
    refine r_ri t (pc := 26) dX4_suitThen_26 rfl ?_
    rw [ew]
    have hq := y_ref hR (hX.tf hF) hok hw (v := oI (wr (daysC v.toNatClampNeg c) x.toNatClampNeg))
    exact ⟨hq.1, hq.2.1, hq.2.2.1, hF.frm.tr hq.2.2.2⟩
set_option maxRecDepth 100000 in
set_option maxHeartbeats 4000000 in
theorem y_cost (hR : Rm g c) (hX : MSr g ck hk lt nl rv nr rf) (ho : gok c) (hd : c 7 3 ≤ 999) (v : Int32) : gCi mX4_cost [.ref 35, .int v] g (fun y g1 => y = ansI (bndI v (nI 0) (nI 60)) (nI (daysC v.toNatClampNeg c 7 2) - nI (c 7 2)) ∧ Rm g1 (c) ∧ MSr g1 ck hk lt nl rv nr (rfI rf (bndI v (nI 0) (nI 60))) ∧ frm 35 58 g g1) := by
  refine gCi_of (own := RX4) (ls0 := [.ref 35, .int v, .null, .null, .null]) ⟨rfl, pl_X4⟩ rfl (Nat.le_of_ble_eq_true rfl) (fun G (h : gR RX4 cX4_cost 6 240 G) (t : gTi cX4_cost .int _ G) => ?_)
  have hn5 := hR.n5
  have hn6 := hR.n6
  suffices H : ∀ g2 : gG, Rm g2 c → tfr g g2 → G 0 [.ref 35, .int v, .null, .null, .null] [] g2 from H g hR tfr.rf
  intro g2 hR hF
  refine r_iload_n (pc := 0) h dX4_cost_0 rfl ?_
  refine r_callSi (pc := 1) (As := [_]) h dX4_cost_1 k_X4_216 rfl ⟨Nat.le_of_ble_eq_true rfl, Nat.le_of_ble_eq_true rfl, Nat.le_of_ble_eq_true rfl⟩ (c_X4_notDays _) (fun x_1 g2 hq => ?_)
  obtain ⟨rfl, rfl⟩ := hq
  refine r_istore_n (pc := 4) (ls2 := [_, _, _, _, _]) h dX4_cost_4 (Nat.le_of_ble_eq_true rfl) rfl ?_
  refine r_iload_n (pc := 5) h dX4_cost_5 rfl ?_
  refine r_if_eq (pc := 6) (tgt := 15) h dX4_cost_6 (by decide) (fun c6 => ?_) (fun c6 => ?_)
  · have hw : bndI v (nI 0) (nI 60) = 0 := c6
    obtain ⟨n, -, hn, hvn⟩ := bnd_nat (by decide) (by decide) hw
    subst hvn
    have en : (nI n).toNatClampNeg = n := nI_clamp (by omega)
    refine r_aload_n (pc := 15) h dX4_cost_15 rfl ?_
    refine r_getE (pc := 16) h dX4_cost_16 f_X4_163 sh_35 rfl (hR.pd) ?_
    refine r_istore_n (pc := 19) (ls2 := [_, _, _, _, _]) h dX4_cost_19 (Nat.le_of_ble_eq_true rfl) rfl ?_
    refine r_aload_n (pc := 20) h dX4_cost_20 rfl ?_
    refine r_callVv (pc := 21) (As := []) h dX4_cost_21 k_X4_219 gc_35 rfl ⟨Nat.le_of_ble_eq_true rfl, Nat.le_of_ble_eq_true rfl, Nat.le_of_ble_eq_true rfl⟩ (c_X4_thinks hR) (fun g2 hq => ?_)
    obtain ⟨hK, hF1⟩ := hq
    have hR := hR.kf hF1
    have hF := hF.tr hF1.tf
    refine r_aload_n (pc := 24) h dX4_cost_24 rfl ?_
    refine r_iload_n (pc := 25) h dX4_cost_25 rfl ?_
    refine r_callVv (pc := 26) (As := [_]) h dX4_cost_26 k_X4_122 gc_35 rfl ⟨Nat.le_of_ble_eq_true rfl, Nat.le_of_ble_eq_true rfl, Nat.le_of_ble_eq_true rfl⟩ (c_X4_goes hR ho (by omega)) (fun g2 hq => ?_)
    obtain ⟨hR, hF1⟩ := hq
    have hK := hK.fm hF1
    have hF := hF.tr hF1.tf
    refine r_aload_n (pc := 29) h dX4_cost_29 rfl ?_
    refine r_getE (pc := 30) h dX4_cost_30 f_X4_163 sh_35 rfl (hR.pd) ?_
    refine r_iload_n (pc := 33) h dX4_cost_33 rfl ?_
    refine r_isub (pc := 34) h dX4_cost_34 ?_
    refine r_istore (pc := 35) (ls2 := [_, _, _, _, _]) h dX4_cost_35 (Nat.le_of_ble_eq_true rfl) rfl ?_
    refine r_aload_n (pc := 37) h dX4_cost_37 rfl ?_
    refine r_callVv (pc := 38) (As := []) h dX4_cost_38 k_X4_222 gc_35 rfl ⟨Nat.le_of_ble_eq_true rfl, Nat.le_of_ble_eq_true rfl, Nat.le_of_ble_eq_true rfl⟩ (c_X4_forgets hK) (fun g2 hq => ?_)
    obtain ⟨hR, hF1⟩ := hq
    have hF := hF.tr hF1.tf
    refine r_iload (pc := 41) h dX4_cost_41 rfl ?_
    refine r_ri t (pc := 43) dX4_cost_43 rfl ?_
    exact y_ok hR (hX.tf hF) hF.frm hw (by rw [en])
  · have hw : ¬ bndI v (nI 0) (nI 60) = 0 := c6
    have hok : okw (bndI v (nI 0) (nI 60)) := okw_n
    have ew : bndI v (nI 0) (nI 60) = bndI v (nI 0) (nI 60) := rfl
    refine r_aload_n (pc := 9) h dX4_cost_9 rfl ?_
    refine r_iload_n (pc := 10) h dX4_cost_10 rfl ?_
    refine r_callVi (pc := 11) (As := [_]) h dX4_cost_11 k_X4_77 gc_35 rfl ⟨Nat.le_of_ble_eq_true rfl, Nat.le_of_ble_eq_true rfl, Nat.le_of_ble_eq_true rfl⟩ (c_X4_no (okw_in hok hw).1) (fun x_11 g2 hq => ?_)
    obtain ⟨rfl, rfl⟩ := hq
    refine r_ri t (pc := 14) dX4_cost_14 rfl ?_
    have hq := y_ref hR (hX.tf hF) hok hw (v := nI (daysC v.toNatClampNeg c 7 2) - nI (c 7 2))
    exact ⟨hq.1, hq.2.1, hq.2.2.1, hF.frm.tr hq.2.2.2⟩
set_option maxRecDepth 100000 in
set_option maxHeartbeats 4000000 in
theorem c_X4_proposesWhen {g : gG} {c : gCt} (hR : Rm g c) (ho : gok c) (hd : c 7 3 ≤ 999) {i : Nat} (hi : i < c 7 1) : gCi mX4_proposesWhen [.ref 35, .int (nI i)] g (fun y g1 => y = oI (prp c i) ∧ Rm g1 c ∧ tfr g g1) := by
  refine gCi_of (own := RX4) (ls0 := [.ref 35, .int (nI i), .null, .null]) ⟨rfl, pl_X4⟩ rfl (Nat.le_of_ble_eq_true rfl) (fun G (h : gR RX4 cX4_proposesWhen 5 200 G) (t : gTi cX4_proposesWhen .int _ G) => ?_)
  have hn5 := hR.n5
  have hn6 := hR.n6
  have fin : ∀ (o z : Int32) (g2 : gG), Rk g2 84 c → tfr g g2 → o = oI (prp c i) → G 47 [.ref 35, .int (nI i), .int o, .int z] [] g2 := by
    intro o z g2 hK hF ho2
    refine r_aload_n (pc := 47) h dX4_proposesWhen_47 rfl ?_
    refine r_callVv (pc := 48) (As := []) h dX4_proposesWhen_48 k_X4_222 gc_35 rfl ⟨Nat.le_of_ble_eq_true rfl, Nat.le_of_ble_eq_true rfl, Nat.le_of_ble_eq_true rfl⟩ (c_X4_forgets hK) (fun g2 hq => ?_)
    obtain ⟨hR, hF1⟩ := hq
    have hF := hF.tr hF1.tf
    refine r_iload_n (pc := 51) h dX4_proposesWhen_51 rfl ?_
    refine r_ri t (pc := 52) dX4_proposesWhen_52 rfl ?_
    exact ⟨ho2, hR, hF⟩
  have don : ∀ n (g2 : gG), n ≤ 60 → Rk g2 84 c → tfr g g2 → nI n = oI (prp c i) → G 9 [.ref 35, .int (nI i), .int (nI n), .int (nI (n + 1))] [] g2 := by
    intro n g2 hn hK hF hz
    refine r_iload_n (pc := 9) h dX4_proposesWhen_9 rfl ?_
    refine r_bipush (pc := 10) h dX4_proposesWhen_10 cb_60 ?_
    refine r_icmp_gt (pc := 12) (tgt := 47) h dX4_proposesWhen_12 (by decide) (fun c12 => ?_) (fun c12 => ?_)
    · exact fin _ _ g2 hK hF hz
    · refine r_iload_n (pc := 15) h dX4_proposesWhen_15 rfl ?_
      refine r_if_ge (pc := 16) (tgt := 47) h dX4_proposesWhen_16 (by decide) (fun c16 => ?_) (fun c16 => absurd (nI_pos' (by omega)) c16)
      exact fin _ _ g2 hK hF hz
  have loop : ∀ m n (g2 : gG), n + m = 61 → Rm g2 (daysC n c) → Rk g2 84 c → tfr g g2 → prp c i = gfind (fun n => decide (6 ≤ daysC n c 5 i)) m n → G 9 [.ref 35, .int (nI i), .int (-9), .int (nI n)] [] g2 := by
    intro m
    induction m with
    | zero =>
      intro n g2 hn hR hK hF hz
      refine r_iload_n (pc := 9) h dX4_proposesWhen_9 rfl ?_
      refine r_bipush (pc := 10) h dX4_proposesWhen_10 cb_60 ?_
      refine r_icmp_gt (pc := 12) (tgt := 47) h dX4_proposesWhen_12 (by decide) (fun c12 => ?_) (fun c12 => absurd (nI_lt (by omega) (by omega)) c12)
      exact fin _ _ g2 hK hF (by rw [hz]; rfl)
    | succ m ih =>
      intro n g2 hn hR hK hF hz
      have hD := daysC_ok ho n (by omega)
      have hi9 : i < daysC n c 7 1 := by rw [hD.2.1]; exact hi
      have h5 := (hD.2.2.2.2.2.2 i hi9).2.2.1
      refine r_iload_n (pc := 9) h dX4_proposesWhen_9 rfl ?_
      refine r_bipush (pc := 10) h dX4_proposesWhen_10 cb_60 ?_
      refine r_icmp_gt (pc := 12) (tgt := 47) h dX4_proposesWhen_12 (by decide) (fun c12 => absurd c12 (nI_nlt (by omega) (by omega))) (fun c12 => ?_)
      refine r_iload_n (pc := 15) h dX4_proposesWhen_15 rfl ?_
      refine r_if_ge (pc := 16) (tgt := 47) h dX4_proposesWhen_16 (by decide) (fun c16 => absurd c16 (by decide)) (fun c16 => ?_)
      refine r_aload_n (pc := 19) h dX4_proposesWhen_19 rfl ?_
      refine r_getR (pc := 20) h dX4_proposesWhen_20 f_X4_28 sh_35 rfl ?_
      refine r_iload_n (pc := 23) h dX4_proposesWhen_23 rfl ?_
      refine r_ialoadE (pc := 24) h dX4_proposesWhen_24 sh_42 (hR.sa hi9) ?_
      refine r_bipush (pc := 25) h dX4_proposesWhen_25 cb_6 ?_
      refine r_icmp_ne (pc := 27) (tgt := 34) h dX4_proposesWhen_27 (by decide) (fun c27 => ?_) (fun c27 => ?_)
      · have q : ¬ 6 ≤ daysC n c 5 i := fun z => c27 (by rw [show daysC n c 5 i = 6 by omega])
        refine r_bipush (pc := 34) h dX4_proposesWhen_34 cb_m9 ?_
        refine r_istore_n (pc := 36) (ls2 := [_, _, _, _]) h dX4_proposesWhen_36 (Nat.le_of_ble_eq_true rfl) rfl ?_
        refine r_aload_n (pc := 37) h dX4_proposesWhen_37 rfl ?_
        refine r_callVv (pc := 38) (As := []) h dX4_proposesWhen_38 k_X4_200 gc_35 rfl ⟨Nat.le_of_ble_eq_true rfl, Nat.le_of_ble_eq_true rfl, Nat.le_of_ble_eq_true rfl⟩ (c_X4_goesDay hR hD.2.2.2 (by omega)) (fun g2 hq => ?_)
        obtain ⟨hR, hF1⟩ := hq
        rw [← daysC_succ] at hR
        have hK := hK.fm hF1
        have hF := hF.tr hF1.tf
        refine r_iinc (pc := 41) (ls2 := [_, _, _, _]) h dX4_proposesWhen_41 rfl (ic1 _) rfl ?_
        refine r_goto (pc := 44) (tgt := 9) h dX4_proposesWhen_44 (by decide) ?_
        exact ih (n + 1) g2 (by omega) hR hK hF (by rw [hz, gfind, if_neg (by simpa using q)])
      · have q : 6 ≤ daysC n c 5 i := by have := (nI_eq (by omega) (by decide)).mp c27; omega
        refine r_iload_n (pc := 30) h dX4_proposesWhen_30 rfl ?_
        refine r_goto (pc := 31) (tgt := 36) h dX4_proposesWhen_31 (by decide) ?_
        refine r_istore_n (pc := 36) (ls2 := [_, _, _, _]) h dX4_proposesWhen_36 (Nat.le_of_ble_eq_true rfl) rfl ?_
        refine r_aload_n (pc := 37) h dX4_proposesWhen_37 rfl ?_
        refine r_callVv (pc := 38) (As := []) h dX4_proposesWhen_38 k_X4_200 gc_35 rfl ⟨Nat.le_of_ble_eq_true rfl, Nat.le_of_ble_eq_true rfl, Nat.le_of_ble_eq_true rfl⟩ (c_X4_goesDay hR hD.2.2.2 (by omega)) (fun g2 hq => ?_)
        obtain ⟨hR, hF1⟩ := hq
        rw [← daysC_succ] at hR
        have hK := hK.fm hF1
        have hF := hF.tr hF1.tf
        refine r_iinc (pc := 41) (ls2 := [_, _, _, _]) h dX4_proposesWhen_41 rfl (ic1 _) rfl ?_
        refine r_goto (pc := 44) (tgt := 9) h dX4_proposesWhen_44 (by decide) ?_
        exact don n g2 (by omega) hK hF (by rw [hz, gfind, if_pos (by simpa using q)]; rfl)
  have hF : tfr g g := tfr.rf
  refine r_aload_n (pc := 0) h dX4_proposesWhen_0 rfl ?_
  refine r_callVv (pc := 1) (As := []) h dX4_proposesWhen_1 k_X4_219 gc_35 rfl ⟨Nat.le_of_ble_eq_true rfl, Nat.le_of_ble_eq_true rfl, Nat.le_of_ble_eq_true rfl⟩ (c_X4_thinks hR) (fun g2 hq => ?_)
  obtain ⟨hK, hF1⟩ := hq
  have hR := hR.kf hF1
  have hF := hF.tr hF1.tf
  refine r_bipush (pc := 4) h dX4_proposesWhen_4 cb_m9 ?_
  refine r_istore_n (pc := 6) (ls2 := [_, _, _, _]) h dX4_proposesWhen_6 (Nat.le_of_ble_eq_true rfl) rfl ?_
  refine r_iconst (pc := 7) h dX4_proposesWhen_7 ci_0 ?_
  refine r_istore_n (pc := 8) (ls2 := [_, _, _, _]) h dX4_proposesWhen_8 (Nat.le_of_ble_eq_true rfl) rfl ?_
  exact loop 61 0 g2 rfl hR hK hF rfl
set_option maxRecDepth 100000 in
set_option maxHeartbeats 4000000 in
theorem y_out (hR : Rm g c) (hX : MSr g ck hk lt nl rv nr rf) (ho : gok c) (hd : c 7 3 ≤ 999) (x : Int32) : gCi mX4_out [.ref 35, .int x] g (fun y g1 => y = ansI (calW c x) (oI (outV c x.toNatClampNeg)) ∧ Rm g1 (c) ∧ MSr g1 ck hk lt nl rv nr (rfI rf (calW c x)) ∧ frm 35 58 g g1) := by
  refine gCi_of (own := RX4) (ls0 := [.ref 35, .int x, .null, .null]) ⟨rfl, pl_X4⟩ rfl (Nat.le_of_ble_eq_true rfl) (fun G (h : gR RX4 cX4_out 5 200 G) (t : gTi cX4_out .int _ G) => ?_)
  have hn5 := hR.n5
  have hn6 := hR.n6
  have main : ∀ i, i < c 7 1 → calW c (nI i) = 0 → x = nI i → ∀ g2 : gG, Rm g2 c → Rk g2 84 c → tfr g g2 → G 23 [.ref 35, .int (nI i), .int (-9), .int (nI 0)] [] g2 := by
    intro i hi hw hx g2 hR hK hF
    subst hx
    have ei : (nI i).toNatClampNeg = i := nI_clamp (by omega)
    have fin : ∀ (o z : Int32) (g2 : gG), Rk g2 84 c → tfr g g2 → o = oI (outV c i) → G 59 [.ref 35, .int (nI i), .int o, .int z] [] g2 := by
      intro o z g2 hK hF ho2
      refine r_aload_n (pc := 59) h dX4_out_59 rfl ?_
      refine r_callVv (pc := 60) (As := []) h dX4_out_60 k_X4_222 gc_35 rfl ⟨Nat.le_of_ble_eq_true rfl, Nat.le_of_ble_eq_true rfl, Nat.le_of_ble_eq_true rfl⟩ (c_X4_forgets hK) (fun g2 hq => ?_)
      obtain ⟨hR, hF1⟩ := hq
      have hF := hF.tr hF1.tf
      refine r_iload_n (pc := 63) h dX4_out_63 rfl ?_
      refine r_ri t (pc := 64) dX4_out_64 rfl ?_
      exact y_ok hR (hX.tf hF) hF.frm hw (by rw [ei]; exact ho2)
    have don : ∀ n (g2 : gG), n ≤ 60 → Rk g2 84 c → tfr g g2 → nI n = oI (outV c i) → G 23 [.ref 35, .int (nI i), .int (nI n), .int (nI (n + 1))] [] g2 := by
      intro n g2 hn hK hF hz
      refine r_iload_n (pc := 23) h dX4_out_23 rfl ?_
      refine r_bipush (pc := 24) h dX4_out_24 cb_60 ?_
      refine r_icmp_gt (pc := 26) (tgt := 59) h dX4_out_26 (by decide) (fun c26 => ?_) (fun c26 => ?_)
      · exact fin _ _ g2 hK hF hz
      · refine r_iload_n (pc := 29) h dX4_out_29 rfl ?_
        refine r_if_ge (pc := 30) (tgt := 59) h dX4_out_30 (by decide) (fun c30 => ?_) (fun c30 => absurd (nI_pos' (by omega)) c30)
        exact fin _ _ g2 hK hF hz
    have loop : ∀ m n (g2 : gG), n + m = 61 → Rm g2 (daysC n c) → Rk g2 84 c → tfr g g2 → outV c i = gfind (fun n => daysC n c 6 i == 0) m n → G 23 [.ref 35, .int (nI i), .int (-9), .int (nI n)] [] g2 := by
      intro m
      induction m with
      | zero =>
        intro n g2 hn hR hK hF hz
        refine r_iload_n (pc := 23) h dX4_out_23 rfl ?_
        refine r_bipush (pc := 24) h dX4_out_24 cb_60 ?_
        refine r_icmp_gt (pc := 26) (tgt := 59) h dX4_out_26 (by decide) (fun c26 => ?_) (fun c26 => absurd (nI_lt (by omega) (by omega)) c26)
        exact fin _ _ g2 hK hF (by rw [hz]; rfl)
      | succ m ih =>
        intro n g2 hn hR hK hF hz
        have hD := daysC_ok ho n (by omega)
        have hi9 : i < daysC n c 7 1 := by rw [hD.2.1]; exact hi
        have h6 := (hD.2.2.2.2.2.2 i hi9).2.2.2
        refine r_iload_n (pc := 23) h dX4_out_23 rfl ?_
        refine r_bipush (pc := 24) h dX4_out_24 cb_60 ?_
        refine r_icmp_gt (pc := 26) (tgt := 59) h dX4_out_26 (by decide) (fun c26 => absurd c26 (nI_nlt (by omega) (by omega))) (fun c26 => ?_)
        refine r_iload_n (pc := 29) h dX4_out_29 rfl ?_
        refine r_if_ge (pc := 30) (tgt := 59) h dX4_out_30 (by decide) (fun c30 => absurd c30 (by decide)) (fun c30 => ?_)
        refine r_aload_n (pc := 33) h dX4_out_33 rfl ?_
        refine r_getR (pc := 34) h dX4_out_34 f_X4_31 sh_35 rfl ?_
        refine r_iload_n (pc := 37) h dX4_out_37 rfl ?_
        refine r_ialoadE (pc := 38) h dX4_out_38 sh_43 (hR.wo hi9) ?_
        refine r_if_ne (pc := 39) (tgt := 46) h dX4_out_39 (by decide) (fun c39 => ?_) (fun c39 => ?_)
        · have q : ¬ daysC n c 6 i = 0 := fun z => c39 (by rw [z]; rfl)
          refine r_bipush (pc := 46) h dX4_out_46 cb_m9 ?_
          refine r_istore_n (pc := 48) (ls2 := [_, _, _, _]) h dX4_out_48 (Nat.le_of_ble_eq_true rfl) rfl ?_
          refine r_aload_n (pc := 49) h dX4_out_49 rfl ?_
          refine r_callVv (pc := 50) (As := []) h dX4_out_50 k_X4_200 gc_35 rfl ⟨Nat.le_of_ble_eq_true rfl, Nat.le_of_ble_eq_true rfl, Nat.le_of_ble_eq_true rfl⟩ (c_X4_goesDay hR hD.2.2.2 (by omega)) (fun g2 hq => ?_)
          obtain ⟨hR, hF1⟩ := hq
          rw [← daysC_succ] at hR
          have hK := hK.fm hF1
          have hF := hF.tr hF1.tf
          refine r_iinc (pc := 53) (ls2 := [_, _, _, _]) h dX4_out_53 rfl (ic1 _) rfl ?_
          refine r_goto (pc := 56) (tgt := 23) h dX4_out_56 (by decide) ?_
          exact ih (n + 1) g2 (by omega) hR hK hF (by rw [hz, gfind, if_neg (by simpa using q)])
        · have q : daysC n c 6 i = 0 := (nI_eq0 (by omega)).mp c39
          refine r_iload_n (pc := 42) h dX4_out_42 rfl ?_
          refine r_goto (pc := 43) (tgt := 48) h dX4_out_43 (by decide) ?_
          refine r_istore_n (pc := 48) (ls2 := [_, _, _, _]) h dX4_out_48 (Nat.le_of_ble_eq_true rfl) rfl ?_
          refine r_aload_n (pc := 49) h dX4_out_49 rfl ?_
          refine r_callVv (pc := 50) (As := []) h dX4_out_50 k_X4_200 gc_35 rfl ⟨Nat.le_of_ble_eq_true rfl, Nat.le_of_ble_eq_true rfl, Nat.le_of_ble_eq_true rfl⟩ (c_X4_goesDay hR hD.2.2.2 (by omega)) (fun g2 hq => ?_)
          obtain ⟨hR, hF1⟩ := hq
          rw [← daysC_succ] at hR
          have hK := hK.fm hF1
          have hF := hF.tr hF1.tf
          refine r_iinc (pc := 53) (ls2 := [_, _, _, _]) h dX4_out_53 rfl (ic1 _) rfl ?_
          refine r_goto (pc := 56) (tgt := 23) h dX4_out_56 (by decide) ?_
          exact don n g2 (by omega) hK hF (by rw [hz, gfind, if_pos (by simpa using q)]; rfl)
    exact loop 61 0 g2 rfl hR hK hF rfl
  suffices H : ∀ g2 : gG, Rm g2 c → tfr g g2 → G 0 [.ref 35, .int x, .null, .null] [] g2 from H g hR tfr.rf
  intro g2 hR hF
  refine r_aload_n (pc := 0) h dX4_out_0 rfl ?_
  refine r_iload_n (pc := 1) h dX4_out_1 rfl ?_
  refine r_callVi (pc := 2) (As := [_]) h dX4_out_2 k_X4_112 gc_35 rfl ⟨Nat.le_of_ble_eq_true rfl, Nat.le_of_ble_eq_true rfl, Nat.le_of_ble_eq_true rfl⟩ (c_X4_isCaller hR x) (fun x_2 g2 hq => ?_)
  obtain ⟨rfl, rfl⟩ := hq
  refine r_if_ne (pc := 5) (tgt := 14) h dX4_out_5 (by decide) (fun c5 => ?_) (fun c5 => ?_)
  · have hb : inB x (c 7 1) = true := by simpa using mt (bI_0 (inB x (c 7 1))).mpr c5
    have hw : calW c x = 0 := by unfold calW whyB; rw [if_pos hb]; rfl
    obtain ⟨i, hi, hxi⟩ := (inB_iff (by omega)).mp hb
    subst hxi
    refine r_aload_n (pc := 14) h dX4_out_14 rfl ?_
    refine r_callVv (pc := 15) (As := []) h dX4_out_15 k_X4_219 gc_35 rfl ⟨Nat.le_of_ble_eq_true rfl, Nat.le_of_ble_eq_true rfl, Nat.le_of_ble_eq_true rfl⟩ (c_X4_thinks hR) (fun g2 hq => ?_)
    obtain ⟨hK, hF1⟩ := hq
    have hR := hR.kf hF1
    have hF := hF.tr hF1.tf
    refine r_bipush (pc := 18) h dX4_out_18 cb_m9 ?_
    refine r_istore_n (pc := 20) (ls2 := [_, _, _, _]) h dX4_out_20 (Nat.le_of_ble_eq_true rfl) rfl ?_
    refine r_iconst (pc := 21) h dX4_out_21 ci_0 ?_
    refine r_istore_n (pc := 22) (ls2 := [_, _, _, _]) h dX4_out_22 (Nat.le_of_ble_eq_true rfl) rfl ?_
    exact main i hi hw rfl g2 hR hK hF
  · have hb : inB x (c 7 1) = false := (bI_0 (inB x (c 7 1))).mp c5
    have hw : ¬ (-1 : Int32) = 0 := by decide
    have hok : okw (-1) := okw_1
    have ew : calW c x = -1 := by unfold calW whyB; rw [hb]; rfl
    refine r_aload_n (pc := 8) h dX4_out_8 rfl ?_
    refine r_iconst (pc := 9) h dX4_out_9 ci_m1 ?_
    refine r_callVi (pc := 10) (As := [_]) h dX4_out_10 k_X4_77 gc_35 rfl ⟨Nat.le_of_ble_eq_true rfl, Nat.le_of_ble_eq_true rfl, Nat.le_of_ble_eq_true rfl⟩ (c_X4_no (okw_in hok hw).1) (fun x_10 g2 hq => ?_)
    obtain ⟨rfl, rfl⟩ := hq
    refine r_ri t (pc := 13) dX4_out_13 rfl ?_
    rw [ew]
    have hq := y_ref hR (hX.tf hF) hok hw (v := oI (outV c x.toNatClampNeg))
    exact ⟨hq.1, hq.2.1, hq.2.2.1, hF.frm.tr hq.2.2.2⟩
end TX
