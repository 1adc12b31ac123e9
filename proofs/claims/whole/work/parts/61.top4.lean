section TX
variable {g : gG} {c ck : gCt} {hk : Bool} {lt : Nat → Nat} {nl : Nat} {rv : Nat → Nat} {nr : Nat} {rf : Nat → Int32}
set_option maxRecDepth 100000 in
set_option maxHeartbeats 4000000 in
theorem x_callerThen (hR : Rx1 g c) (hX : XSr g ck hk lt nl rv nr rf) (ho : gok c) (hd : c 7 3 ≤ 999) (x v w : Int32) : gCi mX3_callerThen [.ref 0, .int x, .int v, .int w] g (fun y g1 => y = ansI (thnW c x v w) (thnV (daysC v.toNatClampNeg c) x.toNatClampNeg w.toNatClampNeg) ∧ Rx1 g1 (c) ∧ XSr g1 ck hk lt nl rv nr (rfI rf (thnW c x v w)) ∧ frm 0 35 g g1) := by
  refine gCi_of (own := RX3) (ls0 := [.ref 0, .int x, .int v, .int w, .null]) ⟨rfl, pl_X3⟩ rfl (Nat.le_of_ble_eq_true rfl) (fun G (h : gR RX3 cX3_callerThen 5 200 G) (t : gTi cX3_callerThen .int _ G) => ?_)
  have hn5 := hR.n5
  have hn6 := hR.n6
  have hF : frm 0 35 g g := frm.rf
  refine r_aload_n (pc := 0) h dX3_callerThen_0 rfl ?_
  refine r_iload_n (pc := 1) h dX3_callerThen_1 rfl ?_
  refine r_callVi (pc := 2) (As := [_]) h dX3_callerThen_2 k_X3_131 gc_0 rfl ⟨Nat.le_of_ble_eq_true rfl, Nat.le_of_ble_eq_true rfl, Nat.le_of_ble_eq_true rfl⟩ (c_X3_anyCaller hR x) (fun x_2 g1 hq => ?_)
  obtain ⟨rfl, hg1⟩ := hq
  rw [hg1]
  refine r_iload_n (pc := 5) h dX3_callerThen_5 rfl ?_
  refine r_iconst (pc := 6) h dX3_callerThen_6 ci_0 ?_
  refine r_bipush (pc := 7) h dX3_callerThen_7 cb_60 ?_
  refine r_callSi (pc := 9) (As := [_, _, _]) h dX3_callerThen_9 k_X3_60 rfl ⟨Nat.le_of_ble_eq_true rfl, Nat.le_of_ble_eq_true rfl, Nat.le_of_ble_eq_true rfl⟩ (c_X3_range _ _ _) (fun x_9 g1 hq => ?_)
  obtain ⟨rfl, hg1⟩ := hq
  rw [hg1]
  refine r_iload_n (pc := 12) h dX3_callerThen_12 rfl ?_
  refine r_iconst (pc := 13) h dX3_callerThen_13 ci_3 ?_
  refine r_callSi (pc := 14) (As := [_, _]) h dX3_callerThen_14 k_X3_101 rfl ⟨Nat.le_of_ble_eq_true rfl, Nat.le_of_ble_eq_true rfl, Nat.le_of_ble_eq_true rfl⟩ (c_X3_anyOf w 3) (fun x_14 g1 hq => ?_)
  obtain ⟨rfl, hg1⟩ := hq
  rw [hg1]
  refine r_callSi (pc := 17) (As := [_, _, _]) h dX3_callerThen_17 k_X3_104 rfl ⟨Nat.le_of_ble_eq_true rfl, Nat.le_of_ble_eq_true rfl, Nat.le_of_ble_eq_true rfl⟩ (c_X3_firstOf _ _ _) (fun x_17 g1 hq => ?_)
  obtain ⟨rfl, hg1⟩ := hq
  rw [hg1]
  refine r_istore (pc := 20) (ls2 := [_, _, _, _, _]) h dX3_callerThen_20 (Nat.le_of_ble_eq_true rfl) rfl ?_
  refine r_iload (pc := 22) h dX3_callerThen_22 rfl ?_
  refine r_if_eq (pc := 24) (tgt := 34) h dX3_callerThen_24 (by decide) (fun c24 => ?_) (fun c24 => ?_)
  · have hw : thnW c x v w = 0 := c24
    obtain ⟨w1, w2, w3⟩ := fst_0.mp hw
    obtain ⟨i, hi, rfl⟩ := cal_0 w1 hn5
    obtain ⟨n, -, hn, rfl⟩ := bnd_nat (by decide) (by decide) w2
    obtain ⟨k, hk3, rfl⟩ := any_0 (by decide) w3 (by decide)
    have ei : (nI i).toNatClampNeg = i := nI_clamp (by omega)
    have en : (nI n).toNatClampNeg = n := nI_clamp (by omega)
    have ek : (nI k).toNatClampNeg = k := nI_clamp (by omega)
    have hD := daysC_ok ho n (by omega)
    have hi9 : i < daysC n c 7 1 := by rw [hD.2.1]; exact hi
    refine r_aload_n (pc := 34) h dX3_callerThen_34 rfl ?_
    refine r_callVv (pc := 35) (As := []) h dX3_callerThen_35 k_X3_78 gc_0 rfl ⟨Nat.le_of_ble_eq_true rfl, Nat.le_of_ble_eq_true rfl, Nat.le_of_ble_eq_true rfl⟩ (c_X3_think hR) (fun g1 hq => ?_)
    obtain ⟨hT, hF1⟩ := hq
    have hR := hR.f9 hF1
    have hX := hX.f9 hF1
    have hF := hF.tr (hF1.wide (by decide) (by decide))
    refine r_aload_n (pc := 38) h dX3_callerThen_38 rfl ?_
    refine r_getR (pc := 39) h dX3_callerThen_39 f_X3_16 sh_0 rfl ?_
    refine r_iload_n (pc := 42) h dX3_callerThen_42 rfl ?_
    refine r_callVv (pc := 43) (As := [_]) h dX3_callerThen_43 k_X3_164 gc_9 rfl ⟨Nat.le_of_ble_eq_true rfl, Nat.le_of_ble_eq_true rfl, Nat.le_of_ble_eq_true rfl⟩ (c_X0_passDays_9 hT ho (by omega)) (fun g1 hq => ?_)
    obtain ⟨hT, hF1⟩ := hq
    have hR := hR.f9 hF1
    have hX := hX.f9 hF1
    have hF := hF.tr (hF1.wide (by decide) (by decide))
    refine r_iload_n (pc := 46) h dX3_callerThen_46 rfl ?_
    refine r_if_ne (pc := 47) (tgt := 60) h dX3_callerThen_47 (by decide) (fun c47 => ?_) (fun c47 => ?_)
    · have k0 : ¬ k = 0 := fun q => c47 (by rw [q]; rfl)
      refine r_iload_n (pc := 60) h dX3_callerThen_60 rfl ?_
      refine r_iconst (pc := 61) h dX3_callerThen_61 ci_1 ?_
      refine r_icmp_ne (pc := 62) (tgt := 77) h dX3_callerThen_62 (by decide) (fun c62 => ?_) (fun c62 => ?_)
      · have k1 : ¬ k = 1 := fun q => c62 (by rw [q])
        refine r_aload_n (pc := 77) h dX3_callerThen_77 rfl ?_
        refine r_getR (pc := 78) h dX3_callerThen_78 f_X3_16 sh_0 rfl ?_
        refine r_getR (pc := 81) h dX3_callerThen_81 f_X3_137 sh_9 rfl ?_
        refine r_iload_n (pc := 84) h dX3_callerThen_84 rfl ?_
        refine r_ialoadE (pc := 85) h dX3_callerThen_85 sh_14 (hT.so hi9) ?_
        refine r_ri t (pc := 86) dX3_callerThen_86 rfl ?_
        exact x_ok hR hX hF hw (by rw [ei, en, ek]; unfold thnV; rw [if_neg k0, if_neg k1])
      · have k1 : k = 1 := (nI_eq (by omega) (by decide)).mp c62
        refine r_aload_n (pc := 65) h dX3_callerThen_65 rfl ?_
        refine r_getR (pc := 66) h dX3_callerThen_66 f_X3_16 sh_0 rfl ?_
        refine r_getR (pc := 69) h dX3_callerThen_69 f_X3_134 sh_9 rfl ?_
        refine r_iload_n (pc := 72) h dX3_callerThen_72 rfl ?_
        refine r_ialoadE (pc := 73) h dX3_callerThen_73 sh_13 (hT.fe hi9) ?_
        refine r_goto (pc := 74) (tgt := 86) h dX3_callerThen_74 (by decide) ?_
        refine r_ri t (pc := 86) dX3_callerThen_86 rfl ?_
        exact x_ok hR hX hF hw (by rw [ei, en, ek]; unfold thnV; rw [if_neg k0, if_pos k1])
    · have k0 : k = 0 := (nI_eq0 (by omega)).mp c47
      refine r_aload_n (pc := 50) h dX3_callerThen_50 rfl ?_
      refine r_getR (pc := 51) h dX3_callerThen_51 f_X3_16 sh_0 rfl ?_
      refine r_getR (pc := 54) h dX3_callerThen_54 f_X3_140 sh_9 rfl ?_
      refine r_iload_n (pc := 57) h dX3_callerThen_57 rfl ?_
      refine r_ialoadE (pc := 58) h dX3_callerThen_58 sh_15 (hT.sa hi9) ?_
      refine r_ri t (pc := 59) dX3_callerThen_59 rfl ?_
      exact x_ok hR hX hF hw (by rw [ei, en, ek]; unfold thnV; rw [if_pos k0])
  · have hw : ¬ thnW c x v w = 0 := c24
    have hok : okw (thnW c x v w) := okw_f (okw_cal c x) okw_n (okw_b okw_2)
    refine r_aload_n (pc := 27) h dX3_callerThen_27 rfl ?_
    refine r_iload (pc := 28) h dX3_callerThen_28 rfl ?_
    refine r_callVi (pc := 30) (As := [_]) h dX3_callerThen_30 k_X3_67 gc_0 rfl ⟨Nat.le_of_ble_eq_true rfl, Nat.le_of_ble_eq_true rfl, Nat.le_of_ble_eq_true rfl⟩ (c_X3_refuse (okw_in hok hw).1) (fun x_30 g1 hq => ?_)
    obtain ⟨rfl, rfl⟩ := hq
    refine r_ri t (pc := 33) dX3_callerThen_33 rfl ?_
    exact x_ref hR hX hok hw
set_option maxRecDepth 100000 in
set_option maxHeartbeats 4000000 in
theorem x_suitThen (hR : Rx1 g c) (hX : XSr g ck hk lt nl rv nr rf) (ho : gok c) (hd : c 7 3 ≤ 999) (x v : Int32) : gCi mX3_suitThen [.ref 0, .int x, .int v] g (fun y g1 => y = ansI (sthW c x v) (oI (wr (daysC v.toNatClampNeg c) x.toNatClampNeg)) ∧ Rx1 g1 (c) ∧ XSr g1 ck hk lt nl rv nr (rfI rf (sthW c x v)) ∧ frm 0 35 g g1) := by
  refine gCi_of (own := RX3) (ls0 := [.ref 0, .int x, .int v, .null]) ⟨rfl, pl_X3⟩ rfl (Nat.le_of_ble_eq_true rfl) (fun G (h : gR RX3 cX3_suitThen 5 200 G) (t : gTi cX3_suitThen .int _ G) => ?_)
  have hn5 := hR.n5
  have hn6 := hR.n6
  have hF : frm 0 35 g g := frm.rf
  refine r_aload_n (pc := 0) h dX3_suitThen_0 rfl ?_
  refine r_iload_n (pc := 1) h dX3_suitThen_1 rfl ?_
  refine r_callVi (pc := 2) (As := [_]) h dX3_suitThen_2 k_X3_98 gc_0 rfl ⟨Nat.le_of_ble_eq_true rfl, Nat.le_of_ble_eq_true rfl, Nat.le_of_ble_eq_true rfl⟩ (c_X3_anySuit hR x) (fun x_2 g1 hq => ?_)
  obtain ⟨rfl, hg1⟩ := hq
  rw [hg1]
  refine r_iload_n (pc := 5) h dX3_suitThen_5 rfl ?_
  refine r_iconst (pc := 6) h dX3_suitThen_6 ci_0 ?_
  refine r_bipush (pc := 7) h dX3_suitThen_7 cb_60 ?_
  refine r_callSi (pc := 9) (As := [_, _, _]) h dX3_suitThen_9 k_X3_60 rfl ⟨Nat.le_of_ble_eq_true rfl, Nat.le_of_ble_eq_true rfl, Nat.le_of_ble_eq_true rfl⟩ (c_X3_range _ _ _) (fun x_9 g1 hq => ?_)
  obtain ⟨rfl, hg1⟩ := hq
  rw [hg1]
  refine r_iconst (pc := 12) h dX3_suitThen_12 ci_0 ?_
  refine r_callSi (pc := 13) (As := [_, _, _]) h dX3_suitThen_13 k_X3_104 rfl ⟨Nat.le_of_ble_eq_true rfl, Nat.le_of_ble_eq_true rfl, Nat.le_of_ble_eq_true rfl⟩ (c_X3_firstOf _ _ _) (fun x_13 g1 hq => ?_)
  obtain ⟨rfl, hg1⟩ := hq
  rw [hg1]
  refine r_istore_n (pc := 16) (ls2 := [_, _, _, _]) h dX3_suitThen_16 (Nat.le_of_ble_eq_true rfl) rfl ?_
  refine r_iload_n (pc := 17) h dX3_suitThen_17 rfl ?_
  refine r_if_eq (pc := 18) (tgt := 27) h dX3_suitThen_18 (by decide) (fun c18 => ?_) (fun c18 => ?_)
  · have hw : sthW c x v = 0 := c18
    obtain ⟨w1, w2, -⟩ := fst_0.mp hw
    obtain ⟨s, hs, rfl⟩ := suf_0 w1 hn6
    obtain ⟨n, -, hn, rfl⟩ := bnd_nat (by decide) (by decide) w2
    have es : (nI s).toNatClampNeg = s := nI_clamp (by omega)
    have en : (nI n).toNatClampNeg = n := nI_clamp (by omega)
    have hD := daysC_ok ho n (by omega)
    refine r_aload_n (pc := 27) h dX3_suitThen_27 rfl ?_
    refine r_callVv (pc := 28) (As := []) h dX3_suitThen_28 k_X3_78 gc_0 rfl ⟨Nat.le_of_ble_eq_true rfl, Nat.le_of_ble_eq_true rfl, Nat.le_of_ble_eq_true rfl⟩ (c_X3_think hR) (fun g1 hq => ?_)
    obtain ⟨hT, hF1⟩ := hq
    have hR := hR.f9 hF1
    have hX := hX.f9 hF1
    have hF := hF.tr (hF1.wide (by decide) (by decide))
    refine r_aload_n (pc := 31) h dX3_suitThen_31 rfl ?_
    refine r_getR (pc := 32) h dX3_suitThen_32 f_X3_16 sh_0 rfl ?_
    refine r_iload_n (pc := 35) h dX3_suitThen_35 rfl ?_
    refine r_callVv (pc := 36) (As := [_]) h dX3_suitThen_36 k_X3_164 gc_9 rfl ⟨Nat.le_of_ble_eq_true rfl, Nat.le_of_ble_eq_true rfl, Nat.le_of_ble_eq_true rfl⟩ (c_X0_passDays_9 hT ho (by omega)) (fun g1 hq => ?_)
    obtain ⟨hT, hF1⟩ := hq
    have hR := hR.f9 hF1
    have hX := hX.f9 hF1
    have hF := hF.tr (hF1.wide (by decide) (by decide))
    refine r_aload_n (pc := 39) h dX3_suitThen_39 rfl ?_
    refine r_getR (pc := 40) h dX3_suitThen_40 f_X3_16 sh_0 rfl ?_
    refine r_iload_n (pc := 43) h dX3_suitThen_43 rfl ?_
    refine r_callVi (pc := 44) (As := [_]) h dX3_suitThen_44 k_X3_128 gc_9 rfl ⟨Nat.le_of_ble_eq_true rfl, Nat.le_of_ble_eq_true rfl, Nat.le_of_ble_eq_true rfl⟩ (c_X0_wearer_9 hT hD.2.2.2 (by omega)) (fun x_44 g1 hq => ?_)
    obtain ⟨rfl, hg2⟩ := hq
    rw [hg2]
    refine r_ri t (pc := 47) dX3_suitThen_47 rfl ?_
    exact x_ok hR hX hF hw (by rw [es, en])
  · have hw : ¬ sthW c x v = 0 := c18
    have hok : okw (sthW c x v) := okw_f (okw_suf c x) okw_n okw_0
    refine r_aload_n (pc := 21) h dX3_suitThen_21 rfl ?_
    refine r_iload_n (pc := 22) h dX3_suitThen_22 rfl ?_
    refine r_callVi (pc := 23) (As := [_]) h dX3_suitThen_23 k_X3_67 gc_0 rfl ⟨Nat.le_of_ble_eq_true rfl, Nat.le_of_ble_eq_true rfl, Nat.le_of_ble_eq_true rfl⟩ (c_X3_refuse (okw_in hok hw).1) (fun x_23 g1 hq => ?_)
    obtain ⟨rfl, rfl⟩ := hq
    refine r_ri t (pc := 26) dX3_suitThen_26 rfl ?_
    exact x_ref hR hX hok hw
set_option maxRecDepth 100000 in
set_option maxHeartbeats 4000000 in
theorem x_cost (hR : Rx1 g c) (hX : XSr g ck hk lt nl rv nr rf) (ho : gok c) (hd : c 7 3 ≤ 999) (v : Int32) : gCi mX3_cost [.ref 0, .int v] g (fun y g1 => y = ansI (bndI v (nI 0) (nI 60)) (nI (daysC v.toNatClampNeg c 7 2) - nI (c 7 2)) ∧ Rx1 g1 (c) ∧ XSr g1 ck hk lt nl rv nr (rfI rf (bndI v (nI 0) (nI 60))) ∧ frm 0 35 g g1) := by
  refine gCi_of (own := RX3) (ls0 := [.ref 0, .int v, .null]) ⟨rfl, pl_X3⟩ rfl (Nat.le_of_ble_eq_true rfl) (fun G (h : gR RX3 cX3_cost 5 200 G) (t : gTi cX3_cost .int _ G) => ?_)
  have hF : frm 0 35 g g := frm.rf
  refine r_iload_n (pc := 0) h dX3_cost_0 rfl ?_
  refine r_iconst (pc := 1) h dX3_cost_1 ci_0 ?_
  refine r_bipush (pc := 2) h dX3_cost_2 cb_60 ?_
  refine r_callSi (pc := 4) (As := [_, _, _]) h dX3_cost_4 k_X3_60 rfl ⟨Nat.le_of_ble_eq_true rfl, Nat.le_of_ble_eq_true rfl, Nat.le_of_ble_eq_true rfl⟩ (c_X3_range _ _ _) (fun x_4 g1 hq => ?_)
  obtain ⟨rfl, hg1⟩ := hq
  rw [hg1]
  refine r_istore_n (pc := 7) (ls2 := [_, _, _]) h dX3_cost_7 (Nat.le_of_ble_eq_true rfl) rfl ?_
  refine r_iload_n (pc := 8) h dX3_cost_8 rfl ?_
  refine r_if_eq (pc := 9) (tgt := 18) h dX3_cost_9 (by decide) (fun c9 => ?_) (fun c9 => ?_)
  · have hw : bndI v (nI 0) (nI 60) = 0 := c9
    obtain ⟨n, -, hn, rfl⟩ := bnd_nat (by decide) (by decide) hw
    have en : (nI n).toNatClampNeg = n := nI_clamp (by omega)
    refine r_aload_n (pc := 18) h dX3_cost_18 rfl ?_
    refine r_callVv (pc := 19) (As := []) h dX3_cost_19 k_X3_78 gc_0 rfl ⟨Nat.le_of_ble_eq_true rfl, Nat.le_of_ble_eq_true rfl, Nat.le_of_ble_eq_true rfl⟩ (c_X3_think hR) (fun g1 hq => ?_)
    obtain ⟨hT, hF1⟩ := hq
    have hR := hR.f9 hF1
    have hX := hX.f9 hF1
    have hF := hF.tr (hF1.wide (by decide) (by decide))
    refine r_aload_n (pc := 22) h dX3_cost_22 rfl ?_
    refine r_getR (pc := 23) h dX3_cost_23 f_X3_16 sh_0 rfl ?_
    refine r_iload_n (pc := 26) h dX3_cost_26 rfl ?_
    refine r_callVv (pc := 27) (As := [_]) h dX3_cost_27 k_X3_164 gc_9 rfl ⟨Nat.le_of_ble_eq_true rfl, Nat.le_of_ble_eq_true rfl, Nat.le_of_ble_eq_true rfl⟩ (c_X0_passDays_9 hT ho (by omega)) (fun g1 hq => ?_)
    obtain ⟨hT, hF1⟩ := hq
    have hR := hR.f9 hF1
    have hX := hX.f9 hF1
    have hF := hF.tr (hF1.wide (by decide) (by decide))
    refine r_aload_n (pc := 30) h dX3_cost_30 rfl ?_
    refine r_getR (pc := 31) h dX3_cost_31 f_X3_16 sh_0 rfl ?_
    refine r_getE (pc := 34) h dX3_cost_34 f_X3_171 sh_9 rfl (hT.pd) ?_
    refine r_aload_n (pc := 37) h dX3_cost_37 rfl ?_
    refine r_getR (pc := 38) h dX3_cost_38 f_X3_10 sh_0 rfl ?_
    refine r_getE (pc := 41) h dX3_cost_41 f_X3_171 sh_1 rfl (hR.pd) ?_
    refine r_isub (pc := 44) h dX3_cost_44 ?_
    refine r_ri t (pc := 45) dX3_cost_45 rfl ?_
    exact x_ok hR hX hF hw (by rw [en])
  · have hw : ¬ bndI v (nI 0) (nI 60) = 0 := c9
    refine r_aload_n (pc := 12) h dX3_cost_12 rfl ?_
    refine r_iload_n (pc := 13) h dX3_cost_13 rfl ?_
    refine r_callVi (pc := 14) (As := [_]) h dX3_cost_14 k_X3_67 gc_0 rfl ⟨Nat.le_of_ble_eq_true rfl, Nat.le_of_ble_eq_true rfl, Nat.le_of_ble_eq_true rfl⟩ (c_X3_refuse (okw_in okw_n hw).1) (fun x_14 g1 hq => ?_)
    obtain ⟨rfl, rfl⟩ := hq
    refine r_ri t (pc := 17) dX3_cost_17 rfl ?_
    exact x_ref hR hX okw_n hw
set_option maxRecDepth 100000 in
set_option maxHeartbeats 4000000 in
theorem c_X3_firstToPropose (hR : Rx1 g c) (hX : XSr g ck hk lt nl rv nr rf) (ho : gok c) (hd : c 7 3 ≤ 999) : gCi mX3_firstToPropose [.ref 0] g (fun y g1 => y = oI (fpr c 61 0) ∧ Rx1 g1 c ∧ XSr g1 ck hk lt nl rv nr rf ∧ frm 0 35 g g1) := by
  refine gCi_of (own := RX3) (ls0 := [.ref 0, .null, .null]) ⟨rfl, pl_X3⟩ rfl (Nat.le_of_ble_eq_true rfl) (fun G (h : gR RX3 cX3_firstToPropose 5 200 G) (t : gTi cX3_firstToPropose .int _ G) => ?_)
  have hn5 := hR.n5
  have hn6 := hR.n6
  have loop : ∀ m n (v2 : Value) (g2 : gG), n + m = 61 → Rx1 g2 c → XSr g2 ck hk lt nl rv nr rf → frm 0 35 g g2 → Rx9 g2 (daysC n c) → fpr c 61 0 = fpr c m n → G 6 [.ref 0, .int (nI n), v2] [] g2 := by
    intro m
    induction m with
    | zero =>
      intro n v2 g2 hn hR hX hF hT hw
      refine r_iload_n (pc := 6) h dX3_firstToPropose_6 rfl ?_
      refine r_bipush (pc := 7) h dX3_firstToPropose_7 cb_60 ?_
      refine r_icmp_gt (pc := 9) (tgt := 61) h dX3_firstToPropose_9 (by decide) (fun c9 => ?_) (fun c9 => absurd (nI_lt (by omega) (by omega)) c9)
      refine r_bipush (pc := 61) h dX3_firstToPropose_61 cb_m9 ?_
      refine r_ri t (pc := 63) dX3_firstToPropose_63 rfl ?_
      exact ⟨by rw [hw]; rfl, hR, hX, hF⟩
    | succ m ih =>
      intro n v2 g2 hn hR hX hF hT hw
      have hD := daysC_ok ho n (by omega)
      have inner : ∀ q i, i + q = c 7 1 → fpAt c n = gfind (fun i => decide (6 ≤ daysC n c 5 i)) q i → G 14 [.ref 0, .int (nI n), .int (nI i)] [] g2 := by
        intro q
        induction q with
        | zero =>
          intro i hi hz
          have hnc : daysC n c 7 1 = c 7 1 := hD.2.1
          refine r_iload_n (pc := 14) h dX3_firstToPropose_14 rfl ?_
          refine r_aload_n (pc := 15) h dX3_firstToPropose_15 rfl ?_
          refine r_getR (pc := 16) h dX3_firstToPropose_16 f_X3_16 sh_0 rfl ?_
          refine r_getE (pc := 19) h dX3_firstToPropose_19 f_X3_191 sh_9 rfl (hT.nc) ?_
          refine r_icmp_ge (pc := 22) (tgt := 47) h dX3_firstToPropose_22 (by decide) (fun c22 => ?_) (fun c22 => absurd (nI_le (by omega) (by omega)) c22)
          refine r_aload_n (pc := 47) h dX3_firstToPropose_47 rfl ?_
          refine r_getR (pc := 48) h dX3_firstToPropose_48 f_X3_16 sh_0 rfl ?_
          refine r_iconst (pc := 51) h dX3_firstToPropose_51 ci_1 ?_
          refine r_callVv (pc := 52) (As := [_]) h dX3_firstToPropose_52 k_X3_164 gc_9 rfl ⟨Nat.le_of_ble_eq_true rfl, Nat.le_of_ble_eq_true rfl, Nat.le_of_ble_eq_true rfl⟩ (c_X0_passDays_9 hT hD.2.2.2 (by omega)) (fun g1 hq => ?_)
          obtain ⟨hT, hF1⟩ := hq
          have hR := hR.f9 hF1
          have hX := hX.f9 hF1
          have hF := hF.tr (hF1.wide (by decide) (by decide))
          refine r_iinc (pc := 55) (ls2 := [_, _, _]) h dX3_firstToPropose_55 rfl (ic1 _) rfl ?_
          refine r_goto (pc := 58) (tgt := 6) h dX3_firstToPropose_58 (by decide) ?_
          rw [daysC_1] at hT
          exact ih (n + 1) _ _ (by omega) hR hX hF hT (by rw [hw, fpr, hz]; rfl)
        | succ q ih2 =>
          intro i hin hz
          have hi9 : i < daysC n c 7 1 := by rw [hD.2.1]; omega
          have hnc : daysC n c 7 1 = c 7 1 := hD.2.1
          have hk5 := (hD.2.2.2.2.2.2 i hi9).2.2.1
          refine r_iload_n (pc := 14) h dX3_firstToPropose_14 rfl ?_
          refine r_aload_n (pc := 15) h dX3_firstToPropose_15 rfl ?_
          refine r_getR (pc := 16) h dX3_firstToPropose_16 f_X3_16 sh_0 rfl ?_
          refine r_getE (pc := 19) h dX3_firstToPropose_19 f_X3_191 sh_9 rfl (hT.nc) ?_
          refine r_icmp_ge (pc := 22) (tgt := 47) h dX3_firstToPropose_22 (by decide) (fun c22 => absurd c22 (nI_ge hi9 (by omega))) (fun c22 => ?_)
          refine r_aload_n (pc := 25) h dX3_firstToPropose_25 rfl ?_
          refine r_getR (pc := 26) h dX3_firstToPropose_26 f_X3_16 sh_0 rfl ?_
          refine r_getR (pc := 29) h dX3_firstToPropose_29 f_X3_140 sh_9 rfl ?_
          refine r_iload_n (pc := 32) h dX3_firstToPropose_32 rfl ?_
          refine r_ialoadE (pc := 33) h dX3_firstToPropose_33 sh_15 (hT.sa hi9) ?_
          refine r_bipush (pc := 34) h dX3_firstToPropose_34 cb_6 ?_
          refine r_icmp_lt (pc := 36) (tgt := 41) h dX3_firstToPropose_36 (by decide) (fun c36 => ?_) (fun c36 => ?_)
          · have q : ¬ 6 ≤ daysC n c 5 i := Nat.not_le_of_lt ((nI_ltI (by omega) (by decide)).mp c36)
            refine r_iinc (pc := 41) (ls2 := [_, _, _]) h dX3_firstToPropose_41 rfl (ic1 _) rfl ?_
            refine r_goto (pc := 44) (tgt := 14) h dX3_firstToPropose_44 (by decide) ?_
            exact ih2 (i + 1) (by omega) (by rw [hz, gfind, if_neg (by simpa using q)])
          · have q : 6 ≤ daysC n c 5 i := Nat.le_of_not_lt fun z => c36 (nI_lt z (by decide))
            refine r_iload_n (pc := 39) h dX3_firstToPropose_39 rfl ?_
            refine r_ri t (pc := 40) dX3_firstToPropose_40 rfl ?_
            exact ⟨by rw [hw, fpr, hz, gfind, if_pos (by simpa using q)]; rfl, hR, hX, hF⟩
      refine r_iload_n (pc := 6) h dX3_firstToPropose_6 rfl ?_
      refine r_bipush (pc := 7) h dX3_firstToPropose_7 cb_60 ?_
      refine r_icmp_gt (pc := 9) (tgt := 61) h dX3_firstToPropose_9 (by decide) (fun c9 => absurd c9 (nI_nlt (by omega) (by omega))) (fun c9 => ?_)
      refine r_iconst (pc := 12) h dX3_firstToPropose_12 ci_0 ?_
      refine r_istore_n (pc := 13) (ls2 := [_, _, _]) h dX3_firstToPropose_13 (Nat.le_of_ble_eq_true rfl) rfl ?_
      exact inner (c 7 1) 0 (by omega) rfl
  have hF : frm 0 35 g g := frm.rf
  refine r_aload_n (pc := 0) h dX3_firstToPropose_0 rfl ?_
  refine r_callVv (pc := 1) (As := []) h dX3_firstToPropose_1 k_X3_78 gc_0 rfl ⟨Nat.le_of_ble_eq_true rfl, Nat.le_of_ble_eq_true rfl, Nat.le_of_ble_eq_true rfl⟩ (c_X3_think hR) (fun g1 hq => ?_)
  obtain ⟨hT, hF1⟩ := hq
  have hR := hR.f9 hF1
  have hX := hX.f9 hF1
  have hF := hF.tr (hF1.wide (by decide) (by decide))
  refine r_iconst (pc := 4) h dX3_firstToPropose_4 ci_0 ?_
  refine r_istore_n (pc := 5) (ls2 := [_, _, _]) h dX3_firstToPropose_5 (Nat.le_of_ble_eq_true rfl) rfl ?_
  exact loop 61 0 _ _ rfl hR hX hF hT rfl
set_option maxRecDepth 100000 in
set_option maxHeartbeats 4000000 in
theorem x_proposes (hR : Rx1 g c) (hX : XSr g ck hk lt nl rv nr rf) (ho : gok c) (hd : c 7 3 ≤ 999) (x : Int32) : gCi mX3_proposes [.ref 0, .int x] g (fun y g1 => y = ansI (if x = -1 then nI 0 else calW c x) (if x = -1 then oI (fpr c 61 0) else oI (prp c x.toNatClampNeg)) ∧ Rx1 g1 (c) ∧ XSr g1 ck hk lt nl rv nr (rfI rf (if x = -1 then nI 0 else calW c x)) ∧ frm 0 35 g g1) := by
  refine gCi_of (own := RX3) (ls0 := [.ref 0, .int x, .null, .null]) ⟨rfl, pl_X3⟩ rfl (Nat.le_of_ble_eq_true rfl) (fun G (h : gR RX3 cX3_proposes 6 240 G) (t : gTi cX3_proposes .int _ G) => ?_)
  have hn5 := hR.n5
  have hn6 := hR.n6
  by_cases hx1 : x = -1
  · rw [if_pos hx1, if_pos hx1] at t
    refine r_iload_n (pc := 0) h dX3_proposes_0 rfl ?_
    refine r_iconst (pc := 1) h dX3_proposes_1 ci_m1 ?_
    refine r_icmp_ne (pc := 2) (tgt := 10) h dX3_proposes_2 (by decide) (fun c2 => absurd (hx1) c2) (fun c2 => ?_)
    refine r_aload_n (pc := 5) h dX3_proposes_5 rfl ?_
    refine r_callVi (pc := 6) (As := []) h dX3_proposes_6 k_X3_174 gc_0 rfl ⟨Nat.le_of_ble_eq_true rfl, Nat.le_of_ble_eq_true rfl, Nat.le_of_ble_eq_true rfl⟩ (c_X3_firstToPropose hR hX ho hd) (fun x_6 g1 hq => ?_)
    obtain ⟨rfl, hR, hX, hF⟩ := hq
    refine r_ri t (pc := 9) dX3_proposes_9 rfl ?_
    exact x_ok hR hX hF rfl rfl
  rw [if_neg hx1, if_neg hx1] at t
  have loop : ∀ i, i < c 7 1 → calW c (nI i) = 0 → x = nI i → ∀ m n (g2 : gG), n + m = 61 → Rx1 g2 c → XSr g2 ck hk lt nl rv nr rf → frm 0 35 g g2 → Rx9 g2 (daysC n c) → prp c i = gfind (fun n => decide (6 ≤ daysC n c 5 i)) m n → G 32 [.ref 0, .int (nI i), .int (calW c (nI i)), .int (nI n)] [] g2 := by
    intro i hi hw hxi m
    subst hxi
    have ei : (nI i).toNatClampNeg = i := nI_clamp (by omega)
    induction m with
    | zero =>
      intro n g2 hn hR hX hF hT hz
      refine r_iload_n (pc := 32) h dX3_proposes_32 rfl ?_
      refine r_bipush (pc := 33) h dX3_proposes_33 cb_60 ?_
      refine r_icmp_gt (pc := 35) (tgt := 68) h dX3_proposes_35 (by decide) (fun c35 => ?_) (fun c35 => absurd (nI_lt (by omega) (by omega)) c35)
      refine r_bipush (pc := 68) h dX3_proposes_68 cb_m9 ?_
      refine r_ri t (pc := 70) dX3_proposes_70 rfl ?_
      exact x_ok hR hX hF hw (by rw [ei, hz]; rfl)
    | succ m ih =>
      intro n g2 hn hR hX hF hT hz
      have hD := daysC_ok ho n (by omega)
      have hi9 : i < daysC n c 7 1 := by rw [hD.2.1]; exact hi
      have hk5 := hD.2.2.2.2.2.2 i hi9
      have hn60 : daysC n c 7 0 = c 7 0 := hD.1
      refine r_iload_n (pc := 32) h dX3_proposes_32 rfl ?_
      refine r_bipush (pc := 33) h dX3_proposes_33 cb_60 ?_
      refine r_icmp_gt (pc := 35) (tgt := 68) h dX3_proposes_35 (by decide) (fun c35 => absurd c35 (nI_nlt (by omega) (by omega))) (fun c35 => ?_)
      refine r_aload_n (pc := 38) h dX3_proposes_38 rfl ?_
      refine r_getR (pc := 39) h dX3_proposes_39 f_X3_16 sh_0 rfl ?_
      refine r_getR (pc := 42) h dX3_proposes_42 f_X3_140 sh_9 rfl ?_
      refine r_iload_n (pc := 45) h dX3_proposes_45 rfl ?_
      refine r_ialoadE (pc := 46) h dX3_proposes_46 sh_15 (hT.sa hi9) ?_
      refine r_bipush (pc := 47) h dX3_proposes_47 cb_6 ?_
      refine r_icmp_lt (pc := 49) (tgt := 54) h dX3_proposes_49 (by decide) (fun c49 => ?_) (fun c49 => ?_)
      · have q : ¬ 6 ≤ daysC n c 5 i := Nat.not_le_of_lt ((nI_ltI (by omega) (by decide)).mp c49)
        refine r_aload_n (pc := 54) h dX3_proposes_54 rfl ?_
        refine r_getR (pc := 55) h dX3_proposes_55 f_X3_16 sh_0 rfl ?_
        refine r_iconst (pc := 58) h dX3_proposes_58 ci_1 ?_
        refine r_callVv (pc := 59) (As := [_]) h dX3_proposes_59 k_X3_164 gc_9 rfl ⟨Nat.le_of_ble_eq_true rfl, Nat.le_of_ble_eq_true rfl, Nat.le_of_ble_eq_true rfl⟩ (c_X0_passDays_9 hT hD.2.2.2 (by omega)) (fun g1 hq => ?_)
        obtain ⟨hT, hF1⟩ := hq
        have hR := hR.f9 hF1
        have hX := hX.f9 hF1
        have hF := hF.tr (hF1.wide (by decide) (by decide))
        refine r_iinc (pc := 62) (ls2 := [_, _, _, _]) h dX3_proposes_62 rfl (ic1 _) rfl ?_
        refine r_goto (pc := 65) (tgt := 32) h dX3_proposes_65 (by decide) ?_
        rw [daysC_1] at hT
        exact ih (n + 1) _ (by omega) hR hX hF hT (by rw [hz, gfind, if_neg (by simpa using q)])
      · have q : 6 ≤ daysC n c 5 i := Nat.le_of_not_lt fun z => c49 (nI_lt z (by decide))
        refine r_iload_n (pc := 52) h dX3_proposes_52 rfl ?_
        refine r_ri t (pc := 53) dX3_proposes_53 rfl ?_
        exact x_ok hR hX hF hw (by rw [ei, hz, gfind, if_pos (by simpa using q)]; rfl)
  have hF : frm 0 35 g g := frm.rf
  refine r_iload_n (pc := 0) h dX3_proposes_0 rfl ?_
  refine r_iconst (pc := 1) h dX3_proposes_1 ci_m1 ?_
  refine r_icmp_ne (pc := 2) (tgt := 10) h dX3_proposes_2 (by decide) (fun c2 => ?_) (fun c2 => absurd c2 (hx1))
  refine r_aload_n (pc := 10) h dX3_proposes_10 rfl ?_
  refine r_iload_n (pc := 11) h dX3_proposes_11 rfl ?_
  refine r_callVi (pc := 12) (As := [_]) h dX3_proposes_12 k_X3_131 gc_0 rfl ⟨Nat.le_of_ble_eq_true rfl, Nat.le_of_ble_eq_true rfl, Nat.le_of_ble_eq_true rfl⟩ (c_X3_anyCaller hR x) (fun x_12 g1 hq => ?_)
  obtain ⟨rfl, hg1⟩ := hq
  rw [hg1]
  refine r_istore_n (pc := 15) (ls2 := [_, _, _, _]) h dX3_proposes_15 (Nat.le_of_ble_eq_true rfl) rfl ?_
  refine r_iload_n (pc := 16) h dX3_proposes_16 rfl ?_
  refine r_if_eq (pc := 17) (tgt := 26) h dX3_proposes_17 (by decide) (fun c17 => ?_) (fun c17 => ?_)
  · have hw : calW c x = 0 := c17
    obtain ⟨i, hi, hxi⟩ := cal_0 hw hn5
    subst hxi
    refine r_aload_n (pc := 26) h dX3_proposes_26 rfl ?_
    refine r_callVv (pc := 27) (As := []) h dX3_proposes_27 k_X3_78 gc_0 rfl ⟨Nat.le_of_ble_eq_true rfl, Nat.le_of_ble_eq_true rfl, Nat.le_of_ble_eq_true rfl⟩ (c_X3_think hR) (fun g1 hq => ?_)
    obtain ⟨hT, hF1⟩ := hq
    have hR := hR.f9 hF1
    have hX := hX.f9 hF1
    have hF := hF.tr (hF1.wide (by decide) (by decide))
    refine r_iconst (pc := 30) h dX3_proposes_30 ci_0 ?_
    refine r_istore_n (pc := 31) (ls2 := [_, _, _, _]) h dX3_proposes_31 (Nat.le_of_ble_eq_true rfl) rfl ?_
    exact loop i hi hw rfl 61 0 _ rfl hR hX hF hT rfl
  · have hw : ¬ calW c x = 0 := c17
    refine r_aload_n (pc := 20) h dX3_proposes_20 rfl ?_
    refine r_iload_n (pc := 21) h dX3_proposes_21 rfl ?_
    refine r_callVi (pc := 22) (As := [_]) h dX3_proposes_22 k_X3_67 gc_0 rfl ⟨Nat.le_of_ble_eq_true rfl, Nat.le_of_ble_eq_true rfl, Nat.le_of_ble_eq_true rfl⟩ (c_X3_refuse (okw_in (okw_cal c x) hw).1) (fun x_22 g1 hq => ?_)
    obtain ⟨rfl, rfl⟩ := hq
    refine r_ri t (pc := 25) dX3_proposes_25 rfl ?_
    exact x_ref hR hX (okw_cal c x) hw
set_option maxRecDepth 100000 in
set_option maxHeartbeats 4000000 in
theorem x_out (hR : Rx1 g c) (hX : XSr g ck hk lt nl rv nr rf) (ho : gok c) (hd : c 7 3 ≤ 999) (x : Int32) : gCi mX3_out [.ref 0, .int x] g (fun y g1 => y = ansI (calW c x) (oI (outV c x.toNatClampNeg)) ∧ Rx1 g1 (c) ∧ XSr g1 ck hk lt nl rv nr (rfI rf (calW c x)) ∧ frm 0 35 g g1) := by
  refine gCi_of (own := RX3) (ls0 := [.ref 0, .int x, .null, .null]) ⟨rfl, pl_X3⟩ rfl (Nat.le_of_ble_eq_true rfl) (fun G (h : gR RX3 cX3_out 5 200 G) (t : gTi cX3_out .int _ G) => ?_)
  have hn5 := hR.n5
  have hn6 := hR.n6
  have loop : ∀ i, i < c 7 1 → calW c (nI i) = 0 → x = nI i → ∀ m n (g2 : gG), n + m = 61 → Rx1 g2 c → XSr g2 ck hk lt nl rv nr rf → frm 0 35 g g2 → Rx9 g2 (daysC n c) → outV c i = gfind (fun n => daysC n c 6 i == 0) m n → G 22 [.ref 0, .int (nI i), .int (calW c (nI i)), .int (nI n)] [] g2 := by
    intro i hi hw hxi m
    subst hxi
    have ei : (nI i).toNatClampNeg = i := nI_clamp (by omega)
    induction m with
    | zero =>
      intro n g2 hn hR hX hF hT hz
      refine r_iload_n (pc := 22) h dX3_out_22 rfl ?_
      refine r_bipush (pc := 23) h dX3_out_23 cb_60 ?_
      refine r_icmp_gt (pc := 25) (tgt := 58) h dX3_out_25 (by decide) (fun c25 => ?_) (fun c25 => absurd (nI_lt (by omega) (by omega)) c25)
      refine r_bipush (pc := 58) h dX3_out_58 cb_m9 ?_
      refine r_ri t (pc := 60) dX3_out_60 rfl ?_
      exact x_ok hR hX hF hw (by rw [ei, hz]; rfl)
    | succ m ih =>
      intro n g2 hn hR hX hF hT hz
      have hD := daysC_ok ho n (by omega)
      have hi9 : i < daysC n c 7 1 := by rw [hD.2.1]; exact hi
      have hk5 := hD.2.2.2.2.2.2 i hi9
      have hn60 : daysC n c 7 0 = c 7 0 := hD.1
      refine r_iload_n (pc := 22) h dX3_out_22 rfl ?_
      refine r_bipush (pc := 23) h dX3_out_23 cb_60 ?_
      refine r_icmp_gt (pc := 25) (tgt := 58) h dX3_out_25 (by decide) (fun c25 => absurd c25 (nI_nlt (by omega) (by omega))) (fun c25 => ?_)
      refine r_aload_n (pc := 28) h dX3_out_28 rfl ?_
      refine r_getR (pc := 29) h dX3_out_29 f_X3_16 sh_0 rfl ?_
      refine r_getR (pc := 32) h dX3_out_32 f_X3_143 sh_9 rfl ?_
      refine r_iload_n (pc := 35) h dX3_out_35 rfl ?_
      refine r_ialoadE (pc := 36) h dX3_out_36 sh_16 (hT.wo hi9) ?_
      refine r_bipush (pc := 37) h dX3_out_37 cb_m9 ?_
      refine r_icmp_ne (pc := 39) (tgt := 44) h dX3_out_39 (by decide) (fun c39 => ?_) (fun c39 => ?_)
      · have q : ¬ daysC n c 6 i = 0 := fun z => c39 ((wz_none (by omega)).mpr z)
        refine r_aload_n (pc := 44) h dX3_out_44 rfl ?_
        refine r_getR (pc := 45) h dX3_out_45 f_X3_16 sh_0 rfl ?_
        refine r_iconst (pc := 48) h dX3_out_48 ci_1 ?_
        refine r_callVv (pc := 49) (As := [_]) h dX3_out_49 k_X3_164 gc_9 rfl ⟨Nat.le_of_ble_eq_true rfl, Nat.le_of_ble_eq_true rfl, Nat.le_of_ble_eq_true rfl⟩ (c_X0_passDays_9 hT hD.2.2.2 (by omega)) (fun g1 hq => ?_)
        obtain ⟨hT, hF1⟩ := hq
        have hR := hR.f9 hF1
        have hX := hX.f9 hF1
        have hF := hF.tr (hF1.wide (by decide) (by decide))
        refine r_iinc (pc := 52) (ls2 := [_, _, _, _]) h dX3_out_52 rfl (ic1 _) rfl ?_
        refine r_goto (pc := 55) (tgt := 22) h dX3_out_55 (by decide) ?_
        rw [daysC_1] at hT
        exact ih (n + 1) _ (by omega) hR hX hF hT (by rw [hz, gfind, if_neg (by simpa using q)])
      · have q : daysC n c 6 i = 0 := (wz_none (by omega)).mp c39
        refine r_iload_n (pc := 42) h dX3_out_42 rfl ?_
        refine r_ri t (pc := 43) dX3_out_43 rfl ?_
        exact x_ok hR hX hF hw (by rw [ei, hz, gfind, if_pos (by simpa using q)]; rfl)
  have hF : frm 0 35 g g := frm.rf
  refine r_aload_n (pc := 0) h dX3_out_0 rfl ?_
  refine r_iload_n (pc := 1) h dX3_out_1 rfl ?_
  refine r_callVi (pc := 2) (As := [_]) h dX3_out_2 k_X3_131 gc_0 rfl ⟨Nat.le_of_ble_eq_true rfl, Nat.le_of_ble_eq_true rfl, Nat.le_of_ble_eq_true rfl⟩ (c_X3_anyCaller hR x) (fun x_2 g1 hq => ?_)
  obtain ⟨rfl, hg1⟩ := hq
  rw [hg1]
  refine r_istore_n (pc := 5) (ls2 := [_, _, _, _]) h dX3_out_5 (Nat.le_of_ble_eq_true rfl) rfl ?_
  refine r_iload_n (pc := 6) h dX3_out_6 rfl ?_
  refine r_if_eq (pc := 7) (tgt := 16) h dX3_out_7 (by decide) (fun c7 => ?_) (fun c7 => ?_)
  · have hw : calW c x = 0 := c7
    obtain ⟨i, hi, hxi⟩ := cal_0 hw hn5
    subst hxi
    refine r_aload_n (pc := 16) h dX3_out_16 rfl ?_
    refine r_callVv (pc := 17) (As := []) h dX3_out_17 k_X3_78 gc_0 rfl ⟨Nat.le_of_ble_eq_true rfl, Nat.le_of_ble_eq_true rfl, Nat.le_of_ble_eq_true rfl⟩ (c_X3_think hR) (fun g1 hq => ?_)
    obtain ⟨hT, hF1⟩ := hq
    have hR := hR.f9 hF1
    have hX := hX.f9 hF1
    have hF := hF.tr (hF1.wide (by decide) (by decide))
    refine r_iconst (pc := 20) h dX3_out_20 ci_0 ?_
    refine r_istore_n (pc := 21) (ls2 := [_, _, _, _]) h dX3_out_21 (Nat.le_of_ble_eq_true rfl) rfl ?_
    exact loop i hi hw rfl 61 0 _ rfl hR hX hF hT rfl
  · have hw : ¬ calW c x = 0 := c7
    refine r_aload_n (pc := 10) h dX3_out_10 rfl ?_
    refine r_iload_n (pc := 11) h dX3_out_11 rfl ?_
    refine r_callVi (pc := 12) (As := [_]) h dX3_out_12 k_X3_67 gc_0 rfl ⟨Nat.le_of_ble_eq_true rfl, Nat.le_of_ble_eq_true rfl, Nat.le_of_ble_eq_true rfl⟩ (c_X3_refuse (okw_in (okw_cal c x) hw).1) (fun x_12 g1 hq => ?_)
    obtain ⟨rfl, rfl⟩ := hq
    refine r_ri t (pc := 15) dX3_out_15 rfl ?_
    exact x_ref hR hX (okw_cal c x) hw
end TX
