section TX
variable {g : gG} {c ck : gCt} {hk : Bool} {lt : Nat → Nat} {nl : Nat} {rv : Nat → Nat} {nr : Nat} {rf : Nat → Int32}
set_option maxRecDepth 100000 in
set_option maxHeartbeats 4000000 in
theorem y_lots (hR : Rm g c) (hX : MSr g ck hk lt nl rv nr rf) (ho : gok c) (hd : c 7 3 ≤ 999) (n1 z0 w : Int32) : gCi mX4_lots [.ref 35, .int n1, .int z0, .int w] g (fun y g1 => y = ansI (ltW n1 w) (ltR c w.toNatClampNeg n1.toNatClampNeg z0 (nI 0)) ∧ Rm g1 (c) ∧ MSr g1 ck hk lt nl rv nr (rfI rf (ltW n1 w)) ∧ frm 35 58 g g1) := by
  refine gCi_of (own := RX4) (ls0 := [.ref 35, .int n1, .int z0, .int w, .null, .null, .null, .null, .null]) ⟨rfl, pl_X4⟩ rfl (Nat.le_of_ble_eq_true rfl) (fun G (h : gR RX4 cX4_lots 6 240 G) (t : gTi cX4_lots .int _ G) => ?_)
  have hn5 := hR.n5
  have hn6 := hR.n6
  have loop : ∀ n k, n ≤ 20 → k < 2 → ltW (nI n) (nI k) = 0 → n1 = nI n → w = nI k → ∀ (a4 : Int32) m j (z S : Int32) (v8 : Value) (g2 : gG), j + m = n → Rm g2 c → tfX g g2 → g2 35 31 = z → ltR c k m z S = ltR c k n z0 (nI 0) → G 56 [.ref 35, .int (nI n), .int z0, .int (nI k), .int a4, .int (nI (c 7 2)), .int S, .int (nI j), v8] [] g2 := by
    intro n k hn hk2 hw hv hwk a4 m
    subst hv; subst hwk
    have en : (nI n).toNatClampNeg = n := nI_clamp (by omega)
    have ek : (nI k).toNatClampNeg = k := nI_clamp (by omega)
    induction m with
    | zero =>
      intro j z S v8 g2 hj0 hR hF h31 hS
      refine r_iload (pc := 56) h dX4_lots_56 rfl ?_
      refine r_iload_n (pc := 58) h dX4_lots_58 rfl ?_
      refine r_icmp_ge (pc := 59) (tgt := 156) h dX4_lots_59 (by decide) (fun c59 => ?_) (fun c59 => absurd (nI_le (by omega) (by omega)) c59)
      refine r_iload (pc := 156) h dX4_lots_156 rfl ?_
      refine r_ri t (pc := 158) dX4_lots_158 rfl ?_
      exact y_ok hR (hX.tx hF) hF.frm hw (by rw [en, ek]; exact hS)
    | succ m ih =>
      intro j z S v8 g2 hj0 hR hF h31 hS
      have hj : j < n := by omega
      have inner : ∀ r i (p : Int32 × gCt) (g2 : gG), i + r = c 7 1 → Rm g2 p.2 → tfX g g2 → Rk g2 84 c → g2 35 31 = p.1 → gsame c p.2 → gfold ltI r i p = ltL c z → G 69 [.ref 35, .int (nI n), .int z0, .int (nI k), .int a4, .int (nI (c 7 2)), .int S, .int (nI j), .int (nI i)] [] g2 := by
        intro r
        induction r with
        | zero =>
          intro i p g2 hi0 hR hF hK h31 hp hz
          have hz : p = ltL c z := hz
          have hp1 := hp.2.1
          refine r_iload (pc := 69) h dX4_lots_69 rfl ?_
          refine r_aload_n (pc := 71) h dX4_lots_71 rfl ?_
          refine r_getE (pc := 72) h dX4_lots_72 f_X4_67 sh_35 rfl (hR.nc) ?_
          refine r_icmp_ge (pc := 75) (tgt := 113) h dX4_lots_75 (by decide) (fun c75 => ?_) (fun c75 => absurd (nI_le (by omega) (by omega)) c75)
          refine r_aload_n (pc := 113) h dX4_lots_113 rfl ?_
          refine r_bipush (pc := 114) h dX4_lots_114 cb_8 ?_
          refine r_callVv (pc := 116) (As := [_]) h dX4_lots_116 k_X4_122 gc_35 rfl ⟨Nat.le_of_ble_eq_true rfl, Nat.le_of_ble_eq_true rfl, Nat.le_of_ble_eq_true rfl⟩ (c_X4_goes hR hp.2.2.2 (by rw [hp.2.2.1]; omega)) (fun g2 hq => ?_)
          obtain ⟨hR, hF1⟩ := hq
          have hK := hK.fm hF1
          have hF1 := hF1.tf
          have hF := hF.tr hF1.tx
          have h31 := (hF1.at (j := 31) (by decide)).trans h31
          refine r_iload (pc := 119) h dX4_lots_119 rfl ?_
          refine r_iload_n (pc := 121) h dX4_lots_121 rfl ?_
          refine r_if_ne (pc := 122) (tgt := 136) h dX4_lots_122 (by decide) (fun c122 => ?_) (fun c122 => ?_)
          · have k0 : ¬ k = 0 := fun q => c122 (by rw [q]; rfl)
            refine r_aload_n (pc := 136) h dX4_lots_136 rfl ?_
            refine r_getE (pc := 137) h dX4_lots_137 f_X4_163 sh_35 rfl (hR.pd) ?_
            refine r_iload (pc := 140) h dX4_lots_140 rfl ?_
            refine r_isub (pc := 142) h dX4_lots_142 ?_
            refine r_iadd (pc := 143) h dX4_lots_143 ?_
            refine r_istore (pc := 144) (ls2 := [_, _, _, _, _, _, _, _, _]) h dX4_lots_144 (Nat.le_of_ble_eq_true rfl) rfl ?_
            refine r_aload_n (pc := 146) h dX4_lots_146 rfl ?_
            refine r_callVv (pc := 147) (As := []) h dX4_lots_147 k_X4_222 gc_35 rfl ⟨Nat.le_of_ble_eq_true rfl, Nat.le_of_ble_eq_true rfl, Nat.le_of_ble_eq_true rfl⟩ (c_X4_forgets hK) (fun g2 hq => ?_)
            obtain ⟨hR, hF1⟩ := hq
            have hF1 := hF1.tf
            have hF := hF.tr hF1.tx
            have h31 := (hF1.at (j := 31) (by decide)).trans h31
            refine r_iinc (pc := 150) (ls2 := [_, _, _, _, _, _, _, _, _]) h dX4_lots_150 rfl (ic1 _) rfl ?_
            refine r_goto (pc := 153) (tgt := 56) h dX4_lots_153 (by decide) ?_
            rw [ltR, ltA, if_neg k0, ← hz] at hS
            exact ih (j + 1) _ _ _ g2 (by omega) hR hF h31 hS
          · have k0 : k = 0 := (nI_eq0 (by omega)).mp c122
            refine r_aload_n (pc := 125) h dX4_lots_125 rfl ?_
            refine r_aload_n (pc := 126) h dX4_lots_126 rfl ?_
            refine r_getR (pc := 127) h dX4_lots_127 f_X4_28 sh_35 rfl ?_
            refine r_callVi (pc := 130) (As := [_]) h dX4_lots_130 k_X4_212 gc_35 rfl ⟨Nat.le_of_ble_eq_true rfl, Nat.le_of_ble_eq_true rfl, Nat.le_of_ble_eq_true rfl⟩ (c_X4_allOf_42 hR) (fun x_130 g2 hq => ?_)
            obtain ⟨rfl, rfl⟩ := hq
            rw [tot_eq]
            refine r_goto (pc := 133) (tgt := 143) h dX4_lots_133 (by decide) ?_
            refine r_iadd (pc := 143) h dX4_lots_143 ?_
            refine r_istore (pc := 144) (ls2 := [_, _, _, _, _, _, _, _, _]) h dX4_lots_144 (Nat.le_of_ble_eq_true rfl) rfl ?_
            refine r_aload_n (pc := 146) h dX4_lots_146 rfl ?_
            refine r_callVv (pc := 147) (As := []) h dX4_lots_147 k_X4_222 gc_35 rfl ⟨Nat.le_of_ble_eq_true rfl, Nat.le_of_ble_eq_true rfl, Nat.le_of_ble_eq_true rfl⟩ (c_X4_forgets hK) (fun g2 hq => ?_)
            obtain ⟨hR, hF1⟩ := hq
            have hF1 := hF1.tf
            have hF := hF.tr hF1.tx
            have h31 := (hF1.at (j := 31) (by decide)).trans h31
            refine r_iinc (pc := 150) (ls2 := [_, _, _, _, _, _, _, _, _]) h dX4_lots_150 rfl (ic1 _) rfl ?_
            refine r_goto (pc := 153) (tgt := 56) h dX4_lots_153 (by decide) ?_
            rw [ltR, ltA, if_pos k0, ← hz] at hS
            exact ih (j + 1) _ _ _ g2 (by omega) hR hF h31 hS
        | succ r ih2 =>
          intro i p g2 hi0 hR hF hK h31 hp hz
          have hi : i < c 7 1 := by omega
          have hp1 := hp.2.1
          have hi9 : i < p.2 7 1 := by rw [hp.2.1]; exact hi
          refine r_iload (pc := 69) h dX4_lots_69 rfl ?_
          refine r_aload_n (pc := 71) h dX4_lots_71 rfl ?_
          refine r_getE (pc := 72) h dX4_lots_72 f_X4_67 sh_35 rfl (hR.nc) ?_
          refine r_icmp_ge (pc := 75) (tgt := 113) h dX4_lots_75 (by decide) (fun c75 => absurd c75 (nI_ge hi9 (by omega))) (fun c75 => ?_)
          refine r_aload_n (pc := 78) h dX4_lots_78 rfl ?_
          refine r_getR (pc := 79) h dX4_lots_79 f_X4_22 sh_35 rfl ?_
          refine r_iload (pc := 82) h dX4_lots_82 rfl ?_
          refine r_aload_n (pc := 84) h dX4_lots_84 rfl ?_
          refine r_bipush (pc := 85) h dX4_lots_85 cb_21 ?_
          refine r_callVi (pc := 87) (As := [_]) h dX4_lots_87 k_X4_311 gc_35 rfl ⟨Nat.le_of_ble_eq_true rfl, Nat.le_of_ble_eq_true rfl, Nat.le_of_ble_eq_true rfl⟩ (c_X4_draw) (fun x_87 g2 hq => ?_)
          obtain ⟨rfl, hg⟩ := hq
          rw [h31] at hg ⊢
          have hR : Rm g2 p.2 := by rw [hg]; exact hR.up (by decide) (by decide)
          have hK : Rk g2 84 c := by rw [hg]; exact hK.up (by decide)
          have hF : tfX g g2 := by rw [hg]; exact hF.up (by decide)
          have h31 : g2 35 31 = sdI p.1 := by rw [hg]; exact gup_s
          clear hg
          refine r_iastore (pc := 90) h dX4_lots_90 sh_40 (hR.ci hi9) ?_
          generalize hg3 : gup g2 40 _ _ = g3
          have hR2 := Rm.wrX hF (hR.u_fe hi9 (drN (sdI p.1))) (by decide)
          rw [hg3] at hR2
          obtain ⟨hR, hF⟩ := hR2
          have hK : Rk g3 84 c := by rw [← hg3]; exact hK.up (by decide)
          have h31 := gup_kp hg3 (a := 35) (b := 31) (by omega) h31
          clear hg3
          revert g3
          intro g2 hR hF hK h31
          refine r_aload_n (pc := 91) h dX4_lots_91 rfl ?_
          refine r_getR (pc := 92) h dX4_lots_92 f_X4_25 sh_35 rfl ?_
          refine r_iload (pc := 95) h dX4_lots_95 rfl ?_
          refine r_iconst (pc := 97) h dX4_lots_97 ci_0 ?_
          refine r_iastore (pc := 98) h dX4_lots_98 sh_41 (vp_in_nI (show i < 5 by omega) (by decide)) ?_
          generalize hg3 : gup g2 41 _ _ = g3
          have hR2 := Rm.wrX hF (hR.u_so (show i < cup p.2 3 i (drN (sdI p.1)) 7 1 from hi9) 0) (by decide)
          rw [hg3] at hR2
          obtain ⟨hR, hF⟩ := hR2
          have hK : Rk g3 84 c := by rw [← hg3]; exact hK.up (by decide)
          have h31 := gup_kp hg3 (a := 35) (b := 31) (by omega) h31
          clear hg3
          revert g3
          intro g2 hR hF hK h31
          refine r_aload_n (pc := 99) h dX4_lots_99 rfl ?_
          refine r_getR (pc := 100) h dX4_lots_100 f_X4_28 sh_35 rfl ?_
          refine r_iload (pc := 103) h dX4_lots_103 rfl ?_
          refine r_iconst (pc := 105) h dX4_lots_105 ci_0 ?_
          refine r_iastore (pc := 106) h dX4_lots_106 sh_42 (vp_in_nI (show i < 5 by omega) (by decide)) ?_
          generalize hg3 : gup g2 42 _ _ = g3
          have hR2 := Rm.wrX hF (hR.u_sa (show i < cup (cup p.2 3 i (drN (sdI p.1))) 4 i 0 7 1 from hi9) 0) (by decide)
          rw [hg3] at hR2
          obtain ⟨hR, hF⟩ := hR2
          have hK : Rk g3 84 c := by rw [← hg3]; exact hK.up (by decide)
          have h31 := gup_kp hg3 (a := 35) (b := 31) (by omega) h31
          clear hg3
          revert g3
          intro g2 hR hF hK h31
          refine r_iinc (pc := 107) (ls2 := [_, _, _, _, _, _, _, _, _]) h dX4_lots_107 rfl (ic1 _) rfl ?_
          refine r_goto (pc := 110) (tgt := 69) h dX4_lots_110 (by decide) ?_
          rw [← ltI_2] at hR
          rw [← ltI_1 i p] at h31
          exact ih2 (i + 1) (ltI i p) g2 (by omega) hR hF hK h31 (ltI_ok hp i) ((gfold_st ltI r i p).symm.trans hz)
      refine r_iload (pc := 56) h dX4_lots_56 rfl ?_
      refine r_iload_n (pc := 58) h dX4_lots_58 rfl ?_
      refine r_icmp_ge (pc := 59) (tgt := 156) h dX4_lots_59 (by decide) (fun c59 => absurd c59 (nI_ge hj (by omega))) (fun c59 => ?_)
      refine r_aload_n (pc := 62) h dX4_lots_62 rfl ?_
      refine r_callVv (pc := 63) (As := []) h dX4_lots_63 k_X4_219 gc_35 rfl ⟨Nat.le_of_ble_eq_true rfl, Nat.le_of_ble_eq_true rfl, Nat.le_of_ble_eq_true rfl⟩ (c_X4_thinks hR) (fun g2 hq => ?_)
      obtain ⟨hK, hF1⟩ := hq
      have hR := hR.kf hF1
      have hF1 := hF1.tf
      have hF := hF.tr hF1.tx
      have h31 := (hF1.at (j := 31) (by decide)).trans h31
      refine r_iconst (pc := 66) h dX4_lots_66 ci_0 ?_
      refine r_istore (pc := 67) (ls2 := [_, _, _, _, _, _, _, _, _]) h dX4_lots_67 (Nat.le_of_ble_eq_true rfl) rfl ?_
      exact inner (c 7 1) 0 (z, c) g2 (by omega) hR hF hK h31 ⟨rfl, rfl, rfl, ho⟩ rfl
  suffices H : ∀ g2 : gG, Rm g2 c → tfX g g2 → G 0 [.ref 35, .int n1, .int z0, .int w, .null, .null, .null, .null, .null] [] g2 from H g hR tfX.rf
  intro g2 hR hF
  refine r_iload_n (pc := 0) h dX4_lots_0 rfl ?_
  refine r_iconst (pc := 1) h dX4_lots_1 ci_1 ?_
  refine r_bipush (pc := 2) h dX4_lots_2 cb_20 ?_
  refine r_callSi (pc := 4) (As := [_, _, _]) h dX4_lots_4 k_X4_70 rfl ⟨Nat.le_of_ble_eq_true rfl, Nat.le_of_ble_eq_true rfl, Nat.le_of_ble_eq_true rfl⟩ (c_X4_bound _ _ _) (fun x_4 g2 hq => ?_)
  obtain ⟨rfl, rfl⟩ := hq
  refine r_istore (pc := 7) (ls2 := [_, _, _, _, _, _, _, _, _]) h dX4_lots_7 (Nat.le_of_ble_eq_true rfl) rfl ?_
  refine r_iload (pc := 9) h dX4_lots_9 rfl ?_
  refine r_if_ne (pc := 11) (tgt := 27) h dX4_lots_11 (by decide) (fun c11 => ?_) (fun c11 => ?_)
  · have hw : ¬ bndI n1 (nI 1) (nI 20) = 0 := c11
    have hok : okw (bndI n1 (nI 1) (nI 20)) := okw_n
    have ew : ltW n1 w = bndI n1 (nI 1) (nI 20) := by unfold ltW fstI; rw [if_neg hw]
    refine r_iload (pc := 27) h dX4_lots_27 rfl ?_
    refine r_if_eq (pc := 29) (tgt := 39) h dX4_lots_29 (by decide) (fun c29 => absurd c29 (c11)) (fun c29 => ?_)
    refine r_aload_n (pc := 32) h dX4_lots_32 rfl ?_
    refine r_iload (pc := 33) h dX4_lots_33 rfl ?_
    refine r_callVi (pc := 35) (As := [_]) h dX4_lots_35 k_X4_77 gc_35 rfl ⟨Nat.le_of_ble_eq_true rfl, Nat.le_of_ble_eq_true rfl, Nat.le_of_ble_eq_true rfl⟩ (c_X4_no (okw_in hok hw).1) (fun x_35 g2 hq => ?_)
    obtain ⟨rfl, rfl⟩ := hq
    refine r_ri t (pc := 38) dX4_lots_38 rfl ?_
    rw [ew]
    have hq := y_ref hR (hX.tx hF) hok hw (v := ltR c w.toNatClampNeg n1.toNatClampNeg z0 (nI 0))
    exact ⟨hq.1, hq.2.1, hq.2.2.1, hF.frm.tr hq.2.2.2⟩
  · refine r_iload_n (pc := 14) h dX4_lots_14 rfl ?_
    refine r_iconst (pc := 15) h dX4_lots_15 ci_0 ?_
    refine r_iconst (pc := 16) h dX4_lots_16 ci_1 ?_
    refine r_callSi (pc := 17) (As := [_, _, _]) h dX4_lots_17 k_X4_88 rfl ⟨Nat.le_of_ble_eq_true rfl, Nat.le_of_ble_eq_true rfl, Nat.le_of_ble_eq_true rfl⟩ (c_X4_isIn _ _ _) (fun x_17 g2 hq => ?_)
    rw [isIn_inB (by decide)] at hq
    obtain ⟨rfl, rfl⟩ := hq
    refine r_if_ne (pc := 20) (tgt := 27) h dX4_lots_20 (by decide) (fun c20 => ?_) (fun c20 => ?_)
    · have hb2 : inB w (1 + 1) = true := by simpa using mt (bI_0 (inB w (1 + 1))).mpr c20
      have hw : ltW n1 w = 0 := fst_0.mpr ⟨c11, by unfold whyB; rw [if_pos hb2]; rfl, rfl⟩
      obtain ⟨n, hn1, hn, hvn⟩ := bnd_nat (by decide) (by decide) c11
      obtain ⟨k, hk3, hwk⟩ := (inB_iff (by decide)).mp hb2
      subst hvn; subst hwk
      refine r_iload (pc := 27) h dX4_lots_27 rfl ?_
      refine r_if_eq (pc := 29) (tgt := 39) h dX4_lots_29 (by decide) (fun c29 => ?_) (fun c29 => absurd (c11) c29)
      refine r_aload_n (pc := 39) h dX4_lots_39 rfl ?_
      refine r_iload_n (pc := 40) h dX4_lots_40 rfl ?_
      refine r_putI (pc := 41) h dX4_lots_41 fw_X4_305 sh_35 rfl rfl rfl ?_
      generalize hg3 : gup g2 35 31 _ = g3
      have hR : Rm g3 c := by rw [← hg3]; exact hR.up (by decide) (by decide)
      have hF : tfX g g3 := by rw [← hg3]; exact hF.up (by decide)
      have h31 := gup_at hg3
      clear hg3
      revert g3
      intro g2 hR hF h31
      refine r_aload_n (pc := 44) h dX4_lots_44 rfl ?_
      refine r_getE (pc := 45) h dX4_lots_45 f_X4_163 sh_35 rfl (hR.pd) ?_
      refine r_istore (pc := 48) (ls2 := [_, _, _, _, _, _, _, _, _]) h dX4_lots_48 (Nat.le_of_ble_eq_true rfl) rfl ?_
      refine r_iconst (pc := 50) h dX4_lots_50 ci_0 ?_
      refine r_istore (pc := 51) (ls2 := [_, _, _, _, _, _, _, _, _]) h dX4_lots_51 (Nat.le_of_ble_eq_true rfl) rfl ?_
      refine r_iconst (pc := 53) h dX4_lots_53 ci_0 ?_
      refine r_istore (pc := 54) (ls2 := [_, _, _, _, _, _, _, _, _]) h dX4_lots_54 (Nat.le_of_ble_eq_true rfl) rfl ?_
      exact loop n k hn hk3 hw rfl rfl _ n 0 z0 (nI 0) _ g2 (by omega) hR hF h31 rfl
    · have hb2 : inB w (1 + 1) = false := (bI_0 (inB w (1 + 1))).mp c20
      have hw : ¬ (-2 : Int32) = 0 := by decide
      have hok : okw (-2) := okw_2
      have ew : ltW n1 w = -2 := by unfold ltW fstI; rw [if_pos c11]; unfold whyB; rw [show inB w 2 = false from hb2]; rfl
      refine r_bipush (pc := 23) h dX4_lots_23 cb_m2 ?_
      refine r_istore (pc := 25) (ls2 := [_, _, _, _, _, _, _, _, _]) h dX4_lots_25 (Nat.le_of_ble_eq_true rfl) rfl ?_
      refine r_iload (pc := 27) h dX4_lots_27 rfl ?_
      refine r_if_eq (pc := 29) (tgt := 39) h dX4_lots_29 (by decide) (fun c29 => absurd c29 (by decide)) (fun c29 => ?_)
      refine r_aload_n (pc := 32) h dX4_lots_32 rfl ?_
      refine r_iload (pc := 33) h dX4_lots_33 rfl ?_
      refine r_callVi (pc := 35) (As := [_]) h dX4_lots_35 k_X4_77 gc_35 rfl ⟨Nat.le_of_ble_eq_true rfl, Nat.le_of_ble_eq_true rfl, Nat.le_of_ble_eq_true rfl⟩ (c_X4_no (okw_in hok hw).1) (fun x_35 g2 hq => ?_)
      obtain ⟨rfl, rfl⟩ := hq
      refine r_ri t (pc := 38) dX4_lots_38 rfl ?_
      rw [ew]
      have hq := y_ref hR (hX.tx hF) hok hw (v := ltR c w.toNatClampNeg n1.toNatClampNeg z0 (nI 0))
      exact ⟨hq.1, hq.2.1, hq.2.2.1, hF.frm.tr hq.2.2.2⟩
set_option maxRecDepth 100000 in
set_option maxHeartbeats 4000000 in
theorem c_X4_firstToPropose {g : gG} {c : gCt} (hR : Rm g c) (ho : gok c) (hd : c 7 3 ≤ 999) : gCi mX4_firstToPropose [.ref 35] g (fun y g1 => y = oI (fpr c 61 0) ∧ Rm g1 c ∧ tfX g g1) := by
  refine gCi_of (own := RX4) (ls0 := [.ref 35, .null, .null, .null, .null]) ⟨rfl, pl_X4⟩ rfl (Nat.le_of_ble_eq_true rfl) (fun G (h : gR RX4 cX4_firstToPropose 6 240 G) (t : gTi cX4_firstToPropose .int _ G) => ?_)
  have hn5 := hR.n5
  have hn6 := hR.n6
  rw [← fpm_eq c] at t
  have loop : ∀ m i (p : Option Nat × Nat) (g2 : gG) (v4 : Value), i + m = c 7 1 → Rm g2 c → tfX g g2 → p.2 ≤ 61 → gfold (fpm c) m i p = fpmV c → G 8 [.ref 35, .int (oI p.1), .int (nI p.2), .int (nI i), v4] [] g2 := by
    intro m
    induction m with
    | zero =>
      intro i p g2 v4 hi0 hR hF hp61 hz
      have hz : p = fpmV c := hz
      refine r_iload_n (pc := 8) h dX4_firstToPropose_8 rfl ?_
      refine r_aload_n (pc := 9) h dX4_firstToPropose_9 rfl ?_
      refine r_getE (pc := 10) h dX4_firstToPropose_10 f_X4_67 sh_35 rfl (hR.nc) ?_
      refine r_icmp_ge (pc := 13) (tgt := 48) h dX4_firstToPropose_13 (by decide) (fun c13 => ?_) (fun c13 => absurd (nI_le (by omega) (by omega)) c13)
      refine r_iload_n (pc := 48) h dX4_firstToPropose_48 rfl ?_
      refine r_ri t (pc := 49) dX4_firstToPropose_49 rfl ?_
      exact ⟨by rw [hz], hR, hF⟩
    | succ m ih =>
      intro i p g2 v4 hi0 hR hF hp61 hz
      have hi : i < c 7 1 := by omega
      refine r_iload_n (pc := 8) h dX4_firstToPropose_8 rfl ?_
      refine r_aload_n (pc := 9) h dX4_firstToPropose_9 rfl ?_
      refine r_getE (pc := 10) h dX4_firstToPropose_10 f_X4_67 sh_35 rfl (hR.nc) ?_
      refine r_icmp_ge (pc := 13) (tgt := 48) h dX4_firstToPropose_13 (by decide) (fun c13 => absurd c13 (nI_ge hi (by omega))) (fun c13 => ?_)
      refine r_aload_n (pc := 16) h dX4_firstToPropose_16 rfl ?_
      refine r_iload_n (pc := 17) h dX4_firstToPropose_17 rfl ?_
      refine r_callVi (pc := 18) (As := [_]) h dX4_firstToPropose_18 k_X4_225 gc_35 rfl ⟨Nat.le_of_ble_eq_true rfl, Nat.le_of_ble_eq_true rfl, Nat.le_of_ble_eq_true rfl⟩ (c_X4_proposesWhen hR ho hd hi) (fun x_18 g2 hq => ?_)
      obtain ⟨rfl, hR, hF1⟩ := hq
      have hF := hF.tr hF1.tx
      refine r_istore (pc := 21) (ls2 := [_, _, _, _, _]) h dX4_firstToPropose_21 (Nat.le_of_ble_eq_true rfl) rfl ?_
      refine r_iload (pc := 23) h dX4_firstToPropose_23 rfl ?_
      refine r_if_lt (pc := 25) (tgt := 42) h dX4_firstToPropose_25 (by decide) (fun c25 => ?_) (fun c25 => ?_)
      · have hb : prp c i = none := (oI_neg (fun k hk => by have := (gfind_some hk).2.1; omega)).mp c25
        refine r_iinc (pc := 42) (ls2 := [_, _, _, _, _]) h dX4_firstToPropose_42 rfl (ic1 _) rfl ?_
        refine r_goto (pc := 45) (tgt := 8) h dX4_firstToPropose_45 (by decide) ?_
        exact ih (i + 1) p g2 _ (by omega) hR hF hp61 (by rw [← hz, gfold_st, fpm_n hb])
      · obtain ⟨n, hb⟩ : ∃ n, prp c i = some n := Option.ne_none_iff_exists'.mp (fun q => c25 (by rw [q]; decide))
        have hn := (gfind_some hb).2.1
        rw [show oI (prp c i) = nI n by rw [hb]; rfl]
        refine r_iload (pc := 28) h dX4_firstToPropose_28 rfl ?_
        refine r_iload_n (pc := 30) h dX4_firstToPropose_30 rfl ?_
        refine r_icmp_lt (pc := 31) (tgt := 37) h dX4_firstToPropose_31 (by decide) (fun c31 => ?_) (fun c31 => ?_)
        · refine r_iload_n (pc := 37) h dX4_firstToPropose_37 rfl ?_
          refine r_istore_n (pc := 38) (ls2 := [_, _, _, _, _]) h dX4_firstToPropose_38 (Nat.le_of_ble_eq_true rfl) rfl ?_
          refine r_iload (pc := 39) h dX4_firstToPropose_39 rfl ?_
          refine r_istore_n (pc := 41) (ls2 := [_, _, _, _, _]) h dX4_firstToPropose_41 (Nat.le_of_ble_eq_true rfl) rfl ?_
          refine r_iinc (pc := 42) (ls2 := [_, _, _, _, _]) h dX4_firstToPropose_42 rfl (ic1 _) rfl ?_
          refine r_goto (pc := 45) (tgt := 8) h dX4_firstToPropose_45 (by decide) ?_
          exact ih (i + 1) (some i, n) g2 _ (by omega) hR hF (by show n ≤ 61; omega) (by rw [← hz, gfold_st, fpm_s hb ((nI_ltI (by omega) (by omega)).mp c31)])
        · refine r_goto (pc := 34) (tgt := 42) h dX4_firstToPropose_34 (by decide) ?_
          refine r_iinc (pc := 42) (ls2 := [_, _, _, _, _]) h dX4_firstToPropose_42 rfl (ic1 _) rfl ?_
          refine r_goto (pc := 45) (tgt := 8) h dX4_firstToPropose_45 (by decide) ?_
          exact ih (i + 1) p g2 _ (by omega) hR hF hp61 (by rw [← hz, gfold_st, fpm_k hb (by have := mt (fun q => nI_lt (a := n) (b := p.2) q (by omega)) c31; omega)])
  refine r_bipush (pc := 0) h dX4_firstToPropose_0 cb_m9 ?_
  refine r_istore_n (pc := 2) (ls2 := [_, _, _, _, _]) h dX4_firstToPropose_2 (Nat.le_of_ble_eq_true rfl) rfl ?_
  refine r_bipush (pc := 3) h dX4_firstToPropose_3 cb_61 ?_
  refine r_istore_n (pc := 5) (ls2 := [_, _, _, _, _]) h dX4_firstToPropose_5 (Nat.le_of_ble_eq_true rfl) rfl ?_
  refine r_iconst (pc := 6) h dX4_firstToPropose_6 ci_0 ?_
  refine r_istore_n (pc := 7) (ls2 := [_, _, _, _, _]) h dX4_firstToPropose_7 (Nat.le_of_ble_eq_true rfl) rfl ?_
  exact loop (c 7 1) 0 (none, 61) g _ (by omega) hR tfX.rf (by decide) rfl
set_option maxRecDepth 100000 in
set_option maxHeartbeats 4000000 in
theorem y_proposes (hR : Rm g c) (hX : MSr g ck hk lt nl rv nr rf) (ho : gok c) (hd : c 7 3 ≤ 999) (x : Int32) : gCi mX4_proposes [.ref 35, .int x] g (fun y g1 => y = ansI (drW c x) (if x = -1 then oI (fpr c 61 0) else oI (prp c x.toNatClampNeg)) ∧ Rm g1 (c) ∧ MSr g1 ck hk lt nl rv nr (rfI rf (drW c x)) ∧ frm 35 58 g g1) := by
  refine gCi_of (own := RX4) (ls0 := [.ref 35, .int x]) ⟨rfl, pl_X4⟩ rfl (Nat.le_of_ble_eq_true rfl) (fun G (h : gR RX4 cX4_proposes 7 280 G) (t : gTi cX4_proposes .int _ G) => ?_)
  have hn5 := hR.n5
  have hn6 := hR.n6
  suffices H : ∀ g2 : gG, Rm g2 c → tfX g g2 → G 0 [.ref 35, .int x] [] g2 from H g hR tfX.rf
  intro g2 hR hF
  refine r_iload_n (pc := 0) h dX4_proposes_0 rfl ?_
  refine r_iconst (pc := 1) h dX4_proposes_1 ci_m1 ?_
  refine r_icmp_eq (pc := 2) (tgt := 19) h dX4_proposes_2 (by decide) (fun c2 => ?_) (fun c2 => ?_)
  · have hx1 : x = -1 := c2
    have hw : drW c x = 0 := if_pos hx1
    rw [hx1]
    refine r_iload_n (pc := 19) h dX4_proposes_19 rfl ?_
    refine r_if_ge (pc := 20) (tgt := 30) h dX4_proposes_20 (by decide) (fun c20 => absurd c20 (by decide)) (fun c20 => ?_)
    refine r_aload_n (pc := 23) h dX4_proposes_23 rfl ?_
    refine r_callVi (pc := 24) (As := []) h dX4_proposes_24 k_X4_228 gc_35 rfl ⟨Nat.le_of_ble_eq_true rfl, Nat.le_of_ble_eq_true rfl, Nat.le_of_ble_eq_true rfl⟩ (c_X4_firstToPropose hR ho hd) (fun x_24 g2 hq => ?_)
    obtain ⟨rfl, hR, hF1⟩ := hq
    have hF := hF.tr hF1
    refine r_goto (pc := 27) (tgt := 35) h dX4_proposes_27 (by decide) ?_
    refine r_ri t (pc := 35) dX4_proposes_35 rfl ?_
    exact y_ok hR (hX.tx hF) hF.frm hw ((if_pos hx1).symm)
  · have hx1 : ¬ x = -1 := c2
    have ed : drW c x = calW c x := if_neg hx1
    refine r_aload_n (pc := 5) h dX4_proposes_5 rfl ?_
    refine r_iload_n (pc := 6) h dX4_proposes_6 rfl ?_
    refine r_callVi (pc := 7) (As := [_]) h dX4_proposes_7 k_X4_112 gc_35 rfl ⟨Nat.le_of_ble_eq_true rfl, Nat.le_of_ble_eq_true rfl, Nat.le_of_ble_eq_true rfl⟩ (c_X4_isCaller hR x) (fun x_7 g2 hq => ?_)
    obtain ⟨rfl, rfl⟩ := hq
    refine r_if_ne (pc := 10) (tgt := 19) h dX4_proposes_10 (by decide) (fun c10 => ?_) (fun c10 => ?_)
    · have hb : inB x (c 7 1) = true := by simpa using mt (bI_0 (inB x (c 7 1))).mpr c10
      have hw : drW c x = 0 := by rw [ed]; unfold calW whyB; rw [if_pos hb]; rfl
      obtain ⟨i, hi, hxi⟩ := (inB_iff (by omega)).mp hb
      rw [hxi]
      refine r_iload_n (pc := 19) h dX4_proposes_19 rfl ?_
      refine r_if_ge (pc := 20) (tgt := 30) h dX4_proposes_20 (by decide) (fun c20 => ?_) (fun c20 => absurd (show (0 : Int32) ≤ nI i from Int32.not_lt.mp (show ¬ nI i < nI 0 from nI_nlt (Nat.zero_le _) (by omega))) c20)
      refine r_aload_n (pc := 30) h dX4_proposes_30 rfl ?_
      refine r_iload_n (pc := 31) h dX4_proposes_31 rfl ?_
      refine r_callVi (pc := 32) (As := [_]) h dX4_proposes_32 k_X4_225 gc_35 rfl ⟨Nat.le_of_ble_eq_true rfl, Nat.le_of_ble_eq_true rfl, Nat.le_of_ble_eq_true rfl⟩ (c_X4_proposesWhen hR ho hd hi) (fun x_32 g2 hq => ?_)
      obtain ⟨rfl, hR, hF1⟩ := hq
      have hF := hF.tr hF1.tx
      refine r_ri t (pc := 35) dX4_proposes_35 rfl ?_
      exact y_ok hR (hX.tx hF) hF.frm hw (by rw [if_neg hx1, hxi, nI_clamp (by omega)])
    · have hb : inB x (c 7 1) = false := (bI_0 (inB x (c 7 1))).mp c10
      have hw : ¬ (-1 : Int32) = 0 := by decide
      have hok : okw (-1) := okw_1
      have ew : drW c x = -1 := by rw [ed]; unfold calW whyB; rw [hb]; rfl
      refine r_aload_n (pc := 13) h dX4_proposes_13 rfl ?_
      refine r_iconst (pc := 14) h dX4_proposes_14 ci_m1 ?_
      refine r_callVi (pc := 15) (As := [_]) h dX4_proposes_15 k_X4_77 gc_35 rfl ⟨Nat.le_of_ble_eq_true rfl, Nat.le_of_ble_eq_true rfl, Nat.le_of_ble_eq_true rfl⟩ (c_X4_no (okw_in hok hw).1) (fun x_15 g2 hq => ?_)
      obtain ⟨rfl, rfl⟩ := hq
      refine r_ri t (pc := 18) dX4_proposes_18 rfl ?_
      rw [ew]
      have hq := y_ref hR (hX.tx hF) hok hw (v := if x = -1 then oI (fpr c 61 0) else oI (prp c x.toNatClampNeg))
      exact ⟨hq.1, hq.2.1, hq.2.2.1, hF.frm.tr hq.2.2.2⟩
end TX
