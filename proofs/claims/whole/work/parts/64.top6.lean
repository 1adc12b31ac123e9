section TX
variable {g : gG} {c ck : gCt} {hk : Bool} {lt : Nat → Nat} {nl : Nat} {rv : Nat → Nat} {nr : Nat} {rf : Nat → Int32}
set_option maxRecDepth 100000 in
set_option maxHeartbeats 4000000 in
theorem x_spare (hR : Rx1 g c) (hX : XSr g ck hk lt nl rv nr rf) (ho : gok c) (hd : c 7 3 ≤ 999) (v w : Int32) : gCi mX3_spare [.ref 0, .int v, .int w] g (fun y g1 => y = ansI (spW v w) (spA (spV c v.toNatClampNeg) w.toNatClampNeg) ∧ Rx1 g1 (c) ∧ XSr g1 ck hk lt nl rv nr (rfI rf (spW v w)) ∧ frm 0 35 g g1) := by
  refine gCi_of (own := RX3) (ls0 := [.ref 0, .int v, .int w, .null, .null, .null, .null, .null]) ⟨rfl, pl_X3⟩ rfl (Nat.le_of_ble_eq_true rfl) (fun G (h : gR RX3 cX3_spare 6 240 G) (t : gTi cX3_spare .int _ G) => ?_)
  have hn5 := hR.n5
  have hn6 := hR.n6
  have loop : ∀ n k, n ≤ 30 → k < 2 → spW (nI n) (nI k) = 0 → v = nI n → w = nI k → ∀ (a3 : Int32) m i (p : Option (Nat × Nat)) (g2 : gG) (b4 b5 : Int32) (v7 : Value), i + m = c 7 1 → Rx1 g2 c → XSr g2 ck hk lt nl rv nr rf → frm 0 35 g g2 → b4 = oI (p.map (fun q => q.1)) → b5 = oI (p.map (fun q => q.2)) → (∀ q, p = some q → q.2 ≤ 30) → gfold (spF c n) m i p = spV c n → G 38 [.ref 0, .int (nI n), .int (nI k), .int a3, .int b4, .int b5, .int (nI i), v7] [] g2 := by
    intro n k hn hk2 hw hv hwk a3 m
    subst hv; subst hwk
    have en : (nI n).toNatClampNeg = n := nI_clamp (by omega)
    have ek : (nI k).toNatClampNeg = k := nI_clamp (by omega)
    induction m with
    | zero =>
      intro i p g2 b4 b5 v7 hi0 hR hX hF e4 e5 hp30 hz
      have hz : p = spV c n := hz
      subst e4; subst e5
      refine r_iload (pc := 38) h dX3_spare_38 rfl ?_
      refine r_aload_n (pc := 40) h dX3_spare_40 rfl ?_
      refine r_getR (pc := 41) h dX3_spare_41 f_X3_10 sh_0 rfl ?_
      refine r_getE (pc := 44) h dX3_spare_44 f_X3_191 sh_1 rfl (hR.nc) ?_
      refine r_icmp_ge (pc := 47) (tgt := 109) h dX3_spare_47 (by decide) (fun c47 => ?_) (fun c47 => absurd (nI_le (by omega) (by omega)) c47)
      refine r_iload_n (pc := 109) h dX3_spare_109 rfl ?_
      refine r_if_ne (pc := 110) (tgt := 118) h dX3_spare_110 (by decide) (fun c110 => ?_) (fun c110 => ?_)
      · have k0 : ¬ k = 0 := fun q => c110 (by rw [q]; rfl)
        refine r_iload (pc := 118) h dX3_spare_118 rfl ?_
        refine r_ri t (pc := 120) dX3_spare_120 rfl ?_
        exact x_ok hR hX hF hw (by rw [en, ek, ← hz]; unfold spA; rw [if_neg k0])
      · have k0 : k = 0 := (nI_eq0 (by omega)).mp c110
        refine r_iload (pc := 113) h dX3_spare_113 rfl ?_
        refine r_goto (pc := 115) (tgt := 120) h dX3_spare_115 (by decide) ?_
        refine r_ri t (pc := 120) dX3_spare_120 rfl ?_
        exact x_ok hR hX hF hw (by rw [en, ek, ← hz]; unfold spA; rw [if_pos k0])
    | succ m ih =>
      intro i p g2 b4 b5 v7 hi0 hR hX hF e4 e5 hp30 hz
      have hi : i < c 7 1 := by omega
      have hk4 := ho.2.2.2 i hi
      have hD := daysC_ok (gok_6 (i := i) (v := 0) ho (Nat.zero_le _)) n (by show c 7 3 + n ≤ 2000; omega)
      have h30 := tot_le hD.2.2.2 (by rw [hD.2.1]; exact hn5)
      subst e4; subst e5
      refine r_iload (pc := 38) h dX3_spare_38 rfl ?_
      refine r_aload_n (pc := 40) h dX3_spare_40 rfl ?_
      refine r_getR (pc := 41) h dX3_spare_41 f_X3_10 sh_0 rfl ?_
      refine r_getE (pc := 44) h dX3_spare_44 f_X3_191 sh_1 rfl (hR.nc) ?_
      refine r_icmp_ge (pc := 47) (tgt := 109) h dX3_spare_47 (by decide) (fun c47 => absurd c47 (nI_ge hi (by omega))) (fun c47 => ?_)
      refine r_aload_n (pc := 50) h dX3_spare_50 rfl ?_
      refine r_getR (pc := 51) h dX3_spare_51 f_X3_10 sh_0 rfl ?_
      refine r_getR (pc := 54) h dX3_spare_54 f_X3_143 sh_1 rfl ?_
      refine r_iload (pc := 57) h dX3_spare_57 rfl ?_
      refine r_ialoadE (pc := 59) h dX3_spare_59 sh_8 (hR.wo hi) ?_
      refine r_bipush (pc := 60) h dX3_spare_60 cb_m9 ?_
      refine r_icmp_eq (pc := 62) (tgt := 103) h dX3_spare_62 (by decide) (fun c62 => ?_) (fun c62 => ?_)
      · have q6 : c 6 i = 0 := (wz_none (by omega)).mp c62
        refine r_iinc (pc := 103) (ls2 := [_, _, _, _, _, _, _, _]) h dX3_spare_103 rfl (ic1 _) rfl ?_
        refine r_goto (pc := 106) (tgt := 38) h dX3_spare_106 (by decide) ?_
        have e := sp_z (n := n) (p := p) q6
        exact ih (i + 1) p g2 _ _ _ (by omega) hR hX hF rfl rfl hp30 (by rw [← hz]; show _ = gfold (spF c n) m (i + 1) (spF c n i p); rw [e])
      · have q6 : ¬ c 6 i = 0 := fun q => c62 (by rw [q]; rfl)
        refine r_aload_n (pc := 65) h dX3_spare_65 rfl ?_
        refine r_callVv (pc := 66) (As := []) h dX3_spare_66 k_X3_78 gc_0 rfl ⟨Nat.le_of_ble_eq_true rfl, Nat.le_of_ble_eq_true rfl, Nat.le_of_ble_eq_true rfl⟩ (c_X3_think hR) (fun g2 hq => ?_)
        obtain ⟨hT, hF1⟩ := hq
        have hR := hR.f9 hF1
        have hX := hX.f9 hF1
        have hF := hF.tr (hF1.wide (by decide) (by decide))
        refine r_aload_n (pc := 69) h dX3_spare_69 rfl ?_
        refine r_getR (pc := 70) h dX3_spare_70 f_X3_16 sh_0 rfl ?_
        refine r_getR (pc := 73) h dX3_spare_73 f_X3_143 sh_9 rfl ?_
        refine r_iload (pc := 76) h dX3_spare_76 rfl ?_
        refine r_bipush (pc := 78) h dX3_spare_78 cb_m9 ?_
        refine r_top (y := wz 0) h rfl ?_
        refine r_iastore (pc := 80) h dX3_spare_80 sh_16 (hT.ci hi) ?_
        obtain ⟨hT, hF1⟩ := Rx9.wr (frm.rf (g := g2)) (hT.u_wo hi 0) (by decide)
        have hR := hR.f9 hF1
        have hX := hX.f9 hF1
        have hF := hF.tr (hF1.wide (by decide) (by decide))
        generalize gup g2 16 _ _ = g2 at hT hF1 hR hX hF ⊢
        refine r_aload_n (pc := 81) h dX3_spare_81 rfl ?_
        refine r_iload_n (pc := 82) h dX3_spare_82 rfl ?_
        refine r_callVi (pc := 83) (As := [_]) h dX3_spare_83 k_X3_177 gc_0 rfl ⟨Nat.le_of_ble_eq_true rfl, Nat.le_of_ble_eq_true rfl, Nat.le_of_ble_eq_true rfl⟩ (c_X3_allSaidBehind hT (gok_6 ho (Nat.zero_le _)) (by show c 7 3 + n ≤ 2000; omega)) (fun x_83 g2 hq => ?_)
        obtain ⟨rfl, hT, hF1⟩ := hq
        have hR := hR.f9 hF1
        have hX := hX.f9 hF1
        have hF := hF.tr (hF1.wide (by decide) (by decide))
        rw [tot_eq]
        refine r_istore (pc := 86) (ls2 := [_, _, _, _, _, _, _, _]) h dX3_spare_86 (Nat.le_of_ble_eq_true rfl) rfl ?_
        refine r_iload (pc := 88) h dX3_spare_88 rfl ?_
        refine r_iload (pc := 90) h dX3_spare_90 rfl ?_
        refine r_icmp_le (pc := 92) (tgt := 103) h dX3_spare_92 (by decide) (fun c92 => ?_) (fun c92 => ?_)
        · refine r_iinc (pc := 103) (ls2 := [_, _, _, _, _, _, _, _]) h dX3_spare_103 rfl (ic1 _) rfl ?_
          refine r_goto (pc := 106) (tgt := 38) h dX3_spare_106 (by decide) ?_
          have e := sp_le q6 h30 hp30 c92
          exact ih (i + 1) (spF c n i p) g2 _ _ _ (by omega) hR hX hF (spo e :) (spn e :) (fun z hz => by rw [e] at hz; first | exact hp30 z hz | (cases hz; exact h30)) hz
        · refine r_iload (pc := 95) h dX3_spare_95 rfl ?_
          refine r_istore (pc := 97) (ls2 := [_, _, _, _, _, _, _, _]) h dX3_spare_97 (Nat.le_of_ble_eq_true rfl) rfl ?_
          refine r_iload (pc := 99) h dX3_spare_99 rfl ?_
          refine r_istore (pc := 101) (ls2 := [_, _, _, _, _, _, _, _]) h dX3_spare_101 (Nat.le_of_ble_eq_true rfl) rfl ?_
          refine r_iinc (pc := 103) (ls2 := [_, _, _, _, _, _, _, _]) h dX3_spare_103 rfl (ic1 _) rfl ?_
          refine r_goto (pc := 106) (tgt := 38) h dX3_spare_106 (by decide) ?_
          have e := sp_gt q6 hp30 c92
          exact ih (i + 1) (spF c n i p) g2 _ _ _ (by omega) hR hX hF (spo e :) (spn e :) (fun z hz => by rw [e] at hz; first | exact hp30 z hz | (cases hz; exact h30)) hz
  suffices H : ∀ g2 : gG, Rx1 g2 c → XSr g2 ck hk lt nl rv nr rf → frm 0 35 g g2 → G 0 [.ref 0, .int v, .int w, .null, .null, .null, .null, .null] [] g2 from H g hR hX frm.rf
  intro g2 hR hX hF
  refine r_iload_n (pc := 0) h dX3_spare_0 rfl ?_
  refine r_iconst (pc := 1) h dX3_spare_1 ci_1 ?_
  refine r_bipush (pc := 2) h dX3_spare_2 cb_30 ?_
  refine r_callSi (pc := 4) (As := [_, _, _]) h dX3_spare_4 k_X3_60 rfl ⟨Nat.le_of_ble_eq_true rfl, Nat.le_of_ble_eq_true rfl, Nat.le_of_ble_eq_true rfl⟩ (c_X3_range _ _ _) (fun x_4 g2 hq => ?_)
  obtain ⟨rfl, rfl⟩ := hq
  refine r_iload_n (pc := 7) h dX3_spare_7 rfl ?_
  refine r_iconst (pc := 8) h dX3_spare_8 ci_2 ?_
  refine r_callSi (pc := 9) (As := [_, _]) h dX3_spare_9 k_X3_101 rfl ⟨Nat.le_of_ble_eq_true rfl, Nat.le_of_ble_eq_true rfl, Nat.le_of_ble_eq_true rfl⟩ (c_X3_anyOf w 2) (fun x_9 g2 hq => ?_)
  obtain ⟨rfl, rfl⟩ := hq
  refine r_iconst (pc := 12) h dX3_spare_12 ci_0 ?_
  refine r_callSi (pc := 13) (As := [_, _, _]) h dX3_spare_13 k_X3_104 rfl ⟨Nat.le_of_ble_eq_true rfl, Nat.le_of_ble_eq_true rfl, Nat.le_of_ble_eq_true rfl⟩ (c_X3_firstOf _ _ _) (fun x_13 g2 hq => ?_)
  obtain ⟨rfl, rfl⟩ := hq
  refine r_istore_n (pc := 16) (ls2 := [_, _, _, _, _, _, _, _]) h dX3_spare_16 (Nat.le_of_ble_eq_true rfl) rfl ?_
  refine r_iload_n (pc := 17) h dX3_spare_17 rfl ?_
  refine r_if_eq (pc := 18) (tgt := 27) h dX3_spare_18 (by decide) (fun c18 => ?_) (fun c18 => ?_)
  · have hw : spW v w = 0 := c18
    obtain ⟨w1, w2, -⟩ := fst_0.mp hw
    obtain ⟨n, hn1, hn, hvn⟩ := bnd_nat (by decide) (by decide) w1
    obtain ⟨k, hk2, hwk⟩ := any_0 (by decide) w2 (by decide)
    subst hvn; subst hwk
    refine r_bipush (pc := 27) h dX3_spare_27 cb_m9 ?_
    refine r_istore (pc := 29) (ls2 := [_, _, _, _, _, _, _, _]) h dX3_spare_29 (Nat.le_of_ble_eq_true rfl) rfl ?_
    refine r_bipush (pc := 31) h dX3_spare_31 cb_m9 ?_
    refine r_istore (pc := 33) (ls2 := [_, _, _, _, _, _, _, _]) h dX3_spare_33 (Nat.le_of_ble_eq_true rfl) rfl ?_
    refine r_iconst (pc := 35) h dX3_spare_35 ci_0 ?_
    refine r_istore (pc := 36) (ls2 := [_, _, _, _, _, _, _, _]) h dX3_spare_36 (Nat.le_of_ble_eq_true rfl) rfl ?_
    exact loop n k hn hk2 hw rfl rfl _ (c 7 1) 0 none _ _ _ _ (by omega) hR hX hF rfl rfl (fun z hz => by cases hz) rfl
  · have hw : ¬ spW v w = 0 := c18
    have hok : okw (spW v w) := okw_f okw_n (okw_b okw_2) okw_0
    refine r_aload_n (pc := 21) h dX3_spare_21 rfl ?_
    refine r_iload_n (pc := 22) h dX3_spare_22 rfl ?_
    refine r_callVi (pc := 23) (As := [_]) h dX3_spare_23 k_X3_67 gc_0 rfl ⟨Nat.le_of_ble_eq_true rfl, Nat.le_of_ble_eq_true rfl, Nat.le_of_ble_eq_true rfl⟩ (c_X3_refuse (okw_in hok hw).1) (fun x_23 g2 hq => ?_)
    obtain ⟨rfl, rfl⟩ := hq
    refine r_ri t (pc := 26) dX3_spare_26 rfl ?_
    have hq := x_ref hR hX hok hw (v := spA (spV c v.toNatClampNeg) w.toNatClampNeg)
    exact ⟨hq.1, hq.2.1, hq.2.2.1, hF.tr hq.2.2.2⟩
set_option maxRecDepth 100000 in
set_option maxHeartbeats 4000000 in
theorem x_change (hR : Rx1 g c) (hX : XSr g ck hk lt nl rv nr rf) (ho : gok c) (hd : c 7 3 ≤ 999) (v : Int32) : gCi mX3_change [.ref 0, .int v] g (fun y g1 => y = ansI (bndI v (nI 0) (nI 20)) (oI (cgV c v.toNatClampNeg).1) ∧ Rx1 g1 (c) ∧ XSr g1 ck hk lt nl rv nr (rfI rf (bndI v (nI 0) (nI 20))) ∧ frm 0 35 g g1) := by
  refine gCi_of (own := RX3) (ls0 := [.ref 0, .int v, .null, .null, .null, .null, .null, .null]) ⟨rfl, pl_X3⟩ rfl (Nat.le_of_ble_eq_true rfl) (fun G (h : gR RX3 cX3_change 6 240 G) (t : gTi cX3_change .int _ G) => ?_)
  have hn5 := hR.n5
  have hn6 := hR.n6
  have loop : ∀ n, n ≤ 20 → bndI (nI n) (nI 0) (nI 20) = 0 → v = nI n → ∀ (a2 : Int32) m a (p : Option Nat × Nat) (g2 : gG) (b3 b4 : Int32) (v6 v7 : Value), a + m = c 7 1 → Rx1 g2 c → XSr g2 ck hk lt nl rv nr rf → frm 0 35 g g2 → b4 = oI p.1 → b3 = nI p.2 → p.2 ≤ 30 → gfold (cgF c n) m a p = cgV c n → G 35 [.ref 0, .int (nI n), .int a2, .int b3, .int b4, .int (nI a), v6, v7] [] g2 := by
    intro n hn hw hv a2 m
    subst hv
    have en : (nI n).toNatClampNeg = n := nI_clamp (by omega)
    induction m with
    | zero =>
      intro a p g2 b3 b4 v6 v7 hi0 hR hX hF e4 e3 hp30 hz
      have hz : p = cgV c n := hz
      subst e3; subst e4
      refine r_iload (pc := 35) h dX3_change_35 rfl ?_
      refine r_aload_n (pc := 37) h dX3_change_37 rfl ?_
      refine r_getR (pc := 38) h dX3_change_38 f_X3_10 sh_0 rfl ?_
      refine r_getE (pc := 41) h dX3_change_41 f_X3_191 sh_1 rfl (hR.nc) ?_
      refine r_icmp_ge (pc := 44) (tgt := 147) h dX3_change_44 (by decide) (fun c44 => ?_) (fun c44 => absurd (nI_le (by omega) (by omega)) c44)
      refine r_iload (pc := 147) h dX3_change_147 rfl ?_
      refine r_ri t (pc := 149) dX3_change_149 rfl ?_
      exact x_ok hR hX hF hw (by rw [en, ← hz])
    | succ m ih =>
      intro a p0 g2 b3 b4 v6 v7 ha0 hR hX hF e4 e3 hp30 hz
      have ha : a < c 7 1 := by omega
      have inner : ∀ m2 b (p : Option Nat × Nat) (g2 : gG) (b3 b4 : Int32) (v7 : Value), b + m2 = c 7 1 → a < b → Rx1 g2 c → XSr g2 ck hk lt nl rv nr rf → frm 0 35 g g2 → b4 = oI p.1 → b3 = nI p.2 → p.2 ≤ 30 → gfold (cgI c n a) m2 b p = cgF c n a p0 → G 53 [.ref 0, .int (nI n), .int a2, .int b3, .int b4, .int (nI a), .int (nI b), v7] [] g2 := by
        intro m2
        induction m2 with
        | zero =>
          intro b p g2 b3 b4 v7 hb0 hab hR hX hF e4 e3 hp30 hy
          have hy : p = cgF c n a p0 := hy
          subst e3; subst e4
          refine r_iload (pc := 53) h dX3_change_53 rfl ?_
          refine r_aload_n (pc := 55) h dX3_change_55 rfl ?_
          refine r_getR (pc := 56) h dX3_change_56 f_X3_10 sh_0 rfl ?_
          refine r_getE (pc := 59) h dX3_change_59 f_X3_191 sh_1 rfl (hR.nc) ?_
          refine r_icmp_ge (pc := 62) (tgt := 141) h dX3_change_62 (by decide) (fun c62 => ?_) (fun c62 => absurd (nI_le (by omega) (by omega)) c62)
          refine r_iinc (pc := 141) (ls2 := [_, _, _, _, _, _, _, _]) h dX3_change_141 rfl (ic1 _) rfl ?_
          refine r_goto (pc := 144) (tgt := 35) h dX3_change_144 (by decide) ?_
          exact ih (a + 1) p g2 _ _ _ _ (by omega) hR hX hF rfl rfl hp30 (by rw [← hz]; show _ = gfold (cgF c n) m (a + 1) (cgF c n a p0); rw [← hy])
        | succ m2 ih2 =>
          intro b p g2 b3 b4 v7 hb0 hab hR hX hF e4 e3 hp30 hy
          have hb : b < c 7 1 := by omega
          have hsw := swp_ok ho ha hb
          have hD := daysC_ok hsw n (by show c 7 3 + n ≤ 2000; omega)
          have h30 := tot_le hD.2.2.2 (by rw [hD.2.1]; exact hn5)
          subst e3; subst e4
          refine r_iload (pc := 53) h dX3_change_53 rfl ?_
          refine r_aload_n (pc := 55) h dX3_change_55 rfl ?_
          refine r_getR (pc := 56) h dX3_change_56 f_X3_10 sh_0 rfl ?_
          refine r_getE (pc := 59) h dX3_change_59 f_X3_191 sh_1 rfl (hR.nc) ?_
          refine r_icmp_ge (pc := 62) (tgt := 141) h dX3_change_62 (by decide) (fun c62 => absurd c62 (nI_ge hb (by omega))) (fun c62 => ?_)
          refine r_aload_n (pc := 65) h dX3_change_65 rfl ?_
          refine r_callVv (pc := 66) (As := []) h dX3_change_66 k_X3_78 gc_0 rfl ⟨Nat.le_of_ble_eq_true rfl, Nat.le_of_ble_eq_true rfl, Nat.le_of_ble_eq_true rfl⟩ (c_X3_think hR) (fun g2 hq => ?_)
          obtain ⟨hT, hF1⟩ := hq
          have hR := hR.f9 hF1
          have hX := hX.f9 hF1
          have hF := hF.tr (hF1.wide (by decide) (by decide))
          refine r_aload_n (pc := 69) h dX3_change_69 rfl ?_
          refine r_getR (pc := 70) h dX3_change_70 f_X3_16 sh_0 rfl ?_
          refine r_getR (pc := 73) h dX3_change_73 f_X3_143 sh_9 rfl ?_
          refine r_iload (pc := 76) h dX3_change_76 rfl ?_
          refine r_aload_n (pc := 78) h dX3_change_78 rfl ?_
          refine r_getR (pc := 79) h dX3_change_79 f_X3_10 sh_0 rfl ?_
          refine r_getR (pc := 82) h dX3_change_82 f_X3_143 sh_1 rfl ?_
          refine r_iload (pc := 85) h dX3_change_85 rfl ?_
          refine r_ialoadE (pc := 87) h dX3_change_87 sh_8 (hR.wo hb) ?_
          refine r_iastore (pc := 88) h dX3_change_88 sh_16 (hT.ci ha) ?_
          obtain ⟨hT, hF1⟩ := Rx9.wr (frm.rf (g := g2)) (hT.u_wo ha (c 6 b)) (by decide)
          have hR := hR.f9 hF1
          have hX := hX.f9 hF1
          have hF := hF.tr (hF1.wide (by decide) (by decide))
          generalize gup g2 16 _ _ = g2 at hT hF1 hR hX hF ⊢
          refine r_aload_n (pc := 89) h dX3_change_89 rfl ?_
          refine r_getR (pc := 90) h dX3_change_90 f_X3_16 sh_0 rfl ?_
          refine r_getR (pc := 93) h dX3_change_93 f_X3_143 sh_9 rfl ?_
          refine r_iload (pc := 96) h dX3_change_96 rfl ?_
          refine r_aload_n (pc := 98) h dX3_change_98 rfl ?_
          refine r_getR (pc := 99) h dX3_change_99 f_X3_10 sh_0 rfl ?_
          refine r_getR (pc := 102) h dX3_change_102 f_X3_143 sh_1 rfl ?_
          refine r_iload (pc := 105) h dX3_change_105 rfl ?_
          refine r_ialoadE (pc := 107) h dX3_change_107 sh_8 (hR.wo ha) ?_
          refine r_iastore (pc := 108) h dX3_change_108 sh_16 (hT.ci hb) ?_
          obtain ⟨hT, hF1⟩ := Rx9.wr (frm.rf (g := g2)) (hT.u_wo (show b < cup c 6 a (c 6 b) 7 1 from hb) (c 6 a)) (by decide)
          have hR := hR.f9 hF1
          have hX := hX.f9 hF1
          have hF := hF.tr (hF1.wide (by decide) (by decide))
          generalize gup g2 16 _ _ = g2 at hT hF1 hR hX hF ⊢
          have hT : Rx9 g2 (swp c a b) := hT
          refine r_aload_n (pc := 109) h dX3_change_109 rfl ?_
          refine r_iload_n (pc := 110) h dX3_change_110 rfl ?_
          refine r_callVi (pc := 111) (As := [_]) h dX3_change_111 k_X3_177 gc_0 rfl ⟨Nat.le_of_ble_eq_true rfl, Nat.le_of_ble_eq_true rfl, Nat.le_of_ble_eq_true rfl⟩ (c_X3_allSaidBehind hT hsw (by show c 7 3 + n ≤ 2000; omega)) (fun x_111 g2 hq => ?_)
          obtain ⟨rfl, hT, hF1⟩ := hq
          have hR := hR.f9 hF1
          have hX := hX.f9 hF1
          have hF := hF.tr (hF1.wide (by decide) (by decide))
          rw [tot_eq]
          refine r_istore (pc := 114) (ls2 := [_, _, _, _, _, _, _, _]) h dX3_change_114 (Nat.le_of_ble_eq_true rfl) rfl ?_
          refine r_iload (pc := 116) h dX3_change_116 rfl ?_
          refine r_iload_n (pc := 118) h dX3_change_118 rfl ?_
          refine r_icmp_le (pc := 119) (tgt := 135) h dX3_change_119 (by decide) (fun c119 => ?_) (fun c119 => ?_)
          · have e : cgI c n a b p = p := if_neg (Nat.not_lt_of_le ((nI_leI (by omega) (by omega)).mp c119))
            refine r_iinc (pc := 135) (ls2 := [_, _, _, _, _, _, _, _]) h dX3_change_135 rfl (ic1 _) rfl ?_
            refine r_goto (pc := 138) (tgt := 53) h dX3_change_138 (by decide) ?_
            exact ih2 (b + 1) (cgI c n a b p) g2 _ _ _ (by omega) (by omega) hR hX hF (mxo e :) (mxn e :) (by rw [e]; first | exact hp30 | exact h30) hy
          · have e : cgI c n a b p = (some (10 * a + b), tot (daysC n (swp c a b))) := if_pos (Nat.lt_of_not_le fun z => c119 (nI_le z (by omega)))
            refine r_iload (pc := 122) h dX3_change_122 rfl ?_
            refine r_istore_n (pc := 124) (ls2 := [_, _, _, _, _, _, _, _]) h dX3_change_124 (Nat.le_of_ble_eq_true rfl) rfl ?_
            refine r_bipush (pc := 125) h dX3_change_125 cb_10 ?_
            refine r_iload (pc := 127) h dX3_change_127 rfl ?_
            refine r_imul (pc := 129) h dX3_change_129 ?_
            refine r_iload (pc := 130) h dX3_change_130 rfl ?_
            refine r_iadd (pc := 132) h dX3_change_132 ?_
            refine r_top (y := nI (10 * a + b)) h (by rw [show (nI 10 * nI a : Int32) = nI (10 * a) from nI_mul _ _, nI_add]) ?_
            refine r_istore (pc := 133) (ls2 := [_, _, _, _, _, _, _, _]) h dX3_change_133 (Nat.le_of_ble_eq_true rfl) rfl ?_
            refine r_iinc (pc := 135) (ls2 := [_, _, _, _, _, _, _, _]) h dX3_change_135 rfl (ic1 _) rfl ?_
            refine r_goto (pc := 138) (tgt := 53) h dX3_change_138 (by decide) ?_
            exact ih2 (b + 1) (cgI c n a b p) g2 _ _ _ (by omega) (by omega) hR hX hF (mxo e :) (mxn e :) (by rw [e]; first | exact hp30 | exact h30) hy
      generalize hp0 : p0 = p at e3 e4 hp30
      rw [hp0] at inner
      subst e3; subst e4
      refine r_iload (pc := 35) h dX3_change_35 rfl ?_
      refine r_aload_n (pc := 37) h dX3_change_37 rfl ?_
      refine r_getR (pc := 38) h dX3_change_38 f_X3_10 sh_0 rfl ?_
      refine r_getE (pc := 41) h dX3_change_41 f_X3_191 sh_1 rfl (hR.nc) ?_
      refine r_icmp_ge (pc := 44) (tgt := 147) h dX3_change_44 (by decide) (fun c44 => absurd c44 (nI_ge ha (by omega))) (fun c44 => ?_)
      refine r_iload (pc := 47) h dX3_change_47 rfl ?_
      refine r_iconst (pc := 49) h dX3_change_49 ci_1 ?_
      refine r_iadd (pc := 50) h dX3_change_50 ?_
      refine r_top (y := nI (a + 1)) h (nI_add _ _) ?_
      refine r_istore (pc := 51) (ls2 := [_, _, _, _, _, _, _, _]) h dX3_change_51 (Nat.le_of_ble_eq_true rfl) rfl ?_
      exact inner (c 7 1 - (a + 1)) (a + 1) p g2 _ _ _ (by omega) (by omega) hR hX hF rfl rfl hp30 rfl
  suffices H : ∀ g2 : gG, Rx1 g2 c → XSr g2 ck hk lt nl rv nr rf → frm 0 35 g g2 → G 0 [.ref 0, .int v, .null, .null, .null, .null, .null, .null] [] g2 from H g hR hX frm.rf
  intro g2 hR hX hF
  refine r_iload_n (pc := 0) h dX3_change_0 rfl ?_
  refine r_iconst (pc := 1) h dX3_change_1 ci_0 ?_
  refine r_bipush (pc := 2) h dX3_change_2 cb_20 ?_
  refine r_callSi (pc := 4) (As := [_, _, _]) h dX3_change_4 k_X3_60 rfl ⟨Nat.le_of_ble_eq_true rfl, Nat.le_of_ble_eq_true rfl, Nat.le_of_ble_eq_true rfl⟩ (c_X3_range _ _ _) (fun x_4 g2 hq => ?_)
  obtain ⟨rfl, rfl⟩ := hq
  refine r_istore_n (pc := 7) (ls2 := [_, _, _, _, _, _, _, _]) h dX3_change_7 (Nat.le_of_ble_eq_true rfl) rfl ?_
  refine r_iload_n (pc := 8) h dX3_change_8 rfl ?_
  refine r_if_eq (pc := 9) (tgt := 18) h dX3_change_9 (by decide) (fun c9 => ?_) (fun c9 => ?_)
  · have hw : bndI v (nI 0) (nI 20) = 0 := c9
    obtain ⟨n, -, hn, hvn⟩ := bnd_nat (by decide) (by decide) hw
    subst hvn
    refine r_aload_n (pc := 18) h dX3_change_18 rfl ?_
    refine r_callVv (pc := 19) (As := []) h dX3_change_19 k_X3_78 gc_0 rfl ⟨Nat.le_of_ble_eq_true rfl, Nat.le_of_ble_eq_true rfl, Nat.le_of_ble_eq_true rfl⟩ (c_X3_think hR) (fun g2 hq => ?_)
    obtain ⟨hT, hF1⟩ := hq
    have hR := hR.f9 hF1
    have hX := hX.f9 hF1
    have hF := hF.tr (hF1.wide (by decide) (by decide))
    refine r_aload_n (pc := 22) h dX3_change_22 rfl ?_
    refine r_iload_n (pc := 23) h dX3_change_23 rfl ?_
    refine r_callVi (pc := 24) (As := [_]) h dX3_change_24 k_X3_177 gc_0 rfl ⟨Nat.le_of_ble_eq_true rfl, Nat.le_of_ble_eq_true rfl, Nat.le_of_ble_eq_true rfl⟩ (c_X3_allSaidBehind hT ho (by omega)) (fun x_24 g2 hq => ?_)
    obtain ⟨rfl, hT, hF1⟩ := hq
    have hR := hR.f9 hF1
    have hX := hX.f9 hF1
    have hF := hF.tr (hF1.wide (by decide) (by decide))
    rw [tot_eq]
    refine r_istore_n (pc := 27) (ls2 := [_, _, _, _, _, _, _, _]) h dX3_change_27 (Nat.le_of_ble_eq_true rfl) rfl ?_
    refine r_bipush (pc := 28) h dX3_change_28 cb_m9 ?_
    refine r_istore (pc := 30) (ls2 := [_, _, _, _, _, _, _, _]) h dX3_change_30 (Nat.le_of_ble_eq_true rfl) rfl ?_
    refine r_iconst (pc := 32) h dX3_change_32 ci_0 ?_
    refine r_istore (pc := 33) (ls2 := [_, _, _, _, _, _, _, _]) h dX3_change_33 (Nat.le_of_ble_eq_true rfl) rfl ?_
    have hD := daysC_ok ho n (by omega)
    exact loop n hn hw rfl _ (c 7 1) 0 (none, tot (daysC n c)) _ _ _ _ _ (by omega) hR hX hF rfl rfl (tot_le hD.2.2.2 (by rw [hD.2.1]; exact hn5)) rfl
  · have hw : ¬ bndI v (nI 0) (nI 20) = 0 := c9
    refine r_aload_n (pc := 12) h dX3_change_12 rfl ?_
    refine r_iload_n (pc := 13) h dX3_change_13 rfl ?_
    refine r_callVi (pc := 14) (As := [_]) h dX3_change_14 k_X3_67 gc_0 rfl ⟨Nat.le_of_ble_eq_true rfl, Nat.le_of_ble_eq_true rfl, Nat.le_of_ble_eq_true rfl⟩ (c_X3_refuse (okw_in okw_n hw).1) (fun x_14 g2 hq => ?_)
    obtain ⟨rfl, rfl⟩ := hq
    refine r_ri t (pc := 17) dX3_change_17 rfl ?_
    have hq := x_ref hR hX okw_n hw (v := oI (cgV c v.toNatClampNeg).1)
    exact ⟨hq.1, hq.2.1, hq.2.2.1, hF.tr hq.2.2.2⟩
set_option maxRecDepth 100000 in
set_option maxHeartbeats 4000000 in
theorem x_fewest (hR : Rx1 g c) (hX : XSr g ck hk lt nl rv nr rf) (ho : gok c) (hd : c 7 3 ≤ 999) (v : Int32) : gCi mX3_fewest [.ref 0, .int v] g (fun y g1 => y = ansI (bndI v (nI 0) (nI 30)) (nI (fwV c v.toNatClampNeg)) ∧ Rx1 g1 (c) ∧ XSr g1 ck hk lt nl rv nr (rfI rf (bndI v (nI 0) (nI 30))) ∧ frm 0 35 g g1) := by
  refine gCi_of (own := RX3) (ls0 := [.ref 0, .int v, .null, .null, .null]) ⟨rfl, pl_X3⟩ rfl (Nat.le_of_ble_eq_true rfl) (fun G (h : gR RX3 cX3_fewest 5 200 G) (t : gTi cX3_fewest .int _ G) => ?_)
  have hn5 := hR.n5
  have hn6 := hR.n6
  have loop : ∀ n, n ≤ 30 → bndI (nI n) (nI 0) (nI 30) = 0 → v = nI n → ∀ (a2 : Int32) (g2 : gG), Rx1 g2 c → XSr g2 ck hk lt nl rv nr rf → frm 0 35 g g2 → Rx9 g2 (daysC n c) → ∀ m i z, i + m = c 7 1 → z < 32 → gfold (fwF c n) m i z = fwV c n → G 35 [.ref 0, .int (nI n), .int a2, .int (nI z), .int (nI i)] [] g2 := by
    intro n hn hw hv a2 g2 hR hX hF hT m
    subst hv
    have en : (nI n).toNatClampNeg = n := nI_clamp (by omega)
    have hD := daysC_ok ho n (by omega)
    induction m with
    | zero =>
      intro i z hi0 hzl hz
      have hz : z = fwV c n := hz
      refine r_iload (pc := 35) h dX3_fewest_35 rfl ?_
      refine r_aload_n (pc := 37) h dX3_fewest_37 rfl ?_
      refine r_getR (pc := 38) h dX3_fewest_38 f_X3_10 sh_0 rfl ?_
      refine r_getE (pc := 41) h dX3_fewest_41 f_X3_191 sh_1 rfl (hR.nc) ?_
      refine r_icmp_ge (pc := 44) (tgt := 90) h dX3_fewest_44 (by decide) (fun c44 => ?_) (fun c44 => absurd (nI_le (by omega) (by omega)) c44)
      refine r_iload_n (pc := 90) h dX3_fewest_90 rfl ?_
      refine r_ri t (pc := 91) dX3_fewest_91 rfl ?_
      exact x_ok hR hX hF hw (by rw [en, ← hz])
    | succ m ih =>
      intro i z hi0 hzl hz
      have hi : i < c 7 1 := by omega
      have hi9 : i < daysC n c 7 1 := by rw [hD.2.1]; exact hi
      have h5 := (hD.2.2.2.2.2.2 i hi9).2.2.1
      have h51 := (ho.2.2.2 i hi).2.2.1
      refine r_iload (pc := 35) h dX3_fewest_35 rfl ?_
      refine r_aload_n (pc := 37) h dX3_fewest_37 rfl ?_
      refine r_getR (pc := 38) h dX3_fewest_38 f_X3_10 sh_0 rfl ?_
      refine r_getE (pc := 41) h dX3_fewest_41 f_X3_191 sh_1 rfl (hR.nc) ?_
      refine r_icmp_ge (pc := 44) (tgt := 90) h dX3_fewest_44 (by decide) (fun c44 => absurd c44 (nI_ge hi (by omega))) (fun c44 => ?_)
      refine r_aload_n (pc := 47) h dX3_fewest_47 rfl ?_
      refine r_getR (pc := 48) h dX3_fewest_48 f_X3_10 sh_0 rfl ?_
      refine r_getR (pc := 51) h dX3_fewest_51 f_X3_140 sh_1 rfl ?_
      refine r_iload (pc := 54) h dX3_fewest_54 rfl ?_
      refine r_ialoadE (pc := 56) h dX3_fewest_56 sh_7 (hR.sa hi) ?_
      refine r_bipush (pc := 57) h dX3_fewest_57 cb_6 ?_
      refine r_icmp_ge (pc := 59) (tgt := 84) h dX3_fewest_59 (by decide) (fun c59 => ?_) (fun c59 => ?_)
      · have q1 : ¬ c 5 i < 6 := Nat.not_lt_of_le ((nI_leI (by decide) (by omega)).mp c59)
        refine r_iinc (pc := 84) (ls2 := [_, _, _, _, _]) h dX3_fewest_84 rfl (ic1 _) rfl ?_
        refine r_goto (pc := 87) (tgt := 35) h dX3_fewest_87 (by decide) ?_
        exact ih (i + 1) z (by omega) hzl (by rw [← hz]; show _ = gfold (fwF c n) m (i + 1) (fwF c n i z); rw [show fwF c n i z = z from if_neg (by unfold fwB; rw [decide_eq_false q1, Bool.false_and]; decide)])
      · have q1 : c 5 i < 6 := Nat.lt_of_not_le fun q => c59 (nI_le q (by omega))
        refine r_aload_n (pc := 62) h dX3_fewest_62 rfl ?_
        refine r_getR (pc := 63) h dX3_fewest_63 f_X3_16 sh_0 rfl ?_
        refine r_getR (pc := 66) h dX3_fewest_66 f_X3_140 sh_9 rfl ?_
        refine r_iload (pc := 69) h dX3_fewest_69 rfl ?_
        refine r_ialoadE (pc := 71) h dX3_fewest_71 sh_15 (hT.sa hi9) ?_
        refine r_bipush (pc := 72) h dX3_fewest_72 cb_6 ?_
        refine r_icmp_lt (pc := 74) (tgt := 84) h dX3_fewest_74 (by decide) (fun c74 => ?_) (fun c74 => ?_)
        · have q2 : ¬ 6 ≤ daysC n c 5 i := Nat.not_le_of_lt ((nI_ltI (by omega) (by decide)).mp c74)
          refine r_iinc (pc := 84) (ls2 := [_, _, _, _, _]) h dX3_fewest_84 rfl (ic1 _) rfl ?_
          refine r_goto (pc := 87) (tgt := 35) h dX3_fewest_87 (by decide) ?_
          exact ih (i + 1) z (by omega) hzl (by rw [← hz]; show _ = gfold (fwF c n) m (i + 1) (fwF c n i z); rw [show fwF c n i z = z from if_neg (by unfold fwB; rw [decide_eq_false q2, Bool.and_false]; decide)])
        · have q2 : 6 ≤ daysC n c 5 i := Nat.le_of_not_lt fun q => c74 (nI_lt q (by decide))
          refine r_iload_n (pc := 77) h dX3_fewest_77 rfl ?_
          refine r_iconst (pc := 78) h dX3_fewest_78 ci_1 ?_
          refine r_iload (pc := 79) h dX3_fewest_79 rfl ?_
          refine r_ishl (pc := 81) h dX3_fewest_81 ?_
          refine r_ior (pc := 82) h dX3_fewest_82 ?_
          refine r_top (y := nI (z ||| 1 <<< i)) h (or_sh i (by omega) z hzl) ?_
          refine r_istore_n (pc := 83) (ls2 := [_, _, _, _, _]) h dX3_fewest_83 (Nat.le_of_ble_eq_true rfl) rfl ?_
          refine r_iinc (pc := 84) (ls2 := [_, _, _, _, _]) h dX3_fewest_84 rfl (ic1 _) rfl ?_
          refine r_goto (pc := 87) (tgt := 35) h dX3_fewest_87 (by decide) ?_
          exact ih (i + 1) (z ||| 1 <<< i) (by omega) (or_lt i (by omega) z hzl) (by rw [← hz]; show _ = gfold (fwF c n) m (i + 1) (fwF c n i z); rw [show fwF c n i z = z ||| 1 <<< i from if_pos (by unfold fwB; rw [decide_eq_true q1, decide_eq_true q2]; decide)])
  suffices H : ∀ g2 : gG, Rx1 g2 c → XSr g2 ck hk lt nl rv nr rf → frm 0 35 g g2 → G 0 [.ref 0, .int v, .null, .null, .null] [] g2 from H g hR hX frm.rf
  intro g2 hR hX hF
  refine r_iload_n (pc := 0) h dX3_fewest_0 rfl ?_
  refine r_iconst (pc := 1) h dX3_fewest_1 ci_0 ?_
  refine r_bipush (pc := 2) h dX3_fewest_2 cb_30 ?_
  refine r_callSi (pc := 4) (As := [_, _, _]) h dX3_fewest_4 k_X3_60 rfl ⟨Nat.le_of_ble_eq_true rfl, Nat.le_of_ble_eq_true rfl, Nat.le_of_ble_eq_true rfl⟩ (c_X3_range _ _ _) (fun x_4 g2 hq => ?_)
  obtain ⟨rfl, rfl⟩ := hq
  refine r_istore_n (pc := 7) (ls2 := [_, _, _, _, _]) h dX3_fewest_7 (Nat.le_of_ble_eq_true rfl) rfl ?_
  refine r_iload_n (pc := 8) h dX3_fewest_8 rfl ?_
  refine r_if_eq (pc := 9) (tgt := 18) h dX3_fewest_9 (by decide) (fun c9 => ?_) (fun c9 => ?_)
  · have hw : bndI v (nI 0) (nI 30) = 0 := c9
    obtain ⟨n, -, hn, hvn⟩ := bnd_nat (by decide) (by decide) hw
    subst hvn
    refine r_aload_n (pc := 18) h dX3_fewest_18 rfl ?_
    refine r_callVv (pc := 19) (As := []) h dX3_fewest_19 k_X3_78 gc_0 rfl ⟨Nat.le_of_ble_eq_true rfl, Nat.le_of_ble_eq_true rfl, Nat.le_of_ble_eq_true rfl⟩ (c_X3_think hR) (fun g2 hq => ?_)
    obtain ⟨hT, hF1⟩ := hq
    have hR := hR.f9 hF1
    have hX := hX.f9 hF1
    have hF := hF.tr (hF1.wide (by decide) (by decide))
    refine r_aload_n (pc := 22) h dX3_fewest_22 rfl ?_
    refine r_getR (pc := 23) h dX3_fewest_23 f_X3_16 sh_0 rfl ?_
    refine r_iload_n (pc := 26) h dX3_fewest_26 rfl ?_
    refine r_callVv (pc := 27) (As := [_]) h dX3_fewest_27 k_X3_164 gc_9 rfl ⟨Nat.le_of_ble_eq_true rfl, Nat.le_of_ble_eq_true rfl, Nat.le_of_ble_eq_true rfl⟩ (c_X0_passDays_9 hT ho (by omega)) (fun g2 hq => ?_)
    obtain ⟨hT, hF1⟩ := hq
    have hR := hR.f9 hF1
    have hX := hX.f9 hF1
    have hF := hF.tr (hF1.wide (by decide) (by decide))
    refine r_iconst (pc := 30) h dX3_fewest_30 ci_0 ?_
    refine r_istore_n (pc := 31) (ls2 := [_, _, _, _, _]) h dX3_fewest_31 (Nat.le_of_ble_eq_true rfl) rfl ?_
    refine r_iconst (pc := 32) h dX3_fewest_32 ci_0 ?_
    refine r_istore (pc := 33) (ls2 := [_, _, _, _, _]) h dX3_fewest_33 (Nat.le_of_ble_eq_true rfl) rfl ?_
    exact loop n hn hw rfl _ g2 hR hX hF hT (c 7 1) 0 0 (by omega) (by decide) rfl
  · have hw : ¬ bndI v (nI 0) (nI 30) = 0 := c9
    refine r_aload_n (pc := 12) h dX3_fewest_12 rfl ?_
    refine r_iload_n (pc := 13) h dX3_fewest_13 rfl ?_
    refine r_callVi (pc := 14) (As := [_]) h dX3_fewest_14 k_X3_67 gc_0 rfl ⟨Nat.le_of_ble_eq_true rfl, Nat.le_of_ble_eq_true rfl, Nat.le_of_ble_eq_true rfl⟩ (c_X3_refuse (okw_in okw_n hw).1) (fun x_14 g2 hq => ?_)
    obtain ⟨rfl, rfl⟩ := hq
    refine r_ri t (pc := 17) dX3_fewest_17 rfl ?_
    have hq := x_ref hR hX okw_n hw (v := nI (fwV c v.toNatClampNeg))
    exact ⟨hq.1, hq.2.1, hq.2.2.1, hF.tr hq.2.2.2⟩
set_option maxRecDepth 100000 in
set_option maxHeartbeats 4000000 in
theorem c_X3_thinkPair {g : gG} {c : gCt} (hR : Rx1 g c) (ho : gok c) (hd : c 7 3 ≤ 999) {a b k n : Nat} (ha : a < c 7 1) (hb : b < c 7 1) (hk4 : k < 4) (hn : n ≤ 30) : gCv mX3_thinkPair [.ref 0, .int (nI a), .int (nI b), .int (nI k), .int (nI n)] g (fun g1 => Rx9 g1 (daysC n (twK c a b k)) ∧ frm 9 17 g g1) := by
  refine gCv_of (own := RX3) (ls0 := [.ref 0, .int (nI a), .int (nI b), .int (nI k), .int (nI n)]) ⟨rfl, pl_X3⟩ rfl (Nat.le_of_ble_eq_true rfl) (fun G (h : gR RX3 cX3_thinkPair 5 200 G) (t : gTv cX3_thinkPair _ G) => ?_)
  have hok := twK_ok ho a b k
  have fin : ∀ g2 : gG, Rx9 g2 (twK c a b k) → frm 9 17 g g2 → G 38 [.ref 0, .int (nI a), .int (nI b), .int (nI k), .int (nI n)] [] g2 := by
    intro g2 hT hF1
    refine r_aload_n (pc := 38) h dX3_thinkPair_38 rfl ?_
    refine r_getR (pc := 39) h dX3_thinkPair_39 f_X3_16 sh_0 rfl ?_
    refine r_iload (pc := 42) h dX3_thinkPair_42 rfl ?_
    refine r_callVv (pc := 44) (As := [_]) h dX3_thinkPair_44 k_X3_164 gc_9 rfl ⟨Nat.le_of_ble_eq_true rfl, Nat.le_of_ble_eq_true rfl, Nat.le_of_ble_eq_true rfl⟩ (c_X0_passDays_9 hT hok.1 (by rw [hok.2.2.1]; omega)) (fun g2 hq => ?_)
    obtain ⟨hT, hF2⟩ := hq
    refine r_rv t (pc := 47) dX3_thinkPair_47 ?_
    exact ⟨hT, hF1.tr hF2⟩
  refine r_aload_n (pc := 0) h dX3_thinkPair_0 rfl ?_
  refine r_callVv (pc := 1) (As := []) h dX3_thinkPair_1 k_X3_78 gc_0 rfl ⟨Nat.le_of_ble_eq_true rfl, Nat.le_of_ble_eq_true rfl, Nat.le_of_ble_eq_true rfl⟩ (c_X3_think hR) (fun g2 hq => ?_)
  obtain ⟨hT, hF1⟩ := hq
  refine r_iload_n (pc := 4) h dX3_thinkPair_4 rfl ?_
  refine r_iconst (pc := 5) h dX3_thinkPair_5 ci_2 ?_
  refine r_iand (pc := 6) h dX3_thinkPair_6 ?_
  refine r_if_ne (pc := 7) (tgt := 21) h dX3_thinkPair_7 (by decide) (fun c7 => ?_) (fun c7 => ?_)
  · have q2 : ¬ k / 2 = 0 := fun q => c7 ((k4_2 k hk4).mpr q)
    refine r_iload_n (pc := 21) h dX3_thinkPair_21 rfl ?_
    refine r_iconst (pc := 22) h dX3_thinkPair_22 ci_1 ?_
    refine r_iand (pc := 23) h dX3_thinkPair_23 ?_
    refine r_if_ne (pc := 24) (tgt := 38) h dX3_thinkPair_24 (by decide) (fun c24 => ?_) (fun c24 => ?_)
    · have q1 : ¬ k % 2 = 0 := fun q => c24 ((k4_1 k hk4).mpr q)
      have e : twK c a b k = c := by unfold twK; rw [if_neg q1, if_neg q2]
      exact fin _ (by rw [e]; exact hT) hF1
    · have q1 : k % 2 = 0 := (k4_1 k hk4).mp c24
      refine r_aload_n (pc := 27) h dX3_thinkPair_27 rfl ?_
      refine r_getR (pc := 28) h dX3_thinkPair_28 f_X3_16 sh_0 rfl ?_
      refine r_getR (pc := 31) h dX3_thinkPair_31 f_X3_143 sh_9 rfl ?_
      refine r_iload_n (pc := 34) h dX3_thinkPair_34 rfl ?_
      refine r_bipush (pc := 35) h dX3_thinkPair_35 cb_m9 ?_
      refine r_top (y := wz 0) h rfl ?_
      refine r_iastore (pc := 37) h dX3_thinkPair_37 sh_16 (hT.ci hb) ?_
      obtain ⟨hT, hF1⟩ := Rx9.wr hF1 (hT.u_wo hb 0) (by decide)
      generalize gup g2 16 _ _ = g2 at hT hF1 ⊢
      have e : twK c a b k = cup c 6 b 0 := by unfold twK; rw [if_pos q1, if_neg q2]
      exact fin _ (by rw [e]; exact hT) hF1
  · have q2 : k / 2 = 0 := (k4_2 k hk4).mp c7
    refine r_aload_n (pc := 10) h dX3_thinkPair_10 rfl ?_
    refine r_getR (pc := 11) h dX3_thinkPair_11 f_X3_16 sh_0 rfl ?_
    refine r_getR (pc := 14) h dX3_thinkPair_14 f_X3_143 sh_9 rfl ?_
    refine r_iload_n (pc := 17) h dX3_thinkPair_17 rfl ?_
    refine r_bipush (pc := 18) h dX3_thinkPair_18 cb_m9 ?_
    refine r_top (y := wz 0) h rfl ?_
    refine r_iastore (pc := 20) h dX3_thinkPair_20 sh_16 (hT.ci ha) ?_
    obtain ⟨hT, hF1⟩ := Rx9.wr hF1 (hT.u_wo ha 0) (by decide)
    generalize gup g2 16 _ _ = g2 at hT hF1 ⊢
    refine r_iload_n (pc := 21) h dX3_thinkPair_21 rfl ?_
    refine r_iconst (pc := 22) h dX3_thinkPair_22 ci_1 ?_
    refine r_iand (pc := 23) h dX3_thinkPair_23 ?_
    refine r_if_ne (pc := 24) (tgt := 38) h dX3_thinkPair_24 (by decide) (fun c24 => ?_) (fun c24 => ?_)
    · have q1 : ¬ k % 2 = 0 := fun q => c24 ((k4_1 k hk4).mpr q)
      have e : twK c a b k = cup c 6 a 0 := by unfold twK; rw [if_neg q1, if_pos q2]
      exact fin _ (by rw [e]; exact hT) hF1
    · have q1 : k % 2 = 0 := (k4_1 k hk4).mp c24
      refine r_aload_n (pc := 27) h dX3_thinkPair_27 rfl ?_
      refine r_getR (pc := 28) h dX3_thinkPair_28 f_X3_16 sh_0 rfl ?_
      refine r_getR (pc := 31) h dX3_thinkPair_31 f_X3_143 sh_9 rfl ?_
      refine r_iload_n (pc := 34) h dX3_thinkPair_34 rfl ?_
      refine r_bipush (pc := 35) h dX3_thinkPair_35 cb_m9 ?_
      refine r_top (y := wz 0) h rfl ?_
      refine r_iastore (pc := 37) h dX3_thinkPair_37 sh_16 (hT.ci hb) ?_
      obtain ⟨hT, hF1⟩ := Rx9.wr hF1 (hT.u_wo hb 0) (by decide)
      generalize gup g2 16 _ _ = g2 at hT hF1 ⊢
      have e : twK c a b k = cup (cup c 6 a 0) 6 b 0 := by unfold twK; rw [if_pos q1, if_pos q2]
      exact fin _ (by rw [e]; exact hT) hF1
set_option maxRecDepth 100000 in
set_option maxHeartbeats 4000000 in
theorem c_X3_wish {g : gG} {d : gCt} (hT : Rx9 g d) (ho : gok d) {a b : Nat} (ha : a < d 7 1) (hb : b < d 7 1) : gCi mX3_wish [.ref 0, .int (nI a), .int (nI b)] g (fun y g1 => y = wsh d a b ∧ g1 = g) := by
  refine gCi_of (own := RX3) (ls0 := [.ref 0, .int (nI a), .int (nI b), .null]) ⟨rfl, pl_X3⟩ rfl (Nat.le_of_ble_eq_true rfl) (fun G (h : gR RX3 cX3_wish 0 0 G) (t : gTi cX3_wish .int _ G) => ?_)
  have h5a := (ho.2.2.2 a ha).2.2.1
  have h5b := (ho.2.2.2 b hb).2.2.1
  refine r_aload_n (pc := 0) h dX3_wish_0 rfl ?_
  refine r_getR (pc := 1) h dX3_wish_1 f_X3_16 sh_0 rfl ?_
  refine r_getR (pc := 4) h dX3_wish_4 f_X3_140 sh_9 rfl ?_
  refine r_iload_n (pc := 7) h dX3_wish_7 rfl ?_
  refine r_ialoadE (pc := 8) h dX3_wish_8 sh_15 (hT.sa hb) ?_
  refine r_aload_n (pc := 9) h dX3_wish_9 rfl ?_
  refine r_getR (pc := 10) h dX3_wish_10 f_X3_16 sh_0 rfl ?_
  refine r_getR (pc := 13) h dX3_wish_13 f_X3_140 sh_9 rfl ?_
  refine r_iload_n (pc := 16) h dX3_wish_16 rfl ?_
  refine r_ialoadE (pc := 17) h dX3_wish_17 sh_15 (hT.sa ha) ?_
  refine r_icmp_lt (pc := 18) (tgt := 25) h dX3_wish_18 (by decide) (fun c18 => ?_) (fun c18 => ?_)
  · have q : d 5 b < d 5 a := (nI_ltI (by omega) (by omega)).mp c18
    refine r_iconst (pc := 25) h dX3_wish_25 ci_0 ?_
    refine r_istore_n (pc := 26) (ls2 := [_, _, _, _]) h dX3_wish_26 (Nat.le_of_ble_eq_true rfl) rfl ?_
    refine r_aload_n (pc := 27) h dX3_wish_27 rfl ?_
    refine r_getR (pc := 28) h dX3_wish_28 f_X3_16 sh_0 rfl ?_
    refine r_getR (pc := 31) h dX3_wish_31 f_X3_140 sh_9 rfl ?_
    refine r_iload_n (pc := 34) h dX3_wish_34 rfl ?_
    refine r_ialoadE (pc := 35) h dX3_wish_35 sh_15 (hT.sa ha) ?_
    refine r_iload_n (pc := 36) h dX3_wish_36 rfl ?_
    refine r_iadd (pc := 37) h dX3_wish_37 ?_
    refine r_aload_n (pc := 38) h dX3_wish_38 rfl ?_
    refine r_getR (pc := 39) h dX3_wish_39 f_X3_16 sh_0 rfl ?_
    refine r_getR (pc := 42) h dX3_wish_42 f_X3_137 sh_9 rfl ?_
    refine r_iload_n (pc := 45) h dX3_wish_45 rfl ?_
    refine r_ialoadE (pc := 46) h dX3_wish_46 sh_14 (hT.so ha) ?_
    refine r_bipush (pc := 47) h dX3_wish_47 cb_6 ?_
    refine r_idiv (pc := 49) h dX3_wish_49 (by decide) ?_
    refine r_isub (pc := 50) h dX3_wish_50 ?_
    refine r_ri t (pc := 51) dX3_wish_51 rfl ?_
    exact ⟨by unfold wsh; rw [if_pos q], rfl⟩
  · have q : ¬ d 5 b < d 5 a := fun z => c18 (nI_lt z (by omega))
    refine r_iconst (pc := 21) h dX3_wish_21 ci_2 ?_
    refine r_goto (pc := 22) (tgt := 26) h dX3_wish_22 (by decide) ?_
    refine r_istore_n (pc := 26) (ls2 := [_, _, _, _]) h dX3_wish_26 (Nat.le_of_ble_eq_true rfl) rfl ?_
    refine r_aload_n (pc := 27) h dX3_wish_27 rfl ?_
    refine r_getR (pc := 28) h dX3_wish_28 f_X3_16 sh_0 rfl ?_
    refine r_getR (pc := 31) h dX3_wish_31 f_X3_140 sh_9 rfl ?_
    refine r_iload_n (pc := 34) h dX3_wish_34 rfl ?_
    refine r_ialoadE (pc := 35) h dX3_wish_35 sh_15 (hT.sa ha) ?_
    refine r_iload_n (pc := 36) h dX3_wish_36 rfl ?_
    refine r_iadd (pc := 37) h dX3_wish_37 ?_
    refine r_aload_n (pc := 38) h dX3_wish_38 rfl ?_
    refine r_getR (pc := 39) h dX3_wish_39 f_X3_16 sh_0 rfl ?_
    refine r_getR (pc := 42) h dX3_wish_42 f_X3_137 sh_9 rfl ?_
    refine r_iload_n (pc := 45) h dX3_wish_45 rfl ?_
    refine r_ialoadE (pc := 46) h dX3_wish_46 sh_14 (hT.so ha) ?_
    refine r_bipush (pc := 47) h dX3_wish_47 cb_6 ?_
    refine r_idiv (pc := 49) h dX3_wish_49 (by decide) ?_
    refine r_isub (pc := 50) h dX3_wish_50 ?_
    refine r_ri t (pc := 51) dX3_wish_51 rfl ?_
    exact ⟨by unfold wsh; rw [if_neg q], rfl⟩
end TX
