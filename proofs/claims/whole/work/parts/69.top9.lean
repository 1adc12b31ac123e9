section TX
variable {g : gG} {c ck : gCt} {hk : Bool} {lt : Nat → Nat} {nl : Nat} {rv : Nat → Nat} {nr : Nat} {rf : Nat → Int32}
set_option maxRecDepth 100000 in
set_option maxHeartbeats 4000000 in
theorem c_X3_saysTheRow {g : gG} {d0 ck : gCt} {hk : Bool} {lt : Nat → Nat} {nl : Nat} {rv : Nat → Nat} {nr : Nat} {rf : Nat → Int32} (hX : XSr g ck hk lt nl rv nr rf) (hT : Rx9 g d0) (ho : gok d0) {i : Nat} (hi : i < d0 7 1) (hd : d0 7 3 + 17 ≤ 2000) : gCi mX3_saysTheRow [.ref 0, .int (nI i)] g (fun y g1 => y = bI (sayR rv i nr 0 d0) ∧ frm 9 17 g g1) := by
  refine gCi_of (own := RX3) (ls0 := [.ref 0, .int (nI i), .null]) ⟨rfl, pl_X3⟩ rfl (Nat.le_of_ble_eq_true rfl) (fun G (h : gR RX3 cX3_saysTheRow 5 200 G) (t : gTi cX3_saysTheRow .boolean _ G) => ?_)
  have hn5 := hT.n5
  have h16 := hX.2.2.1.2.1
  have loop : ∀ m j (d : gCt) (g2 : gG), j + m = nr → XSr g2 ck hk lt nl rv nr rf → Rx9 g2 d → (gok d ∧ d 7 1 = d0 7 1) → d 7 3 + m + 1 ≤ 2000 → frm 9 17 g g2 → sayR rv i m j d = sayR rv i nr 0 d0 → G 2 [.ref 0, .int (nI i), .int (nI j)] [] g2 := by
    intro m
    induction m with
    | zero =>
      intro j d g2 hj0 hX hT ok hd3 hF hz
      refine r_iload_n (pc := 2) h dX3_saysTheRow_2 rfl ?_
      refine r_aload_n (pc := 3) h dX3_saysTheRow_3 rfl ?_
      refine r_getE (pc := 4) h dX3_saysTheRow_4 f_X3_44 sh_0 rfl (hX.2.2.1.1) ?_
      refine r_icmp_ge (pc := 7) (tgt := 48) h dX3_saysTheRow_7 (by decide) (fun c7 => ?_) (fun c7 => absurd (nI_le (by omega) (by omega)) c7)
      refine r_iconst (pc := 48) h dX3_saysTheRow_48 ci_1 ?_
      refine r_ri t (pc := 49) dX3_saysTheRow_49 (by decide) ?_
      exact ⟨by rw [← hz]; rfl, hF⟩
    | succ m ih =>
      intro j d g2 hj0 hX hT ok1 hd3 hF hz
      obtain ⟨ok, e1⟩ := ok1
      have hj : j < nr := by omega
      have hr := (hX.2.2.1.2.2 j hj).2
      have hi9 : i < d 7 1 := by rw [e1]; exact hi
      have oL := lvD_ok ok hi9 (by omega)
      have h5 := (ok.2.2.2 i hi9).2.2.1
      have h5b := (oL.2.2.2.2.2.2 i (by rw [oL.2.1]; exact hi9)).2.2.1
      have day : ∀ g2 : gG, XSr g2 ck hk lt nl rv nr rf → Rx9 g2 (if j = 0 then d else lvD i d) → frm 9 17 g g2 → G 22 [.ref 0, .int (nI i), .int (nI j)] [] g2 := by
        intro g2 hX hT hF
        generalize e2 : (if j = 0 then d else lvD i d) = d2 at hT
        have ok2 : (gok d2 ∧ d2 7 1 = d0 7 1) ∧ d2 7 3 ≤ d 7 3 + 1 ∧ d2 5 i ≤ 6 := by
          rw [← e2]
          split
          · exact ⟨⟨ok, e1⟩, by omega, h5⟩
          · exact ⟨⟨oL.2.2.2, oL.2.1.trans e1⟩, by omega, h5b⟩
        obtain ⟨ok2, e3, h56⟩ := ok2
        have hi9 : i < d2 7 1 := by rw [ok2.2]; exact hi
        refine r_aload_n (pc := 22) h dX3_saysTheRow_22 rfl ?_
        refine r_getR (pc := 23) h dX3_saysTheRow_23 f_X3_16 sh_0 rfl ?_
        refine r_getR (pc := 26) h dX3_saysTheRow_26 f_X3_140 sh_9 rfl ?_
        refine r_iload_n (pc := 29) h dX3_saysTheRow_29 rfl ?_
        refine r_ialoadE (pc := 30) h dX3_saysTheRow_30 sh_15 (hT.sa hi9) ?_
        refine r_aload_n (pc := 31) h dX3_saysTheRow_31 rfl ?_
        refine r_getR (pc := 32) h dX3_saysTheRow_32 f_X3_40 sh_0 rfl ?_
        refine r_iload_n (pc := 35) h dX3_saysTheRow_35 rfl ?_
        refine r_ialoadE (pc := 36) h dX3_saysTheRow_36 sh_30 (hX.ro hj) ?_
        refine r_icmp_eq (pc := 37) (tgt := 42) h dX3_saysTheRow_37 (by decide) (fun c37 => ?_) (fun c37 => ?_)
        · have q : d2 5 i = rv j := (nI_eq (by omega) (by omega)).mp c37
          refine r_iinc (pc := 42) (ls2 := [_, _, _]) h dX3_saysTheRow_42 rfl (ic1 _) rfl ?_
          refine r_goto (pc := 45) (tgt := 2) h dX3_saysTheRow_45 (by decide) ?_
          exact ih (j + 1) d2 g2 (by omega) hX hT ok2 (by omega) hF (by rw [← hz, sayR, e2, if_pos q])
        · have q : ¬ d2 5 i = rv j := fun z => c37 (by rw [z])
          refine r_iconst (pc := 40) h dX3_saysTheRow_40 ci_0 ?_
          refine r_ri t (pc := 41) dX3_saysTheRow_41 (by decide) ?_
          exact ⟨by rw [← hz, sayR, e2, if_neg q]; rfl, hF⟩
      refine r_iload_n (pc := 2) h dX3_saysTheRow_2 rfl ?_
      refine r_aload_n (pc := 3) h dX3_saysTheRow_3 rfl ?_
      refine r_getE (pc := 4) h dX3_saysTheRow_4 f_X3_44 sh_0 rfl (hX.2.2.1.1) ?_
      refine r_icmp_ge (pc := 7) (tgt := 48) h dX3_saysTheRow_7 (by decide) (fun c7 => absurd c7 (nI_ge hj (by omega))) (fun c7 => ?_)
      refine r_iload_n (pc := 10) h dX3_saysTheRow_10 rfl ?_
      refine r_if_le (pc := 11) (tgt := 22) h dX3_saysTheRow_11 (by decide) (fun c11 => ?_) (fun c11 => ?_)
      · have j0 : j = 0 := by have := (nI_leI (b := 0) (by omega) (by decide)).mp c11; omega
        exact day g2 hX (by rw [if_pos j0]; exact hT) hF
      · have j0 : ¬ j = 0 := fun q => c11 (by rw [q]; decide)
        refine r_aload_n (pc := 14) h dX3_saysTheRow_14 rfl ?_
        refine r_getR (pc := 15) h dX3_saysTheRow_15 f_X3_16 sh_0 rfl ?_
        refine r_iload_n (pc := 18) h dX3_saysTheRow_18 rfl ?_
        refine r_callVv (pc := 19) (As := [_]) h dX3_saysTheRow_19 k_X3_239 gc_9 rfl ⟨Nat.le_of_ble_eq_true rfl, Nat.le_of_ble_eq_true rfl, Nat.le_of_ble_eq_true rfl⟩ (c_X0_passDayOf_9 hT ok hi9 (by omega)) (fun g2 hq => ?_)
        obtain ⟨hT, hF1⟩ := hq
        have hF := hF.tr hF1
        have hX := hX.f9 hF1
        have hT : Rx9 g2 (lvD i d) := hT
        exact day g2 hX (by rw [if_neg j0]; exact hT) hF
  refine r_iconst (pc := 0) h dX3_saysTheRow_0 ci_0 ?_
  refine r_istore_n (pc := 1) (ls2 := [_, _, _]) h dX3_saysTheRow_1 (Nat.le_of_ble_eq_true rfl) rfl ?_
  exact loop nr 0 d0 g (by omega) hX hT ⟨ho, rfl⟩ (by omega) frm.rf rfl
set_option maxRecDepth 100000 in
set_option maxHeartbeats 4000000 in
theorem x_whatIs (hR : Rx1 g c) (hX : XSr g ck hk lt nl rv nr rf) (ho : gok c) (hd : c 7 3 ≤ 999) (x w : Int32) : gCi mX3_whatIs [.ref 0, .int x, .int w] g (fun y g1 => y = ansI (wiW c x w) (nI (wiV c rv nr x.toNatClampNeg w.toNatClampNeg)) ∧ Rx1 g1 (c) ∧ XSr g1 ck hk lt nl rv nr (rfI rf (wiW c x w)) ∧ frm 0 35 g g1) := by
  refine gCi_of (own := RX3) (ls0 := [.ref 0, .int x, .int w, .null, .null, .null, .null, .null]) ⟨rfl, pl_X3⟩ rfl (Nat.le_of_ble_eq_true rfl) (fun G (h : gR RX3 cX3_whatIs 6 240 G) (t : gTi cX3_whatIs .int _ G) => ?_)
  have hn5 := hR.n5
  have hn6 := hR.n6
  have loop : ∀ s k i N, s < c 7 0 → k < 2 → wr c s = some i → (if k = 0 then 6 else 10) = N → wiW c (nI s) (nI k) = 0 → x = nI s → w = nI k → ∀ (a3 : Int32) q v a (g2 : gG), v + q = N → Rx1 g2 c → XSr g2 ck hk lt nl rv nr rf → frm 0 35 g g2 → a < 2 ^ 10 → gfold (wiF c rv nr s k i) q v a = wiT c rv nr s k i → G 63 [.ref 0, .int (nI s), .int (nI k), .int a3, .int (nI i), .int (nI a), .int (nI N), .int (nI v)] [] g2 := by
    intro s k i N hs hk2 hwr hN hw hx hwk a3 q
    subst hx; subst hwk
    have es : (nI s).toNatClampNeg = s := nI_clamp (by omega)
    have ek : (nI k).toNatClampNeg = k := nI_clamp (by omega)
    have hi := (wr_lt hwr).1
    have hN10 : N ≤ 10 := by rw [← hN]; split <;> omega
    induction q with
    | zero =>
      intro v a g2 hv0 hR hX hF hal hz
      have hz : a = wiT c rv nr s k i := hz
      refine r_iload (pc := 63) h dX3_whatIs_63 rfl ?_
      refine r_iload (pc := 65) h dX3_whatIs_65 rfl ?_
      refine r_icmp_ge (pc := 67) (tgt := 127) h dX3_whatIs_67 (by decide) (fun c67 => ?_) (fun c67 => absurd (nI_le (by omega) (by omega)) c67)
      refine r_iload (pc := 127) h dX3_whatIs_127 rfl ?_
      refine r_ri t (pc := 129) dX3_whatIs_129 rfl ?_
      exact x_ok hR hX hF hw (by rw [es, ek]; unfold wiV; rw [hwr]; exact congrArg nI hz)
    | succ q ih =>
      intro v a g2 hv0 hR hX hF hal hz
      have hv : v < N := by omega
      have okc : gok (cup c k s v) := by
        by_cases k0 : k = 0
        · rw [if_pos k0] at hN
          rw [k0]; exact gok_0 ho (by omega)
        · rw [show k = 1 by omega]; exact gok_1 ho (by omega)
      have e71 : cup c k s v 7 1 = c 7 1 := by unfold cup; rw [if_neg (by omega)]
      have e73 : cup c k s v 7 3 = c 7 3 := by unfold cup; rw [if_neg (by omega)]
      have ask : ∀ g2 : gG, Rx1 g2 c → XSr g2 ck hk lt nl rv nr rf → Rx9 g2 (cup c k s v) → frm 0 35 g g2 → G 103 [.ref 0, .int (nI s), .int (nI k), .int a3, .int (nI i), .int (nI a), .int (nI N), .int (nI v)] [] g2 := by
        intro g2 hR hX hT hF
        refine r_aload_n (pc := 103) h dX3_whatIs_103 rfl ?_
        refine r_iload (pc := 104) h dX3_whatIs_104 rfl ?_
        refine r_callVi (pc := 106) (As := [_]) h dX3_whatIs_106 k_X3_227 gc_0 rfl ⟨Nat.le_of_ble_eq_true rfl, Nat.le_of_ble_eq_true rfl, Nat.le_of_ble_eq_true rfl⟩ (c_X3_saysTheRow hX hT okc (by rw [e71]; exact hi) (by rw [e73]; omega)) (fun x_106 g2 hq => ?_)
        obtain ⟨rfl, hF1⟩ := hq
        have hR := hR.f9 hF1
        have hX := hX.f9 hF1
        have hF := hF.tr (hF1.wide (by decide) (by decide))
        refine r_if_eq (pc := 109) (tgt := 121) h dX3_whatIs_109 (by decide) (fun c109 => ?_) (fun c109 => ?_)
        · have hb : sayR rv i nr 0 (cup c k s v) = false := (bI_0 _).mp c109
          have e : wiF c rv nr s k i v a = a := by unfold wiF; rw [if_neg (by rw [hb]; decide)]
          refine r_iinc (pc := 121) (ls2 := [_, _, _, _, _, _, _, _]) h dX3_whatIs_121 rfl (ic1 _) rfl ?_
          refine r_goto (pc := 124) (tgt := 63) h dX3_whatIs_124 (by decide) ?_
          exact ih (v + 1) _ g2 (by omega) hR hX hF (hal) (by rw [← e]; exact hz)
        · have hb : sayR rv i nr 0 (cup c k s v) = true := by simpa using mt (bI_0 _).mpr c109
          have e : wiF c rv nr s k i v a = a ||| 1 <<< v := by unfold wiF; rw [if_pos hb]
          refine r_iload (pc := 112) h dX3_whatIs_112 rfl ?_
          refine r_iconst (pc := 114) h dX3_whatIs_114 ci_1 ?_
          refine r_iload (pc := 115) h dX3_whatIs_115 rfl ?_
          refine r_ishl (pc := 117) h dX3_whatIs_117 ?_
          refine r_ior (pc := 118) h dX3_whatIs_118 ?_
          refine r_top (y := nI (a ||| 1 <<< v)) h (or_10 (by omega)) ?_
          refine r_istore (pc := 119) (ls2 := [_, _, _, _, _, _, _, _]) h dX3_whatIs_119 (Nat.le_of_ble_eq_true rfl) rfl ?_
          refine r_iinc (pc := 121) (ls2 := [_, _, _, _, _, _, _, _]) h dX3_whatIs_121 rfl (ic1 _) rfl ?_
          refine r_goto (pc := 124) (tgt := 63) h dX3_whatIs_124 (by decide) ?_
          exact ih (v + 1) _ g2 (by omega) hR hX hF (or_l10 hal (by omega)) (by rw [← e]; exact hz)
      refine r_iload (pc := 63) h dX3_whatIs_63 rfl ?_
      refine r_iload (pc := 65) h dX3_whatIs_65 rfl ?_
      refine r_icmp_ge (pc := 67) (tgt := 127) h dX3_whatIs_67 (by decide) (fun c67 => absurd c67 (nI_ge hv (by omega))) (fun c67 => ?_)
      refine r_aload_n (pc := 70) h dX3_whatIs_70 rfl ?_
      refine r_callVv (pc := 71) (As := []) h dX3_whatIs_71 k_X3_78 gc_0 rfl ⟨Nat.le_of_ble_eq_true rfl, Nat.le_of_ble_eq_true rfl, Nat.le_of_ble_eq_true rfl⟩ (c_X3_think hR) (fun g2 hq => ?_)
      obtain ⟨hT, hF1⟩ := hq
      have hR := hR.f9 hF1
      have hX := hX.f9 hF1
      have hF := hF.tr (hF1.wide (by decide) (by decide))
      refine r_iload_n (pc := 74) h dX3_whatIs_74 rfl ?_
      refine r_if_ne (pc := 75) (tgt := 92) h dX3_whatIs_75 (by decide) (fun c75 => ?_) (fun c75 => ?_)
      · have k0 : ¬ k = 0 := fun q => c75 (by rw [q]; rfl)
        have k1 : k = 1 := by omega
        refine r_aload_n (pc := 92) h dX3_whatIs_92 rfl ?_
        refine r_getR (pc := 93) h dX3_whatIs_93 f_X3_16 sh_0 rfl ?_
        refine r_getR (pc := 96) h dX3_whatIs_96 f_X3_110 sh_9 rfl ?_
        refine r_iload_n (pc := 99) h dX3_whatIs_99 rfl ?_
        refine r_iload (pc := 100) h dX3_whatIs_100 rfl ?_
        refine r_iastore (pc := 102) h dX3_whatIs_102 sh_11 (hT.si hs) ?_
        obtain ⟨hT, hF1⟩ := Rx9.wr (frm.rf (g := g2)) (hT.u_fg hs v) (by decide)
        have hR := hR.f9 hF1
        have hX := hX.f9 hF1
        have hF := hF.tr (hF1.wide (by decide) (by decide))
        generalize gup g2 11 _ _ = g2 at hT hF1 hR hX hF ⊢
        have hT : Rx9 g2 (cup c k s v) := by rw [k1]; exact hT
        exact ask g2 hR hX hT hF
      · have k0 : k = 0 := (nI_eq0 (by omega)).mp c75
        refine r_aload_n (pc := 78) h dX3_whatIs_78 rfl ?_
        refine r_getR (pc := 79) h dX3_whatIs_79 f_X3_16 sh_0 rfl ?_
        refine r_getR (pc := 82) h dX3_whatIs_82 f_X3_107 sh_9 rfl ?_
        refine r_iload_n (pc := 85) h dX3_whatIs_85 rfl ?_
        refine r_iload (pc := 86) h dX3_whatIs_86 rfl ?_
        refine r_iastore (pc := 88) h dX3_whatIs_88 sh_10 (hT.si hs) ?_
        obtain ⟨hT, hF1⟩ := Rx9.wr (frm.rf (g := g2)) (hT.u_kd hs v) (by decide)
        have hR := hR.f9 hF1
        have hX := hX.f9 hF1
        have hF := hF.tr (hF1.wide (by decide) (by decide))
        generalize gup g2 10 _ _ = g2 at hT hF1 hR hX hF ⊢
        refine r_goto (pc := 89) (tgt := 103) h dX3_whatIs_89 (by decide) ?_
        have hT : Rx9 g2 (cup c k s v) := by rw [k0]; exact hT
        exact ask g2 hR hX hT hF
  suffices H : ∀ g2 : gG, Rx1 g2 c → XSr g2 ck hk lt nl rv nr rf → frm 0 35 g g2 → G 0 [.ref 0, .int x, .int w, .null, .null, .null, .null, .null] [] g2 from H g hR hX frm.rf
  intro g2 hR hX hF
  refine r_aload_n (pc := 0) h dX3_whatIs_0 rfl ?_
  refine r_iload_n (pc := 1) h dX3_whatIs_1 rfl ?_
  refine r_callVi (pc := 2) (As := [_]) h dX3_whatIs_2 k_X3_98 gc_0 rfl ⟨Nat.le_of_ble_eq_true rfl, Nat.le_of_ble_eq_true rfl, Nat.le_of_ble_eq_true rfl⟩ (c_X3_anySuit hR x) (fun x_2 g2 hq => ?_)
  obtain ⟨rfl, rfl⟩ := hq
  refine r_iload_n (pc := 5) h dX3_whatIs_5 rfl ?_
  refine r_iconst (pc := 6) h dX3_whatIs_6 ci_2 ?_
  refine r_callSi (pc := 7) (As := [_, _]) h dX3_whatIs_7 k_X3_101 rfl ⟨Nat.le_of_ble_eq_true rfl, Nat.le_of_ble_eq_true rfl, Nat.le_of_ble_eq_true rfl⟩ (c_X3_anyOf w 2) (fun x_7 g2 hq => ?_)
  obtain ⟨rfl, rfl⟩ := hq
  refine r_iconst (pc := 10) h dX3_whatIs_10 ci_0 ?_
  refine r_callSi (pc := 11) (As := [_, _, _]) h dX3_whatIs_11 k_X3_104 rfl ⟨Nat.le_of_ble_eq_true rfl, Nat.le_of_ble_eq_true rfl, Nat.le_of_ble_eq_true rfl⟩ (c_X3_firstOf _ _ _) (fun x_11 g2 hq => ?_)
  obtain ⟨rfl, rfl⟩ := hq
  refine r_istore_n (pc := 14) (ls2 := [_, _, _, _, _, _, _, _]) h dX3_whatIs_14 (Nat.le_of_ble_eq_true rfl) rfl ?_
  refine r_iload_n (pc := 15) h dX3_whatIs_15 rfl ?_
  refine r_if_eq (pc := 16) (tgt := 25) h dX3_whatIs_16 (by decide) (fun c16 => ?_) (fun c16 => ?_)
  · have hw : wiW c x w = 0 := c16
    obtain ⟨w1, w2, -⟩ := fst_0.mp hw
    obtain ⟨s, hs, hxs⟩ := suf_0 w1 hn6
    obtain ⟨k, hk2, hwk⟩ := any_0 (by decide) w2 (by decide)
    subst hxs; subst hwk
    have es : (nI s).toNatClampNeg = s := nI_clamp (by omega)
    have ek : (nI k).toNatClampNeg = k := nI_clamp (by omega)
    refine r_aload_n (pc := 25) h dX3_whatIs_25 rfl ?_
    refine r_getR (pc := 26) h dX3_whatIs_26 f_X3_10 sh_0 rfl ?_
    refine r_iload_n (pc := 29) h dX3_whatIs_29 rfl ?_
    refine r_callVi (pc := 30) (As := [_]) h dX3_whatIs_30 k_X3_128 gc_1 rfl ⟨Nat.le_of_ble_eq_true rfl, Nat.le_of_ble_eq_true rfl, Nat.le_of_ble_eq_true rfl⟩ (c_X0_wearer_1 hR ho (by omega)) (fun x_30 g2 hq => ?_)
    obtain ⟨rfl, rfl⟩ := hq
    refine r_istore (pc := 33) (ls2 := [_, _, _, _, _, _, _, _]) h dX3_whatIs_33 (Nat.le_of_ble_eq_true rfl) rfl ?_
    refine r_iload (pc := 35) h dX3_whatIs_35 rfl ?_
    refine r_bipush (pc := 37) h dX3_whatIs_37 cb_m9 ?_
    refine r_icmp_ne (pc := 39) (tgt := 44) h dX3_whatIs_39 (by decide) (fun c39 => ?_) (fun c39 => ?_)
    · obtain ⟨i, hwr⟩ : ∃ i, wr c s = some i := Option.ne_none_iff_exists'.mp (fun q => c39 (by rw [q]; rfl))
      rw [show oI (wr c s) = nI i by rw [hwr]; rfl]
      refine r_iconst (pc := 44) h dX3_whatIs_44 ci_0 ?_
      refine r_istore (pc := 45) (ls2 := [_, _, _, _, _, _, _, _]) h dX3_whatIs_45 (Nat.le_of_ble_eq_true rfl) rfl ?_
      refine r_iload_n (pc := 47) h dX3_whatIs_47 rfl ?_
      refine r_if_ne (pc := 48) (tgt := 56) h dX3_whatIs_48 (by decide) (fun c48 => ?_) (fun c48 => ?_)
      · have k0 : ¬ k = 0 := fun q => c48 (by rw [q]; rfl)
        have eN : (if k = 0 then 6 else 10) = 10 := if_neg k0
        refine r_bipush (pc := 56) h dX3_whatIs_56 cb_10 ?_
        refine r_istore (pc := 58) (ls2 := [_, _, _, _, _, _, _, _]) h dX3_whatIs_58 (Nat.le_of_ble_eq_true rfl) rfl ?_
        refine r_iconst (pc := 60) h dX3_whatIs_60 ci_0 ?_
        refine r_istore (pc := 61) (ls2 := [_, _, _, _, _, _, _, _]) h dX3_whatIs_61 (Nat.le_of_ble_eq_true rfl) rfl ?_
        exact loop s k i 10 hs hk2 hwr eN hw rfl rfl _ 10 0 0 g2 rfl hR hX hF (by decide) (by unfold wiT; rw [eN])
      · have k0 : k = 0 := (nI_eq0 (by omega)).mp c48
        have eN : (if k = 0 then 6 else 10) = 6 := if_pos k0
        refine r_bipush (pc := 51) h dX3_whatIs_51 cb_6 ?_
        refine r_goto (pc := 53) (tgt := 58) h dX3_whatIs_53 (by decide) ?_
        refine r_istore (pc := 58) (ls2 := [_, _, _, _, _, _, _, _]) h dX3_whatIs_58 (Nat.le_of_ble_eq_true rfl) rfl ?_
        refine r_iconst (pc := 60) h dX3_whatIs_60 ci_0 ?_
        refine r_istore (pc := 61) (ls2 := [_, _, _, _, _, _, _, _]) h dX3_whatIs_61 (Nat.le_of_ble_eq_true rfl) rfl ?_
        exact loop s k i 6 hs hk2 hwr eN hw rfl rfl _ 6 0 0 g2 rfl hR hX hF (by decide) (by unfold wiT; rw [eN])
    · have hwr : wr c s = none := (wr_9 hn5).mp c39
      refine r_iconst (pc := 42) h dX3_whatIs_42 ci_0 ?_
      refine r_ri t (pc := 43) dX3_whatIs_43 rfl ?_
      exact x_ok hR hX hF hw (by rw [es, ek]; unfold wiV; rw [hwr])
  · have hw : ¬ wiW c x w = 0 := c16
    have hok : okw (wiW c x w) := okw_f (okw_suf c x) (okw_b okw_2) okw_0
    refine r_aload_n (pc := 19) h dX3_whatIs_19 rfl ?_
    refine r_iload_n (pc := 20) h dX3_whatIs_20 rfl ?_
    refine r_callVi (pc := 21) (As := [_]) h dX3_whatIs_21 k_X3_67 gc_0 rfl ⟨Nat.le_of_ble_eq_true rfl, Nat.le_of_ble_eq_true rfl, Nat.le_of_ble_eq_true rfl⟩ (c_X3_refuse (okw_in hok hw).1) (fun x_21 g2 hq => ?_)
    obtain ⟨rfl, rfl⟩ := hq
    refine r_ri t (pc := 24) dX3_whatIs_24 rfl ?_
    have hq := x_ref hR hX hok hw (v := nI (wiV c rv nr x.toNatClampNeg w.toNatClampNeg))
    exact ⟨hq.1, hq.2.1, hq.2.2.1, hF.tr hq.2.2.2⟩
set_option maxRecDepth 100000 in
set_option maxHeartbeats 4000000 in
theorem x_lots (hR : Rx1 g c) (hX : XSr g ck hk lt nl rv nr rf) (ho : gok c) (hd : c 7 3 ≤ 999) (n1 z0 w : Int32) : gCi mX3_lots [.ref 0, .int n1, .int z0, .int w] g (fun y g1 => y = ansI (ltW n1 w) (ltR c w.toNatClampNeg n1.toNatClampNeg z0 (nI 0)) ∧ Rx1 g1 (c) ∧ XSr g1 ck hk lt nl rv nr (rfI rf (ltW n1 w)) ∧ frm 0 35 g g1) := by
  refine gCi_of (own := RX3) (ls0 := [.ref 0, .int n1, .int z0, .int w, .null, .null, .null, .null, .null, .null]) ⟨rfl, pl_X3⟩ rfl (Nat.le_of_ble_eq_true rfl) (fun G (h : gR RX3 cX3_lots 6 240 G) (t : gTi cX3_lots .int _ G) => ?_)
  have hn5 := hR.n5
  have hn6 := hR.n6
  have loop : ∀ n k, n ≤ 20 → k < 2 → ltW (nI n) (nI k) = 0 → n1 = nI n → w = nI k → ∀ (a4 : Int32) m j (z S Q : Int32) (v9 : Value) (g2 : gG), j + m = n → Rx1 g2 c → XSr g2 ck hk lt nl rv nr rf → frm 0 35 g g2 → ltR c 0 m z S = ltR c 0 n z0 (nI 0) → ltR c 1 m z Q = ltR c 1 n z0 (nI 0) → G 42 [.ref 0, .int (nI n), .int z0, .int (nI k), .int a4, .int z, .int S, .int Q, .int (nI j), v9] [] g2 := by
    intro n k hn hk2 hw hv hwk a4 m
    subst hv; subst hwk
    have en : (nI n).toNatClampNeg = n := nI_clamp (by omega)
    have ek : (nI k).toNatClampNeg = k := nI_clamp (by omega)
    induction m with
    | zero =>
      intro j z S Q v9 g2 hj0 hR hX hF hS hQ
      refine r_iload (pc := 42) h dX3_lots_42 rfl ?_
      refine r_iload_n (pc := 44) h dX3_lots_44 rfl ?_
      refine r_icmp_ge (pc := 45) (tgt := 164) h dX3_lots_45 (by decide) (fun c45 => ?_) (fun c45 => absurd (nI_le (by omega) (by omega)) c45)
      refine r_iload_n (pc := 164) h dX3_lots_164 rfl ?_
      refine r_if_ne (pc := 165) (tgt := 173) h dX3_lots_165 (by decide) (fun c165 => ?_) (fun c165 => ?_)
      · have k0 : ¬ k = 0 := fun q => c165 (by rw [q]; rfl)
        have k1 : k = 1 := by omega
        refine r_iload (pc := 173) h dX3_lots_173 rfl ?_
        refine r_ri t (pc := 175) dX3_lots_175 rfl ?_
        exact x_ok hR hX hF hw (by rw [en, ek, k1]; exact hQ)
      · have k0 : k = 0 := (nI_eq0 (by omega)).mp c165
        refine r_iload (pc := 168) h dX3_lots_168 rfl ?_
        refine r_goto (pc := 170) (tgt := 175) h dX3_lots_170 (by decide) ?_
        refine r_ri t (pc := 175) dX3_lots_175 rfl ?_
        exact x_ok hR hX hF hw (by rw [en, ek, k0]; exact hS)
    | succ m ih =>
      intro j z S Q v9 g2 hj0 hR hX hF hS hQ
      have hj : j < n := by omega
      have inner : ∀ r i (p : Int32 × gCt) (g2 : gG), i + r = c 7 1 → Rx1 g2 c → XSr g2 ck hk lt nl rv nr rf → frm 0 35 g g2 → Rx9 g2 p.2 → gsame c p.2 → gfold ltI r i p = ltL c z → G 55 [.ref 0, .int (nI n), .int z0, .int (nI k), .int a4, .int p.1, .int S, .int Q, .int (nI j), .int (nI i)] [] g2 := by
        intro r
        induction r with
        | zero =>
          intro i p g2 hi0 hR hX hF hT hp hz
          have hz : p = ltL c z := hz
          refine r_iload (pc := 55) h dX3_lots_55 rfl ?_
          refine r_aload_n (pc := 57) h dX3_lots_57 rfl ?_
          refine r_getR (pc := 58) h dX3_lots_58 f_X3_10 sh_0 rfl ?_
          refine r_getE (pc := 61) h dX3_lots_61 f_X3_191 sh_1 rfl (hR.nc) ?_
          refine r_icmp_ge (pc := 64) (tgt := 127) h dX3_lots_64 (by decide) (fun c64 => ?_) (fun c64 => absurd (nI_le (by omega) (by omega)) c64)
          refine r_iload (pc := 127) h dX3_lots_127 rfl ?_
          refine r_aload_n (pc := 129) h dX3_lots_129 rfl ?_
          refine r_bipush (pc := 130) h dX3_lots_130 cb_8 ?_
          refine r_callVi (pc := 132) (As := [_]) h dX3_lots_132 k_X3_177 gc_0 rfl ⟨Nat.le_of_ble_eq_true rfl, Nat.le_of_ble_eq_true rfl, Nat.le_of_ble_eq_true rfl⟩ (c_X3_allSaidBehind hT hp.2.2.2 (by rw [hp.2.2.1]; omega)) (fun x_132 g2 hq => ?_)
          obtain ⟨rfl, hT, hF1⟩ := hq
          have hR := hR.f9 hF1
          have hX := hX.f9 hF1
          have hF := hF.tr (hF1.wide (by decide) (by decide))
          rw [tot_eq]
          refine r_iadd (pc := 135) h dX3_lots_135 ?_
          refine r_istore (pc := 136) (ls2 := [_, _, _, _, _, _, _, _, _, _]) h dX3_lots_136 (Nat.le_of_ble_eq_true rfl) rfl ?_
          refine r_iload (pc := 138) h dX3_lots_138 rfl ?_
          refine r_aload_n (pc := 140) h dX3_lots_140 rfl ?_
          refine r_getR (pc := 141) h dX3_lots_141 f_X3_16 sh_0 rfl ?_
          refine r_getE (pc := 144) h dX3_lots_144 f_X3_171 sh_9 rfl (hT.pd) ?_
          refine r_aload_n (pc := 147) h dX3_lots_147 rfl ?_
          refine r_getR (pc := 148) h dX3_lots_148 f_X3_10 sh_0 rfl ?_
          refine r_getE (pc := 151) h dX3_lots_151 f_X3_171 sh_1 rfl (hR.pd) ?_
          refine r_isub (pc := 154) h dX3_lots_154 ?_
          refine r_iadd (pc := 155) h dX3_lots_155 ?_
          refine r_istore (pc := 156) (ls2 := [_, _, _, _, _, _, _, _, _, _]) h dX3_lots_156 (Nat.le_of_ble_eq_true rfl) rfl ?_
          refine r_iinc (pc := 158) (ls2 := [_, _, _, _, _, _, _, _, _, _]) h dX3_lots_158 rfl (ic1 _) rfl ?_
          refine r_goto (pc := 161) (tgt := 42) h dX3_lots_161 (by decide) ?_
          subst hz
          rw [ltR_0] at hS
          rw [ltR_1] at hQ
          exact ih (j + 1) _ _ _ _ g2 (by omega) hR hX hF hS hQ
        | succ r ih2 =>
          intro i p g2 hi0 hR hX hF hT hp hz
          have hi : i < c 7 1 := by omega
          have hi9 : i < p.2 7 1 := by rw [hp.2.1]; exact hi
          refine r_iload (pc := 55) h dX3_lots_55 rfl ?_
          refine r_aload_n (pc := 57) h dX3_lots_57 rfl ?_
          refine r_getR (pc := 58) h dX3_lots_58 f_X3_10 sh_0 rfl ?_
          refine r_getE (pc := 61) h dX3_lots_61 f_X3_191 sh_1 rfl (hR.nc) ?_
          refine r_icmp_ge (pc := 64) (tgt := 127) h dX3_lots_64 (by decide) (fun c64 => absurd c64 (nI_ge hi (by omega))) (fun c64 => ?_)
          refine r_iload (pc := 67) h dX3_lots_67 rfl ?_
          refine r_ldc (pc := 69) h dX3_lots_69 kc_X3_230 ?_
          refine r_imul (pc := 71) h dX3_lots_71 ?_
          refine r_ldc (pc := 72) h dX3_lots_72 kc_X3_231 ?_
          refine r_iadd (pc := 74) h dX3_lots_74 ?_
          refine r_top (y := sdI p.1) h (by rw [sd_cl]) ?_
          refine r_istore (pc := 75) (ls2 := [_, _, _, _, _, _, _, _, _, _]) h dX3_lots_75 (Nat.le_of_ble_eq_true rfl) rfl ?_
          refine r_aload_n (pc := 77) h dX3_lots_77 rfl ?_
          refine r_getR (pc := 78) h dX3_lots_78 f_X3_16 sh_0 rfl ?_
          refine r_getR (pc := 81) h dX3_lots_81 f_X3_134 sh_9 rfl ?_
          refine r_iload (pc := 84) h dX3_lots_84 rfl ?_
          refine r_iload (pc := 86) h dX3_lots_86 rfl ?_
          refine r_ldc (pc := 88) h dX3_lots_88 kc_X3_232 ?_
          refine r_iand (pc := 90) h dX3_lots_90 ?_
          refine r_sipush (pc := 91) h dX3_lots_91 cs_256 ?_
          refine r_idiv (pc := 94) h dX3_lots_94 (by decide) ?_
          refine r_bipush (pc := 95) h dX3_lots_95 cb_21 ?_
          refine r_irem (pc := 97) h dX3_lots_97 (by decide) ?_
          refine r_top (y := nI (drN (sdI p.1))) h (by rw [dr_cl]) ?_
          refine r_iastore (pc := 98) h dX3_lots_98 sh_13 (hT.ci hi9) ?_
          obtain ⟨hT, hF1⟩ := Rx9.wr (frm.rf (g := g2)) (hT.u_fe hi9 (drN (sdI p.1))) (by decide)
          have hR := hR.f9 hF1
          have hX := hX.f9 hF1
          have hF := hF.tr (hF1.wide (by decide) (by decide))
          generalize gup g2 13 _ _ = g2 at hT hF1 hR hX hF ⊢
          refine r_aload_n (pc := 99) h dX3_lots_99 rfl ?_
          refine r_getR (pc := 100) h dX3_lots_100 f_X3_16 sh_0 rfl ?_
          refine r_getR (pc := 103) h dX3_lots_103 f_X3_137 sh_9 rfl ?_
          refine r_iload (pc := 106) h dX3_lots_106 rfl ?_
          refine r_iconst (pc := 108) h dX3_lots_108 ci_0 ?_
          refine r_iastore (pc := 109) h dX3_lots_109 sh_14 (vp_in_nI (show i < 5 by omega) (by decide)) ?_
          obtain ⟨hT, hF1⟩ := Rx9.wr (frm.rf (g := g2)) (hT.u_so (show i < cup p.2 3 i (drN (sdI p.1)) 7 1 from hi9) 0) (by decide)
          have hR := hR.f9 hF1
          have hX := hX.f9 hF1
          have hF := hF.tr (hF1.wide (by decide) (by decide))
          generalize gup g2 14 _ _ = g2 at hT hF1 hR hX hF ⊢
          refine r_aload_n (pc := 110) h dX3_lots_110 rfl ?_
          refine r_getR (pc := 111) h dX3_lots_111 f_X3_16 sh_0 rfl ?_
          refine r_getR (pc := 114) h dX3_lots_114 f_X3_140 sh_9 rfl ?_
          refine r_iload (pc := 117) h dX3_lots_117 rfl ?_
          refine r_iconst (pc := 119) h dX3_lots_119 ci_0 ?_
          refine r_iastore (pc := 120) h dX3_lots_120 sh_15 (vp_in_nI (show i < 5 by omega) (by decide)) ?_
          obtain ⟨hT, hF1⟩ := Rx9.wr (frm.rf (g := g2)) (hT.u_sa (show i < cup (cup p.2 3 i (drN (sdI p.1))) 4 i 0 7 1 from hi9) 0) (by decide)
          have hR := hR.f9 hF1
          have hX := hX.f9 hF1
          have hF := hF.tr (hF1.wide (by decide) (by decide))
          generalize gup g2 15 _ _ = g2 at hT hF1 hR hX hF ⊢
          refine r_iinc (pc := 121) (ls2 := [_, _, _, _, _, _, _, _, _, _]) h dX3_lots_121 rfl (ic1 _) rfl ?_
          refine r_goto (pc := 124) (tgt := 55) h dX3_lots_124 (by decide) ?_
          rw [← ltI_2] at hT
          rw [← ltI_1 i p]
          exact ih2 (i + 1) (ltI i p) g2 (by omega) hR hX hF hT (ltI_ok hp i) ((gfold_st ltI r i p).symm.trans hz)
      refine r_iload (pc := 42) h dX3_lots_42 rfl ?_
      refine r_iload_n (pc := 44) h dX3_lots_44 rfl ?_
      refine r_icmp_ge (pc := 45) (tgt := 164) h dX3_lots_45 (by decide) (fun c45 => absurd c45 (nI_ge hj (by omega))) (fun c45 => ?_)
      refine r_aload_n (pc := 48) h dX3_lots_48 rfl ?_
      refine r_callVv (pc := 49) (As := []) h dX3_lots_49 k_X3_78 gc_0 rfl ⟨Nat.le_of_ble_eq_true rfl, Nat.le_of_ble_eq_true rfl, Nat.le_of_ble_eq_true rfl⟩ (c_X3_think hR) (fun g2 hq => ?_)
      obtain ⟨hT, hF1⟩ := hq
      have hR := hR.f9 hF1
      have hX := hX.f9 hF1
      have hF := hF.tr (hF1.wide (by decide) (by decide))
      refine r_iconst (pc := 52) h dX3_lots_52 ci_0 ?_
      refine r_istore (pc := 53) (ls2 := [_, _, _, _, _, _, _, _, _, _]) h dX3_lots_53 (Nat.le_of_ble_eq_true rfl) rfl ?_
      exact inner (c 7 1) 0 (z, c) g2 (by omega) hR hX hF hT ⟨rfl, rfl, rfl, ho⟩ rfl
  suffices H : ∀ g2 : gG, Rx1 g2 c → XSr g2 ck hk lt nl rv nr rf → frm 0 35 g g2 → G 0 [.ref 0, .int n1, .int z0, .int w, .null, .null, .null, .null, .null, .null] [] g2 from H g hR hX frm.rf
  intro g2 hR hX hF
  refine r_iload_n (pc := 0) h dX3_lots_0 rfl ?_
  refine r_iconst (pc := 1) h dX3_lots_1 ci_1 ?_
  refine r_bipush (pc := 2) h dX3_lots_2 cb_20 ?_
  refine r_callSi (pc := 4) (As := [_, _, _]) h dX3_lots_4 k_X3_60 rfl ⟨Nat.le_of_ble_eq_true rfl, Nat.le_of_ble_eq_true rfl, Nat.le_of_ble_eq_true rfl⟩ (c_X3_range _ _ _) (fun x_4 g2 hq => ?_)
  obtain ⟨rfl, rfl⟩ := hq
  refine r_iload_n (pc := 7) h dX3_lots_7 rfl ?_
  refine r_iconst (pc := 8) h dX3_lots_8 ci_2 ?_
  refine r_callSi (pc := 9) (As := [_, _]) h dX3_lots_9 k_X3_101 rfl ⟨Nat.le_of_ble_eq_true rfl, Nat.le_of_ble_eq_true rfl, Nat.le_of_ble_eq_true rfl⟩ (c_X3_anyOf w 2) (fun x_9 g2 hq => ?_)
  obtain ⟨rfl, rfl⟩ := hq
  refine r_iconst (pc := 12) h dX3_lots_12 ci_0 ?_
  refine r_callSi (pc := 13) (As := [_, _, _]) h dX3_lots_13 k_X3_104 rfl ⟨Nat.le_of_ble_eq_true rfl, Nat.le_of_ble_eq_true rfl, Nat.le_of_ble_eq_true rfl⟩ (c_X3_firstOf _ _ _) (fun x_13 g2 hq => ?_)
  obtain ⟨rfl, rfl⟩ := hq
  refine r_istore (pc := 16) (ls2 := [_, _, _, _, _, _, _, _, _, _]) h dX3_lots_16 (Nat.le_of_ble_eq_true rfl) rfl ?_
  refine r_iload (pc := 18) h dX3_lots_18 rfl ?_
  refine r_if_eq (pc := 20) (tgt := 30) h dX3_lots_20 (by decide) (fun c20 => ?_) (fun c20 => ?_)
  · have hw : ltW n1 w = 0 := c20
    obtain ⟨w1, w2, -⟩ := fst_0.mp hw
    obtain ⟨n, hn1, hn, hvn⟩ := bnd_nat (by decide) (by decide) w1
    obtain ⟨k, hk2, hwk⟩ := any_0 (by decide) w2 (by decide)
    subst hvn; subst hwk
    refine r_iload_n (pc := 30) h dX3_lots_30 rfl ?_
    refine r_istore (pc := 31) (ls2 := [_, _, _, _, _, _, _, _, _, _]) h dX3_lots_31 (Nat.le_of_ble_eq_true rfl) rfl ?_
    refine r_iconst (pc := 33) h dX3_lots_33 ci_0 ?_
    refine r_istore (pc := 34) (ls2 := [_, _, _, _, _, _, _, _, _, _]) h dX3_lots_34 (Nat.le_of_ble_eq_true rfl) rfl ?_
    refine r_iconst (pc := 36) h dX3_lots_36 ci_0 ?_
    refine r_istore (pc := 37) (ls2 := [_, _, _, _, _, _, _, _, _, _]) h dX3_lots_37 (Nat.le_of_ble_eq_true rfl) rfl ?_
    refine r_iconst (pc := 39) h dX3_lots_39 ci_0 ?_
    refine r_istore (pc := 40) (ls2 := [_, _, _, _, _, _, _, _, _, _]) h dX3_lots_40 (Nat.le_of_ble_eq_true rfl) rfl ?_
    exact loop n k hn hk2 hw rfl rfl _ n 0 z0 (nI 0) (nI 0) _ g2 (by omega) hR hX hF rfl rfl
  · have hw : ¬ ltW n1 w = 0 := c20
    have hok : okw (ltW n1 w) := okw_f okw_n (okw_b okw_2) okw_0
    refine r_aload_n (pc := 23) h dX3_lots_23 rfl ?_
    refine r_iload (pc := 24) h dX3_lots_24 rfl ?_
    refine r_callVi (pc := 26) (As := [_]) h dX3_lots_26 k_X3_67 gc_0 rfl ⟨Nat.le_of_ble_eq_true rfl, Nat.le_of_ble_eq_true rfl, Nat.le_of_ble_eq_true rfl⟩ (c_X3_refuse (okw_in hok hw).1) (fun x_26 g2 hq => ?_)
    obtain ⟨rfl, rfl⟩ := hq
    refine r_ri t (pc := 29) dX3_lots_29 rfl ?_
    have hq := x_ref hR hX hok hw (v := ltR c w.toNatClampNeg n1.toNatClampNeg z0 (nI 0))
    exact ⟨hq.1, hq.2.1, hq.2.2.1, hF.tr hq.2.2.2⟩
end TX
