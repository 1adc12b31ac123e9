section TX
variable {g : gG} {c ck : gCt} {hk : Bool} {lt : Nat → Nat} {nl : Nat} {rv : Nat → Nat} {nr : Nat} {rf : Nat → Int32}
set_option maxRecDepth 100000 in
set_option maxHeartbeats 4000000 in
theorem x_still (hR : Rx1 g c) (hX : XSr g ck hk lt nl rv nr rf) (ho : gok c) (hd : c 7 3 ≤ 999) : gCi mX3_still [.ref 0] g (fun y g1 => y = oI (stiV c) ∧ Rx1 g1 c ∧ XSr g1 ck hk lt nl rv nr rf ∧ frm 0 35 g g1) := by
  refine gCi_of (own := RX3) (ls0 := [.ref 0, .null]) ⟨rfl, pl_X3⟩ rfl (Nat.le_of_ble_eq_true rfl) (fun G (h : gR RX3 cX3_still 6 240 G) (t : gTi cX3_still .int _ G) => ?_)
  have hn5 := hR.n5
  have hn6 := hR.n6
  have loop2 : ∀ m n (g2 : gG), n + m = 61 → Rx1 g2 c → XSr g2 ck hk lt nl rv nr rf → frm 0 35 g g2 → (∀ j, j < 69 → vp_in (nI j) 69 ∧ g2 32 (nI j).toNatClampNeg = nI (tot (daysC j c))) → stiV c = gfind (fun n => tot (daysC n c) == tot (daysC (n + 8) c)) m n → G 44 [.ref 0, .int (nI n)] [] g2 := by
    intro m
    induction m with
    | zero =>
      intro n g2 hn hR hX hF h32 hw
      refine r_iload_n (pc := 44) h dX3_still_44 rfl ?_
      refine r_bipush (pc := 45) h dX3_still_45 cb_60 ?_
      refine r_icmp_gt (pc := 47) (tgt := 76) h dX3_still_47 (by decide) (fun c47 => ?_) (fun c47 => absurd (nI_lt (by omega) (by omega)) c47)
      refine r_bipush (pc := 76) h dX3_still_76 cb_m9 ?_
      refine r_ri t (pc := 78) dX3_still_78 rfl ?_
      exact ⟨by rw [hw]; rfl, hR, hX, hF⟩
    | succ m ih =>
      intro n g2 hn hR hX hF h32 hw
      have hD := daysC_ok ho n (by omega)
      have hD8 := daysC_ok ho (n + 8) (by omega)
      refine r_iload_n (pc := 44) h dX3_still_44 rfl ?_
      refine r_bipush (pc := 45) h dX3_still_45 cb_60 ?_
      refine r_icmp_gt (pc := 47) (tgt := 76) h dX3_still_47 (by decide) (fun c47 => absurd c47 (nI_nlt (by omega) (by omega))) (fun c47 => ?_)
      refine r_aload_n (pc := 50) h dX3_still_50 rfl ?_
      refine r_getR (pc := 51) h dX3_still_51 f_X3_51 sh_0 rfl ?_
      refine r_iload_n (pc := 54) h dX3_still_54 rfl ?_
      refine r_ialoadE (pc := 55) h dX3_still_55 sh_32 (h32 n (by omega)) ?_
      refine r_aload_n (pc := 56) h dX3_still_56 rfl ?_
      refine r_getR (pc := 57) h dX3_still_57 f_X3_51 sh_0 rfl ?_
      refine r_iload_n (pc := 60) h dX3_still_60 rfl ?_
      refine r_bipush (pc := 61) h dX3_still_61 cb_8 ?_
      refine r_iadd (pc := 63) h dX3_still_63 ?_
      refine r_top (y := nI (n + 8)) h (nI_add _ _) ?_
      refine r_ialoadE (pc := 64) h dX3_still_64 sh_32 (h32 (n + 8) (by omega)) ?_
      refine r_icmp_ne (pc := 65) (tgt := 70) h dX3_still_65 (by decide) (fun c65 => ?_) (fun c65 => ?_)
      · have q : ¬ tot (daysC n c) = tot (daysC (n + 8) c) := fun z => c65 (by rw [z])
        refine r_iinc (pc := 70) (ls2 := [_, _]) h dX3_still_70 rfl (ic1 _) rfl ?_
        refine r_goto (pc := 73) (tgt := 44) h dX3_still_73 (by decide) ?_
        exact ih (n + 1) g2 (by omega) hR hX hF h32 (by rw [hw, gfind, if_neg (by simpa using q)])
      · have q : tot (daysC n c) = tot (daysC (n + 8) c) := (nI_eq (by have := tot_le hD.2.2.2 (by omega); omega) (by have := tot_le hD8.2.2.2 (by omega); omega)).mp c65
        refine r_iload_n (pc := 68) h dX3_still_68 rfl ?_
        refine r_ri t (pc := 69) dX3_still_69 rfl ?_
        exact ⟨by rw [hw, gfind, if_pos (by simpa using q)]; rfl, hR, hX, hF⟩
  have loop1 : ∀ m k (g2 : gG), k + 1 + m = 69 → Rx1 g2 c → XSr g2 ck hk lt nl rv nr rf → frm 0 35 g g2 → Rx9 g2 (daysC k c) → (∀ j, j ≤ k → g2 32 j = nI (tot (daysC j c))) → G 19 [.ref 0, .int (nI (k + 1))] [] g2 := by
    intro m
    induction m with
    | zero =>
      intro k g2 hn hR hX hF hT h32
      refine r_iload_n (pc := 19) h dX3_still_19 rfl ?_
      refine r_bipush (pc := 20) h dX3_still_20 cb_68 ?_
      refine r_icmp_gt (pc := 22) (tgt := 42) h dX3_still_22 (by decide) (fun c22 => ?_) (fun c22 => absurd (nI_lt (by omega) (by omega)) c22)
      refine r_iconst (pc := 42) h dX3_still_42 ci_0 ?_
      refine r_istore_n (pc := 43) (ls2 := [_, _]) h dX3_still_43 (Nat.le_of_ble_eq_true rfl) rfl ?_
      exact loop2 61 0 g2 rfl hR hX hF (fun j hj => ⟨vp_in_nI hj (by decide), by rw [nI_clamp (by omega)]; exact h32 j (by omega)⟩) rfl
    | succ m ih =>
      intro k g2 hn hR hX hF hT h32
      have hD := daysC_ok ho k (by omega)
      have ek : (nI (k + 1)).toNatClampNeg = k + 1 := nI_clamp (by omega)
      refine r_iload_n (pc := 19) h dX3_still_19 rfl ?_
      refine r_bipush (pc := 20) h dX3_still_20 cb_68 ?_
      refine r_icmp_gt (pc := 22) (tgt := 42) h dX3_still_22 (by decide) (fun c22 => absurd c22 (nI_nlt (by omega) (by omega))) (fun c22 => ?_)
      refine r_aload_n (pc := 25) h dX3_still_25 rfl ?_
      refine r_getR (pc := 26) h dX3_still_26 f_X3_51 sh_0 rfl ?_
      refine r_iload_n (pc := 29) h dX3_still_29 rfl ?_
      refine r_aload_n (pc := 30) h dX3_still_30 rfl ?_
      refine r_iconst (pc := 31) h dX3_still_31 ci_1 ?_
      refine r_callVi (pc := 32) (As := [_]) h dX3_still_32 k_X3_177 gc_0 rfl ⟨Nat.le_of_ble_eq_true rfl, Nat.le_of_ble_eq_true rfl, Nat.le_of_ble_eq_true rfl⟩ (c_X3_allSaidBehind hT hD.2.2.2 (by omega)) (fun x_32 g2 hq => ?_)
      obtain ⟨rfl, hT, hF1⟩ := hq
      have hR := hR.f9 hF1
      have hX := hX.f9 hF1
      have hF := hF.tr (hF1.wide (by decide) (by decide))
      have h32 : ∀ j, j ≤ k → g2 32 j = nI (tot (daysC j c)) := fun j hj => by rw [hF1 32 (by decide)]; exact h32 j hj
      rw [daysC_1] at hT ⊢
      rw [tot_eq]
      refine r_iastore (pc := 35) h dX3_still_35 sh_32 (vp_in_nI (show k + 1 < 69 by omega) (by decide)) ?_
      refine r_iinc (pc := 36) (ls2 := [_, _]) h dX3_still_36 rfl (ic1 _) rfl ?_
      refine r_goto (pc := 39) (tgt := 19) h dX3_still_39 (by decide) ?_
      rw [ek]
      refine ih (k + 1) _ (by omega) (hR.f32 (frm.rf.up (by decide))) (hX.f32 (frm.rf.up (by decide))) (hF.up (by decide)) (hT.f32 (frm.rf.up (by decide))) (fun j hj => ?_)
      by_cases e : j = k + 1
      · subst e; exact gup_s
      · rw [gup_o (by omega)]; exact h32 j (by omega)
  suffices H : ∀ g2 : gG, Rx1 g2 c → XSr g2 ck hk lt nl rv nr rf → frm 0 35 g g2 → G 0 [.ref 0, .null] [] g2 from H g hR hX frm.rf
  intro g2 hR hX hF
  refine r_aload_n (pc := 0) h dX3_still_0 rfl ?_
  refine r_callVv (pc := 1) (As := []) h dX3_still_1 k_X3_78 gc_0 rfl ⟨Nat.le_of_ble_eq_true rfl, Nat.le_of_ble_eq_true rfl, Nat.le_of_ble_eq_true rfl⟩ (c_X3_think hR) (fun g2 hq => ?_)
  obtain ⟨hT, hF1⟩ := hq
  have hR := hR.f9 hF1
  have hX := hX.f9 hF1
  have hF := hF.tr (hF1.wide (by decide) (by decide))
  refine r_aload_n (pc := 4) h dX3_still_4 rfl ?_
  refine r_getR (pc := 5) h dX3_still_5 f_X3_51 sh_0 rfl ?_
  refine r_iconst (pc := 8) h dX3_still_8 ci_0 ?_
  refine r_aload_n (pc := 9) h dX3_still_9 rfl ?_
  refine r_getR (pc := 10) h dX3_still_10 f_X3_16 sh_0 rfl ?_
  refine r_callVi (pc := 13) (As := []) h dX3_still_13 k_X3_168 gc_9 rfl ⟨Nat.le_of_ble_eq_true rfl, Nat.le_of_ble_eq_true rfl, Nat.le_of_ble_eq_true rfl⟩ (c_X0_allSaid_9 hT) (fun x_13 g2 hq => ?_)
  obtain ⟨rfl, rfl⟩ := hq
  rw [tot_eq]
  refine r_iastore (pc := 16) h dX3_still_16 sh_32 (vp_in_nI (show 0 < 69 by decide) (by decide)) ?_
  refine r_iconst (pc := 17) h dX3_still_17 ci_1 ?_
  refine r_istore_n (pc := 18) (ls2 := [_, _]) h dX3_still_18 (Nat.le_of_ble_eq_true rfl) rfl ?_
  refine loop1 68 0 _ rfl (hR.f32 (frm.rf.up (by decide))) (hX.f32 (frm.rf.up (by decide))) (hF.up (by decide)) (hT.f32 (frm.rf.up (by decide))) (fun j hj => ?_)
  have e : j = 0 := by omega
  subst e; exact gup_s
set_option maxRecDepth 100000 in
set_option maxHeartbeats 4000000 in
theorem x_suitBest (hR : Rx1 g c) (hX : XSr g ck hk lt nl rv nr rf) (ho : gok c) (hd : c 7 3 ≤ 999) (x v w : Int32) : gCi mX3_suitBest [.ref 0, .int x, .int v, .int w] g (fun y g1 => y = ansI (sbW c x v w) (sbA (sbV c x.toNatClampNeg v.toNatClampNeg) w.toNatClampNeg) ∧ Rx1 g1 (c) ∧ XSr g1 ck hk lt nl rv nr (rfI rf (sbW c x v w)) ∧ frm 0 35 g g1) := by
  refine gCi_of (own := RX3) (ls0 := [.ref 0, .int x, .int v, .int w, .null, .null, .null, .null]) ⟨rfl, pl_X3⟩ rfl (Nat.le_of_ble_eq_true rfl) (fun G (h : gR RX3 cX3_suitBest 5 200 G) (t : gTi cX3_suitBest .int _ G) => ?_)
  have hn5 := hR.n5
  have hn6 := hR.n6
  have loop : ∀ i n k, i < c 7 1 → n ≤ 30 → k < 2 → sbW c (nI i) (nI n) (nI k) = 0 → x = nI i → v = nI n → w = nI k → ∀ (v4 : Int32) m s (p : Option Nat × Nat) (g2 : gG) (b5 b6 : Int32), s + m = c 7 0 → Rx1 g2 c → XSr g2 ck hk lt nl rv nr rf → frm 0 35 g g2 → b5 = oI p.1 → b6 = nI p.2 → (∀ z, p.1 = some z → z < 2147483648) → p.2 ≤ 6 → gfold (mxF (fun s => daysC n (put c i s) 5 i)) m s p = sbV c i n → G 52 [.ref 0, .int (nI i), .int (nI n), .int (nI k), .int v4, .int b5, .int b6, .int (nI s)] [] g2 := by
    intro i n k hi hn hk2 hw hx hv hwk v4 m
    subst hx; subst hv; subst hwk
    have ei : (nI i).toNatClampNeg = i := nI_clamp (by omega)
    have en : (nI n).toNatClampNeg = n := nI_clamp (by omega)
    have ek : (nI k).toNatClampNeg = k := nI_clamp (by omega)
    induction m with
    | zero =>
      intro s p g2 b5 b6 hs0 hR hX hF e5 e6 hpk hp6 hz
      have hz : p = sbV c i n := hz
      subst e5; subst e6
      refine r_iload (pc := 52) h dX3_suitBest_52 rfl ?_
      refine r_aload_n (pc := 54) h dX3_suitBest_54 rfl ?_
      refine r_getR (pc := 55) h dX3_suitBest_55 f_X3_10 sh_0 rfl ?_
      refine r_getE (pc := 58) h dX3_suitBest_58 f_X3_188 sh_1 rfl (hR.ns) ?_
      refine r_icmp_ge (pc := 61) (tgt := 121) h dX3_suitBest_61 (by decide) (fun c61 => ?_) (fun c61 => absurd (nI_le (by omega) (by omega)) c61)
      refine r_iload_n (pc := 121) h dX3_suitBest_121 rfl ?_
      refine r_if_eq (pc := 122) (tgt := 132) h dX3_suitBest_122 (by decide) (fun c122 => ?_) (fun c122 => ?_)
      · have k0 : k = 0 := (nI_eq0 (by omega)).mp c122
        refine r_iload (pc := 132) h dX3_suitBest_132 rfl ?_
        refine r_goto (pc := 134) (tgt := 139) h dX3_suitBest_134 (by decide) ?_
        refine r_ri t (pc := 139) dX3_suitBest_139 rfl ?_
        exact x_ok hR hX hF hw (by rw [ei, en, ek, ← hz]; unfold sbA; rw [if_pos (Or.inl k0)])
      · have k0 : ¬ k = 0 := fun q => c122 (by rw [q]; rfl)
        refine r_iload (pc := 125) h dX3_suitBest_125 rfl ?_
        refine r_bipush (pc := 127) h dX3_suitBest_127 cb_m9 ?_
        refine r_icmp_ne (pc := 129) (tgt := 137) h dX3_suitBest_129 (by decide) (fun c129 => ?_) (fun c129 => ?_)
        · have pn : ¬ p.1 = none := fun q => c129 (by rw [q]; rfl)
          refine r_iload (pc := 137) h dX3_suitBest_137 rfl ?_
          refine r_ri t (pc := 139) dX3_suitBest_139 rfl ?_
          exact x_ok hR hX hF hw (by rw [ei, en, ek, ← hz]; unfold sbA; rw [if_neg (fun q => q.elim k0 pn)])
        · have pn : p.1 = none := (oI_none hpk).mp c129
          refine r_iload (pc := 132) h dX3_suitBest_132 rfl ?_
          refine r_goto (pc := 134) (tgt := 139) h dX3_suitBest_134 (by decide) ?_
          refine r_ri t (pc := 139) dX3_suitBest_139 rfl ?_
          exact x_ok hR hX hF hw (by rw [ei, en, ek, ← hz]; unfold sbA; rw [if_pos (Or.inr pn)])
    | succ m ih =>
      intro s p g2 b5 b6 hs0 hR hX hF e5 e6 hpk hp6 hz
      have hs : s < c 7 0 := by omega
      have hD := daysC_ok (put_gok (i := i) ho hs) n (by rw [(put_7 c i s).2.2.2]; omega)
      have hi9 : i < daysC n (put c i s) 7 1 := by rw [hD.2.1, (put_7 c i s).2.1]; exact hi
      have h5 := (hD.2.2.2.2.2.2 i hi9).2.2.1
      subst e5; subst e6
      refine r_iload (pc := 52) h dX3_suitBest_52 rfl ?_
      refine r_aload_n (pc := 54) h dX3_suitBest_54 rfl ?_
      refine r_getR (pc := 55) h dX3_suitBest_55 f_X3_10 sh_0 rfl ?_
      refine r_getE (pc := 58) h dX3_suitBest_58 f_X3_188 sh_1 rfl (hR.ns) ?_
      refine r_icmp_ge (pc := 61) (tgt := 121) h dX3_suitBest_61 (by decide) (fun c61 => absurd c61 (nI_ge hs (by omega))) (fun c61 => ?_)
      refine r_aload_n (pc := 64) h dX3_suitBest_64 rfl ?_
      refine r_callVv (pc := 65) (As := []) h dX3_suitBest_65 k_X3_78 gc_0 rfl ⟨Nat.le_of_ble_eq_true rfl, Nat.le_of_ble_eq_true rfl, Nat.le_of_ble_eq_true rfl⟩ (c_X3_think hR) (fun g2 hq => ?_)
      obtain ⟨hT, hF1⟩ := hq
      have hR := hR.f9 hF1
      have hX := hX.f9 hF1
      have hF := hF.tr (hF1.wide (by decide) (by decide))
      refine r_aload_n (pc := 68) h dX3_suitBest_68 rfl ?_
      refine r_getR (pc := 69) h dX3_suitBest_69 f_X3_16 sh_0 rfl ?_
      refine r_iload_n (pc := 72) h dX3_suitBest_72 rfl ?_
      refine r_iload (pc := 73) h dX3_suitBest_73 rfl ?_
      refine r_callVv (pc := 75) (As := [_, _]) h dX3_suitBest_75 k_X3_157 gc_9 rfl ⟨Nat.le_of_ble_eq_true rfl, Nat.le_of_ble_eq_true rfl, Nat.le_of_ble_eq_true rfl⟩ (c_X0_putIn_9 hT ho hi hs) (fun g2 hq => ?_)
      obtain ⟨hT, hF1⟩ := hq
      have hR := hR.f9 hF1
      have hX := hX.f9 hF1
      have hF := hF.tr (hF1.wide (by decide) (by decide))
      refine r_aload_n (pc := 78) h dX3_suitBest_78 rfl ?_
      refine r_getR (pc := 79) h dX3_suitBest_79 f_X3_16 sh_0 rfl ?_
      refine r_iload_n (pc := 82) h dX3_suitBest_82 rfl ?_
      refine r_callVv (pc := 83) (As := [_]) h dX3_suitBest_83 k_X3_164 gc_9 rfl ⟨Nat.le_of_ble_eq_true rfl, Nat.le_of_ble_eq_true rfl, Nat.le_of_ble_eq_true rfl⟩ (c_X0_passDays_9 hT (put_gok ho hs) (by rw [(put_7 c i s).2.2.2]; omega)) (fun g2 hq => ?_)
      obtain ⟨hT, hF1⟩ := hq
      have hR := hR.f9 hF1
      have hX := hX.f9 hF1
      have hF := hF.tr (hF1.wide (by decide) (by decide))
      refine r_aload_n (pc := 86) h dX3_suitBest_86 rfl ?_
      refine r_getR (pc := 87) h dX3_suitBest_87 f_X3_16 sh_0 rfl ?_
      refine r_getR (pc := 90) h dX3_suitBest_90 f_X3_140 sh_9 rfl ?_
      refine r_iload_n (pc := 93) h dX3_suitBest_93 rfl ?_
      refine r_ialoadE (pc := 94) h dX3_suitBest_94 sh_15 (hT.sa hi9) ?_
      refine r_iload (pc := 95) h dX3_suitBest_95 rfl ?_
      refine r_icmp_le (pc := 97) (tgt := 115) h dX3_suitBest_97 (by decide) (fun c97 => ?_) (fun c97 => ?_)
      · have q : ¬ p.2 < daysC n (put c i s) 5 i := Nat.not_lt_of_le ((nI_leI (by omega) (by omega)).mp c97)
        have e : mxF (fun s => daysC n (put c i s) 5 i) s p = p := if_neg q
        refine r_iinc (pc := 115) (ls2 := [_, _, _, _, _, _, _, _]) h dX3_suitBest_115 rfl (ic1 _) rfl ?_
        refine r_goto (pc := 118) (tgt := 52) h dX3_suitBest_118 (by decide) ?_
        exact ih (s + 1) (mxF (fun s => daysC n (put c i s) 5 i) s p) g2 _ _ (by omega) hR hX hF (mxo e :) (mxn e :) (fun z hz => by rw [e] at hz; first | (cases hz; omega) | exact hpk z hz) (by rw [e]; first | exact hp6 | exact h5) hz
      · have q : p.2 < daysC n (put c i s) 5 i := Nat.lt_of_not_le fun z => c97 (nI_le z (by omega))
        have e : mxF (fun s => daysC n (put c i s) 5 i) s p = (some s, daysC n (put c i s) 5 i) := if_pos q
        refine r_aload_n (pc := 100) h dX3_suitBest_100 rfl ?_
        refine r_getR (pc := 101) h dX3_suitBest_101 f_X3_16 sh_0 rfl ?_
        refine r_getR (pc := 104) h dX3_suitBest_104 f_X3_140 sh_9 rfl ?_
        refine r_iload_n (pc := 107) h dX3_suitBest_107 rfl ?_
        refine r_ialoadE (pc := 108) h dX3_suitBest_108 sh_15 (hT.sa hi9) ?_
        refine r_istore (pc := 109) (ls2 := [_, _, _, _, _, _, _, _]) h dX3_suitBest_109 (Nat.le_of_ble_eq_true rfl) rfl ?_
        refine r_iload (pc := 111) h dX3_suitBest_111 rfl ?_
        refine r_istore (pc := 113) (ls2 := [_, _, _, _, _, _, _, _]) h dX3_suitBest_113 (Nat.le_of_ble_eq_true rfl) rfl ?_
        refine r_iinc (pc := 115) (ls2 := [_, _, _, _, _, _, _, _]) h dX3_suitBest_115 rfl (ic1 _) rfl ?_
        refine r_goto (pc := 118) (tgt := 52) h dX3_suitBest_118 (by decide) ?_
        exact ih (s + 1) (mxF (fun s => daysC n (put c i s) 5 i) s p) g2 _ _ (by omega) hR hX hF (mxo e :) (mxn e :) (fun z hz => by rw [e] at hz; first | (cases hz; omega) | exact hpk z hz) (by rw [e]; first | exact hp6 | exact h5) hz
  suffices H : ∀ g2 : gG, Rx1 g2 c → XSr g2 ck hk lt nl rv nr rf → frm 0 35 g g2 → G 0 [.ref 0, .int x, .int v, .int w, .null, .null, .null, .null] [] g2 from H g hR hX frm.rf
  intro g2 hR hX hF
  refine r_aload_n (pc := 0) h dX3_suitBest_0 rfl ?_
  refine r_iload_n (pc := 1) h dX3_suitBest_1 rfl ?_
  refine r_callVi (pc := 2) (As := [_]) h dX3_suitBest_2 k_X3_131 gc_0 rfl ⟨Nat.le_of_ble_eq_true rfl, Nat.le_of_ble_eq_true rfl, Nat.le_of_ble_eq_true rfl⟩ (c_X3_anyCaller hR x) (fun x_2 g2 hq => ?_)
  obtain ⟨rfl, rfl⟩ := hq
  refine r_iload_n (pc := 5) h dX3_suitBest_5 rfl ?_
  refine r_iconst (pc := 6) h dX3_suitBest_6 ci_0 ?_
  refine r_bipush (pc := 7) h dX3_suitBest_7 cb_30 ?_
  refine r_callSi (pc := 9) (As := [_, _, _]) h dX3_suitBest_9 k_X3_60 rfl ⟨Nat.le_of_ble_eq_true rfl, Nat.le_of_ble_eq_true rfl, Nat.le_of_ble_eq_true rfl⟩ (c_X3_range _ _ _) (fun x_9 g2 hq => ?_)
  obtain ⟨rfl, rfl⟩ := hq
  refine r_iload_n (pc := 12) h dX3_suitBest_12 rfl ?_
  refine r_iconst (pc := 13) h dX3_suitBest_13 ci_2 ?_
  refine r_callSi (pc := 14) (As := [_, _]) h dX3_suitBest_14 k_X3_101 rfl ⟨Nat.le_of_ble_eq_true rfl, Nat.le_of_ble_eq_true rfl, Nat.le_of_ble_eq_true rfl⟩ (c_X3_anyOf w 2) (fun x_14 g2 hq => ?_)
  obtain ⟨rfl, rfl⟩ := hq
  refine r_callSi (pc := 17) (As := [_, _, _]) h dX3_suitBest_17 k_X3_104 rfl ⟨Nat.le_of_ble_eq_true rfl, Nat.le_of_ble_eq_true rfl, Nat.le_of_ble_eq_true rfl⟩ (c_X3_firstOf _ _ _) (fun x_17 g2 hq => ?_)
  obtain ⟨rfl, rfl⟩ := hq
  refine r_istore (pc := 20) (ls2 := [_, _, _, _, _, _, _, _]) h dX3_suitBest_20 (Nat.le_of_ble_eq_true rfl) rfl ?_
  refine r_iload (pc := 22) h dX3_suitBest_22 rfl ?_
  refine r_if_eq (pc := 24) (tgt := 34) h dX3_suitBest_24 (by decide) (fun c24 => ?_) (fun c24 => ?_)
  · have hw : sbW c x v w = 0 := c24
    obtain ⟨w1, w2, w3⟩ := fst_0.mp hw
    obtain ⟨i, hi, hxi⟩ := cal_0 w1 hn5
    obtain ⟨n, -, hn, hvn⟩ := bnd_nat (by decide) (by decide) w2
    obtain ⟨k, hk2, hwk⟩ := any_0 (by decide) w3 (by decide)
    subst hxi; subst hvn; subst hwk
    refine r_bipush (pc := 34) h dX3_suitBest_34 cb_m9 ?_
    refine r_istore (pc := 36) (ls2 := [_, _, _, _, _, _, _, _]) h dX3_suitBest_36 (Nat.le_of_ble_eq_true rfl) rfl ?_
    refine r_aload_n (pc := 38) h dX3_suitBest_38 rfl ?_
    refine r_getR (pc := 39) h dX3_suitBest_39 f_X3_10 sh_0 rfl ?_
    refine r_getR (pc := 42) h dX3_suitBest_42 f_X3_140 sh_1 rfl ?_
    refine r_iload_n (pc := 45) h dX3_suitBest_45 rfl ?_
    refine r_ialoadE (pc := 46) h dX3_suitBest_46 sh_7 (hR.sa hi) ?_
    refine r_istore (pc := 47) (ls2 := [_, _, _, _, _, _, _, _]) h dX3_suitBest_47 (Nat.le_of_ble_eq_true rfl) rfl ?_
    refine r_iconst (pc := 49) h dX3_suitBest_49 ci_0 ?_
    refine r_istore (pc := 50) (ls2 := [_, _, _, _, _, _, _, _]) h dX3_suitBest_50 (Nat.le_of_ble_eq_true rfl) rfl ?_
    exact loop i n k hi hn hk2 hw rfl rfl rfl _ (c 7 0) 0 (none, c 5 i) _ _ _ (by omega) hR hX hF rfl rfl (fun z hz => by cases hz) (ho.2.2.2 i hi).2.2.1 rfl
  · have hw : ¬ sbW c x v w = 0 := c24
    have hok : okw (sbW c x v w) := okw_f (okw_cal c x) okw_n (okw_b okw_2)
    refine r_aload_n (pc := 27) h dX3_suitBest_27 rfl ?_
    refine r_iload (pc := 28) h dX3_suitBest_28 rfl ?_
    refine r_callVi (pc := 30) (As := [_]) h dX3_suitBest_30 k_X3_67 gc_0 rfl ⟨Nat.le_of_ble_eq_true rfl, Nat.le_of_ble_eq_true rfl, Nat.le_of_ble_eq_true rfl⟩ (c_X3_refuse (okw_in hok hw).1) (fun x_30 g2 hq => ?_)
    obtain ⟨rfl, rfl⟩ := hq
    refine r_ri t (pc := 33) dX3_suitBest_33 rfl ?_
    have hq := x_ref hR hX hok hw (v := sbA (sbV c x.toNatClampNeg v.toNatClampNeg) w.toNatClampNeg)
    exact ⟨hq.1, hq.2.1, hq.2.2.1, hF.tr hq.2.2.2⟩
set_option maxRecDepth 100000 in
set_option maxHeartbeats 4000000 in
theorem x_cheer (hR : Rx1 g c) (hX : XSr g ck hk lt nl rv nr rf) (ho : gok c) (hd : c 7 3 ≤ 999) (v : Int32) : gCi mX3_cheer [.ref 0, .int v] g (fun y g1 => y = ansI (bndI v (nI 0) (nI 30)) (oI (chV c v.toNatClampNeg).1) ∧ Rx1 g1 (c) ∧ XSr g1 ck hk lt nl rv nr (rfI rf (bndI v (nI 0) (nI 30))) ∧ frm 0 35 g g1) := by
  refine gCi_of (own := RX3) (ls0 := [.ref 0, .int v, .null, .null, .null, .null, .null]) ⟨rfl, pl_X3⟩ rfl (Nat.le_of_ble_eq_true rfl) (fun G (h : gR RX3 cX3_cheer 6 240 G) (t : gTi cX3_cheer .int _ G) => ?_)
  have hn5 := hR.n5
  have hn6 := hR.n6
  have loop : ∀ n, n ≤ 30 → bndI (nI n) (nI 0) (nI 30) = 0 → v = nI n → ∀ (v2 : Int32) m i (p : Option Nat × Nat) (g2 : gG) (b3 b4 : Int32) (v6 : Value), i + m = c 7 1 → Rx1 g2 c → XSr g2 ck hk lt nl rv nr rf → frm 0 35 g g2 → b4 = oI p.1 → b3 = nI p.2 → p.2 ≤ 30 → gfold (mxF (fun i => tot (daysC n (cup c 3 i (c 3 i - 3))))) m i p = chV c n → G 35 [.ref 0, .int (nI n), .int v2, .int b3, .int b4, .int (nI i), v6] [] g2 := by
    intro n hn hw hv v2 m
    subst hv
    have en : (nI n).toNatClampNeg = n := nI_clamp (by omega)
    induction m with
    | zero =>
      intro i p g2 b3 b4 v6 hi0 hR hX hF e4 e3 hp30 hz
      have hz : p = chV c n := hz
      subst e3; subst e4
      refine r_iload (pc := 35) h dX3_cheer_35 rfl ?_
      refine r_aload_n (pc := 37) h dX3_cheer_37 rfl ?_
      refine r_getR (pc := 38) h dX3_cheer_38 f_X3_10 sh_0 rfl ?_
      refine r_getE (pc := 41) h dX3_cheer_41 f_X3_191 sh_1 rfl (hR.nc) ?_
      refine r_icmp_ge (pc := 44) (tgt := 103) h dX3_cheer_44 (by decide) (fun c44 => ?_) (fun c44 => absurd (nI_le (by omega) (by omega)) c44)
      refine r_iload (pc := 103) h dX3_cheer_103 rfl ?_
      refine r_ri t (pc := 105) dX3_cheer_105 rfl ?_
      exact x_ok hR hX hF hw (by rw [en, ← hz])
    | succ m ih =>
      intro i p g2 b3 b4 v6 hi0 hR hX hF e4 e3 hp30 hz
      have hi : i < c 7 1 := by omega
      have hk4 := ho.2.2.2 i hi
      have hD := daysC_ok (gok_3 (i := i) (v := c 3 i - 3) ho (by omega)) n (by show c 7 3 + n ≤ 2000; omega)
      have h30 := tot_le hD.2.2.2 (by rw [hD.2.1]; exact hn5)
      subst e3; subst e4
      refine r_iload (pc := 35) h dX3_cheer_35 rfl ?_
      refine r_aload_n (pc := 37) h dX3_cheer_37 rfl ?_
      refine r_getR (pc := 38) h dX3_cheer_38 f_X3_10 sh_0 rfl ?_
      refine r_getE (pc := 41) h dX3_cheer_41 f_X3_191 sh_1 rfl (hR.nc) ?_
      refine r_icmp_ge (pc := 44) (tgt := 103) h dX3_cheer_44 (by decide) (fun c44 => absurd c44 (nI_ge hi (by omega))) (fun c44 => ?_)
      refine r_aload_n (pc := 47) h dX3_cheer_47 rfl ?_
      refine r_callVv (pc := 48) (As := []) h dX3_cheer_48 k_X3_78 gc_0 rfl ⟨Nat.le_of_ble_eq_true rfl, Nat.le_of_ble_eq_true rfl, Nat.le_of_ble_eq_true rfl⟩ (c_X3_think hR) (fun g2 hq => ?_)
      obtain ⟨hT, hF1⟩ := hq
      have hR := hR.f9 hF1
      have hX := hX.f9 hF1
      have hF := hF.tr (hF1.wide (by decide) (by decide))
      refine r_aload_n (pc := 51) h dX3_cheer_51 rfl ?_
      refine r_getR (pc := 52) h dX3_cheer_52 f_X3_16 sh_0 rfl ?_
      refine r_getR (pc := 55) h dX3_cheer_55 f_X3_134 sh_9 rfl ?_
      refine r_iload (pc := 58) h dX3_cheer_58 rfl ?_
      refine r_aload_n (pc := 60) h dX3_cheer_60 rfl ?_
      refine r_getR (pc := 61) h dX3_cheer_61 f_X3_10 sh_0 rfl ?_
      refine r_getR (pc := 64) h dX3_cheer_64 f_X3_134 sh_1 rfl ?_
      refine r_iload (pc := 67) h dX3_cheer_67 rfl ?_
      refine r_ialoadE (pc := 69) h dX3_cheer_69 sh_5 (hR.fe hi) ?_
      refine r_iconst (pc := 70) h dX3_cheer_70 ci_3 ?_
      refine r_isub (pc := 71) h dX3_cheer_71 ?_
      refine r_iconst (pc := 72) h dX3_cheer_72 ci_0 ?_
      refine r_mmax (pc := 73) h dX3_cheer_73 k_X3_88 ⟨Nat.le_of_ble_eq_true rfl, Nat.le_of_ble_eq_true rfl⟩ ?_
      refine r_top (y := nI (c 3 i - 3)) h (nI_low (by omega) (by decide)) ?_
      refine r_iastore (pc := 76) h dX3_cheer_76 sh_13 (hT.ci hi) ?_
      obtain ⟨hT, hF1⟩ := Rx9.wr (frm.rf (g := g2)) (hT.u_fe hi _) (by decide)
      have hR := hR.f9 hF1
      have hX := hX.f9 hF1
      have hF := hF.tr (hF1.wide (by decide) (by decide))
      generalize gup g2 13 _ _ = g2 at hT hF1 hR hX hF ⊢
      refine r_aload_n (pc := 77) h dX3_cheer_77 rfl ?_
      refine r_iload_n (pc := 78) h dX3_cheer_78 rfl ?_
      refine r_callVi (pc := 79) (As := [_]) h dX3_cheer_79 k_X3_177 gc_0 rfl ⟨Nat.le_of_ble_eq_true rfl, Nat.le_of_ble_eq_true rfl, Nat.le_of_ble_eq_true rfl⟩ (c_X3_allSaidBehind hT (gok_3 ho (by omega)) (by show c 7 3 + n ≤ 2000; omega)) (fun x_79 g2 hq => ?_)
      obtain ⟨rfl, hT, hF1⟩ := hq
      have hR := hR.f9 hF1
      have hX := hX.f9 hF1
      have hF := hF.tr (hF1.wide (by decide) (by decide))
      rw [tot_eq]
      refine r_istore (pc := 82) (ls2 := [_, _, _, _, _, _, _]) h dX3_cheer_82 (Nat.le_of_ble_eq_true rfl) rfl ?_
      refine r_iload (pc := 84) h dX3_cheer_84 rfl ?_
      refine r_iload_n (pc := 86) h dX3_cheer_86 rfl ?_
      refine r_icmp_le (pc := 87) (tgt := 97) h dX3_cheer_87 (by decide) (fun c87 => ?_) (fun c87 => ?_)
      · have e : mxF (fun i => tot (daysC n (cup c 3 i (c 3 i - 3)))) i p = p := if_neg (Nat.not_lt_of_le ((nI_leI (by omega) (by omega)).mp c87))
        refine r_iinc (pc := 97) (ls2 := [_, _, _, _, _, _, _]) h dX3_cheer_97 rfl (ic1 _) rfl ?_
        refine r_goto (pc := 100) (tgt := 35) h dX3_cheer_100 (by decide) ?_
        exact ih (i + 1) (mxF (fun i => tot (daysC n (cup c 3 i (c 3 i - 3)))) i p) g2 _ _ _ (by omega) hR hX hF (mxo e :) (mxn e :) (by rw [e]; first | exact hp30 | exact h30) hz
      · have e : mxF (fun i => tot (daysC n (cup c 3 i (c 3 i - 3)))) i p = (some i, tot (daysC n (cup c 3 i (c 3 i - 3)))) := if_pos (Nat.lt_of_not_le fun z => c87 (nI_le z (by omega)))
        refine r_iload (pc := 90) h dX3_cheer_90 rfl ?_
        refine r_istore_n (pc := 92) (ls2 := [_, _, _, _, _, _, _]) h dX3_cheer_92 (Nat.le_of_ble_eq_true rfl) rfl ?_
        refine r_iload (pc := 93) h dX3_cheer_93 rfl ?_
        refine r_istore (pc := 95) (ls2 := [_, _, _, _, _, _, _]) h dX3_cheer_95 (Nat.le_of_ble_eq_true rfl) rfl ?_
        refine r_iinc (pc := 97) (ls2 := [_, _, _, _, _, _, _]) h dX3_cheer_97 rfl (ic1 _) rfl ?_
        refine r_goto (pc := 100) (tgt := 35) h dX3_cheer_100 (by decide) ?_
        exact ih (i + 1) (mxF (fun i => tot (daysC n (cup c 3 i (c 3 i - 3)))) i p) g2 _ _ _ (by omega) hR hX hF (mxo e :) (mxn e :) (by rw [e]; first | exact hp30 | exact h30) hz
  suffices H : ∀ g2 : gG, Rx1 g2 c → XSr g2 ck hk lt nl rv nr rf → frm 0 35 g g2 → G 0 [.ref 0, .int v, .null, .null, .null, .null, .null] [] g2 from H g hR hX frm.rf
  intro g2 hR hX hF
  refine r_iload_n (pc := 0) h dX3_cheer_0 rfl ?_
  refine r_iconst (pc := 1) h dX3_cheer_1 ci_0 ?_
  refine r_bipush (pc := 2) h dX3_cheer_2 cb_30 ?_
  refine r_callSi (pc := 4) (As := [_, _, _]) h dX3_cheer_4 k_X3_60 rfl ⟨Nat.le_of_ble_eq_true rfl, Nat.le_of_ble_eq_true rfl, Nat.le_of_ble_eq_true rfl⟩ (c_X3_range _ _ _) (fun x_4 g2 hq => ?_)
  obtain ⟨rfl, rfl⟩ := hq
  refine r_istore_n (pc := 7) (ls2 := [_, _, _, _, _, _, _]) h dX3_cheer_7 (Nat.le_of_ble_eq_true rfl) rfl ?_
  refine r_iload_n (pc := 8) h dX3_cheer_8 rfl ?_
  refine r_if_eq (pc := 9) (tgt := 18) h dX3_cheer_9 (by decide) (fun c9 => ?_) (fun c9 => ?_)
  · have hw : bndI v (nI 0) (nI 30) = 0 := c9
    obtain ⟨n, -, hn, hvn⟩ := bnd_nat (by decide) (by decide) hw
    subst hvn
    refine r_aload_n (pc := 18) h dX3_cheer_18 rfl ?_
    refine r_callVv (pc := 19) (As := []) h dX3_cheer_19 k_X3_78 gc_0 rfl ⟨Nat.le_of_ble_eq_true rfl, Nat.le_of_ble_eq_true rfl, Nat.le_of_ble_eq_true rfl⟩ (c_X3_think hR) (fun g2 hq => ?_)
    obtain ⟨hT, hF1⟩ := hq
    have hR := hR.f9 hF1
    have hX := hX.f9 hF1
    have hF := hF.tr (hF1.wide (by decide) (by decide))
    refine r_aload_n (pc := 22) h dX3_cheer_22 rfl ?_
    refine r_iload_n (pc := 23) h dX3_cheer_23 rfl ?_
    refine r_callVi (pc := 24) (As := [_]) h dX3_cheer_24 k_X3_177 gc_0 rfl ⟨Nat.le_of_ble_eq_true rfl, Nat.le_of_ble_eq_true rfl, Nat.le_of_ble_eq_true rfl⟩ (c_X3_allSaidBehind hT ho (by omega)) (fun x_24 g2 hq => ?_)
    obtain ⟨rfl, hT, hF1⟩ := hq
    have hR := hR.f9 hF1
    have hX := hX.f9 hF1
    have hF := hF.tr (hF1.wide (by decide) (by decide))
    rw [tot_eq]
    refine r_istore_n (pc := 27) (ls2 := [_, _, _, _, _, _, _]) h dX3_cheer_27 (Nat.le_of_ble_eq_true rfl) rfl ?_
    refine r_bipush (pc := 28) h dX3_cheer_28 cb_m9 ?_
    refine r_istore (pc := 30) (ls2 := [_, _, _, _, _, _, _]) h dX3_cheer_30 (Nat.le_of_ble_eq_true rfl) rfl ?_
    refine r_iconst (pc := 32) h dX3_cheer_32 ci_0 ?_
    refine r_istore (pc := 33) (ls2 := [_, _, _, _, _, _, _]) h dX3_cheer_33 (Nat.le_of_ble_eq_true rfl) rfl ?_
    have hD := daysC_ok ho n (by omega)
    exact loop n hn hw rfl _ (c 7 1) 0 (none, tot (daysC n c)) _ _ _ _ (by omega) hR hX hF rfl rfl (tot_le hD.2.2.2 (by rw [hD.2.1]; exact hn5)) rfl
  · have hw : ¬ bndI v (nI 0) (nI 30) = 0 := c9
    refine r_aload_n (pc := 12) h dX3_cheer_12 rfl ?_
    refine r_iload_n (pc := 13) h dX3_cheer_13 rfl ?_
    refine r_callVi (pc := 14) (As := [_]) h dX3_cheer_14 k_X3_67 gc_0 rfl ⟨Nat.le_of_ble_eq_true rfl, Nat.le_of_ble_eq_true rfl, Nat.le_of_ble_eq_true rfl⟩ (c_X3_refuse (okw_in okw_n hw).1) (fun x_14 g2 hq => ?_)
    obtain ⟨rfl, rfl⟩ := hq
    refine r_ri t (pc := 17) dX3_cheer_17 rfl ?_
    have hq := x_ref hR hX okw_n hw (v := oI (chV c v.toNatClampNeg).1)
    exact ⟨hq.1, hq.2.1, hq.2.2.1, hF.tr hq.2.2.2⟩
end TX
