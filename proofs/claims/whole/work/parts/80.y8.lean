section TX
variable {g : gG} {c ck : gCt} {hk : Bool} {lt : Nat → Nat} {nl : Nat} {rv : Nat → Nat} {nr : Nat} {rf : Nat → Int32}
set_option maxRecDepth 100000 in
set_option maxHeartbeats 4000000 in
theorem y_rain (hR : Rm g c) (hX : MSr g ck hk lt nl rv nr rf) (ho : gok c) (hd : c 7 3 ≤ 999) (x n1 t1 v1 w : Int32) : gCl mX4_rain [.ref 35, .int x, .int n1, .int t1, .int v1, .int w] g (fun y g1 => y = ansL (rainW c x n1 t1 v1 w) (rainV c x.toNatClampNeg n1.toNatClampNeg t1.toNatClampNeg v1.toNatClampNeg w.toNatClampNeg) ∧ Rm g1 c ∧ MSr g1 ck hk lt nl rv nr (rfI rf (rainW c x n1 t1 v1 w)) ∧ frm 35 58 g g1) := by
  refine gCl_of (own := RX4) (ls0 := [.ref 35, .int x, .int n1, .int t1, .int v1, .int w, .null, .null, .null, .null, .null, .null, .null, .null, .null]) ⟨rfl, pl_X4⟩ rfl (Nat.le_of_ble_eq_true rfl) (fun G (h : gR RX4 cX4_rain 5 200 G) (tt : gTl cX4_rain _ G) => ?_)
  have hn5 := hR.n5
  have hn6 := hR.n6
  have main : ∀ i n t d k, i < c 7 1 → n ≤ 7 → 2 ≤ t ∧ t ≤ 20 → d ≤ 6 → k < 2 → rainW c (nI i) (nI n) (nI t) (nI d) (nI k) = 0 → x = nI i → n1 = nI n → t1 = nI t → v1 = nI d → w = nI k → ∀ (a6 : Int32) q j (g2 : gG), j + q = n → Rm g2 c → tfX g g2 → G 94 [.ref 35, .int (nI i), .int (nI n), .int (nI t), .int (nI d), .int (nI k), .int a6, .long (lN 0), .null, .long (lN (t ^ j)), .null, .int (nI j), .null, .null, .null] [] g2 := by
    intro i n t d k hi hn ht hd6 hk2 hw hx e1 e2 e3 e4 a6
    subst hx; subst e1; subst e2; subst e3; subst e4
    have ei : (nI i).toNatClampNeg = i := nI_clamp (by omega)
    have en : (nI n).toNatClampNeg = n := nI_clamp (by omega)
    have et : (nI t).toNatClampNeg = t := nI_clamp (by omega)
    have ed : (nI d).toNatClampNeg = d := nI_clamp (by omega)
    have ek : (nI k).toNatClampNeg = k := nI_clamp (by omega)
    have hp := pw_n n (by omega)
    have hSl : rnS c i n t d < 2 ^ 62 := rnS_lt ht.2 hn
    have loopB : ∀ q m S (v12 v13 v14 : Value) (g2 : gG), m + q = 2 ^ n → Rm g2 c → tfX g g2 → gfold (rnF c i n t d) q m S = rnS c i n t d → G 116 [.ref 35, .int (nI i), .int (nI n), .int (nI t), .int (nI d), .int (nI k), .int a6, .long (lN S), .null, .long (lN (t ^ n)), .null, .int (nI m), v12, v13, v14] [] g2 := by
      intro q
      induction q with
      | zero =>
        intro m S v12 v13 v14 g2 hm0 hR hF hz
        have hz : S = rnS c i n t d := hz
        subst hz
        refine r_iload (pc := 116) h dX4_rain_116 rfl ?_
        refine r_iconst (pc := 118) h dX4_rain_118 ci_1 ?_
        refine r_iload_n (pc := 119) h dX4_rain_119 rfl ?_
        refine r_ishl (pc := 120) h dX4_rain_120 ?_
        refine r_top (y := nI (2 ^ n)) h (sh_n n (by omega)) ?_
        refine r_icmp_ge (pc := 121) (tgt := 219) h dX4_rain_121 (by decide) (fun c121 => ?_) (fun c121 => absurd (nI_le (by omega) (by omega)) c121)
        refine r_lload (pc := 219) h dX4_rain_219 rfl ?_
        refine r_lload (pc := 221) h dX4_rain_221 rfl ?_
        refine r_iload (pc := 223) h dX4_rain_223 rfl ?_
        refine r_callSl (pc := 225) (As := [_, _, _]) h dX4_rain_225 k_X4_291 rfl ⟨Nat.le_of_ble_eq_true rfl, Nat.le_of_ble_eq_true rfl, Nat.le_of_ble_eq_true rfl⟩ (c_X4_partOf hSl (tn_lt ht.2 hn) (Nat.pow_pos (by omega)) hk2) (fun x_225 g2 hq => ?_)
        obtain ⟨rfl, rfl⟩ := hq
        refine r_rl tt (pc := 228) dX4_rain_228 ?_
        exact y_okL hR (hX.tx hF) hF.frm hw (by rw [ei, en, et, ed, ek]; rfl)
      | succ q ih =>
        intro m S v12 v13 v14 g2 hm0 hR hF hz
        have hm : m < 2 ^ n := by omega
        have h6 := sir_le ho hi m (n := n) (by omega)
        have inner : ∀ r j (e0 : gCt) a (g2 : gG), j + r = n → Rm g2 e0 → tfX g g2 → Rk g2 84 c → gok e0 → e0 7 1 = c 7 1 → e0 7 3 = c 7 3 + j → agr i e0 (rnE c i j m) → gfold (wayF t m) r j a = way n t m → G 134 [.ref 35, .int (nI i), .int (nI n), .int (nI t), .int (nI d), .int (nI k), .int a6, .long (lN S), .null, .long (lN (t ^ n)), .null, .int (nI m), .long (lN a), .null, .int (nI j)] [] g2 := by
          intro r
          induction r with
          | zero =>
            intro j e0 a g2 hj0 hR hF hK ok e1 e3 hag hy
            have hy : a = way n t m := hy
            have ejn : j = n := by omega
            have hi9 : i < e0 7 1 := by rw [e1]; exact hi
            have e5 : e0 5 i = sir c i n m := by rw [ejn] at hag; exact hag.2.1.2.2.1
            refine r_iload (pc := 134) h dX4_rain_134 rfl ?_
            refine r_iload_n (pc := 136) h dX4_rain_136 rfl ?_
            refine r_icmp_ge (pc := 137) (tgt := 187) h dX4_rain_137 (by decide) (fun c137 => ?_) (fun c137 => absurd (nI_le (by omega) (by omega)) c137)
            refine r_lload (pc := 187) h dX4_rain_187 rfl ?_
            refine r_aload_n (pc := 189) h dX4_rain_189 rfl ?_
            refine r_getR (pc := 190) h dX4_rain_190 f_X4_28 sh_35 rfl ?_
            refine r_iload_n (pc := 193) h dX4_rain_193 rfl ?_
            refine r_ialoadE (pc := 194) h dX4_rain_194 sh_42 (hR.sa hi9) ?_
            refine r_iload (pc := 195) h dX4_rain_195 rfl ?_
            refine r_icmp_lt (pc := 197) (tgt := 205) h dX4_rain_197 (by decide) (fun c197 => ?_) (fun c197 => ?_)
            · have q : ¬ d ≤ sir c i n m := Nat.not_le_of_lt (by rw [← e5]; exact (nI_ltI (by omega) (by omega)).mp c197)
              have e : rnF c i n t d m S = S + 0 := if_neg q
              refine r_lconst (v := lN 0) (pc := 205) h dX4_rain_205 rfl ?_
              refine r_ladd (pc := 206) h dX4_rain_206 ?_
              refine r_topl h (lN_add _ _) ?_
              refine r_lstore (pc := 207) (ls2 := [_, _, _, _, _, _, _, _, _, _, _, _, _, _, _]) h dX4_rain_207 (Nat.le_of_ble_eq_true rfl) rfl ?_
              refine r_aload_n (pc := 209) h dX4_rain_209 rfl ?_
              refine r_callVv (pc := 210) (As := []) h dX4_rain_210 k_X4_222 gc_35 rfl ⟨Nat.le_of_ble_eq_true rfl, Nat.le_of_ble_eq_true rfl, Nat.le_of_ble_eq_true rfl⟩ (c_X4_forgets hK) (fun g2 hq => ?_)
              obtain ⟨hR, hF1⟩ := hq
              have hF1 := hF1.tf
              have hF := hF.tr hF1.tx
              refine r_iinc (pc := 213) (ls2 := [_, _, _, _, _, _, _, _, _, _, _, _, _, _, _]) h dX4_rain_213 rfl (ic1 _) rfl ?_
              refine r_goto (pc := 216) (tgt := 116) h dX4_rain_216 (by decide) ?_
              exact ih (m + 1) _ _ _ _ g2 (by omega) hR hF (by rw [← e]; exact hz)
            · have q : d ≤ sir c i n m := by rw [← e5]; exact Nat.le_of_not_lt fun z => c197 (nI_lt z (by omega))
              have e : rnF c i n t d m S = S + a := by rw [hy]; exact if_pos q
              refine r_lload (pc := 200) h dX4_rain_200 rfl ?_
              refine r_goto (pc := 202) (tgt := 206) h dX4_rain_202 (by decide) ?_
              refine r_ladd (pc := 206) h dX4_rain_206 ?_
              refine r_topl h (lN_add _ _) ?_
              refine r_lstore (pc := 207) (ls2 := [_, _, _, _, _, _, _, _, _, _, _, _, _, _, _]) h dX4_rain_207 (Nat.le_of_ble_eq_true rfl) rfl ?_
              refine r_aload_n (pc := 209) h dX4_rain_209 rfl ?_
              refine r_callVv (pc := 210) (As := []) h dX4_rain_210 k_X4_222 gc_35 rfl ⟨Nat.le_of_ble_eq_true rfl, Nat.le_of_ble_eq_true rfl, Nat.le_of_ble_eq_true rfl⟩ (c_X4_forgets hK) (fun g2 hq => ?_)
              obtain ⟨hR, hF1⟩ := hq
              have hF1 := hF1.tf
              have hF := hF.tr hF1.tx
              refine r_iinc (pc := 213) (ls2 := [_, _, _, _, _, _, _, _, _, _, _, _, _, _, _]) h dX4_rain_213 rfl (ic1 _) rfl ?_
              refine r_goto (pc := 216) (tgt := 116) h dX4_rain_216 (by decide) ?_
              exact ih (m + 1) _ _ _ _ g2 (by omega) hR hF (by rw [← e]; exact hz)
          | succ r ih2 =>
            intro j e0 a g2 hj0 hR hF hK ok e1 e3 hag hy
            have hj : j < n := by omega
            have hi9 : i < e0 7 1 := by rw [e1]; exact hi
            have oR := rnR_ok ok m j
            have oD := dayC_ok oR.2.2.2 (by rw [oR.2.2.1]; omega)
            have day : ∀ (g2 : gG) a2, a2 = wayF t m j a → Rm g2 (rnR m j e0) → tfX g g2 → Rk g2 84 c → G 177 [.ref 35, .int (nI i), .int (nI n), .int (nI t), .int (nI d), .int (nI k), .int a6, .long (lN S), .null, .long (lN (t ^ n)), .null, .int (nI m), .long (lN a2), .null, .int (nI j)] [] g2 := by
              intro g2 a2 hy2 hR hF hK
              have hy : gfold (wayF t m) r (j + 1) a2 = way n t m := by rw [hy2]; exact hy
              refine r_aload_n (pc := 177) h dX4_rain_177 rfl ?_
              refine r_callVv (pc := 178) (As := []) h dX4_rain_178 k_X4_200 gc_35 rfl ⟨Nat.le_of_ble_eq_true rfl, Nat.le_of_ble_eq_true rfl, Nat.le_of_ble_eq_true rfl⟩ (c_X4_goesDay hR oR.2.2.2 (by rw [oR.2.2.1]; omega)) (fun g2 hq => ?_)
              obtain ⟨hR, hF1⟩ := hq
              have hK := hK.fm hF1
              have hF1 := hF1.tf
              have hF := hF.tr hF1.tx
              refine r_iinc (pc := 181) (ls2 := [_, _, _, _, _, _, _, _, _, _, _, _, _, _, _]) h dX4_rain_181 rfl (ic1 _) rfl ?_
              refine r_goto (pc := 184) (tgt := 134) h dX4_rain_184 (by decide) ?_
              exact ih2 (j + 1) (dayC (rnR m j e0)) a2 g2 (by omega) hR hF hK oD.2.2.2 (by rw [oD.2.1, oR.2.1, e1]) (by rw [oD.2.2.1, oR.2.2.1, e3]; omega) (agr_rnE hag hi9) hy
            refine r_iload (pc := 134) h dX4_rain_134 rfl ?_
            refine r_iload_n (pc := 136) h dX4_rain_136 rfl ?_
            refine r_icmp_ge (pc := 137) (tgt := 187) h dX4_rain_137 (by decide) (fun c137 => absurd c137 (nI_ge hj (by omega))) (fun c137 => ?_)
            refine r_lload (pc := 140) h dX4_rain_140 rfl ?_
            refine r_iload (pc := 142) h dX4_rain_142 rfl ?_
            refine r_iload (pc := 144) h dX4_rain_144 rfl ?_
            refine r_callSi (pc := 146) (As := [_, _]) h dX4_rain_146 k_X4_237 rfl ⟨Nat.le_of_ble_eq_true rfl, Nat.le_of_ble_eq_true rfl, Nat.le_of_ble_eq_true rfl⟩ (c_X4_has _ _) (fun x_146 g2 hq => ?_)
            rw [has_bt (by omega) (by omega)] at hq
            obtain ⟨rfl, rfl⟩ := hq
            refine r_if_eq (pc := 149) (tgt := 156) h dX4_rain_149 (by decide) (fun c149 => ?_) (fun c149 => ?_)
            · have hb : bt m j = false := (bI_0 (bt m j)).mp c149
              refine r_iload_n (pc := 156) h dX4_rain_156 rfl ?_
              refine r_iconst (pc := 157) h dX4_rain_157 ci_1 ?_
              refine r_isub (pc := 158) h dX4_rain_158 ?_
              refine r_top (y := nI (t - 1)) h (nI_sub (by omega)) ?_
              refine r_i2l (pc := 159) h dX4_rain_159 ?_
              refine r_topl (y := lN (t - 1)) h (i2l_nI (by omega)) ?_
              skip
              refine r_lmul (pc := 160) h dX4_rain_160 ?_
              refine r_topl h (lN_mul _ _) ?_
              refine r_lstore (pc := 161) (ls2 := [_, _, _, _, _, _, _, _, _, _, _, _, _, _, _]) h dX4_rain_161 (Nat.le_of_ble_eq_true rfl) rfl ?_
              refine r_iload (pc := 163) h dX4_rain_163 rfl ?_
              refine r_iload (pc := 165) h dX4_rain_165 rfl ?_
              refine r_callSi (pc := 167) (As := [_, _]) h dX4_rain_167 k_X4_237 rfl ⟨Nat.le_of_ble_eq_true rfl, Nat.le_of_ble_eq_true rfl, Nat.le_of_ble_eq_true rfl⟩ (c_X4_has _ _) (fun x_167 g2 hq => ?_)
              rw [has_bt (by omega) (by omega)] at hq
              obtain ⟨rfl, rfl⟩ := hq
              refine r_if_eq (pc := 170) (tgt := 177) h dX4_rain_170 (by decide) (fun c170 => ?_) (fun c170 => absurd ((bI_0 _).mpr hb) c170)
              have eR : rnR m j e0 = e0 := by unfold rnR; rw [if_neg (by rw [hb]; decide)]
              rw [← eR] at hR
              have e : wayF t m j a = a * (t - 1) := by unfold wayF; rw [if_neg (by rw [hb]; decide)]
              exact day g2 _ e.symm hR hF hK
            · have hb : bt m j = true := by simpa using mt (bI_0 (bt m j)).mpr c149
              refine r_lconst (v := lN 1) (pc := 152) h dX4_rain_152 rfl ?_
              refine r_goto (pc := 153) (tgt := 160) h dX4_rain_153 (by decide) ?_
              skip
              refine r_lmul (pc := 160) h dX4_rain_160 ?_
              refine r_topl h (lN_mul _ _) ?_
              refine r_lstore (pc := 161) (ls2 := [_, _, _, _, _, _, _, _, _, _, _, _, _, _, _]) h dX4_rain_161 (Nat.le_of_ble_eq_true rfl) rfl ?_
              refine r_iload (pc := 163) h dX4_rain_163 rfl ?_
              refine r_iload (pc := 165) h dX4_rain_165 rfl ?_
              refine r_callSi (pc := 167) (As := [_, _]) h dX4_rain_167 k_X4_237 rfl ⟨Nat.le_of_ble_eq_true rfl, Nat.le_of_ble_eq_true rfl, Nat.le_of_ble_eq_true rfl⟩ (c_X4_has _ _) (fun x_167 g2 hq => ?_)
              rw [has_bt (by omega) (by omega)] at hq
              obtain ⟨rfl, rfl⟩ := hq
              refine r_if_eq (pc := 170) (tgt := 177) h dX4_rain_170 (by decide) (fun c170 => absurd c170 (fun z => absurd ((bI_0 _).mp z) (by rw [hb]; decide))) (fun c170 => ?_)
              refine r_aload_n (pc := 173) h dX4_rain_173 rfl ?_
              refine r_callVv (pc := 174) (As := []) h dX4_rain_174 k_X4_288 gc_35 rfl ⟨Nat.le_of_ble_eq_true rfl, Nat.le_of_ble_eq_true rfl, Nat.le_of_ble_eq_true rfl⟩ (c_X4_rains hR ok) (fun g2 hq => ?_)
              obtain ⟨hR, hF1⟩ := hq
              have hK := hK.fm hF1
              have hF1 := hF1.tf
              have hF := hF.tr hF1.tx
              have eR : rnR m j e0 = rainC e0 := by unfold rnR; rw [if_pos hb]
              rw [← eR] at hR
              have e : wayF t m j a = a * 1 := by unfold wayF; rw [if_pos hb, Nat.mul_one]
              exact day g2 _ e.symm hR hF hK
        refine r_iload (pc := 116) h dX4_rain_116 rfl ?_
        refine r_iconst (pc := 118) h dX4_rain_118 ci_1 ?_
        refine r_iload_n (pc := 119) h dX4_rain_119 rfl ?_
        refine r_ishl (pc := 120) h dX4_rain_120 ?_
        refine r_top (y := nI (2 ^ n)) h (sh_n n (by omega)) ?_
        refine r_icmp_ge (pc := 121) (tgt := 219) h dX4_rain_121 (by decide) (fun c121 => absurd c121 (nI_ge hm (by omega))) (fun c121 => ?_)
        refine r_aload_n (pc := 124) h dX4_rain_124 rfl ?_
        refine r_callVv (pc := 125) (As := []) h dX4_rain_125 k_X4_219 gc_35 rfl ⟨Nat.le_of_ble_eq_true rfl, Nat.le_of_ble_eq_true rfl, Nat.le_of_ble_eq_true rfl⟩ (c_X4_thinks hR) (fun g2 hq => ?_)
        obtain ⟨hK, hF1⟩ := hq
        have hR := hR.kf hF1
        have hF1 := hF1.tf
        have hF := hF.tr hF1.tx
        refine r_lconst (v := lN 1) (pc := 128) h dX4_rain_128 rfl ?_
        refine r_lstore (pc := 129) (ls2 := [_, _, _, _, _, _, _, _, _, _, _, _, _, _, _]) h dX4_rain_129 (Nat.le_of_ble_eq_true rfl) rfl ?_
        refine r_iconst (pc := 131) h dX4_rain_131 ci_0 ?_
        refine r_istore (pc := 132) (ls2 := [_, _, _, _, _, _, _, _, _, _, _, _, _, _, _]) h dX4_rain_132 (Nat.le_of_ble_eq_true rfl) rfl ?_
        exact inner n 0 c 1 g2 (by omega) hR hF hK ho rfl rfl agr_rf rfl
    intro q
    induction q with
    | zero =>
      intro j g2 hj0 hR hF
      refine r_iload (pc := 94) h dX4_rain_94 rfl ?_
      refine r_iload_n (pc := 96) h dX4_rain_96 rfl ?_
      refine r_icmp_ge (pc := 97) (tgt := 113) h dX4_rain_97 (by decide) (fun c97 => ?_) (fun c97 => absurd (nI_le (by omega) (by omega)) c97)
      refine r_iconst (pc := 113) h dX4_rain_113 ci_0 ?_
      refine r_istore (pc := 114) (ls2 := [_, _, _, _, _, _, _, _, _, _, _, _, _, _, _]) h dX4_rain_114 (Nat.le_of_ble_eq_true rfl) rfl ?_
      have ejn : j = n := by omega
      subst ejn
      exact loopB (2 ^ j) 0 0 _ _ _ g2 (by omega) hR hF rfl
    | succ q ih =>
      intro j g2 hj0 hR hF
      have hj : j < n := by omega
      refine r_iload (pc := 94) h dX4_rain_94 rfl ?_
      refine r_iload_n (pc := 96) h dX4_rain_96 rfl ?_
      refine r_icmp_ge (pc := 97) (tgt := 113) h dX4_rain_97 (by decide) (fun c97 => absurd c97 (nI_ge hj (by omega))) (fun c97 => ?_)
      refine r_lload (pc := 100) h dX4_rain_100 rfl ?_
      refine r_iload_n (pc := 102) h dX4_rain_102 rfl ?_
      refine r_i2l (pc := 103) h dX4_rain_103 ?_
      refine r_topl (y := lN t) h (i2l_nI (by omega)) ?_
      refine r_lmul (pc := 104) h dX4_rain_104 ?_
      refine r_topl (y := lN (t ^ (j + 1))) h (by rw [lN_mul, Nat.pow_succ]) ?_
      refine r_lstore (pc := 105) (ls2 := [_, _, _, _, _, _, _, _, _, _, _, _, _, _, _]) h dX4_rain_105 (Nat.le_of_ble_eq_true rfl) rfl ?_
      refine r_iinc (pc := 107) (ls2 := [_, _, _, _, _, _, _, _, _, _, _, _, _, _, _]) h dX4_rain_107 rfl (ic1 _) rfl ?_
      refine r_goto (pc := 110) (tgt := 94) h dX4_rain_110 (by decide) ?_
      exact ih (j + 1) g2 (by omega) hR hF
  suffices H : ∀ g2 : gG, Rm g2 c → tfX g g2 → G 0 [.ref 35, .int x, .int n1, .int t1, .int v1, .int w, .null, .null, .null, .null, .null, .null, .null, .null, .null] [] g2 from H g hR tfX.rf
  intro g2 hR hF
  refine r_aload_n (pc := 0) h dX4_rain_0 rfl ?_
  refine r_iload_n (pc := 1) h dX4_rain_1 rfl ?_
  refine r_callVi (pc := 2) (As := [_]) h dX4_rain_2 k_X4_112 gc_35 rfl ⟨Nat.le_of_ble_eq_true rfl, Nat.le_of_ble_eq_true rfl, Nat.le_of_ble_eq_true rfl⟩ (c_X4_isCaller hR x) (fun x_2 g2 hq => ?_)
  obtain ⟨rfl, rfl⟩ := hq
  refine r_if_ne (pc := 5) (tgt := 12) h dX4_rain_5 (by decide) (fun c5 => ?_) (fun c5 => ?_)
  · have hb : inB x (c 7 1) = true := by simpa using mt (bI_0 (inB x (c 7 1))).mpr c5
    have hc : calW c x = 0 := by unfold calW whyB; rw [if_pos hb]; rfl
    refine r_iload_n (pc := 12) h dX4_rain_12 rfl ?_
    refine r_if_lt (pc := 13) (tgt := 26) h dX4_rain_13 (by decide) (fun c13 => ?_) (fun c13 => ?_)
    · have hw : ¬ (-4 : Int32) = 0 := by decide
      have hok : okw (-4) := okw_4
      have hr : rnW n1 t1 v1 = -4 := by unfold rnW; rw [if_pos (Or.inl c13)]
      have ew : rainW c x n1 t1 v1 w = -4 := by unfold rainW fstI; rw [if_pos hc, hr]; rfl
      refine r_bipush (pc := 26) h dX4_rain_26 cb_m4 ?_
      refine r_goto (pc := 28) (tgt := 71) h dX4_rain_28 (by decide) ?_
      refine r_istore (pc := 71) (ls2 := [_, _, _, _, _, _, _, _, _, _, _, _, _, _, _]) h dX4_rain_71 (Nat.le_of_ble_eq_true rfl) rfl ?_
      refine r_iload (pc := 73) h dX4_rain_73 rfl ?_
      refine r_if_eq (pc := 75) (tgt := 85) h dX4_rain_75 (by decide) (fun c75 => absurd c75 (by decide)) (fun c75 => ?_)
      refine r_aload_n (pc := 78) h dX4_rain_78 rfl ?_
      refine r_iload (pc := 79) h dX4_rain_79 rfl ?_
      refine r_callVl (pc := 81) (As := [_]) h dX4_rain_81 k_X4_284 gc_35 rfl ⟨Nat.le_of_ble_eq_true rfl, Nat.le_of_ble_eq_true rfl, Nat.le_of_ble_eq_true rfl⟩ (c_X4_lowestOf (okw_in hok hw).1) (fun x_81 g2 hq => ?_)
      obtain ⟨rfl, rfl⟩ := hq
      refine r_rl tt (pc := 84) dX4_rain_84 ?_
      rw [ew]
      exact y_refL hR (hX.tx hF) hF.frm hok hw
    · refine r_iload (pc := 16) h dX4_rain_16 rfl ?_
      refine r_if_lt (pc := 18) (tgt := 26) h dX4_rain_18 (by decide) (fun c18 => ?_) (fun c18 => ?_)
      · have hw : ¬ (-4 : Int32) = 0 := by decide
        have hok : okw (-4) := okw_4
        have hr : rnW n1 t1 v1 = -4 := by unfold rnW; rw [if_pos (Or.inr (Or.inl c18))]
        have ew : rainW c x n1 t1 v1 w = -4 := by unfold rainW fstI; rw [if_pos hc, hr]; rfl
        refine r_bipush (pc := 26) h dX4_rain_26 cb_m4 ?_
        refine r_goto (pc := 28) (tgt := 71) h dX4_rain_28 (by decide) ?_
        refine r_istore (pc := 71) (ls2 := [_, _, _, _, _, _, _, _, _, _, _, _, _, _, _]) h dX4_rain_71 (Nat.le_of_ble_eq_true rfl) rfl ?_
        refine r_iload (pc := 73) h dX4_rain_73 rfl ?_
        refine r_if_eq (pc := 75) (tgt := 85) h dX4_rain_75 (by decide) (fun c75 => absurd c75 (by decide)) (fun c75 => ?_)
        refine r_aload_n (pc := 78) h dX4_rain_78 rfl ?_
        refine r_iload (pc := 79) h dX4_rain_79 rfl ?_
        refine r_callVl (pc := 81) (As := [_]) h dX4_rain_81 k_X4_284 gc_35 rfl ⟨Nat.le_of_ble_eq_true rfl, Nat.le_of_ble_eq_true rfl, Nat.le_of_ble_eq_true rfl⟩ (c_X4_lowestOf (okw_in hok hw).1) (fun x_81 g2 hq => ?_)
        obtain ⟨rfl, rfl⟩ := hq
        refine r_rl tt (pc := 84) dX4_rain_84 ?_
        rw [ew]
        exact y_refL hR (hX.tx hF) hF.frm hok hw
      · refine r_iload_n (pc := 21) h dX4_rain_21 rfl ?_
        refine r_iconst (pc := 22) h dX4_rain_22 ci_2 ?_
        refine r_icmp_ge (pc := 23) (tgt := 31) h dX4_rain_23 (by decide) (fun c23 => ?_) (fun c23 => ?_)
        · have hA : ¬ (n1 < 0 ∨ v1 < 0 ∨ t1 < nI 2) := fun q => q.elim c13 (fun q => q.elim c18 (fun q => absurd c23 (Int32.not_le.mpr q)))
          refine r_iload_n (pc := 31) h dX4_rain_31 rfl ?_
          refine r_bipush (pc := 32) h dX4_rain_32 cb_7 ?_
          refine r_icmp_gt (pc := 34) (tgt := 50) h dX4_rain_34 (by decide) (fun c34 => ?_) (fun c34 => ?_)
          · have hw : ¬ (-6 : Int32) = 0 := by decide
            have hok : okw (-6) := okw_6
            have hr : rnW n1 t1 v1 = -6 := by unfold rnW; rw [if_neg hA, if_pos (Or.inl c34)]
            have ew : rainW c x n1 t1 v1 w = -6 := by unfold rainW fstI; rw [if_pos hc, hr]; rfl
            refine r_bipush (pc := 50) h dX4_rain_50 cb_m6 ?_
            refine r_goto (pc := 52) (tgt := 71) h dX4_rain_52 (by decide) ?_
            refine r_istore (pc := 71) (ls2 := [_, _, _, _, _, _, _, _, _, _, _, _, _, _, _]) h dX4_rain_71 (Nat.le_of_ble_eq_true rfl) rfl ?_
            refine r_iload (pc := 73) h dX4_rain_73 rfl ?_
            refine r_if_eq (pc := 75) (tgt := 85) h dX4_rain_75 (by decide) (fun c75 => absurd c75 (by decide)) (fun c75 => ?_)
            refine r_aload_n (pc := 78) h dX4_rain_78 rfl ?_
            refine r_iload (pc := 79) h dX4_rain_79 rfl ?_
            refine r_callVl (pc := 81) (As := [_]) h dX4_rain_81 k_X4_284 gc_35 rfl ⟨Nat.le_of_ble_eq_true rfl, Nat.le_of_ble_eq_true rfl, Nat.le_of_ble_eq_true rfl⟩ (c_X4_lowestOf (okw_in hok hw).1) (fun x_81 g2 hq => ?_)
            obtain ⟨rfl, rfl⟩ := hq
            refine r_rl tt (pc := 84) dX4_rain_84 ?_
            rw [ew]
            exact y_refL hR (hX.tx hF) hF.frm hok hw
          · refine r_iload_n (pc := 37) h dX4_rain_37 rfl ?_
            refine r_bipush (pc := 38) h dX4_rain_38 cb_20 ?_
            refine r_icmp_gt (pc := 40) (tgt := 50) h dX4_rain_40 (by decide) (fun c40 => ?_) (fun c40 => ?_)
            · have hw : ¬ (-6 : Int32) = 0 := by decide
              have hok : okw (-6) := okw_6
              have hr : rnW n1 t1 v1 = -6 := by unfold rnW; rw [if_neg hA, if_pos (Or.inr (Or.inl c40))]
              have ew : rainW c x n1 t1 v1 w = -6 := by unfold rainW fstI; rw [if_pos hc, hr]; rfl
              refine r_bipush (pc := 50) h dX4_rain_50 cb_m6 ?_
              refine r_goto (pc := 52) (tgt := 71) h dX4_rain_52 (by decide) ?_
              refine r_istore (pc := 71) (ls2 := [_, _, _, _, _, _, _, _, _, _, _, _, _, _, _]) h dX4_rain_71 (Nat.le_of_ble_eq_true rfl) rfl ?_
              refine r_iload (pc := 73) h dX4_rain_73 rfl ?_
              refine r_if_eq (pc := 75) (tgt := 85) h dX4_rain_75 (by decide) (fun c75 => absurd c75 (by decide)) (fun c75 => ?_)
              refine r_aload_n (pc := 78) h dX4_rain_78 rfl ?_
              refine r_iload (pc := 79) h dX4_rain_79 rfl ?_
              refine r_callVl (pc := 81) (As := [_]) h dX4_rain_81 k_X4_284 gc_35 rfl ⟨Nat.le_of_ble_eq_true rfl, Nat.le_of_ble_eq_true rfl, Nat.le_of_ble_eq_true rfl⟩ (c_X4_lowestOf (okw_in hok hw).1) (fun x_81 g2 hq => ?_)
              obtain ⟨rfl, rfl⟩ := hq
              refine r_rl tt (pc := 84) dX4_rain_84 ?_
              rw [ew]
              exact y_refL hR (hX.tx hF) hF.frm hok hw
            · refine r_iload (pc := 43) h dX4_rain_43 rfl ?_
              refine r_bipush (pc := 45) h dX4_rain_45 cb_6 ?_
              refine r_icmp_le (pc := 47) (tgt := 55) h dX4_rain_47 (by decide) (fun c47 => ?_) (fun c47 => ?_)
              · have hr : rnW n1 t1 v1 = 0 := by unfold rnW; rw [if_neg hA, if_neg (fun q => q.elim c34 (fun q => q.elim c40 (fun q => absurd c47 (Int32.not_le.mpr q))))]; rfl
                refine r_iload (pc := 55) h dX4_rain_55 rfl ?_
                refine r_iconst (pc := 57) h dX4_rain_57 ci_0 ?_
                refine r_iconst (pc := 58) h dX4_rain_58 ci_1 ?_
                refine r_callSi (pc := 59) (As := [_, _, _]) h dX4_rain_59 k_X4_88 rfl ⟨Nat.le_of_ble_eq_true rfl, Nat.le_of_ble_eq_true rfl, Nat.le_of_ble_eq_true rfl⟩ (c_X4_isIn _ _ _) (fun x_59 g2 hq => ?_)
                rw [isIn_inB (by decide)] at hq
                obtain ⟨rfl, rfl⟩ := hq
                refine r_if_ne (pc := 62) (tgt := 70) h dX4_rain_62 (by decide) (fun c62 => ?_) (fun c62 => ?_)
                · have hb2 : inB w (1 + 1) = true := by simpa using mt (bI_0 (inB w (1 + 1))).mpr c62
                  have hw : rainW c x n1 t1 v1 w = 0 := fst_0.mpr ⟨hc, hr, by unfold whyB; rw [if_pos hb2]; rfl⟩
                  obtain ⟨i, hi, hxi⟩ := (inB_iff (by omega)).mp hb
                  obtain ⟨n, t_, d, hn, ht1, ht2, hd6, e1, e2, e3⟩ := rn_0 hr
                  obtain ⟨k, hk2, hwk⟩ := (inB_iff (by decide)).mp hb2
                  subst hxi; subst e1; subst e2; subst e3; subst hwk
                  refine r_iconst (pc := 70) h dX4_rain_70 ci_0 ?_
                  refine r_istore (pc := 71) (ls2 := [_, _, _, _, _, _, _, _, _, _, _, _, _, _, _]) h dX4_rain_71 (Nat.le_of_ble_eq_true rfl) rfl ?_
                  refine r_iload (pc := 73) h dX4_rain_73 rfl ?_
                  refine r_if_eq (pc := 75) (tgt := 85) h dX4_rain_75 (by decide) (fun c75 => ?_) (fun c75 => absurd (rfl) c75)
                  refine r_lconst (v := lN 0) (pc := 85) h dX4_rain_85 rfl ?_
                  refine r_lstore (pc := 86) (ls2 := [_, _, _, _, _, _, _, _, _, _, _, _, _, _, _]) h dX4_rain_86 (Nat.le_of_ble_eq_true rfl) rfl ?_
                  refine r_lconst (v := lN 1) (pc := 88) h dX4_rain_88 rfl ?_
                  refine r_lstore (pc := 89) (ls2 := [_, _, _, _, _, _, _, _, _, _, _, _, _, _, _]) h dX4_rain_89 (Nat.le_of_ble_eq_true rfl) rfl ?_
                  refine r_iconst (pc := 91) h dX4_rain_91 ci_0 ?_
                  refine r_istore (pc := 92) (ls2 := [_, _, _, _, _, _, _, _, _, _, _, _, _, _, _]) h dX4_rain_92 (Nat.le_of_ble_eq_true rfl) rfl ?_
                  exact main i n t_ d k hi hn ⟨ht1, ht2⟩ hd6 hk2 hw rfl rfl rfl rfl rfl _ n 0 g2 (by omega) hR hF
                · have hb2 : inB w (1 + 1) = false := (bI_0 (inB w (1 + 1))).mp c62
                  have hw : ¬ (-2 : Int32) = 0 := by decide
                  have hok : okw (-2) := okw_2
                  have ew : rainW c x n1 t1 v1 w = -2 := by unfold rainW fstI; rw [if_pos hc, if_pos hr]; unfold whyB; rw [show inB w 2 = false from hb2]; rfl
                  refine r_bipush (pc := 65) h dX4_rain_65 cb_m2 ?_
                  refine r_goto (pc := 67) (tgt := 71) h dX4_rain_67 (by decide) ?_
                  refine r_istore (pc := 71) (ls2 := [_, _, _, _, _, _, _, _, _, _, _, _, _, _, _]) h dX4_rain_71 (Nat.le_of_ble_eq_true rfl) rfl ?_
                  refine r_iload (pc := 73) h dX4_rain_73 rfl ?_
                  refine r_if_eq (pc := 75) (tgt := 85) h dX4_rain_75 (by decide) (fun c75 => absurd c75 (by decide)) (fun c75 => ?_)
                  refine r_aload_n (pc := 78) h dX4_rain_78 rfl ?_
                  refine r_iload (pc := 79) h dX4_rain_79 rfl ?_
                  refine r_callVl (pc := 81) (As := [_]) h dX4_rain_81 k_X4_284 gc_35 rfl ⟨Nat.le_of_ble_eq_true rfl, Nat.le_of_ble_eq_true rfl, Nat.le_of_ble_eq_true rfl⟩ (c_X4_lowestOf (okw_in hok hw).1) (fun x_81 g2 hq => ?_)
                  obtain ⟨rfl, rfl⟩ := hq
                  refine r_rl tt (pc := 84) dX4_rain_84 ?_
                  rw [ew]
                  exact y_refL hR (hX.tx hF) hF.frm hok hw
              · have hw : ¬ (-6 : Int32) = 0 := by decide
                have hok : okw (-6) := okw_6
                have hr : rnW n1 t1 v1 = -6 := by unfold rnW; rw [if_neg hA, if_pos (Or.inr (Or.inr (Int32.not_le.mp c47)))]
                have ew : rainW c x n1 t1 v1 w = -6 := by unfold rainW fstI; rw [if_pos hc, hr]; rfl
                refine r_bipush (pc := 50) h dX4_rain_50 cb_m6 ?_
                refine r_goto (pc := 52) (tgt := 71) h dX4_rain_52 (by decide) ?_
                refine r_istore (pc := 71) (ls2 := [_, _, _, _, _, _, _, _, _, _, _, _, _, _, _]) h dX4_rain_71 (Nat.le_of_ble_eq_true rfl) rfl ?_
                refine r_iload (pc := 73) h dX4_rain_73 rfl ?_
                refine r_if_eq (pc := 75) (tgt := 85) h dX4_rain_75 (by decide) (fun c75 => absurd c75 (by decide)) (fun c75 => ?_)
                refine r_aload_n (pc := 78) h dX4_rain_78 rfl ?_
                refine r_iload (pc := 79) h dX4_rain_79 rfl ?_
                refine r_callVl (pc := 81) (As := [_]) h dX4_rain_81 k_X4_284 gc_35 rfl ⟨Nat.le_of_ble_eq_true rfl, Nat.le_of_ble_eq_true rfl, Nat.le_of_ble_eq_true rfl⟩ (c_X4_lowestOf (okw_in hok hw).1) (fun x_81 g2 hq => ?_)
                obtain ⟨rfl, rfl⟩ := hq
                refine r_rl tt (pc := 84) dX4_rain_84 ?_
                rw [ew]
                exact y_refL hR (hX.tx hF) hF.frm hok hw
        · have hw : ¬ (-4 : Int32) = 0 := by decide
          have hok : okw (-4) := okw_4
          have hr : rnW n1 t1 v1 = -4 := by unfold rnW; rw [if_pos (Or.inr (Or.inr (Int32.not_le.mp c23)))]
          have ew : rainW c x n1 t1 v1 w = -4 := by unfold rainW fstI; rw [if_pos hc, hr]; rfl
          refine r_bipush (pc := 26) h dX4_rain_26 cb_m4 ?_
          refine r_goto (pc := 28) (tgt := 71) h dX4_rain_28 (by decide) ?_
          refine r_istore (pc := 71) (ls2 := [_, _, _, _, _, _, _, _, _, _, _, _, _, _, _]) h dX4_rain_71 (Nat.le_of_ble_eq_true rfl) rfl ?_
          refine r_iload (pc := 73) h dX4_rain_73 rfl ?_
          refine r_if_eq (pc := 75) (tgt := 85) h dX4_rain_75 (by decide) (fun c75 => absurd c75 (by decide)) (fun c75 => ?_)
          refine r_aload_n (pc := 78) h dX4_rain_78 rfl ?_
          refine r_iload (pc := 79) h dX4_rain_79 rfl ?_
          refine r_callVl (pc := 81) (As := [_]) h dX4_rain_81 k_X4_284 gc_35 rfl ⟨Nat.le_of_ble_eq_true rfl, Nat.le_of_ble_eq_true rfl, Nat.le_of_ble_eq_true rfl⟩ (c_X4_lowestOf (okw_in hok hw).1) (fun x_81 g2 hq => ?_)
          obtain ⟨rfl, rfl⟩ := hq
          refine r_rl tt (pc := 84) dX4_rain_84 ?_
          rw [ew]
          exact y_refL hR (hX.tx hF) hF.frm hok hw
  · have hb : inB x (c 7 1) = false := (bI_0 (inB x (c 7 1))).mp c5
    have hw : ¬ (-1 : Int32) = 0 := by decide
    have hok : okw (-1) := okw_1
    have ew : rainW c x n1 t1 v1 w = -1 := by unfold rainW calW whyB fstI; rw [hb]; rfl
    refine r_iconst (pc := 8) h dX4_rain_8 ci_m1 ?_
    refine r_goto (pc := 9) (tgt := 71) h dX4_rain_9 (by decide) ?_
    refine r_istore (pc := 71) (ls2 := [_, _, _, _, _, _, _, _, _, _, _, _, _, _, _]) h dX4_rain_71 (Nat.le_of_ble_eq_true rfl) rfl ?_
    refine r_iload (pc := 73) h dX4_rain_73 rfl ?_
    refine r_if_eq (pc := 75) (tgt := 85) h dX4_rain_75 (by decide) (fun c75 => absurd c75 (by decide)) (fun c75 => ?_)
    refine r_aload_n (pc := 78) h dX4_rain_78 rfl ?_
    refine r_iload (pc := 79) h dX4_rain_79 rfl ?_
    refine r_callVl (pc := 81) (As := [_]) h dX4_rain_81 k_X4_284 gc_35 rfl ⟨Nat.le_of_ble_eq_true rfl, Nat.le_of_ble_eq_true rfl, Nat.le_of_ble_eq_true rfl⟩ (c_X4_lowestOf (okw_in hok hw).1) (fun x_81 g2 hq => ?_)
    obtain ⟨rfl, rfl⟩ := hq
    refine r_rl tt (pc := 84) dX4_rain_84 ?_
    rw [ew]
    exact y_refL hR (hX.tx hF) hF.frm hok hw
end TX
