section TX
variable {g : gG} {c ck : gCt} {hk : Bool} {lt : Nat → Nat} {nl : Nat} {rv : Nat → Nat} {nr : Nat} {rf : Nat → Int32}
set_option maxRecDepth 100000 in
set_option maxHeartbeats 4000000 in
theorem c_X3_partOf {g : gG} {a b k : Nat} (ha : a < 2 ^ 62) (hb : b < 2 ^ 62) (h0 : 0 < b) (hk : k < 2) : gCl mX3_partOf [.long (lN a), .long (lN b), .int (nI k)] g (fun y g1 => y = lN (ptN a b k) ∧ g1 = g) := by
  refine gCl_of (own := RX3) (ls0 := [.long (lN a), .null, .long (lN b), .null, .int (nI k), .null, .null, .null, .null, .null, .null, .null]) ⟨rfl, pl_X3⟩ rfl (Nat.le_of_ble_eq_true rfl) (fun G (h : gR RX3 cX3_partOf 0 0 G) (t : gTl cX3_partOf _ G) => ?_)
  have ex : ∀ s p v10 v11, s < 200 → p < 2 ^ 62 → p = Nat.gcd a b → G 9 [.long (lN a), .null, .long (lN b), .null, .int (nI k), .long (lN p), .null, .long (lN 0), .null, .int (nI s), v10, v11] [] g := by
    intro s p v10 v11 hs hp hg
    have hp0 : 0 < p := by rw [hg]; exact Nat.gcd_pos_of_pos_right a h0
    refine r_iload (pc := 9) h dX3_partOf_9 rfl ?_
    refine r_sipush (pc := 11) h dX3_partOf_11 cs_200 ?_
    refine r_icmp_ge (pc := 14) (tgt := 45) h dX3_partOf_14 (by decide) (fun c14 => absurd c14 (nI_ge hs (by decide))) (fun c14 => ?_)
    refine r_lload (pc := 17) h dX3_partOf_17 rfl ?_
    refine r_lconst (v := lN 0) (pc := 19) h dX3_partOf_19 rfl ?_
    refine r_lcmp (pc := 20) h dX3_partOf_20 ?_
    refine r_if_eq (pc := 21) (tgt := 45) h dX3_partOf_21 (by decide) (fun c21 => ?_) (fun c21 => absurd ((lcmp0 (by decide)).mpr rfl) c21)
    refine r_lload (pc := 45) h dX3_partOf_45 rfl ?_
    refine r_lconst (v := lN 0) (pc := 47) h dX3_partOf_47 rfl ?_
    refine r_lcmp (pc := 48) h dX3_partOf_48 ?_
    refine r_if_ne (pc := 49) (tgt := 56) h dX3_partOf_49 (by decide) (fun c49 => ?_) (fun c49 => absurd c49 (fun q => absurd ((lcmp0 (by omega)).mp q) (by omega)))
    refine r_iload (pc := 56) h dX3_partOf_56 rfl ?_
    refine r_if_ne (pc := 58) (tgt := 68) h dX3_partOf_58 (by decide) (fun c58 => ?_) (fun c58 => ?_)
    · have k0 : ¬ k = 0 := fun q => c58 (by rw [q]; rfl)
      refine r_lload_n (pc := 68) h dX3_partOf_68 rfl ?_
      refine r_lload (pc := 69) h dX3_partOf_69 rfl ?_
      refine r_ldiv (pc := 71) h dX3_partOf_71 (lN_n0 hp0 (by omega)) ?_
      refine r_rl t (pc := 72) dX3_partOf_72 ?_
      exact ⟨by rw [pk_lDiv (by omega) hp0 (by omega)]; unfold ptN; rw [if_neg k0, hg], rfl⟩
    · have k0 : k = 0 := (nI_eq0 (by omega)).mp c58
      refine r_lload_n (pc := 61) h dX3_partOf_61 rfl ?_
      refine r_lload (pc := 62) h dX3_partOf_62 rfl ?_
      refine r_ldiv (pc := 64) h dX3_partOf_64 (lN_n0 hp0 (by omega)) ?_
      refine r_goto (pc := 65) (tgt := 72) h dX3_partOf_65 (by decide) ?_
      refine r_rl t (pc := 72) dX3_partOf_72 ?_
      exact ⟨by rw [pk_lDiv (by omega) hp0 (by omega)]; unfold ptN; rw [if_pos k0, hg], rfl⟩
  have loop : ∀ m s p q v10 v11, s + m = 126 → (s = 0 ∧ p * q < 2 ^ (m - 1) ∨ q ≤ p ∧ p * q < 2 ^ m) → p < 2 ^ 62 → q < 2 ^ 62 → Nat.gcd p q = Nat.gcd a b → G 9 [.long (lN a), .null, .long (lN b), .null, .int (nI k), .long (lN p), .null, .long (lN q), .null, .int (nI s), v10, v11] [] g := by
    intro m
    induction m with
    | zero =>
      intro s p q v10 v11 hs hI hp hq hg
      have hq0 : q = 0 := by
        rcases hI with hI | hI
        · omega
        · exact eu0 hI.1 hI.2
      subst hq0
      exact ex s p v10 v11 (by omega) hp (by rw [← hg]; exact (Nat.gcd_zero_right p).symm)
    | succ m ih =>
      intro s p q v10 v11 hs hI hp hq hg
      by_cases hq0 : q = 0
      · subst hq0
        exact ex s p v10 v11 (by omega) hp (by rw [← hg]; exact (Nat.gcd_zero_right p).symm)
      have hE := eu1 (p := p) (q := q) (m := m) (by omega) (hI.imp (fun z => z.2) id)
      refine r_iload (pc := 9) h dX3_partOf_9 rfl ?_
      refine r_sipush (pc := 11) h dX3_partOf_11 cs_200 ?_
      refine r_icmp_ge (pc := 14) (tgt := 45) h dX3_partOf_14 (by decide) (fun c14 => absurd c14 (nI_ge (show s < 200 by omega) (by decide))) (fun c14 => ?_)
      refine r_lload (pc := 17) h dX3_partOf_17 rfl ?_
      refine r_lconst (v := lN 0) (pc := 19) h dX3_partOf_19 rfl ?_
      refine r_lcmp (pc := 20) h dX3_partOf_20 ?_
      refine r_if_eq (pc := 21) (tgt := 45) h dX3_partOf_21 (by decide) (fun c21 => absurd c21 (fun z => absurd ((lcmp0 (by omega)).mp z) hq0)) (fun c21 => ?_)
      refine r_lload (pc := 24) h dX3_partOf_24 rfl ?_
      refine r_lload (pc := 26) h dX3_partOf_26 rfl ?_
      refine r_lrem (pc := 28) h dX3_partOf_28 (lN_n0 (by omega) (by omega)) ?_
      refine r_topl (y := lN (p % q)) h (pk_lRem (by omega) (by omega) (by omega)) ?_
      refine r_lstore (pc := 29) (ls2 := [_, _, _, _, _, _, _, _, _, _, _, _]) h dX3_partOf_29 (Nat.le_of_ble_eq_true rfl) rfl ?_
      refine r_lload (pc := 31) h dX3_partOf_31 rfl ?_
      refine r_lstore (pc := 33) (ls2 := [_, _, _, _, _, _, _, _, _, _, _, _]) h dX3_partOf_33 (Nat.le_of_ble_eq_true rfl) rfl ?_
      refine r_lload (pc := 35) h dX3_partOf_35 rfl ?_
      refine r_lstore (pc := 37) (ls2 := [_, _, _, _, _, _, _, _, _, _, _, _]) h dX3_partOf_37 (Nat.le_of_ble_eq_true rfl) rfl ?_
      refine r_iinc (pc := 39) (ls2 := [_, _, _, _, _, _, _, _, _, _, _, _]) h dX3_partOf_39 rfl (ic1 _) rfl ?_
      refine r_goto (pc := 42) (tgt := 9) h dX3_partOf_42 (by decide) ?_
      exact ih (s + 1) q (p % q) _ _ (by omega) (Or.inr hE) hq (by have := Nat.mod_lt p (show 0 < q by omega); omega) ((gcd_st p q).trans hg)
  have hab : a * b < 2 ^ 125 := by
    have h1 : a * b ≤ 2 ^ 62 * b := Nat.mul_le_mul_right b (by omega)
    have h2 : 2 ^ 62 * b ≤ 2 ^ 62 * 2 ^ 62 := Nat.mul_le_mul_left _ (by omega)
    have h3 : (2 : Nat) ^ 62 * 2 ^ 62 < 2 ^ 125 := by decide
    omega
  refine r_lload_n (pc := 0) h dX3_partOf_0 rfl ?_
  refine r_lstore (pc := 1) (ls2 := [_, _, _, _, _, _, _, _, _, _, _, _]) h dX3_partOf_1 (Nat.le_of_ble_eq_true rfl) rfl ?_
  refine r_lload_n (pc := 3) h dX3_partOf_3 rfl ?_
  refine r_lstore (pc := 4) (ls2 := [_, _, _, _, _, _, _, _, _, _, _, _]) h dX3_partOf_4 (Nat.le_of_ble_eq_true rfl) rfl ?_
  refine r_iconst (pc := 6) h dX3_partOf_6 ci_0 ?_
  refine r_istore (pc := 7) (ls2 := [_, _, _, _, _, _, _, _, _, _, _, _]) h dX3_partOf_7 (Nat.le_of_ble_eq_true rfl) rfl ?_
  exact loop 126 0 a b _ _ rfl (Or.inl ⟨rfl, hab⟩) ha hb rfl
set_option maxRecDepth 100000 in
set_option maxHeartbeats 4000000 in
theorem c_X3_saidInRain {g : gG} {c : gCt} (hR : Rx1 g c) (ho : gok c) (hd : c 7 3 ≤ 999) {i n m : Nat} (hi : i < c 7 1) (hn : n ≤ 7) (hm : m < 128) : gCi mX3_saidInRain [.ref 0, .int (nI i), .int (nI n), .int (nI m)] g (fun y g1 => y = nI (sir c i n m) ∧ frm 9 17 g g1) := by
  refine gCi_of (own := RX3) (ls0 := [.ref 0, .int (nI i), .int (nI n), .int (nI m), .null]) ⟨rfl, pl_X3⟩ rfl (Nat.le_of_ble_eq_true rfl) (fun G (h : gR RX3 cX3_saidInRain 5 200 G) (t : gTi cX3_saidInRain .int _ G) => ?_)
  have loop : ∀ q j (d : gCt) (g2 : gG), j + q = n → Rx9 g2 d → gok d → d 7 1 = c 7 1 → d 7 3 = c 7 3 + j → frm 9 17 g g2 → gfold (rnD i m) q j d = gfold (rnD i m) n 0 c → G 7 [.ref 0, .int (nI i), .int (nI n), .int (nI m), .int (nI j)] [] g2 := by
    intro q
    induction q with
    | zero =>
      intro j d g2 hj0 hT ok e1 e3 hF hz
      have hi9 : i < d 7 1 := by rw [e1]; exact hi
      refine r_iload (pc := 7) h dX3_saidInRain_7 rfl ?_
      refine r_iload_n (pc := 9) h dX3_saidInRain_9 rfl ?_
      refine r_icmp_ge (pc := 10) (tgt := 44) h dX3_saidInRain_10 (by decide) (fun c10 => ?_) (fun c10 => absurd (nI_le (by omega) (by omega)) c10)
      refine r_aload_n (pc := 44) h dX3_saidInRain_44 rfl ?_
      refine r_getR (pc := 45) h dX3_saidInRain_45 f_X3_16 sh_0 rfl ?_
      refine r_getR (pc := 48) h dX3_saidInRain_48 f_X3_140 sh_9 rfl ?_
      refine r_iload_n (pc := 51) h dX3_saidInRain_51 rfl ?_
      refine r_ialoadE (pc := 52) h dX3_saidInRain_52 sh_15 (hT.sa hi9) ?_
      refine r_ri t (pc := 53) dX3_saidInRain_53 rfl ?_
      exact ⟨by unfold sir rnE; rw [← hz]; rfl, hF⟩
    | succ q ih =>
      intro j d g2 hj0 hT ok e1 e3 hF hz
      have hj : j < n := by omega
      have hi9 : i < d 7 1 := by rw [e1]; exact hi
      have oR := rnR_ok ok m j
      have oD := rnD_ok ok (i := i) hi9 (by omega) m j
      have day : ∀ g2 : gG, Rx9 g2 (rnR m j d) → frm 9 17 g g2 → G 30 [.ref 0, .int (nI i), .int (nI n), .int (nI m), .int (nI j)] [] g2 := by
        intro g2 hT hF
        refine r_aload_n (pc := 30) h dX3_saidInRain_30 rfl ?_
        refine r_getR (pc := 31) h dX3_saidInRain_31 f_X3_16 sh_0 rfl ?_
        refine r_iload_n (pc := 34) h dX3_saidInRain_34 rfl ?_
        refine r_callVv (pc := 35) (As := [_]) h dX3_saidInRain_35 k_X3_239 gc_9 rfl ⟨Nat.le_of_ble_eq_true rfl, Nat.le_of_ble_eq_true rfl, Nat.le_of_ble_eq_true rfl⟩ (c_X0_passDayOf_9 hT oR.2.2.2 (by rw [oR.2.1]; exact hi9) (by rw [oR.2.2.1]; omega)) (fun g2 hq => ?_)
        obtain ⟨hT, hF1⟩ := hq
        have hF := hF.tr hF1
        have hT : Rx9 g2 (rnD i m j d) := hT
        refine r_iinc (pc := 38) (ls2 := [_, _, _, _, _]) h dX3_saidInRain_38 rfl (ic1 _) rfl ?_
        refine r_goto (pc := 41) (tgt := 7) h dX3_saidInRain_41 (by decide) ?_
        exact ih (j + 1) (rnD i m j d) g2 (by omega) hT oD.2.2.2 (oD.2.1.trans e1) (by rw [oD.2.2.1, e3]; omega) hF hz
      refine r_iload (pc := 7) h dX3_saidInRain_7 rfl ?_
      refine r_iload_n (pc := 9) h dX3_saidInRain_9 rfl ?_
      refine r_icmp_ge (pc := 10) (tgt := 44) h dX3_saidInRain_10 (by decide) (fun c10 => absurd c10 (nI_ge hj (by omega))) (fun c10 => ?_)
      refine r_iload_n (pc := 13) h dX3_saidInRain_13 rfl ?_
      refine r_iload (pc := 14) h dX3_saidInRain_14 rfl ?_
      refine r_ishr (pc := 16) h dX3_saidInRain_16 ?_
      refine r_iconst (pc := 17) h dX3_saidInRain_17 ci_1 ?_
      refine r_iand (pc := 18) h dX3_saidInRain_18 ?_
      refine r_iconst (pc := 19) h dX3_saidInRain_19 ci_1 ?_
      refine r_icmp_ne (pc := 20) (tgt := 30) h dX3_saidInRain_20 (by decide) (fun c20 => ?_) (fun c20 => ?_)
      · have hb : bt m j = false := by simpa using mt (bt_1 j (by omega) m hm).mpr c20
        have e : rnR m j d = d := by unfold rnR; rw [if_neg (by rw [hb]; decide)]
        exact day g2 (by rw [e]; exact hT) hF
      · have hb : bt m j = true := (bt_1 j (by omega) m hm).mp c20
        refine r_aload_n (pc := 23) h dX3_saidInRain_23 rfl ?_
        refine r_getR (pc := 24) h dX3_saidInRain_24 f_X3_16 sh_0 rfl ?_
        refine r_callVv (pc := 27) (As := []) h dX3_saidInRain_27 k_X3_236 gc_9 rfl ⟨Nat.le_of_ble_eq_true rfl, Nat.le_of_ble_eq_true rfl, Nat.le_of_ble_eq_true rfl⟩ (c_X0_rainOnAll_9 hT ok) (fun g2 hq => ?_)
        obtain ⟨hT, hF1⟩ := hq
        have hF := hF.tr hF1
        have e : rnR m j d = rainC d := by unfold rnR; rw [if_pos hb]
        exact day g2 (by rw [e]; exact hT) hF
  refine r_aload_n (pc := 0) h dX3_saidInRain_0 rfl ?_
  refine r_callVv (pc := 1) (As := []) h dX3_saidInRain_1 k_X3_78 gc_0 rfl ⟨Nat.le_of_ble_eq_true rfl, Nat.le_of_ble_eq_true rfl, Nat.le_of_ble_eq_true rfl⟩ (c_X3_think hR) (fun g2 hq => ?_)
  obtain ⟨hT, hF⟩ := hq
  refine r_iconst (pc := 4) h dX3_saidInRain_4 ci_0 ?_
  refine r_istore (pc := 5) (ls2 := [_, _, _, _, _]) h dX3_saidInRain_5 (Nat.le_of_ble_eq_true rfl) rfl ?_
  exact loop n 0 c g2 (by omega) hT ho rfl rfl hF rfl
set_option maxRecDepth 100000 in
set_option maxHeartbeats 4000000 in
theorem c_X3_waysOfRain {g : gG} {n t m : Nat} (hn : n ≤ 7) (ht : 2 ≤ t ∧ t ≤ 20) (hm : m < 128) : gCl mX3_waysOfRain [.int (nI n), .int (nI t), .int (nI m)] g (fun y g1 => y = lN (way n t m) ∧ g1 = g) := by
  refine gCl_of (own := RX3) (ls0 := [.int (nI n), .int (nI t), .int (nI m), .null, .null, .null]) ⟨rfl, pl_X3⟩ rfl (Nat.le_of_ble_eq_true rfl) (fun G (h : gR RX3 cX3_waysOfRain 0 0 G) (tt : gTl cX3_waysOfRain _ G) => ?_)
  have loop : ∀ q j a, j + q = n → gfold (wayF t m) q j a = way n t m → G 5 [.int (nI n), .int (nI t), .int (nI m), .long (lN a), .null, .int (nI j)] [] g := by
    intro q
    induction q with
    | zero =>
      intro j a hj0 hz
      have hz : a = way n t m := hz
      refine r_iload (pc := 5) h dX3_waysOfRain_5 rfl ?_
      refine r_iload_n (pc := 7) h dX3_waysOfRain_7 rfl ?_
      refine r_icmp_ge (pc := 8) (tgt := 33) h dX3_waysOfRain_8 (by decide) (fun c8 => ?_) (fun c8 => absurd (nI_le (by omega) (by omega)) c8)
      refine r_lload_n (pc := 33) h dX3_waysOfRain_33 rfl ?_
      refine r_rl tt (pc := 34) dX3_waysOfRain_34 ?_
      exact ⟨by rw [hz], rfl⟩
    | succ q ih =>
      intro j a hj0 hz
      have hj : j < n := by omega
      refine r_iload (pc := 5) h dX3_waysOfRain_5 rfl ?_
      refine r_iload_n (pc := 7) h dX3_waysOfRain_7 rfl ?_
      refine r_icmp_ge (pc := 8) (tgt := 33) h dX3_waysOfRain_8 (by decide) (fun c8 => absurd c8 (nI_ge hj (by omega))) (fun c8 => ?_)
      refine r_iload_n (pc := 11) h dX3_waysOfRain_11 rfl ?_
      refine r_iload (pc := 12) h dX3_waysOfRain_12 rfl ?_
      refine r_ishr (pc := 14) h dX3_waysOfRain_14 ?_
      refine r_iconst (pc := 15) h dX3_waysOfRain_15 ci_1 ?_
      refine r_iand (pc := 16) h dX3_waysOfRain_16 ?_
      refine r_if_ne (pc := 17) (tgt := 27) h dX3_waysOfRain_17 (by decide) (fun c17 => ?_) (fun c17 => ?_)
      · have hb : bt m j = true := by simpa using mt (bt_0 j (by omega) m hm).mpr c17
        refine r_iinc (pc := 27) (ls2 := [_, _, _, _, _, _]) h dX3_waysOfRain_27 rfl (ic1 _) rfl ?_
        refine r_goto (pc := 30) (tgt := 5) h dX3_waysOfRain_30 (by decide) ?_
        have e : wayF t m j a = a := by unfold wayF; rw [if_pos hb]
        exact ih (j + 1) _ (by omega) (by rw [← e]; exact hz)
      · have hb : bt m j = false := (bt_0 j (by omega) m hm).mp c17
        refine r_lload_n (pc := 20) h dX3_waysOfRain_20 rfl ?_
        refine r_iload_n (pc := 21) h dX3_waysOfRain_21 rfl ?_
        refine r_iconst (pc := 22) h dX3_waysOfRain_22 ci_1 ?_
        refine r_isub (pc := 23) h dX3_waysOfRain_23 ?_
        refine r_top (y := nI (t - 1)) h (nI_sub (by omega)) ?_
        refine r_i2l (pc := 24) h dX3_waysOfRain_24 ?_
        refine r_topl (y := lN (t - 1)) h (i2l_nI (by omega)) ?_
        refine r_lmul (pc := 25) h dX3_waysOfRain_25 ?_
        refine r_topl (y := lN (a * (t - 1))) h (lN_mul _ _) ?_
        refine r_lstore_n (pc := 26) (ls2 := [_, _, _, _, _, _]) h dX3_waysOfRain_26 (Nat.le_of_ble_eq_true rfl) rfl ?_
        refine r_iinc (pc := 27) (ls2 := [_, _, _, _, _, _]) h dX3_waysOfRain_27 rfl (ic1 _) rfl ?_
        refine r_goto (pc := 30) (tgt := 5) h dX3_waysOfRain_30 (by decide) ?_
        have e : wayF t m j a = a * (t - 1) := by unfold wayF; rw [if_neg (by rw [hb]; decide)]
        exact ih (j + 1) _ (by omega) (by rw [← e]; exact hz)
  refine r_lconst (v := lN 1) (pc := 0) h dX3_waysOfRain_0 rfl ?_
  refine r_lstore_n (pc := 1) (ls2 := [_, _, _, _, _, _]) h dX3_waysOfRain_1 (Nat.le_of_ble_eq_true rfl) rfl ?_
  refine r_iconst (pc := 2) h dX3_waysOfRain_2 ci_0 ?_
  refine r_istore (pc := 3) (ls2 := [_, _, _, _, _, _]) h dX3_waysOfRain_3 (Nat.le_of_ble_eq_true rfl) rfl ?_
  exact loop n 0 1 (by omega) rfl
set_option maxRecDepth 100000 in
set_option maxHeartbeats 4000000 in
theorem x_rain (hR : Rx1 g c) (hX : XSr g ck hk lt nl rv nr rf) (ho : gok c) (hd : c 7 3 ≤ 999) (x n1 t1 v1 w : Int32) : gCl mX3_rain [.ref 0, .int x, .int n1, .int t1, .int v1, .int w] g (fun y g1 => y = ansL (rainW c x n1 t1 v1 w) (rainV c x.toNatClampNeg n1.toNatClampNeg t1.toNatClampNeg v1.toNatClampNeg w.toNatClampNeg) ∧ Rx1 g1 c ∧ XSr g1 ck hk lt nl rv nr (rfI rf (rainW c x n1 t1 v1 w)) ∧ frm 0 35 g g1) := by
  refine gCl_of (own := RX3) (ls0 := [.ref 0, .int x, .int n1, .int t1, .int v1, .int w, .null, .null, .null, .null, .null, .null]) ⟨rfl, pl_X3⟩ rfl (Nat.le_of_ble_eq_true rfl) (fun G (h : gR RX3 cX3_rain 6 240 G) (tt : gTl cX3_rain _ G) => ?_)
  have hn5 := hR.n5
  have hn6 := hR.n6
  have main : ∀ i n t d k, i < c 7 1 → n ≤ 7 → 2 ≤ t ∧ t ≤ 20 → d ≤ 6 → k < 2 → rainW c (nI i) (nI n) (nI t) (nI d) (nI k) = 0 → x = nI i → n1 = nI n → t1 = nI t → v1 = nI d → w = nI k → ∀ (a6 : Int32) q j (g2 : gG), j + q = n → Rx1 g2 c → XSr g2 ck hk lt nl rv nr rf → frm 0 35 g g2 → G 46 [.ref 0, .int (nI i), .int (nI n), .int (nI t), .int (nI d), .int (nI k), .int a6, .long (lN (t ^ j)), .null, .int (nI j), .null, .null] [] g2 := by
    intro i n t d k hi hn ht hd6 hk2 hw hx e1 e2 e3 e4 a6
    subst hx; subst e1; subst e2; subst e3; subst e4
    have ei : (nI i).toNatClampNeg = i := nI_clamp (by omega)
    have en : (nI n).toNatClampNeg = n := nI_clamp (by omega)
    have et : (nI t).toNatClampNeg = t := nI_clamp (by omega)
    have ed : (nI d).toNatClampNeg = d := nI_clamp (by omega)
    have ek : (nI k).toNatClampNeg = k := nI_clamp (by omega)
    have hp := pw_n n (by omega)
    have hSl : rnS c i n t d < 2 ^ 62 := rnS_lt ht.2 hn
    have loopB : ∀ q m S (g2 : gG), m + q = 2 ^ n → Rx1 g2 c → XSr g2 ck hk lt nl rv nr rf → frm 0 35 g g2 → gfold (rnF c i n t d) q m S = rnS c i n t d → G 71 [.ref 0, .int (nI i), .int (nI n), .int (nI t), .int (nI d), .int (nI k), .int a6, .long (lN (t ^ n)), .null, .long (lN S), .null, .int (nI m)] [] g2 := by
      intro q
      induction q with
      | zero =>
        intro m S g2 hm0 hR hX hF hz
        have hz : S = rnS c i n t d := hz
        subst hz
        refine r_iload (pc := 71) h dX3_rain_71 rfl ?_
        refine r_iconst (pc := 73) h dX3_rain_73 ci_1 ?_
        refine r_iload_n (pc := 74) h dX3_rain_74 rfl ?_
        refine r_ishl (pc := 75) h dX3_rain_75 ?_
        refine r_top (y := nI (2 ^ n)) h (sh_n n (by omega)) ?_
        refine r_icmp_ge (pc := 76) (tgt := 110) h dX3_rain_76 (by decide) (fun c76 => ?_) (fun c76 => absurd (nI_le (by omega) (by omega)) c76)
        refine r_lload (pc := 110) h dX3_rain_110 rfl ?_
        refine r_lload (pc := 112) h dX3_rain_112 rfl ?_
        refine r_iload (pc := 114) h dX3_rain_114 rfl ?_
        refine r_callSl (pc := 116) (As := [_, _, _]) h dX3_rain_116 k_X3_223 rfl ⟨Nat.le_of_ble_eq_true rfl, Nat.le_of_ble_eq_true rfl, Nat.le_of_ble_eq_true rfl⟩ (c_X3_partOf hSl (tn_lt ht.2 hn) (Nat.pow_pos (by omega)) hk2) (fun x_116 g2 hq => ?_)
        obtain ⟨rfl, rfl⟩ := hq
        refine r_rl tt (pc := 119) dX3_rain_119 ?_
        exact x_okL hR hX hF hw (by rw [ei, en, et, ed, ek]; rfl)
      | succ q ih =>
        intro m S g2 hm0 hR hX hF hz
        have hm : m < 2 ^ n := by omega
        have h6 := sir_le ho hi m (n := n) (by omega)
        refine r_iload (pc := 71) h dX3_rain_71 rfl ?_
        refine r_iconst (pc := 73) h dX3_rain_73 ci_1 ?_
        refine r_iload_n (pc := 74) h dX3_rain_74 rfl ?_
        refine r_ishl (pc := 75) h dX3_rain_75 ?_
        refine r_top (y := nI (2 ^ n)) h (sh_n n (by omega)) ?_
        refine r_icmp_ge (pc := 76) (tgt := 110) h dX3_rain_76 (by decide) (fun c76 => absurd c76 (nI_ge hm (by omega))) (fun c76 => ?_)
        refine r_aload_n (pc := 79) h dX3_rain_79 rfl ?_
        refine r_iload_n (pc := 80) h dX3_rain_80 rfl ?_
        refine r_iload_n (pc := 81) h dX3_rain_81 rfl ?_
        refine r_iload (pc := 82) h dX3_rain_82 rfl ?_
        refine r_callVi (pc := 84) (As := [_, _, _]) h dX3_rain_84 k_X3_216 gc_0 rfl ⟨Nat.le_of_ble_eq_true rfl, Nat.le_of_ble_eq_true rfl, Nat.le_of_ble_eq_true rfl⟩ (c_X3_saidInRain hR ho hd hi hn (by omega)) (fun x_84 g2 hq => ?_)
        obtain ⟨rfl, hF1⟩ := hq
        have hR := hR.f9 hF1
        have hX := hX.f9 hF1
        have hF := hF.tr (hF1.wide (by decide) (by decide))
        refine r_iload (pc := 87) h dX3_rain_87 rfl ?_
        refine r_icmp_lt (pc := 89) (tgt := 104) h dX3_rain_89 (by decide) (fun c89 => ?_) (fun c89 => ?_)
        · have q : ¬ d ≤ sir c i n m := Nat.not_le_of_lt ((nI_ltI (by omega) (by omega)).mp c89)
          have e : rnF c i n t d m S = S := if_neg q
          refine r_iinc (pc := 104) (ls2 := [_, _, _, _, _, _, _, _, _, _, _, _]) h dX3_rain_104 rfl (ic1 _) rfl ?_
          refine r_goto (pc := 107) (tgt := 71) h dX3_rain_107 (by decide) ?_
          exact ih (m + 1) _ g2 (by omega) hR hX hF (by rw [← e]; exact hz)
        · have q : d ≤ sir c i n m := Nat.le_of_not_lt fun z => c89 (nI_lt z (by omega))
          have e : rnF c i n t d m S = S + way n t m := if_pos q
          refine r_lload (pc := 92) h dX3_rain_92 rfl ?_
          refine r_iload_n (pc := 94) h dX3_rain_94 rfl ?_
          refine r_iload_n (pc := 95) h dX3_rain_95 rfl ?_
          refine r_iload (pc := 96) h dX3_rain_96 rfl ?_
          refine r_callSl (pc := 98) (As := [_, _, _]) h dX3_rain_98 k_X3_219 rfl ⟨Nat.le_of_ble_eq_true rfl, Nat.le_of_ble_eq_true rfl, Nat.le_of_ble_eq_true rfl⟩ (c_X3_waysOfRain hn ht (by omega)) (fun x_98 g2 hq => ?_)
          obtain ⟨rfl, rfl⟩ := hq
          refine r_ladd (pc := 101) h dX3_rain_101 ?_
          refine r_topl (y := lN (S + way n t m)) h (lN_add _ _) ?_
          refine r_lstore (pc := 102) (ls2 := [_, _, _, _, _, _, _, _, _, _, _, _]) h dX3_rain_102 (Nat.le_of_ble_eq_true rfl) rfl ?_
          refine r_iinc (pc := 104) (ls2 := [_, _, _, _, _, _, _, _, _, _, _, _]) h dX3_rain_104 rfl (ic1 _) rfl ?_
          refine r_goto (pc := 107) (tgt := 71) h dX3_rain_107 (by decide) ?_
          exact ih (m + 1) _ g2 (by omega) hR hX hF (by rw [← e]; exact hz)
    intro q
    induction q with
    | zero =>
      intro j g2 hj0 hR hX hF
      refine r_iload (pc := 46) h dX3_rain_46 rfl ?_
      refine r_iload_n (pc := 48) h dX3_rain_48 rfl ?_
      refine r_icmp_ge (pc := 49) (tgt := 65) h dX3_rain_49 (by decide) (fun c49 => ?_) (fun c49 => absurd (nI_le (by omega) (by omega)) c49)
      refine r_lconst (v := lN 0) (pc := 65) h dX3_rain_65 rfl ?_
      refine r_lstore (pc := 66) (ls2 := [_, _, _, _, _, _, _, _, _, _, _, _]) h dX3_rain_66 (Nat.le_of_ble_eq_true rfl) rfl ?_
      refine r_iconst (pc := 68) h dX3_rain_68 ci_0 ?_
      refine r_istore (pc := 69) (ls2 := [_, _, _, _, _, _, _, _, _, _, _, _]) h dX3_rain_69 (Nat.le_of_ble_eq_true rfl) rfl ?_
      have ejn : j = n := by omega
      subst ejn
      exact loopB (2 ^ j) 0 0 g2 (by omega) hR hX hF rfl
    | succ q ih =>
      intro j g2 hj0 hR hX hF
      have hj : j < n := by omega
      refine r_iload (pc := 46) h dX3_rain_46 rfl ?_
      refine r_iload_n (pc := 48) h dX3_rain_48 rfl ?_
      refine r_icmp_ge (pc := 49) (tgt := 65) h dX3_rain_49 (by decide) (fun c49 => absurd c49 (nI_ge hj (by omega))) (fun c49 => ?_)
      refine r_lload (pc := 52) h dX3_rain_52 rfl ?_
      refine r_iload_n (pc := 54) h dX3_rain_54 rfl ?_
      refine r_i2l (pc := 55) h dX3_rain_55 ?_
      refine r_topl (y := lN t) h (i2l_nI (by omega)) ?_
      refine r_lmul (pc := 56) h dX3_rain_56 ?_
      refine r_topl (y := lN (t ^ (j + 1))) h (by rw [lN_mul, Nat.pow_succ]) ?_
      refine r_lstore (pc := 57) (ls2 := [_, _, _, _, _, _, _, _, _, _, _, _]) h dX3_rain_57 (Nat.le_of_ble_eq_true rfl) rfl ?_
      refine r_iinc (pc := 59) (ls2 := [_, _, _, _, _, _, _, _, _, _, _, _]) h dX3_rain_59 rfl (ic1 _) rfl ?_
      refine r_goto (pc := 62) (tgt := 46) h dX3_rain_62 (by decide) ?_
      exact ih (j + 1) g2 (by omega) hR hX hF
  suffices H : ∀ g2 : gG, Rx1 g2 c → XSr g2 ck hk lt nl rv nr rf → frm 0 35 g g2 → G 0 [.ref 0, .int x, .int n1, .int t1, .int v1, .int w, .null, .null, .null, .null, .null, .null] [] g2 from H g hR hX frm.rf
  intro g2 hR hX hF
  refine r_aload_n (pc := 0) h dX3_rain_0 rfl ?_
  refine r_iload_n (pc := 1) h dX3_rain_1 rfl ?_
  refine r_callVi (pc := 2) (As := [_]) h dX3_rain_2 k_X3_131 gc_0 rfl ⟨Nat.le_of_ble_eq_true rfl, Nat.le_of_ble_eq_true rfl, Nat.le_of_ble_eq_true rfl⟩ (c_X3_anyCaller hR x) (fun x_2 g2 hq => ?_)
  obtain ⟨rfl, rfl⟩ := hq
  refine r_iload_n (pc := 5) h dX3_rain_5 rfl ?_
  refine r_iload_n (pc := 6) h dX3_rain_6 rfl ?_
  refine r_iload (pc := 7) h dX3_rain_7 rfl ?_
  refine r_callSi (pc := 9) (As := [_, _, _]) h dX3_rain_9 k_X3_211 rfl ⟨Nat.le_of_ble_eq_true rfl, Nat.le_of_ble_eq_true rfl, Nat.le_of_ble_eq_true rfl⟩ (c_X3_rainRange _ _ _) (fun x_9 g2 hq => ?_)
  obtain ⟨rfl, rfl⟩ := hq
  refine r_iload (pc := 12) h dX3_rain_12 rfl ?_
  refine r_iconst (pc := 14) h dX3_rain_14 ci_2 ?_
  refine r_callSi (pc := 15) (As := [_, _]) h dX3_rain_15 k_X3_101 rfl ⟨Nat.le_of_ble_eq_true rfl, Nat.le_of_ble_eq_true rfl, Nat.le_of_ble_eq_true rfl⟩ (c_X3_anyOf w 2) (fun x_15 g2 hq => ?_)
  obtain ⟨rfl, rfl⟩ := hq
  refine r_callSi (pc := 18) (As := [_, _, _]) h dX3_rain_18 k_X3_104 rfl ⟨Nat.le_of_ble_eq_true rfl, Nat.le_of_ble_eq_true rfl, Nat.le_of_ble_eq_true rfl⟩ (c_X3_firstOf _ _ _) (fun x_18 g2 hq => ?_)
  obtain ⟨rfl, rfl⟩ := hq
  refine r_istore (pc := 21) (ls2 := [_, _, _, _, _, _, _, _, _, _, _, _]) h dX3_rain_21 (Nat.le_of_ble_eq_true rfl) rfl ?_
  refine r_iload (pc := 23) h dX3_rain_23 rfl ?_
  refine r_if_eq (pc := 25) (tgt := 40) h dX3_rain_25 (by decide) (fun c25 => ?_) (fun c25 => ?_)
  · have hw : rainW c x n1 t1 v1 w = 0 := c25
    obtain ⟨w1, w2, w3⟩ := fst_0.mp hw
    obtain ⟨i, hi, hxi⟩ := cal_0 w1 hn5
    obtain ⟨n, t_, d, hn, ht1, ht2, hd6, e1, e2, e3⟩ := rn_0 w2
    obtain ⟨k, hk2, hwk⟩ := any_0 (by decide) w3 (by decide)
    subst hxi; subst e1; subst e2; subst e3; subst hwk
    refine r_lconst (v := lN 1) (pc := 40) h dX3_rain_40 rfl ?_
    refine r_lstore (pc := 41) (ls2 := [_, _, _, _, _, _, _, _, _, _, _, _]) h dX3_rain_41 (Nat.le_of_ble_eq_true rfl) rfl ?_
    refine r_iconst (pc := 43) h dX3_rain_43 ci_0 ?_
    refine r_istore (pc := 44) (ls2 := [_, _, _, _, _, _, _, _, _, _, _, _]) h dX3_rain_44 (Nat.le_of_ble_eq_true rfl) rfl ?_
    exact main i n t_ d k hi hn ⟨ht1, ht2⟩ hd6 hk2 hw rfl rfl rfl rfl rfl _ n 0 g2 (by omega) hR hX hF
  · have hw : ¬ rainW c x n1 t1 v1 w = 0 := c25
    have hok : okw (rainW c x n1 t1 v1 w) := okw_f (okw_cal c x) (okw_rn _ _ _) (okw_b okw_2)
    refine r_ldc2 (pc := 28) h dX3_rain_28 kc_X3_214 ?_
    refine r_aload_n (pc := 31) h dX3_rain_31 rfl ?_
    refine r_iload (pc := 32) h dX3_rain_32 rfl ?_
    refine r_callVi (pc := 34) (As := [_]) h dX3_rain_34 k_X3_67 gc_0 rfl ⟨Nat.le_of_ble_eq_true rfl, Nat.le_of_ble_eq_true rfl, Nat.le_of_ble_eq_true rfl⟩ (c_X3_refuse (okw_in hok hw).1) (fun x_34 g2 hq => ?_)
    obtain ⟨rfl, rfl⟩ := hq
    refine r_i2l (pc := 37) h dX3_rain_37 ?_
    refine r_lsub (pc := 38) h dX3_rain_38 ?_
    refine r_rl tt (pc := 39) dX3_rain_39 ?_
    exact x_refL hR hX hF hok hw
set_option maxRecDepth 100000 in
set_option maxHeartbeats 4000000 in
theorem x_mean (hR : Rx1 g c) (hX : XSr g ck hk lt nl rv nr rf) (ho : gok c) (hd : c 7 3 ≤ 999) (w : Int32) : gCl mX3_mean [.ref 0, .int w] g (fun y g1 => y = ansL (whyB (inB w 2) (-2)) (mnV c w.toNatClampNeg) ∧ Rx1 g1 c ∧ XSr g1 ck hk lt nl rv nr (rfI rf (whyB (inB w 2) (-2))) ∧ frm 0 35 g g1) := by
  refine gCl_of (own := RX3) (ls0 := [.ref 0, .int w, .null, .null, .null, .null]) ⟨rfl, pl_X3⟩ rfl (Nat.le_of_ble_eq_true rfl) (fun G (h : gR RX3 cX3_mean 2 80 G) (t : gTl cX3_mean _ G) => ?_)
  have hn5 := hR.n5
  have hn6 := hR.n6
  have loop : ∀ k, k < 2 → whyB (inB (nI k) 2) (-2) = 0 → w = nI k → ¬ c 7 1 = 0 → ∀ (a2 : Int32) (g2 : gG), Rx1 g2 c → XSr g2 ck hk lt nl rv nr rf → frm 0 35 g g2 → ∀ q i S, i + q = c 7 1 → S ≤ i * 87 → gfold (fun i a => a + bv c i) q i S = sumN (bv c) (c 7 1) → G 39 [.ref 0, .int (nI k), .int a2, .long (lN S), .null, .int (nI i)] [] g2 := by
    intro k hk2 hw hwk hn0 a2 g2 hR hX hF q
    subst hwk
    have ek : (nI k).toNatClampNeg = k := nI_clamp (by omega)
    induction q with
    | zero =>
      intro i S hi0 hS hz
      have hz : S = sumN (bv c) (c 7 1) := hz
      refine r_iload (pc := 39) h dX3_mean_39 rfl ?_
      refine r_aload_n (pc := 41) h dX3_mean_41 rfl ?_
      refine r_getR (pc := 42) h dX3_mean_42 f_X3_10 sh_0 rfl ?_
      refine r_getE (pc := 45) h dX3_mean_45 f_X3_191 sh_1 rfl (hR.nc) ?_
      refine r_icmp_ge (pc := 48) (tgt := 73) h dX3_mean_48 (by decide) (fun c48 => ?_) (fun c48 => absurd (nI_le (by omega) (by omega)) c48)
      refine r_lload_n (pc := 73) h dX3_mean_73 rfl ?_
      refine r_aload_n (pc := 74) h dX3_mean_74 rfl ?_
      refine r_getR (pc := 75) h dX3_mean_75 f_X3_10 sh_0 rfl ?_
      refine r_getE (pc := 78) h dX3_mean_78 f_X3_191 sh_1 rfl (hR.nc) ?_
      refine r_i2l (pc := 81) h dX3_mean_81 ?_
      refine r_topl (y := lN (c 7 1)) h (i2l_nI (by omega)) ?_
      refine r_iload_n (pc := 82) h dX3_mean_82 rfl ?_
      refine r_callSl (pc := 83) (As := [_, _, _]) h dX3_mean_83 k_X3_223 rfl ⟨Nat.le_of_ble_eq_true rfl, Nat.le_of_ble_eq_true rfl, Nat.le_of_ble_eq_true rfl⟩ (c_X3_partOf (by omega) (by omega) (by omega) hk2) (fun x_83 g2 hq => ?_)
      obtain ⟨rfl, rfl⟩ := hq
      refine r_rl t (pc := 86) dX3_mean_86 ?_
      exact x_okL hR hX hF hw (by rw [ek, mnV, if_neg hn0, ← hz])
    | succ q ih =>
      intro i S hi0 hS hz
      have hi : i < c 7 1 := by omega
      have hb := (bv_eq ho hi).2
      refine r_iload (pc := 39) h dX3_mean_39 rfl ?_
      refine r_aload_n (pc := 41) h dX3_mean_41 rfl ?_
      refine r_getR (pc := 42) h dX3_mean_42 f_X3_10 sh_0 rfl ?_
      refine r_getE (pc := 45) h dX3_mean_45 f_X3_191 sh_1 rfl (hR.nc) ?_
      refine r_icmp_ge (pc := 48) (tgt := 73) h dX3_mean_48 (by decide) (fun c48 => absurd c48 (nI_ge hi (by omega))) (fun c48 => ?_)
      refine r_lload_n (pc := 51) h dX3_mean_51 rfl ?_
      refine r_aload_n (pc := 52) h dX3_mean_52 rfl ?_
      refine r_getR (pc := 53) h dX3_mean_53 f_X3_10 sh_0 rfl ?_
      refine r_iload (pc := 56) h dX3_mean_56 rfl ?_
      refine r_callVi (pc := 58) (As := [_]) h dX3_mean_58 k_X3_154 gc_1 rfl ⟨Nat.le_of_ble_eq_true rfl, Nat.le_of_ble_eq_true rfl, Nat.le_of_ble_eq_true rfl⟩ (c_X0_bravery_1 hR ho hi) (fun x_58 g2 hq => ?_)
      obtain ⟨rfl, rfl⟩ := hq
      refine r_bipush (pc := 61) h dX3_mean_61 cb_50 ?_
      refine r_iadd (pc := 63) h dX3_mean_63 ?_
      refine r_top (y := nI (bv c i)) h (bv_eq ho hi).1 ?_
      refine r_i2l (pc := 64) h dX3_mean_64 ?_
      refine r_topl (y := lN (bv c i)) h (i2l_nI (by omega)) ?_
      refine r_ladd (pc := 65) h dX3_mean_65 ?_
      refine r_topl (y := lN (S + bv c i)) h (lN_add _ _) ?_
      refine r_lstore_n (pc := 66) (ls2 := [_, _, _, _, _, _]) h dX3_mean_66 (Nat.le_of_ble_eq_true rfl) rfl ?_
      refine r_iinc (pc := 67) (ls2 := [_, _, _, _, _, _]) h dX3_mean_67 rfl (ic1 _) rfl ?_
      refine r_goto (pc := 70) (tgt := 39) h dX3_mean_70 (by decide) ?_
      exact ih (i + 1) _ (by omega) (by omega) hz
  suffices H : ∀ g2 : gG, Rx1 g2 c → XSr g2 ck hk lt nl rv nr rf → frm 0 35 g g2 → G 0 [.ref 0, .int w, .null, .null, .null, .null] [] g2 from H g hR hX frm.rf
  intro g2 hR hX hF
  refine r_iload_n (pc := 0) h dX3_mean_0 rfl ?_
  refine r_iconst (pc := 1) h dX3_mean_1 ci_2 ?_
  refine r_callSi (pc := 2) (As := [_, _]) h dX3_mean_2 k_X3_101 rfl ⟨Nat.le_of_ble_eq_true rfl, Nat.le_of_ble_eq_true rfl, Nat.le_of_ble_eq_true rfl⟩ (c_X3_anyOf w 2) (fun x_2 g2 hq => ?_)
  obtain ⟨rfl, rfl⟩ := hq
  refine r_istore_n (pc := 5) (ls2 := [_, _, _, _, _, _]) h dX3_mean_5 (Nat.le_of_ble_eq_true rfl) rfl ?_
  refine r_iload_n (pc := 6) h dX3_mean_6 rfl ?_
  refine r_if_eq (pc := 7) (tgt := 21) h dX3_mean_7 (by decide) (fun c7 => ?_) (fun c7 => ?_)
  · have hw : whyB (inB w 2) (-2) = 0 := c7
    obtain ⟨k, hk2, hwk⟩ := any_0 (by decide) hw (by decide)
    subst hwk
    have ek : (nI k).toNatClampNeg = k := nI_clamp (by omega)
    refine r_aload_n (pc := 21) h dX3_mean_21 rfl ?_
    refine r_getR (pc := 22) h dX3_mean_22 f_X3_10 sh_0 rfl ?_
    refine r_getE (pc := 25) h dX3_mean_25 f_X3_191 sh_1 rfl (hR.nc) ?_
    refine r_if_ne (pc := 28) (tgt := 34) h dX3_mean_28 (by decide) (fun c28 => ?_) (fun c28 => ?_)
    · have hn0 : ¬ c 7 1 = 0 := fun q => c28 (by rw [q]; rfl)
      refine r_lconst (v := lN 0) (pc := 34) h dX3_mean_34 rfl ?_
      refine r_lstore_n (pc := 35) (ls2 := [_, _, _, _, _, _]) h dX3_mean_35 (Nat.le_of_ble_eq_true rfl) rfl ?_
      refine r_iconst (pc := 36) h dX3_mean_36 ci_0 ?_
      refine r_istore (pc := 37) (ls2 := [_, _, _, _, _, _]) h dX3_mean_37 (Nat.le_of_ble_eq_true rfl) rfl ?_
      exact loop k hk2 hw rfl hn0 _ g2 hR hX hF (c 7 1) 0 0 (by omega) (by omega) rfl
    · have hn0 : c 7 1 = 0 := (nI_eq0 (by omega)).mp c28
      refine r_iload_n (pc := 31) h dX3_mean_31 rfl ?_
      refine r_i2l (pc := 32) h dX3_mean_32 ?_
      refine r_topl (y := lN k) h (i2l_nI (by omega)) ?_
      refine r_rl t (pc := 33) dX3_mean_33 ?_
      exact x_okL hR hX hF hw (by rw [ek, mnV, if_pos hn0])
  · have hw : ¬ whyB (inB w 2) (-2) = 0 := c7
    have hok : okw (whyB (inB w 2) (-2)) := okw_b okw_2
    refine r_ldc2 (pc := 10) h dX3_mean_10 kc_X3_214 ?_
    refine r_aload_n (pc := 13) h dX3_mean_13 rfl ?_
    refine r_iload_n (pc := 14) h dX3_mean_14 rfl ?_
    refine r_callVi (pc := 15) (As := [_]) h dX3_mean_15 k_X3_67 gc_0 rfl ⟨Nat.le_of_ble_eq_true rfl, Nat.le_of_ble_eq_true rfl, Nat.le_of_ble_eq_true rfl⟩ (c_X3_refuse (okw_in hok hw).1) (fun x_15 g2 hq => ?_)
    obtain ⟨rfl, rfl⟩ := hq
    refine r_i2l (pc := 18) h dX3_mean_18 ?_
    refine r_lsub (pc := 19) h dX3_mean_19 ?_
    refine r_rl t (pc := 20) dX3_mean_20 ?_
    exact x_refL hR hX hF hok hw
end TX
