section TX
variable {g : gG} {c ck : gCt} {hk : Bool} {lt : Nat → Nat} {nl : Nat} {rv : Nat → Nat} {nr : Nat} {rf : Nat → Int32}
set_option maxRecDepth 100000 in
set_option maxHeartbeats 4000000 in
theorem c_X4_divisor {g : gG} {a b : Nat} (ha : a < 2 ^ 62) (hb : b < 2 ^ 62) : gCl mX4_divisor [.long (lN a), .long (lN b)] g (fun y g1 => y = lN (Nat.gcd a b) ∧ g1 = g) := by
  refine gCl_of (own := RX4) (ls0 := [.long (lN a), .null, .long (lN b), .null, .null, .null, .null, .null, .null, .null]) ⟨rfl, pl_X4⟩ rfl (Nat.le_of_ble_eq_true rfl) (fun G (h : gR RX4 cX4_divisor 0 0 G) (t : gTl cX4_divisor _ G) => ?_)
  have loop : ∀ q p (v8 v9 : Value), p < 2 ^ 62 → q < 2 ^ 62 → Nat.gcd p q = Nat.gcd a b → G 6 [.long (lN a), .null, .long (lN b), .null, .long (lN p), .null, .long (lN q), .null, v8, v9] [] g := by
    intro q
    induction q using Nat.strongRecOn with
    | _ q ih =>
    intro p v8 v9 hp hq hg
    by_cases hq0 : q = 0
    · skip
      refine r_lload (pc := 6) h dX4_divisor_6 rfl ?_
      refine r_lconst (v := lN 0) (pc := 8) h dX4_divisor_8 rfl ?_
      refine r_lcmp (pc := 9) h dX4_divisor_9 ?_
      refine r_if_eq (pc := 10) (tgt := 31) h dX4_divisor_10 (by decide) (fun c10 => ?_) (fun c10 => absurd ((lcmp0 (by omega)).mpr hq0) c10)
      refine r_lload (pc := 31) h dX4_divisor_31 rfl ?_
      refine r_rl t (pc := 33) dX4_divisor_33 ?_
      exact ⟨by rw [← hg, hq0, Nat.gcd_zero_right], rfl⟩
    · skip
      refine r_lload (pc := 6) h dX4_divisor_6 rfl ?_
      refine r_lconst (v := lN 0) (pc := 8) h dX4_divisor_8 rfl ?_
      refine r_lcmp (pc := 9) h dX4_divisor_9 ?_
      refine r_if_eq (pc := 10) (tgt := 31) h dX4_divisor_10 (by decide) (fun c10 => absurd c10 (fun z => absurd ((lcmp0 (by omega)).mp z) hq0)) (fun c10 => ?_)
      refine r_lload (pc := 13) h dX4_divisor_13 rfl ?_
      refine r_lload (pc := 15) h dX4_divisor_15 rfl ?_
      refine r_lrem (pc := 17) h dX4_divisor_17 (lN_n0 (by omega) (by omega)) ?_
      refine r_topl (y := lN (p % q)) h (pk_lRem (by omega) (by omega) (by omega)) ?_
      refine r_lstore (pc := 18) (ls2 := [_, _, _, _, _, _, _, _, _, _]) h dX4_divisor_18 (Nat.le_of_ble_eq_true rfl) rfl ?_
      refine r_lload (pc := 20) h dX4_divisor_20 rfl ?_
      refine r_lstore (pc := 22) (ls2 := [_, _, _, _, _, _, _, _, _, _]) h dX4_divisor_22 (Nat.le_of_ble_eq_true rfl) rfl ?_
      refine r_lload (pc := 24) h dX4_divisor_24 rfl ?_
      refine r_lstore (pc := 26) (ls2 := [_, _, _, _, _, _, _, _, _, _]) h dX4_divisor_26 (Nat.le_of_ble_eq_true rfl) rfl ?_
      refine r_goto (pc := 28) (tgt := 6) h dX4_divisor_28 (by decide) ?_
      exact ih (p % q) (Nat.mod_lt p (by omega)) q _ _ hq (by have := Nat.mod_lt p (show 0 < q by omega); omega) ((gcd_st p q).trans hg)
  refine r_lload_n (pc := 0) h dX4_divisor_0 rfl ?_
  refine r_lstore (pc := 1) (ls2 := [_, _, _, _, _, _, _, _, _, _]) h dX4_divisor_1 (Nat.le_of_ble_eq_true rfl) rfl ?_
  refine r_lload_n (pc := 3) h dX4_divisor_3 rfl ?_
  refine r_lstore (pc := 4) (ls2 := [_, _, _, _, _, _, _, _, _, _]) h dX4_divisor_4 (Nat.le_of_ble_eq_true rfl) rfl ?_
  exact loop b a _ _ ha hb rfl
set_option maxRecDepth 100000 in
set_option maxHeartbeats 4000000 in
theorem c_X4_partOf {g : gG} {a b k : Nat} (ha : a < 2 ^ 62) (hb : b < 2 ^ 62) (h0 : 0 < b) (hk : k < 2) : gCl mX4_partOf [.long (lN a), .long (lN b), .int (nI k)] g (fun y g1 => y = lN (ptN a b k) ∧ g1 = g) := by
  refine gCl_of (own := RX4) (ls0 := [.long (lN a), .null, .long (lN b), .null, .int (nI k)]) ⟨rfl, pl_X4⟩ rfl (Nat.le_of_ble_eq_true rfl) (fun G (h : gR RX4 cX4_partOf 1 40 G) (t : gTl cX4_partOf _ G) => ?_)
  have hg0 : 0 < Nat.gcd a b := Nat.gcd_pos_of_pos_right a h0
  have hg1 : Nat.gcd a b ≤ b := Nat.gcd_le_right a h0
  refine r_iload (pc := 0) h dX4_partOf_0 rfl ?_
  refine r_if_ne (pc := 2) (tgt := 9) h dX4_partOf_2 (by decide) (fun c2 => ?_) (fun c2 => ?_)
  · have k0 : ¬ k = 0 := fun q => c2 (by rw [q]; rfl)
    refine r_lload_n (pc := 9) h dX4_partOf_9 rfl ?_
    refine r_lload_n (pc := 10) h dX4_partOf_10 rfl ?_
    refine r_lload_n (pc := 11) h dX4_partOf_11 rfl ?_
    refine r_callSl (pc := 12) (As := [_, _]) h dX4_partOf_12 k_X4_280 rfl ⟨Nat.le_of_ble_eq_true rfl, Nat.le_of_ble_eq_true rfl, Nat.le_of_ble_eq_true rfl⟩ (c_X4_divisor ha hb) (fun x_12 g2 hq => ?_)
    obtain ⟨rfl, rfl⟩ := hq
    refine r_ldiv (pc := 15) h dX4_partOf_15 (lN_n0 hg0 (by omega)) ?_
    refine r_rl t (pc := 16) dX4_partOf_16 ?_
    exact ⟨by rw [pk_lDiv (by omega) hg0 (by omega)]; unfold ptN; rw [if_neg k0], rfl⟩
  · have k0 : k = 0 := (nI_eq0 (by omega)).mp c2
    refine r_lload_n (pc := 5) h dX4_partOf_5 rfl ?_
    refine r_goto (pc := 6) (tgt := 10) h dX4_partOf_6 (by decide) ?_
    refine r_lload_n (pc := 10) h dX4_partOf_10 rfl ?_
    refine r_lload_n (pc := 11) h dX4_partOf_11 rfl ?_
    refine r_callSl (pc := 12) (As := [_, _]) h dX4_partOf_12 k_X4_280 rfl ⟨Nat.le_of_ble_eq_true rfl, Nat.le_of_ble_eq_true rfl, Nat.le_of_ble_eq_true rfl⟩ (c_X4_divisor ha hb) (fun x_12 g2 hq => ?_)
    obtain ⟨rfl, rfl⟩ := hq
    refine r_ldiv (pc := 15) h dX4_partOf_15 (lN_n0 hg0 (by omega)) ?_
    refine r_rl t (pc := 16) dX4_partOf_16 ?_
    exact ⟨by rw [pk_lDiv (by omega) hg0 (by omega)]; unfold ptN; rw [if_pos k0], rfl⟩
set_option maxRecDepth 100000 in
set_option maxHeartbeats 4000000 in
theorem y_mean (hR : Rm g c) (hX : MSr g ck hk lt nl rv nr rf) (ho : gok c) (hd : c 7 3 ≤ 999) (w : Int32) : gCl mX4_mean [.ref 35, .int w] g (fun y g1 => y = ansL (whyB (inB w 2) (-2)) (mnV c w.toNatClampNeg) ∧ Rm g1 c ∧ MSr g1 ck hk lt nl rv nr (rfI rf (whyB (inB w 2) (-2))) ∧ frm 35 58 g g1) := by
  refine gCl_of (own := RX4) (ls0 := [.ref 35, .int w, .null, .null, .null]) ⟨rfl, pl_X4⟩ rfl (Nat.le_of_ble_eq_true rfl) (fun G (h : gR RX4 cX4_mean 2 80 G) (t : gTl cX4_mean _ G) => ?_)
  have hn5 := hR.n5
  have hn6 := hR.n6
  have loop : ∀ k, k < 2 → whyB (inB (nI k) 2) (-2) = 0 → w = nI k → ∀ q i S, i + q = c 7 1 → S ≤ i * 87 → gfold (fun i a => a + bv c i) q i S = sumN (bv c) (c 7 1) → G 21 [.ref 35, .int (nI k), .long (lN S), .null, .int (nI i)] [] g := by
    intro k hk2 hw hwk q
    subst hwk
    have ek : (nI k).toNatClampNeg = k := nI_clamp (by omega)
    induction q with
    | zero =>
      intro i S hi0 hS hz
      have hz : S = sumN (bv c) (c 7 1) := hz
      refine r_iload (pc := 21) h dX4_mean_21 rfl ?_
      refine r_aload_n (pc := 23) h dX4_mean_23 rfl ?_
      refine r_getE (pc := 24) h dX4_mean_24 f_X4_67 sh_35 rfl (hR.nc) ?_
      refine r_icmp_ge (pc := 27) (tgt := 49) h dX4_mean_27 (by decide) (fun c27 => ?_) (fun c27 => absurd (nI_le (by omega) (by omega)) c27)
      refine r_aload_n (pc := 49) h dX4_mean_49 rfl ?_
      refine r_getE (pc := 50) h dX4_mean_50 f_X4_67 sh_35 rfl (hR.nc) ?_
      refine r_if_ne (pc := 53) (tgt := 61) h dX4_mean_53 (by decide) (fun c53 => ?_) (fun c53 => ?_)
      · have hn0 : ¬ c 7 1 = 0 := fun q => c53 (by rw [q]; rfl)
        refine r_lload_n (pc := 61) h dX4_mean_61 rfl ?_
        refine r_aload_n (pc := 62) h dX4_mean_62 rfl ?_
        refine r_getE (pc := 63) h dX4_mean_63 f_X4_67 sh_35 rfl (hR.nc) ?_
        refine r_i2l (pc := 66) h dX4_mean_66 ?_
        refine r_topl (y := lN (c 7 1)) h (i2l_nI (by omega)) ?_
        refine r_iload_n (pc := 67) h dX4_mean_67 rfl ?_
        refine r_callSl (pc := 68) (As := [_, _, _]) h dX4_mean_68 k_X4_291 rfl ⟨Nat.le_of_ble_eq_true rfl, Nat.le_of_ble_eq_true rfl, Nat.le_of_ble_eq_true rfl⟩ (c_X4_partOf (by omega) (by omega) (by omega) hk2) (fun x_68 g2 hq => ?_)
        obtain ⟨rfl, rfl⟩ := hq
        refine r_rl t (pc := 71) dX4_mean_71 ?_
        exact y_okL hR hX frm.rf hw (by rw [ek, mnV, if_neg hn0, ← hz])
      · have hn0 : c 7 1 = 0 := (nI_eq0 (by omega)).mp c53
        refine r_iload_n (pc := 56) h dX4_mean_56 rfl ?_
        refine r_i2l (pc := 57) h dX4_mean_57 ?_
        refine r_topl (y := lN k) h (i2l_nI (by omega)) ?_
        refine r_goto (pc := 58) (tgt := 71) h dX4_mean_58 (by decide) ?_
        refine r_rl t (pc := 71) dX4_mean_71 ?_
        exact y_okL hR hX frm.rf hw (by rw [ek, mnV, if_pos hn0])
    | succ q ih =>
      intro i S hi0 hS hz
      have hi : i < c 7 1 := by omega
      have hb := (bv_eq ho hi).2
      refine r_iload (pc := 21) h dX4_mean_21 rfl ?_
      refine r_aload_n (pc := 23) h dX4_mean_23 rfl ?_
      refine r_getE (pc := 24) h dX4_mean_24 f_X4_67 sh_35 rfl (hR.nc) ?_
      refine r_icmp_ge (pc := 27) (tgt := 49) h dX4_mean_27 (by decide) (fun c27 => absurd c27 (nI_ge hi (by omega))) (fun c27 => ?_)
      refine r_lload_n (pc := 30) h dX4_mean_30 rfl ?_
      refine r_aload_n (pc := 31) h dX4_mean_31 rfl ?_
      refine r_iload (pc := 32) h dX4_mean_32 rfl ?_
      refine r_callVi (pc := 34) (As := [_]) h dX4_mean_34 k_X4_185 gc_35 rfl ⟨Nat.le_of_ble_eq_true rfl, Nat.le_of_ble_eq_true rfl, Nat.le_of_ble_eq_true rfl⟩ (c_X4_courageOf hR ho hi) (fun x_34 g2 hq => ?_)
      obtain ⟨rfl, rfl⟩ := hq
      refine r_bipush (pc := 37) h dX4_mean_37 cb_50 ?_
      refine r_iadd (pc := 39) h dX4_mean_39 ?_
      refine r_top (y := nI (bv c i)) h (bv_eq ho hi).1 ?_
      refine r_i2l (pc := 40) h dX4_mean_40 ?_
      refine r_topl (y := lN (bv c i)) h (i2l_nI (by omega)) ?_
      refine r_ladd (pc := 41) h dX4_mean_41 ?_
      refine r_topl (y := lN (S + bv c i)) h (lN_add _ _) ?_
      refine r_lstore_n (pc := 42) (ls2 := [_, _, _, _, _]) h dX4_mean_42 (Nat.le_of_ble_eq_true rfl) rfl ?_
      refine r_iinc (pc := 43) (ls2 := [_, _, _, _, _]) h dX4_mean_43 rfl (ic1 _) rfl ?_
      refine r_goto (pc := 46) (tgt := 21) h dX4_mean_46 (by decide) ?_
      exact ih (i + 1) _ (by omega) (by omega) hz
  refine r_iload_n (pc := 0) h dX4_mean_0 rfl ?_
  refine r_iconst (pc := 1) h dX4_mean_1 ci_0 ?_
  refine r_iconst (pc := 2) h dX4_mean_2 ci_1 ?_
  refine r_callSi (pc := 3) (As := [_, _, _]) h dX4_mean_3 k_X4_88 rfl ⟨Nat.le_of_ble_eq_true rfl, Nat.le_of_ble_eq_true rfl, Nat.le_of_ble_eq_true rfl⟩ (c_X4_isIn _ _ _) (fun x_3 g2 hq => ?_)
  rw [isIn_inB (by decide)] at hq
  obtain ⟨rfl, rfl⟩ := hq
  refine r_if_ne (pc := 6) (tgt := 16) h dX4_mean_6 (by decide) (fun c6 => ?_) (fun c6 => ?_)
  · have hb : inB w (1 + 1) = true := by simpa using mt (bI_0 (inB w (1 + 1))).mpr c6
    have hw : whyB (inB w 2) (-2) = 0 := by unfold whyB; rw [if_pos hb]; rfl
    obtain ⟨k, hk2, hwk⟩ := (inB_iff (by decide)).mp hb
    subst hwk
    refine r_lconst (v := lN 0) (pc := 16) h dX4_mean_16 rfl ?_
    refine r_lstore_n (pc := 17) (ls2 := [_, _, _, _, _]) h dX4_mean_17 (Nat.le_of_ble_eq_true rfl) rfl ?_
    refine r_iconst (pc := 18) h dX4_mean_18 ci_0 ?_
    refine r_istore (pc := 19) (ls2 := [_, _, _, _, _]) h dX4_mean_19 (Nat.le_of_ble_eq_true rfl) rfl ?_
    exact loop k hk2 hw rfl (c 7 1) 0 0 (by omega) (by omega) rfl
  · have hb : inB w (1 + 1) = false := (bI_0 (inB w (1 + 1))).mp c6
    refine r_aload_n (pc := 9) h dX4_mean_9 rfl ?_
    refine r_bipush (pc := 10) h dX4_mean_10 cb_m2 ?_
    refine r_callVl (pc := 12) (As := [_]) h dX4_mean_12 k_X4_284 gc_35 rfl ⟨Nat.le_of_ble_eq_true rfl, Nat.le_of_ble_eq_true rfl, Nat.le_of_ble_eq_true rfl⟩ (c_X4_lowestOf (okw_in okw_2 (by decide)).1) (fun x_12 g2 hq => ?_)
    obtain ⟨rfl, rfl⟩ := hq
    refine r_rl t (pc := 15) dX4_mean_15 ?_
    rw [show whyB (inB w 2) (-2) = -2 by rw [show inB w 2 = false from hb]; rfl]
    exact y_refL hR hX frm.rf okw_2 (by decide)
set_option maxRecDepth 100000 in
set_option maxHeartbeats 4000000 in
theorem c_X4_findGets {g : gG} {c : gCt} (hR : Rm g c) (ho : gok c) (hd : c 7 3 ≤ 999) {a b n : Nat} (ha : a < c 7 1) (hb : b < c 7 1) (hn : n ≤ 30) : gCv mX4_findGets [.ref 35, .int (nI a), .int (nI b), .int (nI n)] g (fun g1 => Rm g1 c ∧ (∀ k, k < 4 → g1 56 (2 * k) = tw1 c a b n k ∧ g1 56 (2 * k + 1) = tw2 c a b n k) ∧ tfX g g1) := by
  refine gCv_of (own := RX4) (ls0 := [.ref 35, .int (nI a), .int (nI b), .int (nI n), .null]) ⟨rfl, pl_X4⟩ rfl (Nat.le_of_ble_eq_true rfl) (fun G (h : gR RX4 cX4_findGets 6 240 G) (t : gTv cX4_findGets _ G) => ?_)
  have hn5 := hR.n5
  have hn6 := hR.n6
  have loop : ∀ m k (g2 : gG), k + m = 4 → Rm g2 c → tfX g g2 → (∀ j, j < k → g2 56 (2 * j) = tw1 c a b n j ∧ g2 56 (2 * j + 1) = tw2 c a b n j) → G 3 [.ref 35, .int (nI a), .int (nI b), .int (nI n), .int (nI k)] [] g2 := by
    intro m
    induction m with
    | zero =>
      intro k g2 hk hR hF hA
      refine r_iload (pc := 3) h dX4_findGets_3 rfl ?_
      refine r_iconst (pc := 5) h dX4_findGets_5 ci_4 ?_
      refine r_icmp_ge (pc := 6) (tgt := 170) h dX4_findGets_6 (by decide) (fun c6 => ?_) (fun c6 => absurd (nI_le (by omega) (by omega)) c6)
      refine r_rv t (pc := 170) dX4_findGets_170 ?_
      exact ⟨hR, fun j hj => hA j (by omega), hF⟩
    | succ m ih =>
      intro k g2 hk hR hF hA
      have hk4 : k < 4 := by omega
      have hok := twK_ok ho a b k
      have hD := daysC_ok hok.1 n (by rw [hok.2.2.1]; omega)
      have ha9 : a < daysC n (twK c a b k) 7 1 := by rw [hD.2.1, hok.2.1]; exact ha
      have hb9 : b < daysC n (twK c a b k) 7 1 := by rw [hD.2.1, hok.2.1]; exact hb
      have h5a := (hD.2.2.2.2.2.2 a ha9).2.2.1
      have h5b := (hD.2.2.2.2.2.2 b hb9).2.2.1
      have three : ∀ g2 : gG, Rm g2 (twK c a b k) → tfX g g2 → Rk g2 84 c → (∀ j, j < k → g2 56 (2 * j) = tw1 c a b n j ∧ g2 56 (2 * j + 1) = tw2 c a b n j) → G 61 [.ref 35, .int (nI a), .int (nI b), .int (nI n), .int (nI k)] [] g2 := by
        intro g2 hR hF hK hA
        refine r_aload_n (pc := 61) h dX4_findGets_61 rfl ?_
        refine r_iload_n (pc := 62) h dX4_findGets_62 rfl ?_
        refine r_callVv (pc := 63) (As := [_]) h dX4_findGets_63 k_X4_122 gc_35 rfl ⟨Nat.le_of_ble_eq_true rfl, Nat.le_of_ble_eq_true rfl, Nat.le_of_ble_eq_true rfl⟩ (c_X4_goes hR hok.1 (by rw [hok.2.2.1]; omega)) (fun g2 hq => ?_)
        obtain ⟨hR, hF1⟩ := hq
        have hK := hK.fm hF1
        have hF1 := hF1.tf
        have hF := hF.tr hF1.tx
        rw [← hF1.a56] at hA
        refine r_aload_n (pc := 66) h dX4_findGets_66 rfl ?_
        refine r_getR (pc := 67) h dX4_findGets_67 f_X4_54 sh_35 rfl ?_
        refine r_iconst (pc := 70) h dX4_findGets_70 ci_2 ?_
        refine r_iload (pc := 71) h dX4_findGets_71 rfl ?_
        refine r_imul (pc := 73) h dX4_findGets_73 ?_
        refine r_top (y := nI (2 * k)) h (nI_mul _ _) ?_
        refine r_aload_n (pc := 74) h dX4_findGets_74 rfl ?_
        refine r_getR (pc := 75) h dX4_findGets_75 f_X4_28 sh_35 rfl ?_
        refine r_iload_n (pc := 78) h dX4_findGets_78 rfl ?_
        refine r_ialoadE (pc := 79) h dX4_findGets_79 sh_42 (hR.sa ha9) ?_
        refine r_aload_n (pc := 80) h dX4_findGets_80 rfl ?_
        refine r_getR (pc := 81) h dX4_findGets_81 f_X4_28 sh_35 rfl ?_
        refine r_iload_n (pc := 84) h dX4_findGets_84 rfl ?_
        refine r_ialoadE (pc := 85) h dX4_findGets_85 sh_42 (hR.sa hb9) ?_
        refine r_aload_n (pc := 86) h dX4_findGets_86 rfl ?_
        refine r_getR (pc := 87) h dX4_findGets_87 f_X4_28 sh_35 rfl ?_
        refine r_iload_n (pc := 90) h dX4_findGets_90 rfl ?_
        refine r_ialoadE (pc := 91) h dX4_findGets_91 sh_42 (hR.sa ha9) ?_
        refine r_icmp_lt (pc := 92) (tgt := 99) h dX4_findGets_92 (by decide) (fun c92 => ?_) (fun c92 => ?_)
        · have q92 : daysC n (twK c a b k) 5 b < daysC n (twK c a b k) 5 a := (nI_ltI (by omega) (by omega)).mp c92
          refine r_iconst (pc := 99) h dX4_findGets_99 ci_0 ?_
          refine r_iadd (pc := 100) h dX4_findGets_100 ?_
          refine r_aload_n (pc := 101) h dX4_findGets_101 rfl ?_
          refine r_getR (pc := 102) h dX4_findGets_102 f_X4_25 sh_35 rfl ?_
          refine r_iload_n (pc := 105) h dX4_findGets_105 rfl ?_
          refine r_ialoadE (pc := 106) h dX4_findGets_106 sh_41 (hR.so ha9) ?_
          refine r_bipush (pc := 107) h dX4_findGets_107 cb_6 ?_
          refine r_idiv (pc := 109) h dX4_findGets_109 (by decide) ?_
          refine r_isub (pc := 110) h dX4_findGets_110 ?_
          refine r_top (y := wsh (daysC n (twK c a b k)) a b) h (by unfold wsh; first | rw [if_pos q92] | rw [if_neg q92]) ?_
          refine r_iastore (pc := 111) h dX4_findGets_111 sh_56 (vp_in_nI (show 2 * k < 8 by omega) (by decide)) ?_
          generalize hg3 : gup g2 56 _ _ = g3
          rw [nI_clamp (show 2 * k < 2147483648 by omega)] at hg3
          have hR : Rm g3 (daysC n (twK c a b k)) := by rw [← hg3]; exact hR.up (by decide) (by omega)
          have hF : tfX g g3 := by rw [← hg3]; exact hF.up (by omega)
          have hK : Rk g3 84 c := by rw [← hg3]; exact hK.up (by decide)
          have hA : ∀ j, j < k → g3 56 (2 * j) = tw1 c a b n j ∧ g3 56 (2 * j + 1) = tw2 c a b n j := fun j hj => by rw [← hg3, gup_o (by omega), gup_o (by omega)]; exact hA j hj
          have hB := gup_at hg3
          clear hg3
          revert g3
          intro g2 hR hF hK hA hB
          refine r_aload_n (pc := 112) h dX4_findGets_112 rfl ?_
          refine r_getR (pc := 113) h dX4_findGets_113 f_X4_54 sh_35 rfl ?_
          refine r_iconst (pc := 116) h dX4_findGets_116 ci_2 ?_
          refine r_iload (pc := 117) h dX4_findGets_117 rfl ?_
          refine r_imul (pc := 119) h dX4_findGets_119 ?_
          refine r_top (y := nI (2 * k)) h (nI_mul _ _) ?_
          refine r_iconst (pc := 120) h dX4_findGets_120 ci_1 ?_
          refine r_iadd (pc := 121) h dX4_findGets_121 ?_
          refine r_top (y := nI (2 * k + 1)) h (nI_add _ _) ?_
          refine r_aload_n (pc := 122) h dX4_findGets_122 rfl ?_
          refine r_getR (pc := 123) h dX4_findGets_123 f_X4_28 sh_35 rfl ?_
          refine r_iload_n (pc := 126) h dX4_findGets_126 rfl ?_
          refine r_ialoadE (pc := 127) h dX4_findGets_127 sh_42 (hR.sa hb9) ?_
          refine r_aload_n (pc := 128) h dX4_findGets_128 rfl ?_
          refine r_getR (pc := 129) h dX4_findGets_129 f_X4_28 sh_35 rfl ?_
          refine r_iload_n (pc := 132) h dX4_findGets_132 rfl ?_
          refine r_ialoadE (pc := 133) h dX4_findGets_133 sh_42 (hR.sa ha9) ?_
          refine r_aload_n (pc := 134) h dX4_findGets_134 rfl ?_
          refine r_getR (pc := 135) h dX4_findGets_135 f_X4_28 sh_35 rfl ?_
          refine r_iload_n (pc := 138) h dX4_findGets_138 rfl ?_
          refine r_ialoadE (pc := 139) h dX4_findGets_139 sh_42 (hR.sa hb9) ?_
          refine r_icmp_lt (pc := 140) (tgt := 147) h dX4_findGets_140 (by decide) (fun c140 => ?_) (fun c140 => ?_)
          · have q140 : daysC n (twK c a b k) 5 a < daysC n (twK c a b k) 5 b := (nI_ltI (by omega) (by omega)).mp c140
            refine r_iconst (pc := 147) h dX4_findGets_147 ci_0 ?_
            refine r_iadd (pc := 148) h dX4_findGets_148 ?_
            refine r_aload_n (pc := 149) h dX4_findGets_149 rfl ?_
            refine r_getR (pc := 150) h dX4_findGets_150 f_X4_25 sh_35 rfl ?_
            refine r_iload_n (pc := 153) h dX4_findGets_153 rfl ?_
            refine r_ialoadE (pc := 154) h dX4_findGets_154 sh_41 (hR.so hb9) ?_
            refine r_bipush (pc := 155) h dX4_findGets_155 cb_6 ?_
            refine r_idiv (pc := 157) h dX4_findGets_157 (by decide) ?_
            refine r_isub (pc := 158) h dX4_findGets_158 ?_
            refine r_top (y := wsh (daysC n (twK c a b k)) b a) h (by unfold wsh; first | rw [if_pos q140] | rw [if_neg q140]) ?_
            refine r_iastore (pc := 159) h dX4_findGets_159 sh_56 (vp_in_nI (show 2 * k + 1 < 8 by omega) (by decide)) ?_
            generalize hg3 : gup g2 56 _ _ = g3
            rw [nI_clamp (show 2 * k + 1 < 2147483648 by omega)] at hg3
            have hR : Rm g3 (daysC n (twK c a b k)) := by rw [← hg3]; exact hR.up (by decide) (by omega)
            have hF : tfX g g3 := by rw [← hg3]; exact hF.up (by omega)
            have hK : Rk g3 84 c := by rw [← hg3]; exact hK.up (by decide)
            have hA : ∀ j, j < k → g3 56 (2 * j) = tw1 c a b n j ∧ g3 56 (2 * j + 1) = tw2 c a b n j := fun j hj => by rw [← hg3, gup_o (by omega), gup_o (by omega)]; exact hA j hj
            have hC := gup_at hg3
            have hB := gup_kp hg3 (a := 56) (b := 2 * k) (by omega) hB
            clear hg3
            revert g3
            intro g2 hR hF hK hA hC hB
            refine r_aload_n (pc := 160) h dX4_findGets_160 rfl ?_
            refine r_callVv (pc := 161) (As := []) h dX4_findGets_161 k_X4_222 gc_35 rfl ⟨Nat.le_of_ble_eq_true rfl, Nat.le_of_ble_eq_true rfl, Nat.le_of_ble_eq_true rfl⟩ (c_X4_forgets hK) (fun g2 hq => ?_)
            obtain ⟨hR, hF1⟩ := hq
            have hF1 := hF1.tf
            have hF := hF.tr hF1.tx
            rw [← hF1.a56] at hA hB hC
            refine r_iinc (pc := 164) (ls2 := [_, _, _, _, _]) h dX4_findGets_164 rfl (ic1 _) rfl ?_
            refine r_goto (pc := 167) (tgt := 3) h dX4_findGets_167 (by decide) ?_
            exact ih (k + 1) g2 (by omega) hR hF (fun j hj => by
              by_cases e : j = k
              · rw [e]; exact ⟨hB, hC⟩
              · exact hA j (by omega))
          · have q140 : ¬ daysC n (twK c a b k) 5 a < daysC n (twK c a b k) 5 b := fun z => c140 (nI_lt z (by omega))
            refine r_iconst (pc := 143) h dX4_findGets_143 ci_2 ?_
            refine r_goto (pc := 144) (tgt := 148) h dX4_findGets_144 (by decide) ?_
            refine r_iadd (pc := 148) h dX4_findGets_148 ?_
            refine r_aload_n (pc := 149) h dX4_findGets_149 rfl ?_
            refine r_getR (pc := 150) h dX4_findGets_150 f_X4_25 sh_35 rfl ?_
            refine r_iload_n (pc := 153) h dX4_findGets_153 rfl ?_
            refine r_ialoadE (pc := 154) h dX4_findGets_154 sh_41 (hR.so hb9) ?_
            refine r_bipush (pc := 155) h dX4_findGets_155 cb_6 ?_
            refine r_idiv (pc := 157) h dX4_findGets_157 (by decide) ?_
            refine r_isub (pc := 158) h dX4_findGets_158 ?_
            refine r_top (y := wsh (daysC n (twK c a b k)) b a) h (by unfold wsh; first | rw [if_pos q140] | rw [if_neg q140]) ?_
            refine r_iastore (pc := 159) h dX4_findGets_159 sh_56 (vp_in_nI (show 2 * k + 1 < 8 by omega) (by decide)) ?_
            generalize hg3 : gup g2 56 _ _ = g3
            rw [nI_clamp (show 2 * k + 1 < 2147483648 by omega)] at hg3
            have hR : Rm g3 (daysC n (twK c a b k)) := by rw [← hg3]; exact hR.up (by decide) (by omega)
            have hF : tfX g g3 := by rw [← hg3]; exact hF.up (by omega)
            have hK : Rk g3 84 c := by rw [← hg3]; exact hK.up (by decide)
            have hA : ∀ j, j < k → g3 56 (2 * j) = tw1 c a b n j ∧ g3 56 (2 * j + 1) = tw2 c a b n j := fun j hj => by rw [← hg3, gup_o (by omega), gup_o (by omega)]; exact hA j hj
            have hC := gup_at hg3
            have hB := gup_kp hg3 (a := 56) (b := 2 * k) (by omega) hB
            clear hg3
            revert g3
            intro g2 hR hF hK hA hC hB
            refine r_aload_n (pc := 160) h dX4_findGets_160 rfl ?_
            refine r_callVv (pc := 161) (As := []) h dX4_findGets_161 k_X4_222 gc_35 rfl ⟨Nat.le_of_ble_eq_true rfl, Nat.le_of_ble_eq_true rfl, Nat.le_of_ble_eq_true rfl⟩ (c_X4_forgets hK) (fun g2 hq => ?_)
            obtain ⟨hR, hF1⟩ := hq
            have hF1 := hF1.tf
            have hF := hF.tr hF1.tx
            rw [← hF1.a56] at hA hB hC
            refine r_iinc (pc := 164) (ls2 := [_, _, _, _, _]) h dX4_findGets_164 rfl (ic1 _) rfl ?_
            refine r_goto (pc := 167) (tgt := 3) h dX4_findGets_167 (by decide) ?_
            exact ih (k + 1) g2 (by omega) hR hF (fun j hj => by
              by_cases e : j = k
              · rw [e]; exact ⟨hB, hC⟩
              · exact hA j (by omega))
        · have q92 : ¬ daysC n (twK c a b k) 5 b < daysC n (twK c a b k) 5 a := fun z => c92 (nI_lt z (by omega))
          refine r_iconst (pc := 95) h dX4_findGets_95 ci_2 ?_
          refine r_goto (pc := 96) (tgt := 100) h dX4_findGets_96 (by decide) ?_
          refine r_iadd (pc := 100) h dX4_findGets_100 ?_
          refine r_aload_n (pc := 101) h dX4_findGets_101 rfl ?_
          refine r_getR (pc := 102) h dX4_findGets_102 f_X4_25 sh_35 rfl ?_
          refine r_iload_n (pc := 105) h dX4_findGets_105 rfl ?_
          refine r_ialoadE (pc := 106) h dX4_findGets_106 sh_41 (hR.so ha9) ?_
          refine r_bipush (pc := 107) h dX4_findGets_107 cb_6 ?_
          refine r_idiv (pc := 109) h dX4_findGets_109 (by decide) ?_
          refine r_isub (pc := 110) h dX4_findGets_110 ?_
          refine r_top (y := wsh (daysC n (twK c a b k)) a b) h (by unfold wsh; first | rw [if_pos q92] | rw [if_neg q92]) ?_
          refine r_iastore (pc := 111) h dX4_findGets_111 sh_56 (vp_in_nI (show 2 * k < 8 by omega) (by decide)) ?_
          generalize hg3 : gup g2 56 _ _ = g3
          rw [nI_clamp (show 2 * k < 2147483648 by omega)] at hg3
          have hR : Rm g3 (daysC n (twK c a b k)) := by rw [← hg3]; exact hR.up (by decide) (by omega)
          have hF : tfX g g3 := by rw [← hg3]; exact hF.up (by omega)
          have hK : Rk g3 84 c := by rw [← hg3]; exact hK.up (by decide)
          have hA : ∀ j, j < k → g3 56 (2 * j) = tw1 c a b n j ∧ g3 56 (2 * j + 1) = tw2 c a b n j := fun j hj => by rw [← hg3, gup_o (by omega), gup_o (by omega)]; exact hA j hj
          have hB := gup_at hg3
          clear hg3
          revert g3
          intro g2 hR hF hK hA hB
          refine r_aload_n (pc := 112) h dX4_findGets_112 rfl ?_
          refine r_getR (pc := 113) h dX4_findGets_113 f_X4_54 sh_35 rfl ?_
          refine r_iconst (pc := 116) h dX4_findGets_116 ci_2 ?_
          refine r_iload (pc := 117) h dX4_findGets_117 rfl ?_
          refine r_imul (pc := 119) h dX4_findGets_119 ?_
          refine r_top (y := nI (2 * k)) h (nI_mul _ _) ?_
          refine r_iconst (pc := 120) h dX4_findGets_120 ci_1 ?_
          refine r_iadd (pc := 121) h dX4_findGets_121 ?_
          refine r_top (y := nI (2 * k + 1)) h (nI_add _ _) ?_
          refine r_aload_n (pc := 122) h dX4_findGets_122 rfl ?_
          refine r_getR (pc := 123) h dX4_findGets_123 f_X4_28 sh_35 rfl ?_
          refine r_iload_n (pc := 126) h dX4_findGets_126 rfl ?_
          refine r_ialoadE (pc := 127) h dX4_findGets_127 sh_42 (hR.sa hb9) ?_
          refine r_aload_n (pc := 128) h dX4_findGets_128 rfl ?_
          refine r_getR (pc := 129) h dX4_findGets_129 f_X4_28 sh_35 rfl ?_
          refine r_iload_n (pc := 132) h dX4_findGets_132 rfl ?_
          refine r_ialoadE (pc := 133) h dX4_findGets_133 sh_42 (hR.sa ha9) ?_
          refine r_aload_n (pc := 134) h dX4_findGets_134 rfl ?_
          refine r_getR (pc := 135) h dX4_findGets_135 f_X4_28 sh_35 rfl ?_
          refine r_iload_n (pc := 138) h dX4_findGets_138 rfl ?_
          refine r_ialoadE (pc := 139) h dX4_findGets_139 sh_42 (hR.sa hb9) ?_
          refine r_icmp_lt (pc := 140) (tgt := 147) h dX4_findGets_140 (by decide) (fun c140 => ?_) (fun c140 => ?_)
          · have q140 : daysC n (twK c a b k) 5 a < daysC n (twK c a b k) 5 b := (nI_ltI (by omega) (by omega)).mp c140
            refine r_iconst (pc := 147) h dX4_findGets_147 ci_0 ?_
            refine r_iadd (pc := 148) h dX4_findGets_148 ?_
            refine r_aload_n (pc := 149) h dX4_findGets_149 rfl ?_
            refine r_getR (pc := 150) h dX4_findGets_150 f_X4_25 sh_35 rfl ?_
            refine r_iload_n (pc := 153) h dX4_findGets_153 rfl ?_
            refine r_ialoadE (pc := 154) h dX4_findGets_154 sh_41 (hR.so hb9) ?_
            refine r_bipush (pc := 155) h dX4_findGets_155 cb_6 ?_
            refine r_idiv (pc := 157) h dX4_findGets_157 (by decide) ?_
            refine r_isub (pc := 158) h dX4_findGets_158 ?_
            refine r_top (y := wsh (daysC n (twK c a b k)) b a) h (by unfold wsh; first | rw [if_pos q140] | rw [if_neg q140]) ?_
            refine r_iastore (pc := 159) h dX4_findGets_159 sh_56 (vp_in_nI (show 2 * k + 1 < 8 by omega) (by decide)) ?_
            generalize hg3 : gup g2 56 _ _ = g3
            rw [nI_clamp (show 2 * k + 1 < 2147483648 by omega)] at hg3
            have hR : Rm g3 (daysC n (twK c a b k)) := by rw [← hg3]; exact hR.up (by decide) (by omega)
            have hF : tfX g g3 := by rw [← hg3]; exact hF.up (by omega)
            have hK : Rk g3 84 c := by rw [← hg3]; exact hK.up (by decide)
            have hA : ∀ j, j < k → g3 56 (2 * j) = tw1 c a b n j ∧ g3 56 (2 * j + 1) = tw2 c a b n j := fun j hj => by rw [← hg3, gup_o (by omega), gup_o (by omega)]; exact hA j hj
            have hC := gup_at hg3
            have hB := gup_kp hg3 (a := 56) (b := 2 * k) (by omega) hB
            clear hg3
            revert g3
            intro g2 hR hF hK hA hC hB
            refine r_aload_n (pc := 160) h dX4_findGets_160 rfl ?_
            refine r_callVv (pc := 161) (As := []) h dX4_findGets_161 k_X4_222 gc_35 rfl ⟨Nat.le_of_ble_eq_true rfl, Nat.le_of_ble_eq_true rfl, Nat.le_of_ble_eq_true rfl⟩ (c_X4_forgets hK) (fun g2 hq => ?_)
            obtain ⟨hR, hF1⟩ := hq
            have hF1 := hF1.tf
            have hF := hF.tr hF1.tx
            rw [← hF1.a56] at hA hB hC
            refine r_iinc (pc := 164) (ls2 := [_, _, _, _, _]) h dX4_findGets_164 rfl (ic1 _) rfl ?_
            refine r_goto (pc := 167) (tgt := 3) h dX4_findGets_167 (by decide) ?_
            exact ih (k + 1) g2 (by omega) hR hF (fun j hj => by
              by_cases e : j = k
              · rw [e]; exact ⟨hB, hC⟩
              · exact hA j (by omega))
          · have q140 : ¬ daysC n (twK c a b k) 5 a < daysC n (twK c a b k) 5 b := fun z => c140 (nI_lt z (by omega))
            refine r_iconst (pc := 143) h dX4_findGets_143 ci_2 ?_
            refine r_goto (pc := 144) (tgt := 148) h dX4_findGets_144 (by decide) ?_
            refine r_iadd (pc := 148) h dX4_findGets_148 ?_
            refine r_aload_n (pc := 149) h dX4_findGets_149 rfl ?_
            refine r_getR (pc := 150) h dX4_findGets_150 f_X4_25 sh_35 rfl ?_
            refine r_iload_n (pc := 153) h dX4_findGets_153 rfl ?_
            refine r_ialoadE (pc := 154) h dX4_findGets_154 sh_41 (hR.so hb9) ?_
            refine r_bipush (pc := 155) h dX4_findGets_155 cb_6 ?_
            refine r_idiv (pc := 157) h dX4_findGets_157 (by decide) ?_
            refine r_isub (pc := 158) h dX4_findGets_158 ?_
            refine r_top (y := wsh (daysC n (twK c a b k)) b a) h (by unfold wsh; first | rw [if_pos q140] | rw [if_neg q140]) ?_
            refine r_iastore (pc := 159) h dX4_findGets_159 sh_56 (vp_in_nI (show 2 * k + 1 < 8 by omega) (by decide)) ?_
            generalize hg3 : gup g2 56 _ _ = g3
            rw [nI_clamp (show 2 * k + 1 < 2147483648 by omega)] at hg3
            have hR : Rm g3 (daysC n (twK c a b k)) := by rw [← hg3]; exact hR.up (by decide) (by omega)
            have hF : tfX g g3 := by rw [← hg3]; exact hF.up (by omega)
            have hK : Rk g3 84 c := by rw [← hg3]; exact hK.up (by decide)
            have hA : ∀ j, j < k → g3 56 (2 * j) = tw1 c a b n j ∧ g3 56 (2 * j + 1) = tw2 c a b n j := fun j hj => by rw [← hg3, gup_o (by omega), gup_o (by omega)]; exact hA j hj
            have hC := gup_at hg3
            have hB := gup_kp hg3 (a := 56) (b := 2 * k) (by omega) hB
            clear hg3
            revert g3
            intro g2 hR hF hK hA hC hB
            refine r_aload_n (pc := 160) h dX4_findGets_160 rfl ?_
            refine r_callVv (pc := 161) (As := []) h dX4_findGets_161 k_X4_222 gc_35 rfl ⟨Nat.le_of_ble_eq_true rfl, Nat.le_of_ble_eq_true rfl, Nat.le_of_ble_eq_true rfl⟩ (c_X4_forgets hK) (fun g2 hq => ?_)
            obtain ⟨hR, hF1⟩ := hq
            have hF1 := hF1.tf
            have hF := hF.tr hF1.tx
            rw [← hF1.a56] at hA hB hC
            refine r_iinc (pc := 164) (ls2 := [_, _, _, _, _]) h dX4_findGets_164 rfl (ic1 _) rfl ?_
            refine r_goto (pc := 167) (tgt := 3) h dX4_findGets_167 (by decide) ?_
            exact ih (k + 1) g2 (by omega) hR hF (fun j hj => by
              by_cases e : j = k
              · rw [e]; exact ⟨hB, hC⟩
              · exact hA j (by omega))
      have two : ∀ g2 : gG, Rm g2 (if k / 2 = 0 then cup c 6 a 0 else c) → tfX g g2 → Rk g2 84 c → (∀ j, j < k → g2 56 (2 * j) = tw1 c a b n j ∧ g2 56 (2 * j + 1) = tw2 c a b n j) → G 37 [.ref 35, .int (nI a), .int (nI b), .int (nI n), .int (nI k)] [] g2 := by
        intro g2 hR hF hK hA
        generalize hd1 : (if k / 2 = 0 then cup c 6 a 0 else c) = d at hR
        have hb1 : b < d 7 1 := by rw [← hd1]; split <;> exact hb
        refine r_aload_n (pc := 37) h dX4_findGets_37 rfl ?_
        refine r_getR (pc := 38) h dX4_findGets_38 f_X4_31 sh_35 rfl ?_
        refine r_iload_n (pc := 41) h dX4_findGets_41 rfl ?_
        refine r_iload (pc := 42) h dX4_findGets_42 rfl ?_
        refine r_iconst (pc := 44) h dX4_findGets_44 ci_2 ?_
        refine r_irem (pc := 45) h dX4_findGets_45 (by decide) ?_
        refine r_top (y := nI (k % 2)) h (div_2 k hk4).2 ?_
        refine r_iconst (pc := 46) h dX4_findGets_46 ci_1 ?_
        refine r_icmp_ne (pc := 47) (tgt := 59) h dX4_findGets_47 (by decide) (fun c47 => ?_) (fun c47 => ?_)
        · have q1 : k % 2 = 0 := (k4_c k hk4).2.resolve_right (fun z => c47 (by rw [z]))
          refine r_iconst (pc := 59) h dX4_findGets_59 ci_0 ?_
          refine r_iastore (pc := 60) h dX4_findGets_60 sh_43 (hR.ci hb1) ?_
          generalize hg3 : gup g2 43 _ _ = g3
          have hR2 := Rm.wrX hF (hR.u_wo hb1 (0)) (by decide)
          rw [hg3] at hR2
          obtain ⟨hR, hF⟩ := hR2
          have hK : Rk g3 84 c := by rw [← hg3]; exact hK.up (by decide)
          have hA : ∀ j, j < k → g3 56 (2 * j) = tw1 c a b n j ∧ g3 56 (2 * j + 1) = tw2 c a b n j := fun j hj => by rw [← hg3, gup_o (by omega), gup_o (by omega)]; exact hA j hj
          clear hg3
          revert g3
          intro g2 hR hF hK hA
          have e2 : twK c a b k = cup d 6 b 0 := by unfold twK; rw [hd1]; exact if_pos q1
          rw [← e2] at hR
          exact three g2 hR hF hK hA
        · have q1 : ¬ k % 2 = 0 := fun z => by rw [z] at c47; exact absurd c47 (by decide)
          refine r_aload_n (pc := 50) h dX4_findGets_50 rfl ?_
          refine r_getR (pc := 51) h dX4_findGets_51 f_X4_31 sh_35 rfl ?_
          refine r_iload_n (pc := 54) h dX4_findGets_54 rfl ?_
          refine r_ialoadE (pc := 55) h dX4_findGets_55 sh_43 (hR.wo hb1) ?_
          refine r_goto (pc := 56) (tgt := 60) h dX4_findGets_56 (by decide) ?_
          refine r_iastore (pc := 60) h dX4_findGets_60 sh_43 (hR.ci hb1) ?_
          generalize hg3 : gup g2 43 _ _ = g3
          have hR2 := Rm.wrX hF (hR.u_wo hb1 (d 6 b)) (by decide)
          rw [hg3, cup_id] at hR2
          obtain ⟨hR, hF⟩ := hR2
          have hK : Rk g3 84 c := by rw [← hg3]; exact hK.up (by decide)
          have hA : ∀ j, j < k → g3 56 (2 * j) = tw1 c a b n j ∧ g3 56 (2 * j + 1) = tw2 c a b n j := fun j hj => by rw [← hg3, gup_o (by omega), gup_o (by omega)]; exact hA j hj
          clear hg3
          revert g3
          intro g2 hR hF hK hA
          have e2 : twK c a b k = d := by unfold twK; rw [hd1]; exact if_neg q1
          rw [← e2] at hR
          exact three g2 hR hF hK hA
      refine r_iload (pc := 3) h dX4_findGets_3 rfl ?_
      refine r_iconst (pc := 5) h dX4_findGets_5 ci_4 ?_
      refine r_icmp_ge (pc := 6) (tgt := 170) h dX4_findGets_6 (by decide) (fun c6 => absurd c6 (nI_ge hk4 (by decide))) (fun c6 => ?_)
      refine r_aload_n (pc := 9) h dX4_findGets_9 rfl ?_
      refine r_callVv (pc := 10) (As := []) h dX4_findGets_10 k_X4_219 gc_35 rfl ⟨Nat.le_of_ble_eq_true rfl, Nat.le_of_ble_eq_true rfl, Nat.le_of_ble_eq_true rfl⟩ (c_X4_thinks hR) (fun g2 hq => ?_)
      obtain ⟨hK, hF1⟩ := hq
      have hR := hR.kf hF1
      have hF1 := hF1.tf
      have hF := hF.tr hF1.tx
      rw [← hF1.a56] at hA
      refine r_aload_n (pc := 13) h dX4_findGets_13 rfl ?_
      refine r_getR (pc := 14) h dX4_findGets_14 f_X4_31 sh_35 rfl ?_
      refine r_iload_n (pc := 17) h dX4_findGets_17 rfl ?_
      refine r_iload (pc := 18) h dX4_findGets_18 rfl ?_
      refine r_iconst (pc := 20) h dX4_findGets_20 ci_2 ?_
      refine r_idiv (pc := 21) h dX4_findGets_21 (by decide) ?_
      refine r_top (y := nI (k / 2)) h (div_2 k hk4).1 ?_
      refine r_iconst (pc := 22) h dX4_findGets_22 ci_1 ?_
      refine r_icmp_ne (pc := 23) (tgt := 35) h dX4_findGets_23 (by decide) (fun c23 => ?_) (fun c23 => ?_)
      · have q2 : k / 2 = 0 := (k4_c k hk4).1.resolve_right (fun z => c23 (by rw [z]))
        refine r_iconst (pc := 35) h dX4_findGets_35 ci_0 ?_
        refine r_iastore (pc := 36) h dX4_findGets_36 sh_43 (hR.ci ha) ?_
        generalize hg3 : gup g2 43 _ _ = g3
        have hR2 := Rm.wrX hF (hR.u_wo ha (0)) (by decide)
        rw [hg3] at hR2
        obtain ⟨hR, hF⟩ := hR2
        have hK : Rk g3 84 c := by rw [← hg3]; exact hK.up (by decide)
        have hA : ∀ j, j < k → g3 56 (2 * j) = tw1 c a b n j ∧ g3 56 (2 * j + 1) = tw2 c a b n j := fun j hj => by rw [← hg3, gup_o (by omega), gup_o (by omega)]; exact hA j hj
        clear hg3
        revert g3
        intro g2 hR hF hK hA
        have e1 : (if k / 2 = 0 then cup c 6 a 0 else c) = cup c 6 a 0 := if_pos q2
        rw [← e1] at hR
        exact two g2 hR hF hK hA
      · have q2 : ¬ k / 2 = 0 := fun z => by rw [z] at c23; exact absurd c23 (by decide)
        refine r_aload_n (pc := 26) h dX4_findGets_26 rfl ?_
        refine r_getR (pc := 27) h dX4_findGets_27 f_X4_31 sh_35 rfl ?_
        refine r_iload_n (pc := 30) h dX4_findGets_30 rfl ?_
        refine r_ialoadE (pc := 31) h dX4_findGets_31 sh_43 (hR.wo ha) ?_
        refine r_goto (pc := 32) (tgt := 36) h dX4_findGets_32 (by decide) ?_
        refine r_iastore (pc := 36) h dX4_findGets_36 sh_43 (hR.ci ha) ?_
        generalize hg3 : gup g2 43 _ _ = g3
        have hR2 := Rm.wrX hF (hR.u_wo ha (c 6 a)) (by decide)
        rw [hg3, cup_id] at hR2
        obtain ⟨hR, hF⟩ := hR2
        have hK : Rk g3 84 c := by rw [← hg3]; exact hK.up (by decide)
        have hA : ∀ j, j < k → g3 56 (2 * j) = tw1 c a b n j ∧ g3 56 (2 * j + 1) = tw2 c a b n j := fun j hj => by rw [← hg3, gup_o (by omega), gup_o (by omega)]; exact hA j hj
        clear hg3
        revert g3
        intro g2 hR hF hK hA
        have e1 : (if k / 2 = 0 then cup c 6 a 0 else c) = c := if_neg q2
        rw [← e1] at hR
        exact two g2 hR hF hK hA
  refine r_iconst (pc := 0) h dX4_findGets_0 ci_0 ?_
  refine r_istore (pc := 1) (ls2 := [_, _, _, _, _]) h dX4_findGets_1 (Nat.le_of_ble_eq_true rfl) rfl ?_
  exact loop 4 0 g rfl hR tfX.rf (fun j hj => absurd hj (by omega))
set_option maxRecDepth 100000 in
set_option maxHeartbeats 4000000 in
theorem y_two (hR : Rm g c) (hX : MSr g ck hk lt nl rv nr rf) (ho : gok c) (hd : c 7 3 ≤ 999) (x y v : Int32) : gCi mX4_two [.ref 35, .int x, .int y, .int v] g (fun r g1 => r = ansI (twW c x y v) (twV c x.toNatClampNeg y.toNatClampNeg v.toNatClampNeg) ∧ Rm g1 (c) ∧ MSr g1 ck hk lt nl rv nr (rfI rf (twW c x y v)) ∧ frm 35 58 g g1) := by
  refine gCi_of (own := RX4) (ls0 := [.ref 35, .int x, .int y, .int v, .null, .null]) ⟨rfl, pl_X4⟩ rfl (Nat.le_of_ble_eq_true rfl) (fun G (h : gR RX4 cX4_two 7 280 G) (t : gTi cX4_two .int _ G) => ?_)
  have hn5 := hR.n5
  have hn6 := hR.n6
  have loop : ∀ a b n, a < c 7 1 → b < c 7 1 → n ≤ 30 → twW c (nI a) (nI b) (nI n) = 0 → x = nI a → y = nI b → v = nI n → ∀ (a4 : Int32) (g2 : gG), Rm g2 c → tfX g g2 → (∀ k, k < 4 → g2 56 (2 * k) = tw1 c a b n k ∧ g2 56 (2 * k + 1) = tw2 c a b n k) → ∀ m k, k + m = 4 → gfind (twP c a b n) m k = gfind (twP c a b n) 4 0 → G 83 [.ref 35, .int (nI a), .int (nI b), .int (nI n), .int a4, .int (nI k)] [] g2 := by
    intro a b n ha hb hn hw hx hy hv a4 g2 hR hF hA m
    subst hx; subst hy; subst hv
    have ea : (nI a).toNatClampNeg = a := nI_clamp (by omega)
    have eb : (nI b).toNatClampNeg = b := nI_clamp (by omega)
    have en : (nI n).toNatClampNeg = n := nI_clamp (by omega)
    induction m with
    | zero =>
      intro k hk hz
      refine r_iload (pc := 83) h dX4_two_83 rfl ?_
      refine r_iconst (pc := 85) h dX4_two_85 ci_4 ?_
      refine r_icmp_ge (pc := 86) (tgt := 158) h dX4_two_86 (by decide) (fun c86 => ?_) (fun c86 => absurd (nI_le (by omega) (by omega)) c86)
      refine r_bipush (pc := 158) h dX4_two_158 cb_m9 ?_
      refine r_ri t (pc := 160) dX4_two_160 rfl ?_
      exact y_ok hR (hX.tx hF) hF.frm hw (by rw [ea, eb, en]; unfold twV; rw [← hz]; rfl)
    | succ m ih =>
      intro k hk hz
      have hk4 : k < 4 := by omega
      have hx2 := (k4_x2 k hk4).2
      have hx1 := (k4_x1 k hk4).2
      refine r_iload (pc := 83) h dX4_two_83 rfl ?_
      refine r_iconst (pc := 85) h dX4_two_85 ci_4 ?_
      refine r_icmp_ge (pc := 86) (tgt := 158) h dX4_two_86 (by decide) (fun c86 => absurd c86 (nI_ge hk4 (by decide))) (fun c86 => ?_)
      refine r_aload_n (pc := 89) h dX4_two_89 rfl ?_
      refine r_getR (pc := 90) h dX4_two_90 f_X4_54 sh_35 rfl ?_
      refine r_iconst (pc := 93) h dX4_two_93 ci_2 ?_
      refine r_iload (pc := 94) h dX4_two_94 rfl ?_
      refine r_iconst (pc := 96) h dX4_two_96 ci_2 ?_
      refine r_ixor (pc := 97) h dX4_two_97 ?_
      refine r_imul (pc := 98) h dX4_two_98 ?_
      refine r_top (y := nI (2 * (k ^^^ 2))) h (by rw [(k4_x2 k hk4).1, nI_mul]) ?_
      refine r_ialoadE (pc := 99) h dX4_two_99 sh_56 (ixe (show 2 * (k ^^^ 2) < 8 by omega) (by decide) (hA (k ^^^ 2) hx2).1) ?_
      refine r_aload_n (pc := 100) h dX4_two_100 rfl ?_
      refine r_getR (pc := 101) h dX4_two_101 f_X4_54 sh_35 rfl ?_
      refine r_iconst (pc := 104) h dX4_two_104 ci_2 ?_
      refine r_iload (pc := 105) h dX4_two_105 rfl ?_
      refine r_imul (pc := 107) h dX4_two_107 ?_
      refine r_top (y := nI (2 * k)) h (nI_mul _ _) ?_
      refine r_ialoadE (pc := 108) h dX4_two_108 sh_56 (ixe (show 2 * k < 8 by omega) (by decide) (hA k hk4).1) ?_
      refine r_icmp_gt (pc := 109) (tgt := 152) h dX4_two_109 (by decide) (fun c109 => ?_) (fun c109 => ?_)
      · refine r_iinc (pc := 152) (ls2 := [_, _, _, _, _, _]) h dX4_two_152 rfl (ic1 _) rfl ?_
        refine r_goto (pc := 155) (tgt := 83) h dX4_two_155 (by decide) ?_
        exact ih (k + 1) (by omega) (by rw [← hz, gfind, if_neg (by unfold twP; rw [decide_eq_true c109, Bool.not_true, Bool.false_and]; decide)])
      · refine r_aload_n (pc := 112) h dX4_two_112 rfl ?_
        refine r_getR (pc := 113) h dX4_two_113 f_X4_54 sh_35 rfl ?_
        refine r_iconst (pc := 116) h dX4_two_116 ci_2 ?_
        refine r_iload (pc := 117) h dX4_two_117 rfl ?_
        refine r_iconst (pc := 119) h dX4_two_119 ci_1 ?_
        refine r_ixor (pc := 120) h dX4_two_120 ?_
        refine r_imul (pc := 121) h dX4_two_121 ?_
        refine r_iconst (pc := 122) h dX4_two_122 ci_1 ?_
        refine r_iadd (pc := 123) h dX4_two_123 ?_
        refine r_top (y := nI (2 * (k ^^^ 1) + 1)) h (by rw [(k4_x1 k hk4).1, nI_mul, nI_add]) ?_
        refine r_ialoadE (pc := 124) h dX4_two_124 sh_56 (ixe (show 2 * (k ^^^ 1) + 1 < 8 by omega) (by decide) (hA (k ^^^ 1) hx1).2) ?_
        refine r_aload_n (pc := 125) h dX4_two_125 rfl ?_
        refine r_getR (pc := 126) h dX4_two_126 f_X4_54 sh_35 rfl ?_
        refine r_iconst (pc := 129) h dX4_two_129 ci_2 ?_
        refine r_iload (pc := 130) h dX4_two_130 rfl ?_
        refine r_imul (pc := 132) h dX4_two_132 ?_
        refine r_iconst (pc := 133) h dX4_two_133 ci_1 ?_
        refine r_iadd (pc := 134) h dX4_two_134 ?_
        refine r_top (y := nI (2 * k + 1)) h (by rw [nI_mul, nI_add]) ?_
        refine r_ialoadE (pc := 135) h dX4_two_135 sh_56 (ixe (show 2 * k + 1 < 8 by omega) (by decide) (hA k hk4).2) ?_
        refine r_icmp_gt (pc := 136) (tgt := 152) h dX4_two_136 (by decide) (fun c136 => ?_) (fun c136 => ?_)
        · refine r_iinc (pc := 152) (ls2 := [_, _, _, _, _, _]) h dX4_two_152 rfl (ic1 _) rfl ?_
          refine r_goto (pc := 155) (tgt := 83) h dX4_two_155 (by decide) ?_
          exact ih (k + 1) (by omega) (by rw [← hz, gfind, if_neg (by unfold twP; rw [decide_eq_true c136, Bool.not_true, Bool.and_false]; decide)])
        · refine r_bipush (pc := 139) h dX4_two_139 cb_10 ?_
          refine r_iload (pc := 141) h dX4_two_141 rfl ?_
          refine r_iconst (pc := 143) h dX4_two_143 ci_2 ?_
          refine r_idiv (pc := 144) h dX4_two_144 (by decide) ?_
          refine r_imul (pc := 145) h dX4_two_145 ?_
          refine r_iload (pc := 146) h dX4_two_146 rfl ?_
          refine r_iconst (pc := 148) h dX4_two_148 ci_2 ?_
          refine r_irem (pc := 149) h dX4_two_149 (by decide) ?_
          refine r_iadd (pc := 150) h dX4_two_150 ?_
          refine r_ri t (pc := 151) dX4_two_151 rfl ?_
          exact y_ok hR (hX.tx hF) hF.frm hw (by rw [ea, eb, en]; unfold twV; rw [← hz, gfind, if_pos (by unfold twP; rw [decide_eq_false c109, decide_eq_false c136]; rfl)]; exact k4_r k hk4)
  suffices H : ∀ g2 : gG, Rm g2 c → tfX g g2 → G 0 [.ref 35, .int x, .int y, .int v, .null, .null] [] g2 from H g hR tfX.rf
  intro g2 hR hF
  refine r_aload_n (pc := 0) h dX4_two_0 rfl ?_
  refine r_iload_n (pc := 1) h dX4_two_1 rfl ?_
  refine r_callVi (pc := 2) (As := [_]) h dX4_two_2 k_X4_112 gc_35 rfl ⟨Nat.le_of_ble_eq_true rfl, Nat.le_of_ble_eq_true rfl, Nat.le_of_ble_eq_true rfl⟩ (c_X4_isCaller hR x) (fun x_2 g2 hq => ?_)
  obtain ⟨rfl, rfl⟩ := hq
  refine r_if_eq (pc := 5) (tgt := 21) h dX4_two_5 (by decide) (fun c5 => ?_) (fun c5 => ?_)
  · have hbx : inB x (c 7 1) = false := (bI_0 (inB x (c 7 1))).mp c5
    have hw : ¬ (-1 : Int32) = 0 := by decide
    have hok : okw (-1) := okw_1
    have e1 : fstI (calW c x) (calW c y) (if x = y then -1 else nI 0) = -1 := by unfold calW whyB fstI; rw [hbx]; rfl
    have ew : twW c x y v = -1 := by unfold twW; rw [e1]; rfl
    refine r_iconst (pc := 21) h dX4_two_21 ci_m1 ?_
    refine r_goto (pc := 22) (tgt := 32) h dX4_two_22 (by decide) ?_
    refine r_istore (pc := 32) (ls2 := [_, _, _, _, _, _]) h dX4_two_32 (Nat.le_of_ble_eq_true rfl) rfl ?_
    refine r_iload (pc := 34) h dX4_two_34 rfl ?_
    refine r_if_ne (pc := 36) (tgt := 61) h dX4_two_36 (by decide) (fun c36 => ?_) (fun c36 => absurd c36 (by decide))
    refine r_iload (pc := 61) h dX4_two_61 rfl ?_
    refine r_if_eq (pc := 63) (tgt := 73) h dX4_two_63 (by decide) (fun c63 => absurd c63 (by decide)) (fun c63 => ?_)
    refine r_aload_n (pc := 66) h dX4_two_66 rfl ?_
    refine r_iload (pc := 67) h dX4_two_67 rfl ?_
    refine r_callVi (pc := 69) (As := [_]) h dX4_two_69 k_X4_77 gc_35 rfl ⟨Nat.le_of_ble_eq_true rfl, Nat.le_of_ble_eq_true rfl, Nat.le_of_ble_eq_true rfl⟩ (c_X4_no (okw_in hok hw).1) (fun x_69 g2 hq => ?_)
    obtain ⟨rfl, rfl⟩ := hq
    refine r_ri t (pc := 72) dX4_two_72 rfl ?_
    rw [ew]
    have hq := y_ref hR (hX.tx hF) hok hw (v := twV c x.toNatClampNeg y.toNatClampNeg v.toNatClampNeg)
    exact ⟨hq.1, hq.2.1, hq.2.2.1, hF.frm.tr hq.2.2.2⟩
  · have hbx : inB x (c 7 1) = true := by simpa using mt (bI_0 (inB x (c 7 1))).mpr c5
    have hcx : calW c x = 0 := by unfold calW whyB; rw [if_pos hbx]; rfl
    refine r_aload_n (pc := 8) h dX4_two_8 rfl ?_
    refine r_iload_n (pc := 9) h dX4_two_9 rfl ?_
    refine r_callVi (pc := 10) (As := [_]) h dX4_two_10 k_X4_112 gc_35 rfl ⟨Nat.le_of_ble_eq_true rfl, Nat.le_of_ble_eq_true rfl, Nat.le_of_ble_eq_true rfl⟩ (c_X4_isCaller hR y) (fun x_10 g2 hq => ?_)
    obtain ⟨rfl, rfl⟩ := hq
    refine r_if_eq (pc := 13) (tgt := 21) h dX4_two_13 (by decide) (fun c13 => ?_) (fun c13 => ?_)
    · have hby : inB y (c 7 1) = false := (bI_0 (inB y (c 7 1))).mp c13
      have hw : ¬ (-1 : Int32) = 0 := by decide
      have hok : okw (-1) := okw_1
      have e1 : fstI (calW c x) (calW c y) (if x = y then -1 else nI 0) = -1 := by unfold fstI; rw [if_pos hcx]; unfold calW whyB; rw [hby]; rfl
      have ew : twW c x y v = -1 := by unfold twW; rw [e1]; rfl
      refine r_iconst (pc := 21) h dX4_two_21 ci_m1 ?_
      refine r_goto (pc := 22) (tgt := 32) h dX4_two_22 (by decide) ?_
      refine r_istore (pc := 32) (ls2 := [_, _, _, _, _, _]) h dX4_two_32 (Nat.le_of_ble_eq_true rfl) rfl ?_
      refine r_iload (pc := 34) h dX4_two_34 rfl ?_
      refine r_if_ne (pc := 36) (tgt := 61) h dX4_two_36 (by decide) (fun c36 => ?_) (fun c36 => absurd c36 (by decide))
      refine r_iload (pc := 61) h dX4_two_61 rfl ?_
      refine r_if_eq (pc := 63) (tgt := 73) h dX4_two_63 (by decide) (fun c63 => absurd c63 (by decide)) (fun c63 => ?_)
      refine r_aload_n (pc := 66) h dX4_two_66 rfl ?_
      refine r_iload (pc := 67) h dX4_two_67 rfl ?_
      refine r_callVi (pc := 69) (As := [_]) h dX4_two_69 k_X4_77 gc_35 rfl ⟨Nat.le_of_ble_eq_true rfl, Nat.le_of_ble_eq_true rfl, Nat.le_of_ble_eq_true rfl⟩ (c_X4_no (okw_in hok hw).1) (fun x_69 g2 hq => ?_)
      obtain ⟨rfl, rfl⟩ := hq
      refine r_ri t (pc := 72) dX4_two_72 rfl ?_
      rw [ew]
      have hq := y_ref hR (hX.tx hF) hok hw (v := twV c x.toNatClampNeg y.toNatClampNeg v.toNatClampNeg)
      exact ⟨hq.1, hq.2.1, hq.2.2.1, hF.frm.tr hq.2.2.2⟩
    · have hby : inB y (c 7 1) = true := by simpa using mt (bI_0 (inB y (c 7 1))).mpr c13
      have hcy : calW c y = 0 := by unfold calW whyB; rw [if_pos hby]; rfl
      refine r_iload_n (pc := 16) h dX4_two_16 rfl ?_
      refine r_iload_n (pc := 17) h dX4_two_17 rfl ?_
      refine r_icmp_ne (pc := 18) (tgt := 25) h dX4_two_18 (by decide) (fun c18 => ?_) (fun c18 => ?_)
      · have hxy : ¬ x = y := c18
        have e0 : fstI (calW c x) (calW c y) (if x = y then -1 else nI 0) = 0 := fst_0.mpr ⟨hcx, hcy, if_neg hxy⟩
        have et : twW c x y v = fstI (bndI v (nI 0) (nI 30)) (insW c x) (insW c y) := by unfold twW; rw [if_pos e0]
        obtain ⟨a, ha, hxa⟩ := (inB_iff (by omega)).mp hbx
        obtain ⟨b, hb, hyb⟩ := (inB_iff (by omega)).mp hby
        subst hxa; subst hyb
        have ea : (nI a).toNatClampNeg = a := nI_clamp (by omega)
        have eb : (nI b).toNatClampNeg = b := nI_clamp (by omega)
        have ia : insW c (nI a) = if c 6 a = 0 then -3 else nI 0 := by unfold insW whyB; rw [hbx, ea]; by_cases z : c 6 a = 0 <;> simp [z]
        have ib : insW c (nI b) = if c 6 b = 0 then -3 else nI 0 := by unfold insW whyB; rw [hby, eb]; by_cases z : c 6 b = 0 <;> simp [z]
        have h6a := (ho.2.2.2 a ha).2.2.2
        have h6b := (ho.2.2.2 b hb).2.2.2
        refine r_iload_n (pc := 25) h dX4_two_25 rfl ?_
        refine r_iconst (pc := 26) h dX4_two_26 ci_0 ?_
        refine r_bipush (pc := 27) h dX4_two_27 cb_30 ?_
        refine r_callSi (pc := 29) (As := [_, _, _]) h dX4_two_29 k_X4_70 rfl ⟨Nat.le_of_ble_eq_true rfl, Nat.le_of_ble_eq_true rfl, Nat.le_of_ble_eq_true rfl⟩ (c_X4_bound _ _ _) (fun x_29 g2 hq => ?_)
        obtain ⟨rfl, rfl⟩ := hq
        refine r_istore (pc := 32) (ls2 := [_, _, _, _, _, _]) h dX4_two_32 (Nat.le_of_ble_eq_true rfl) rfl ?_
        refine r_iload (pc := 34) h dX4_two_34 rfl ?_
        refine r_if_ne (pc := 36) (tgt := 61) h dX4_two_36 (by decide) (fun c36 => ?_) (fun c36 => ?_)
        · have hw : ¬ bndI v (nI 0) (nI 30) = 0 := c36
          have hok : okw (bndI v (nI 0) (nI 30)) := okw_n
          have ew : twW c (nI a) (nI b) v = bndI v (nI 0) (nI 30) := by rw [et]; unfold fstI; rw [if_neg hw]
          refine r_iload (pc := 61) h dX4_two_61 rfl ?_
          refine r_if_eq (pc := 63) (tgt := 73) h dX4_two_63 (by decide) (fun c63 => absurd c63 (c36)) (fun c63 => ?_)
          refine r_aload_n (pc := 66) h dX4_two_66 rfl ?_
          refine r_iload (pc := 67) h dX4_two_67 rfl ?_
          refine r_callVi (pc := 69) (As := [_]) h dX4_two_69 k_X4_77 gc_35 rfl ⟨Nat.le_of_ble_eq_true rfl, Nat.le_of_ble_eq_true rfl, Nat.le_of_ble_eq_true rfl⟩ (c_X4_no (okw_in hok hw).1) (fun x_69 g2 hq => ?_)
          obtain ⟨rfl, rfl⟩ := hq
          refine r_ri t (pc := 72) dX4_two_72 rfl ?_
          rw [ew]
          have hq := y_ref hR (hX.tx hF) hok hw (v := twV c a b v.toNatClampNeg)
          simp only [ea, eb]
          exact ⟨hq.1, hq.2.1, hq.2.2.1, hF.frm.tr hq.2.2.2⟩
        · obtain ⟨n, -, hn, hvn⟩ := bnd_nat (by decide) (by decide) c36
          subst hvn
          refine r_aload_n (pc := 39) h dX4_two_39 rfl ?_
          refine r_getR (pc := 40) h dX4_two_40 f_X4_31 sh_35 rfl ?_
          refine r_iload_n (pc := 43) h dX4_two_43 rfl ?_
          refine r_ialoadE (pc := 44) h dX4_two_44 sh_43 (hR.wo ha) ?_
          refine r_if_eq (pc := 45) (tgt := 57) h dX4_two_45 (by decide) (fun c45 => ?_) (fun c45 => ?_)
          · have za : c 6 a = 0 := (nI_eq0 (by omega)).mp c45
            have hw : ¬ (-3 : Int32) = 0 := by decide
            have hok : okw (-3) := okw_3
            have ew : twW c (nI a) (nI b) (nI n) = -3 := by rw [et, ia, if_pos za]; unfold fstI; rw [if_pos c36]; rfl
            refine r_bipush (pc := 57) h dX4_two_57 cb_m3 ?_
            refine r_istore (pc := 59) (ls2 := [_, _, _, _, _, _]) h dX4_two_59 (Nat.le_of_ble_eq_true rfl) rfl ?_
            refine r_iload (pc := 61) h dX4_two_61 rfl ?_
            refine r_if_eq (pc := 63) (tgt := 73) h dX4_two_63 (by decide) (fun c63 => absurd c63 (by decide)) (fun c63 => ?_)
            refine r_aload_n (pc := 66) h dX4_two_66 rfl ?_
            refine r_iload (pc := 67) h dX4_two_67 rfl ?_
            refine r_callVi (pc := 69) (As := [_]) h dX4_two_69 k_X4_77 gc_35 rfl ⟨Nat.le_of_ble_eq_true rfl, Nat.le_of_ble_eq_true rfl, Nat.le_of_ble_eq_true rfl⟩ (c_X4_no (okw_in hok hw).1) (fun x_69 g2 hq => ?_)
            obtain ⟨rfl, rfl⟩ := hq
            refine r_ri t (pc := 72) dX4_two_72 rfl ?_
            rw [ew]
            have hq := y_ref hR (hX.tx hF) hok hw (v := twV c a b n)
            simp only [ea, eb, nI_clamp (show n < 2147483648 by omega)]
            exact ⟨hq.1, hq.2.1, hq.2.2.1, hF.frm.tr hq.2.2.2⟩
          · have za : ¬ c 6 a = 0 := fun z => c45 (by rw [z]; rfl)
            rw [if_neg za] at ia
            refine r_aload_n (pc := 48) h dX4_two_48 rfl ?_
            refine r_getR (pc := 49) h dX4_two_49 f_X4_31 sh_35 rfl ?_
            refine r_iload_n (pc := 52) h dX4_two_52 rfl ?_
            refine r_ialoadE (pc := 53) h dX4_two_53 sh_43 (hR.wo hb) ?_
            refine r_if_ne (pc := 54) (tgt := 61) h dX4_two_54 (by decide) (fun c54 => ?_) (fun c54 => ?_)
            · have zb : ¬ c 6 b = 0 := fun z => c54 (by rw [z]; rfl)
              rw [if_neg zb] at ib
              have hw : twW c (nI a) (nI b) (nI n) = 0 := by rw [et]; exact fst_0.mpr ⟨c36, ia, ib⟩
              refine r_iload (pc := 61) h dX4_two_61 rfl ?_
              refine r_if_eq (pc := 63) (tgt := 73) h dX4_two_63 (by decide) (fun c63 => ?_) (fun c63 => absurd (c36) c63)
              refine r_aload_n (pc := 73) h dX4_two_73 rfl ?_
              refine r_iload_n (pc := 74) h dX4_two_74 rfl ?_
              refine r_iload_n (pc := 75) h dX4_two_75 rfl ?_
              refine r_iload_n (pc := 76) h dX4_two_76 rfl ?_
              refine r_callVv (pc := 77) (As := [_, _, _]) h dX4_two_77 k_X4_276 gc_35 rfl ⟨Nat.le_of_ble_eq_true rfl, Nat.le_of_ble_eq_true rfl, Nat.le_of_ble_eq_true rfl⟩ (c_X4_findGets hR ho hd ha hb hn) (fun g2 hq => ?_)
              obtain ⟨hR, hA, hF1⟩ := hq
              have hF := hF.tr hF1
              refine r_iconst (pc := 80) h dX4_two_80 ci_0 ?_
              refine r_istore (pc := 81) (ls2 := [_, _, _, _, _, _]) h dX4_two_81 (Nat.le_of_ble_eq_true rfl) rfl ?_
              exact loop a b n ha hb hn hw rfl rfl rfl _ g2 hR hF hA 4 0 rfl rfl
            · have zb : c 6 b = 0 := (nI_eq0 (by omega)).mp c54
              have hw : ¬ (-3 : Int32) = 0 := by decide
              have hok : okw (-3) := okw_3
              have ew : twW c (nI a) (nI b) (nI n) = -3 := by rw [et, ia, ib, if_pos zb]; unfold fstI; rw [if_pos c36]; rfl
              refine r_bipush (pc := 57) h dX4_two_57 cb_m3 ?_
              refine r_istore (pc := 59) (ls2 := [_, _, _, _, _, _]) h dX4_two_59 (Nat.le_of_ble_eq_true rfl) rfl ?_
              refine r_iload (pc := 61) h dX4_two_61 rfl ?_
              refine r_if_eq (pc := 63) (tgt := 73) h dX4_two_63 (by decide) (fun c63 => absurd c63 (by decide)) (fun c63 => ?_)
              refine r_aload_n (pc := 66) h dX4_two_66 rfl ?_
              refine r_iload (pc := 67) h dX4_two_67 rfl ?_
              refine r_callVi (pc := 69) (As := [_]) h dX4_two_69 k_X4_77 gc_35 rfl ⟨Nat.le_of_ble_eq_true rfl, Nat.le_of_ble_eq_true rfl, Nat.le_of_ble_eq_true rfl⟩ (c_X4_no (okw_in hok hw).1) (fun x_69 g2 hq => ?_)
              obtain ⟨rfl, rfl⟩ := hq
              refine r_ri t (pc := 72) dX4_two_72 rfl ?_
              rw [ew]
              have hq := y_ref hR (hX.tx hF) hok hw (v := twV c a b n)
              simp only [ea, eb, nI_clamp (show n < 2147483648 by omega)]
              exact ⟨hq.1, hq.2.1, hq.2.2.1, hF.frm.tr hq.2.2.2⟩
      · have hxy : x = y := c18
        have hw : ¬ (-1 : Int32) = 0 := by decide
        have hok : okw (-1) := okw_1
        have e1 : fstI (calW c x) (calW c y) (if x = y then -1 else nI 0) = -1 := by unfold fstI; rw [if_pos hcx, if_pos hcy, if_pos hxy]
        have ew : twW c x y v = -1 := by unfold twW; rw [e1]; rfl
        refine r_iconst (pc := 21) h dX4_two_21 ci_m1 ?_
        refine r_goto (pc := 22) (tgt := 32) h dX4_two_22 (by decide) ?_
        refine r_istore (pc := 32) (ls2 := [_, _, _, _, _, _]) h dX4_two_32 (Nat.le_of_ble_eq_true rfl) rfl ?_
        refine r_iload (pc := 34) h dX4_two_34 rfl ?_
        refine r_if_ne (pc := 36) (tgt := 61) h dX4_two_36 (by decide) (fun c36 => ?_) (fun c36 => absurd c36 (by decide))
        refine r_iload (pc := 61) h dX4_two_61 rfl ?_
        refine r_if_eq (pc := 63) (tgt := 73) h dX4_two_63 (by decide) (fun c63 => absurd c63 (by decide)) (fun c63 => ?_)
        refine r_aload_n (pc := 66) h dX4_two_66 rfl ?_
        refine r_iload (pc := 67) h dX4_two_67 rfl ?_
        refine r_callVi (pc := 69) (As := [_]) h dX4_two_69 k_X4_77 gc_35 rfl ⟨Nat.le_of_ble_eq_true rfl, Nat.le_of_ble_eq_true rfl, Nat.le_of_ble_eq_true rfl⟩ (c_X4_no (okw_in hok hw).1) (fun x_69 g2 hq => ?_)
        obtain ⟨rfl, rfl⟩ := hq
        refine r_ri t (pc := 72) dX4_two_72 rfl ?_
        rw [ew]
        have hq := y_ref hR (hX.tx hF) hok hw (v := twV c x.toNatClampNeg y.toNatClampNeg v.toNatClampNeg)
        exact ⟨hq.1, hq.2.1, hq.2.2.1, hF.frm.tr hq.2.2.2⟩
end TX
