section TX
variable {g : gG} {c ck : gCt} {hk : Bool} {lt : Nat → Nat} {nl : Nat} {rv : Nat → Nat} {nr : Nat} {rf : Nat → Int32}
set_option maxRecDepth 100000 in
set_option maxHeartbeats 4000000 in
theorem c_X1_mostWith {g : gG} {i s u b x : Nat} (hi : i < 5) (hs : s < 7) (hu : u < 64) (hx : x < 2 ^ 7) (hC : g 29 i = nI x) (hB : g 28 ((i + 1) * 64 + u) = nI b) : gCi mX1_mostWith [.ref 27, .int (nI i), .int (nI s), .int (nI u)] g (fun y g1 => y = nI (x / 2 ^ s % 2 + b) ∧ g1 = g) := by
  refine gCi_of (own := RX1) (ls0 := [.ref 27, .int (nI i), .int (nI s), .int (nI u)]) ⟨rfl, pl_X1⟩ rfl (Nat.le_of_ble_eq_true rfl) (fun G (h : gR RX1 cX1_mostWith 0 0 G) (t : gTi cX1_mostWith .int _ G) => ?_)
  refine r_aload_n (pc := 0) h dX1_mostWith_0 rfl ?_
  refine r_getR (pc := 1) h dX1_mostWith_1 f_X1_15 sh_27 rfl ?_
  refine r_iload_n (pc := 4) h dX1_mostWith_4 rfl ?_
  refine r_ialoadE (pc := 5) h dX1_mostWith_5 sh_29 (ixe hi (by decide) hC) ?_
  refine r_iload_n (pc := 6) h dX1_mostWith_6 rfl ?_
  refine r_ishr (pc := 7) h dX1_mostWith_7 ?_
  refine r_iconst (pc := 8) h dX1_mostWith_8 ci_1 ?_
  refine r_iand (pc := 9) h dX1_mostWith_9 ?_
  refine r_top (y := nI (x / 2 ^ s % 2)) h (bit_sh s hs x hx) ?_
  refine r_aload_n (pc := 10) h dX1_mostWith_10 rfl ?_
  refine r_getR (pc := 11) h dX1_mostWith_11 f_X1_11 sh_27 rfl ?_
  refine r_iload_n (pc := 14) h dX1_mostWith_14 rfl ?_
  refine r_iconst (pc := 15) h dX1_mostWith_15 ci_1 ?_
  refine r_iadd (pc := 16) h dX1_mostWith_16 ?_
  refine r_top (y := nI (i + 1)) h (nI_add _ _) ?_
  refine r_bipush (pc := 17) h dX1_mostWith_17 cb_64 ?_
  refine r_imul (pc := 19) h dX1_mostWith_19 ?_
  refine r_iload_n (pc := 20) h dX1_mostWith_20 rfl ?_
  refine r_iadd (pc := 21) h dX1_mostWith_21 ?_
  refine r_top (y := nI ((i + 1) * 64 + u)) h (by rw [nI_mul, nI_add]) ?_
  refine r_ialoadE (pc := 22) h dX1_mostWith_22 sh_28 (ixe (show (i + 1) * 64 + u < 384 by omega) (by decide) hB) ?_
  refine r_iadd (pc := 23) h dX1_mostWith_23 ?_
  refine r_ri t (pc := 24) dX1_mostWith_24 rfl ?_
  exact ⟨nI_add _ _, rfl⟩
set_option maxRecDepth 100000 in
set_option maxHeartbeats 4000000 in
theorem c_X1_bitsOfCan {g : gG} {c : gCt} (hR : Rx1 g c) (ho : gok c) {i : Nat} (hi : i < c 7 1) : gCi mX1_bitsOfCan [.ref 1, .int (nI i)] g (fun y g1 => y = nI (cbV c i) ∧ g1 = g) := by
  refine gCi_of (own := RX1) (ls0 := [.ref 1, .int (nI i), .null, .null]) ⟨rfl, pl_X1⟩ rfl (Nat.le_of_ble_eq_true rfl) (fun G (h : gR RX1 cX1_bitsOfCan 2 80 G) (t : gTi cX1_bitsOfCan .int _ G) => ?_)
  have hn5 := hR.n5
  have hn6 := hR.n6
  have loop : ∀ m s a, s + m = c 7 0 → gfold (cbF c i) m s a = cbV c i → G 22 [.ref 1, .int (nI i), .int (nI a), .int (nI s)] [] g := by
    intro m
    induction m with
    | zero =>
      intro s a hs0 hz
      refine r_iload_n (pc := 22) h dX1_bitsOfCan_22 rfl ?_
      refine r_aload_n (pc := 23) h dX1_bitsOfCan_23 rfl ?_
      refine r_getE (pc := 24) h dX1_bitsOfCan_24 f_X1_18 sh_1 rfl (hR.ns) ?_
      refine r_icmp_ge (pc := 27) (tgt := 55) h dX1_bitsOfCan_27 (by decide) (fun c27 => ?_) (fun c27 => absurd (nI_le (by omega) (by omega)) c27)
      refine r_iload_n (pc := 55) h dX1_bitsOfCan_55 rfl ?_
      refine r_ri t (pc := 56) dX1_bitsOfCan_56 rfl ?_
      exact ⟨by rw [← hz]; rfl, rfl⟩
    | succ m ih =>
      intro s a hs0 hz
      have hs : s < c 7 0 := by omega
      have hcv : cvr c s ≤ 31 := covN_le (ho.2.2.1 s hs).2.1 _
      refine r_iload_n (pc := 22) h dX1_bitsOfCan_22 rfl ?_
      refine r_aload_n (pc := 23) h dX1_bitsOfCan_23 rfl ?_
      refine r_getE (pc := 24) h dX1_bitsOfCan_24 f_X1_18 sh_1 rfl (hR.ns) ?_
      refine r_icmp_ge (pc := 27) (tgt := 55) h dX1_bitsOfCan_27 (by decide) (fun c27 => absurd c27 (nI_ge hs (by omega))) (fun c27 => ?_)
      refine r_aload_n (pc := 30) h dX1_bitsOfCan_30 rfl ?_
      refine r_iload_n (pc := 31) h dX1_bitsOfCan_31 rfl ?_
      refine r_aload_n (pc := 32) h dX1_bitsOfCan_32 rfl ?_
      refine r_iload_n (pc := 33) h dX1_bitsOfCan_33 rfl ?_
      refine r_callVi (pc := 34) (As := [_]) h dX1_bitsOfCan_34 k_X1_46 gc_1 rfl ⟨Nat.le_of_ble_eq_true rfl, Nat.le_of_ble_eq_true rfl, Nat.le_of_ble_eq_true rfl⟩ (c_X0_covers_1 hR ho hs) (fun x_34 g2 hq => ?_)
      obtain ⟨rfl, rfl⟩ := hq
      refine r_callVi (pc := 37) (As := [_, _]) h dX1_bitsOfCan_37 k_X1_42 gc_1 rfl ⟨Nat.le_of_ble_eq_true rfl, Nat.le_of_ble_eq_true rfl, Nat.le_of_ble_eq_true rfl⟩ (c_X0_canCovered_1 hR ho hi hcv) (fun x_37 g2 hq => ?_)
      obtain ⟨rfl, rfl⟩ := hq
      refine r_if_eq (pc := 40) (tgt := 49) h dX1_bitsOfCan_40 (by decide) (fun c40 => ?_) (fun c40 => ?_)
      · have hb : canB c i (cvr c s) = false := (bI_0 _).mp c40
        have e : cbF c i s a = a := by unfold cbF; rw [if_neg (by rw [hb]; decide)]
        refine r_iinc (pc := 49) (ls2 := [_, _, _, _]) h dX1_bitsOfCan_49 rfl (ic1 _) rfl ?_
        refine r_goto (pc := 52) (tgt := 22) h dX1_bitsOfCan_52 (by decide) ?_
        exact ih (s + 1) _ (by omega) (by rw [← e]; exact hz)
      · have hb : canB c i (cvr c s) = true := by simpa using mt (bI_0 _).mpr c40
        have e : cbF c i s a = a ||| 1 <<< s := by unfold cbF; rw [if_pos hb]
        refine r_iload_n (pc := 43) h dX1_bitsOfCan_43 rfl ?_
        refine r_iconst (pc := 44) h dX1_bitsOfCan_44 ci_1 ?_
        refine r_iload_n (pc := 45) h dX1_bitsOfCan_45 rfl ?_
        refine r_ishl (pc := 46) h dX1_bitsOfCan_46 ?_
        refine r_ior (pc := 47) h dX1_bitsOfCan_47 ?_
        refine r_top (y := nI (a ||| 1 <<< s)) h (or_7 (by omega)) ?_
        refine r_istore_n (pc := 48) (ls2 := [_, _, _, _]) h dX1_bitsOfCan_48 (Nat.le_of_ble_eq_true rfl) rfl ?_
        refine r_iinc (pc := 49) (ls2 := [_, _, _, _]) h dX1_bitsOfCan_49 rfl (ic1 _) rfl ?_
        refine r_goto (pc := 52) (tgt := 22) h dX1_bitsOfCan_52 (by decide) ?_
        exact ih (s + 1) _ (by omega) (by rw [← e]; exact hz)
  refine r_aload_n (pc := 0) h dX1_bitsOfCan_0 rfl ?_
  refine r_iload_n (pc := 1) h dX1_bitsOfCan_1 rfl ?_
  refine r_iconst (pc := 2) h dX1_bitsOfCan_2 ci_0 ?_
  refine r_callVi (pc := 3) (As := [_, _]) h dX1_bitsOfCan_3 k_X1_42 gc_1 rfl ⟨Nat.le_of_ble_eq_true rfl, Nat.le_of_ble_eq_true rfl, Nat.le_of_ble_eq_true rfl⟩ (c_X0_canCovered_1 hR ho hi (Nat.zero_le _)) (fun x_3 g2 hq => ?_)
  obtain ⟨rfl, rfl⟩ := hq
  refine r_if_eq (pc := 6) (tgt := 18) h dX1_bitsOfCan_6 (by decide) (fun c6 => ?_) (fun c6 => ?_)
  · have hb : canB c i 0 = false := (bI_0 _).mp c6
    refine r_iconst (pc := 18) h dX1_bitsOfCan_18 ci_0 ?_
    refine r_istore_n (pc := 19) (ls2 := [_, _, _, _]) h dX1_bitsOfCan_19 (Nat.le_of_ble_eq_true rfl) rfl ?_
    refine r_iconst (pc := 20) h dX1_bitsOfCan_20 ci_0 ?_
    refine r_istore_n (pc := 21) (ls2 := [_, _, _, _]) h dX1_bitsOfCan_21 (Nat.le_of_ble_eq_true rfl) rfl ?_
    exact loop (c 7 0) 0 _ (by omega) (by unfold cbV; rw [if_neg (by rw [hb]; decide)])
  · have hb : canB c i 0 = true := by simpa using mt (bI_0 _).mpr c6
    refine r_iconst (pc := 9) h dX1_bitsOfCan_9 ci_1 ?_
    refine r_aload_n (pc := 10) h dX1_bitsOfCan_10 rfl ?_
    refine r_getE (pc := 11) h dX1_bitsOfCan_11 f_X1_18 sh_1 rfl (hR.ns) ?_
    refine r_ishl (pc := 14) h dX1_bitsOfCan_14 ?_
    refine r_top (y := nI (1 <<< c 7 0)) h (shl_7 _ (by omega)).1 ?_
    refine r_goto (pc := 15) (tgt := 19) h dX1_bitsOfCan_15 (by decide) ?_
    refine r_istore_n (pc := 19) (ls2 := [_, _, _, _]) h dX1_bitsOfCan_19 (Nat.le_of_ble_eq_true rfl) rfl ?_
    refine r_iconst (pc := 20) h dX1_bitsOfCan_20 ci_0 ?_
    refine r_istore_n (pc := 21) (ls2 := [_, _, _, _]) h dX1_bitsOfCan_21 (Nat.le_of_ble_eq_true rfl) rfl ?_
    exact loop (c 7 0) 0 _ (by omega) (by unfold cbV; rw [if_pos hb])
set_option maxRecDepth 100000 in
set_option maxHeartbeats 4000000 in
theorem c_X1_mostOn {g : gG} {c : gCt} (hR : Rx1 g c) {i u : Nat} (hi : i < c 7 1) (hu : u < 2 ^ c 7 0) (hC : CT g c i) (hD : DT g c (i + 1)) : gCi mX1_mostOn [.ref 27, .ref 1, .int (nI i), .int (nI u)] g (fun y g1 => y = nI (dBest c (c 7 1 - i) i u) ∧ g1 = g) := by
  refine gCi_of (own := RX1) (ls0 := [.ref 27, .ref 1, .int (nI i), .int (nI u), .null, .null]) ⟨rfl, pl_X1⟩ rfl (Nat.le_of_ble_eq_true rfl) (fun G (h : gR RX1 cX1_mostOn 1 40 G) (t : gTi cX1_mostOn .int _ G) => ?_)
  have hn5 := hR.n5
  have hn6 := hR.n6
  have hp := pw_6 _ hn6
  have en : c 7 1 - i = c 7 1 - (i + 1) + 1 := by omega
  rw [en] at t
  have hb5 := dBest_le c (c 7 1 - (i + 1)) (i + 1)
  have loop : ∀ m s a, s + m = c 7 0 → a ≤ c 7 1 - (i + 1) + 1 → gfold (dS c (dBest c (c 7 1 - (i + 1)) (i + 1)) i u) m s a = dBest c (c 7 1 - (i + 1) + 1) i u → G 15 [.ref 27, .ref 1, .int (nI i), .int (nI u), .int (nI a), .int (nI s)] [] g := by
    intro m
    induction m with
    | zero =>
      intro s a hs0 hal hz
      have hz : a = dBest c (c 7 1 - (i + 1) + 1) i u := hz
      refine r_iload (pc := 15) h dX1_mostOn_15 rfl ?_
      refine r_aload_n (pc := 17) h dX1_mostOn_17 rfl ?_
      refine r_getE (pc := 18) h dX1_mostOn_18 f_X1_18 sh_1 rfl (hR.ns) ?_
      refine r_icmp_ge (pc := 21) (tgt := 59) h dX1_mostOn_21 (by decide) (fun c21 => ?_) (fun c21 => absurd (nI_le (by omega) (by omega)) c21)
      refine r_iload (pc := 59) h dX1_mostOn_59 rfl ?_
      refine r_ri t (pc := 61) dX1_mostOn_61 rfl ?_
      exact ⟨congrArg nI hz, rfl⟩
    | succ m ih =>
      intro s a hs0 hal hz
      have hs : s < c 7 0 := by omega
      have hu2 := or_lS hu hs
      have h1 := cn_le c i s
      have h2 := hb5 (u ||| 1 <<< s)
      refine r_iload (pc := 15) h dX1_mostOn_15 rfl ?_
      refine r_aload_n (pc := 17) h dX1_mostOn_17 rfl ?_
      refine r_getE (pc := 18) h dX1_mostOn_18 f_X1_18 sh_1 rfl (hR.ns) ?_
      refine r_icmp_ge (pc := 21) (tgt := 59) h dX1_mostOn_21 (by decide) (fun c21 => absurd c21 (nI_ge hs (by omega))) (fun c21 => ?_)
      refine r_iload_n (pc := 24) h dX1_mostOn_24 rfl ?_
      refine r_iload (pc := 25) h dX1_mostOn_25 rfl ?_
      refine r_ishr (pc := 27) h dX1_mostOn_27 ?_
      refine r_iconst (pc := 28) h dX1_mostOn_28 ci_1 ?_
      refine r_iand (pc := 29) h dX1_mostOn_29 ?_
      refine r_if_ne (pc := 30) (tgt := 53) h dX1_mostOn_30 (by decide) (fun c30 => ?_) (fun c30 => ?_)
      · have hb : bt u s = true := by simpa using mt (bt_0 s (by omega) u (by omega)).mpr c30
        have e : (dS c (dBest c (c 7 1 - (i + 1)) (i + 1)) i u) s a = a := by unfold dS; rw [if_pos hb]
        refine r_iinc (pc := 53) (ls2 := [_, _, _, _, _, _]) h dX1_mostOn_53 rfl (ic1 _) rfl ?_
        refine r_goto (pc := 56) (tgt := 15) h dX1_mostOn_56 (by decide) ?_
        exact ih (s + 1) _ (by omega) (by rw [← e]; exact dS_le (dBest_le c _ _) hal) (by rw [← e]; exact hz)
      · have hb : bt u s = false := (bt_0 s (by omega) u (by omega)).mp c30
        have e : (dS c (dBest c (c 7 1 - (i + 1)) (i + 1)) i u) s a = mxN a (cn c i s + dBest c (c 7 1 - (i + 1)) (i + 1) (u ||| 1 <<< s)) := by unfold dS; rw [if_neg (by rw [hb]; decide)]
        refine r_iload (pc := 33) h dX1_mostOn_33 rfl ?_
        refine r_aload_n (pc := 35) h dX1_mostOn_35 rfl ?_
        refine r_iload_n (pc := 36) h dX1_mostOn_36 rfl ?_
        refine r_iload (pc := 37) h dX1_mostOn_37 rfl ?_
        refine r_iload_n (pc := 39) h dX1_mostOn_39 rfl ?_
        refine r_iconst (pc := 40) h dX1_mostOn_40 ci_1 ?_
        refine r_iload (pc := 41) h dX1_mostOn_41 rfl ?_
        refine r_ishl (pc := 43) h dX1_mostOn_43 ?_
        refine r_ior (pc := 44) h dX1_mostOn_44 ?_
        refine r_top (y := nI (u ||| 1 <<< s)) h (or_7 (by omega)) ?_
        refine r_callVi (pc := 45) (As := [_, _, _]) h dX1_mostOn_45 k_X1_50 gc_27 rfl ⟨Nat.le_of_ble_eq_true rfl, Nat.le_of_ble_eq_true rfl, Nat.le_of_ble_eq_true rfl⟩ (c_X1_mostWith (s := s) (u := u ||| 1 <<< s) (by omega) (by omega) (by omega) (cbV_lt hn6 i) (hC i (Nat.le_refl _) hi) (hD (i + 1) (Nat.le_refl _) (by omega) _ hu2)) (fun x_45 g2 hq => ?_)
        obtain ⟨rfl, rfl⟩ := hq
        rw [cb_bit (by omega)]
        refine r_mmax (pc := 48) h dX1_mostOn_48 k_X1_54 ⟨Nat.le_of_ble_eq_true rfl, Nat.le_of_ble_eq_true rfl⟩ ?_
        refine r_top (y := nI (mxN a (cn c i s + dBest c (c 7 1 - (i + 1)) (i + 1) (u ||| 1 <<< s)))) h (mxN_eq (by omega) (by omega)) ?_
        refine r_istore (pc := 51) (ls2 := [_, _, _, _, _, _]) h dX1_mostOn_51 (Nat.le_of_ble_eq_true rfl) rfl ?_
        refine r_iinc (pc := 53) (ls2 := [_, _, _, _, _, _]) h dX1_mostOn_53 rfl (ic1 _) rfl ?_
        refine r_goto (pc := 56) (tgt := 15) h dX1_mostOn_56 (by decide) ?_
        exact ih (s + 1) _ (by omega) (by rw [← e]; exact dS_le (dBest_le c _ _) hal) (by rw [← e]; exact hz)
  have h1 := cn_le c i (c 7 0)
  have h2 := hb5 u
  refine r_aload_n (pc := 0) h dX1_mostOn_0 rfl ?_
  refine r_iload_n (pc := 1) h dX1_mostOn_1 rfl ?_
  refine r_aload_n (pc := 2) h dX1_mostOn_2 rfl ?_
  refine r_getE (pc := 3) h dX1_mostOn_3 f_X1_18 sh_1 rfl (hR.ns) ?_
  refine r_iload_n (pc := 6) h dX1_mostOn_6 rfl ?_
  refine r_callVi (pc := 7) (As := [_, _, _]) h dX1_mostOn_7 k_X1_50 gc_27 rfl ⟨Nat.le_of_ble_eq_true rfl, Nat.le_of_ble_eq_true rfl, Nat.le_of_ble_eq_true rfl⟩ (c_X1_mostWith (s := c 7 0) (u := u) (by omega) (by omega) (by omega) (cbV_lt hn6 i) (hC i (Nat.le_refl _) hi) (hD (i + 1) (Nat.le_refl _) (by omega) _ hu)) (fun x_7 g2 hq => ?_)
  obtain ⟨rfl, rfl⟩ := hq
  rw [cb_bit (Nat.le_refl _)]
  refine r_istore (pc := 10) (ls2 := [_, _, _, _, _, _]) h dX1_mostOn_10 (Nat.le_of_ble_eq_true rfl) rfl ?_
  refine r_iconst (pc := 12) h dX1_mostOn_12 ci_0 ?_
  refine r_istore (pc := 13) (ls2 := [_, _, _, _, _, _]) h dX1_mostOn_13 (Nat.le_of_ble_eq_true rfl) rfl ?_
  exact loop (c 7 0) 0 _ (by omega) (by omega) rfl
set_option maxRecDepth 100000 in
set_option maxHeartbeats 4000000 in
theorem c_X1_firstBest {g : gG} {c : gCt} (hR : Rx1 g c) {i u : Nat} (hi : i < c 7 1) (hu : u < 2 ^ c 7 0) (hC : CT g c i) (hD0 : DT g c i) : gCi mX1_firstBest [.ref 27, .ref 1, .int (nI i), .int (nI u)] g (fun y g1 => y = oI (dFst c i u) ∧ g1 = g) := by
  refine gCi_of (own := RX1) (ls0 := [.ref 27, .ref 1, .int (nI i), .int (nI u), .null, .null]) ⟨rfl, pl_X1⟩ rfl (Nat.le_of_ble_eq_true rfl) (fun G (h : gR RX1 cX1_firstBest 1 40 G) (t : gTi cX1_firstBest .int _ G) => ?_)
  have hn5 := hR.n5
  have hn6 := hR.n6
  have hp := pw_6 _ hn6
  have hD := hD0.hi (Nat.le_succ i)
  have h3 := dBest_le c (c 7 1 - i) i u
  have loop : ∀ m s, s + m = c 7 0 → gfind (fun s => !bt u s && (cn c i s + dBest c (c 7 1 - (i + 1)) (i + 1) (u ||| 1 <<< s) == dBest c (c 7 1 - i) i u)) m s = dFst c i u → G 16 [.ref 27, .ref 1, .int (nI i), .int (nI u), .int (nI (dBest c (c 7 1 - i) i u)), .int (nI s)] [] g := by
    intro m
    induction m with
    | zero =>
      intro s hs0 hz
      refine r_iload (pc := 16) h dX1_firstBest_16 rfl ?_
      refine r_aload_n (pc := 18) h dX1_firstBest_18 rfl ?_
      refine r_getE (pc := 19) h dX1_firstBest_19 f_X1_18 sh_1 rfl (hR.ns) ?_
      refine r_icmp_ge (pc := 22) (tgt := 61) h dX1_firstBest_22 (by decide) (fun c22 => ?_) (fun c22 => absurd (nI_le (by omega) (by omega)) c22)
      refine r_bipush (pc := 61) h dX1_firstBest_61 cb_m9 ?_
      refine r_ri t (pc := 63) dX1_firstBest_63 rfl ?_
      exact ⟨by rw [← hz]; rfl, rfl⟩
    | succ m ih =>
      intro s hs0 hz
      have hs : s < c 7 0 := by omega
      have hu2 := or_lS hu hs
      have h1 := cn_le c i s
      have h2 := dBest_le c (c 7 1 - (i + 1)) (i + 1) (u ||| 1 <<< s)
      refine r_iload (pc := 16) h dX1_firstBest_16 rfl ?_
      refine r_aload_n (pc := 18) h dX1_firstBest_18 rfl ?_
      refine r_getE (pc := 19) h dX1_firstBest_19 f_X1_18 sh_1 rfl (hR.ns) ?_
      refine r_icmp_ge (pc := 22) (tgt := 61) h dX1_firstBest_22 (by decide) (fun c22 => absurd c22 (nI_ge hs (by omega))) (fun c22 => ?_)
      refine r_iload_n (pc := 25) h dX1_firstBest_25 rfl ?_
      refine r_iload (pc := 26) h dX1_firstBest_26 rfl ?_
      refine r_ishr (pc := 28) h dX1_firstBest_28 ?_
      refine r_iconst (pc := 29) h dX1_firstBest_29 ci_1 ?_
      refine r_iand (pc := 30) h dX1_firstBest_30 ?_
      refine r_if_ne (pc := 31) (tgt := 55) h dX1_firstBest_31 (by decide) (fun c31 => ?_) (fun c31 => ?_)
      · have hb : bt u s = true := by simpa using mt (bt_0 s (by omega) u (by omega)).mpr c31
        refine r_iinc (pc := 55) (ls2 := [_, _, _, _, _, _]) h dX1_firstBest_55 rfl (ic1 _) rfl ?_
        refine r_goto (pc := 58) (tgt := 16) h dX1_firstBest_58 (by decide) ?_
        exact ih (s + 1) (by omega) (by rw [← hz, gfind, if_neg (by rw [hb, Bool.not_true, Bool.false_and]; decide)])
      · have hb : bt u s = false := (bt_0 s (by omega) u (by omega)).mp c31
        refine r_aload_n (pc := 34) h dX1_firstBest_34 rfl ?_
        refine r_iload_n (pc := 35) h dX1_firstBest_35 rfl ?_
        refine r_iload (pc := 36) h dX1_firstBest_36 rfl ?_
        refine r_iload_n (pc := 38) h dX1_firstBest_38 rfl ?_
        refine r_iconst (pc := 39) h dX1_firstBest_39 ci_1 ?_
        refine r_iload (pc := 40) h dX1_firstBest_40 rfl ?_
        refine r_ishl (pc := 42) h dX1_firstBest_42 ?_
        refine r_ior (pc := 43) h dX1_firstBest_43 ?_
        refine r_top (y := nI (u ||| 1 <<< s)) h (or_7 (by omega)) ?_
        refine r_callVi (pc := 44) (As := [_, _, _]) h dX1_firstBest_44 k_X1_50 gc_27 rfl ⟨Nat.le_of_ble_eq_true rfl, Nat.le_of_ble_eq_true rfl, Nat.le_of_ble_eq_true rfl⟩ (c_X1_mostWith (s := s) (u := u ||| 1 <<< s) (by omega) (by omega) (by omega) (cbV_lt hn6 i) (hC i (Nat.le_refl _) hi) (hD (i + 1) (Nat.le_refl _) (by omega) _ hu2)) (fun x_44 g2 hq => ?_)
        obtain ⟨rfl, rfl⟩ := hq
        rw [cb_bit (by omega)]
        refine r_iload (pc := 47) h dX1_firstBest_47 rfl ?_
        refine r_icmp_ne (pc := 49) (tgt := 55) h dX1_firstBest_49 (by decide) (fun c49 => ?_) (fun c49 => ?_)
        · have q : cn c i s + dBest c (c 7 1 - (i + 1)) (i + 1) (u ||| 1 <<< s) ≠ dBest c (c 7 1 - i) i u := fun z => c49 (by rw [z])
          refine r_iinc (pc := 55) (ls2 := [_, _, _, _, _, _]) h dX1_firstBest_55 rfl (ic1 _) rfl ?_
          refine r_goto (pc := 58) (tgt := 16) h dX1_firstBest_58 (by decide) ?_
          exact ih (s + 1) (by omega) (by rw [← hz, gfind, if_neg (by rw [hb, beq_false_of_ne q]; decide)])
        · have q : cn c i s + dBest c (c 7 1 - (i + 1)) (i + 1) (u ||| 1 <<< s) = dBest c (c 7 1 - i) i u := (nI_eq (by omega) (by omega)).mp c49
          refine r_iload (pc := 52) h dX1_firstBest_52 rfl ?_
          refine r_ri t (pc := 54) dX1_firstBest_54 rfl ?_
          exact ⟨by rw [← hz, gfind, if_pos (by rw [hb, q, beq_self_eq_true]; rfl)]; rfl, rfl⟩
  refine r_aload_n (pc := 0) h dX1_firstBest_0 rfl ?_
  refine r_getR (pc := 1) h dX1_firstBest_1 f_X1_11 sh_27 rfl ?_
  refine r_iload_n (pc := 4) h dX1_firstBest_4 rfl ?_
  refine r_bipush (pc := 5) h dX1_firstBest_5 cb_64 ?_
  refine r_imul (pc := 7) h dX1_firstBest_7 ?_
  refine r_iload_n (pc := 8) h dX1_firstBest_8 rfl ?_
  refine r_iadd (pc := 9) h dX1_firstBest_9 ?_
  refine r_top (y := nI (i * 64 + u)) h (by rw [nI_mul, nI_add]) ?_
  refine r_ialoadE (pc := 10) h dX1_firstBest_10 sh_28 (ixe (show i * 64 + u < 384 by omega) (by decide) (hD0 i (Nat.le_refl _) (by omega) u hu)) ?_
  refine r_istore (pc := 11) (ls2 := [_, _, _, _, _, _]) h dX1_firstBest_11 (Nat.le_of_ble_eq_true rfl) rfl ?_
  refine r_iconst (pc := 13) h dX1_firstBest_13 ci_0 ?_
  refine r_istore (pc := 14) (ls2 := [_, _, _, _, _, _]) h dX1_firstBest_14 (Nat.le_of_ble_eq_true rfl) rfl ?_
  exact loop (c 7 0) 0 (by omega) rfl
set_option maxRecDepth 100000 in
set_option maxHeartbeats 4000000 in
theorem c_X1_most {g : gG} {c : gCt} (hR : Rx1 g c) (ho : gok c) : gCi mX1_most [.ref 27, .ref 1] g (fun y g1 => y = nI (dBest c (c 7 1) 0 0) ∧ DT g1 c 0 ∧ CT g1 c 0 ∧ frm 27 30 g g1) := by
  refine gCi_of (own := RX1) (ls0 := [.ref 27, .ref 1, .null, .null]) ⟨rfl, pl_X1⟩ rfl (Nat.le_of_ble_eq_true rfl) (fun G (h : gR RX1 cX1_most 3 120 G) (t : gTi cX1_most .int _ G) => ?_)
  have hn5 := hR.n5
  have hn6 := hR.n6
  have hp := pw_6 _ hn6
  have loop2 : ∀ k (g2 : gG) (v3 : Value), k ≤ c 7 1 → Rx1 g2 c → frm 27 30 g g2 → DT g2 c k → CT g2 c k → G 40 [.ref 27, .ref 1, .int (nI k - nI 1), v3] [] g2 := by
    intro k
    induction k with
    | zero =>
      intro g2 v3 hk hR hF hD hC
      refine r_iload_n (pc := 40) h dX1_most_40 rfl ?_
      refine r_if_lt (pc := 41) (tgt := 97) h dX1_most_41 (by decide) (fun c41 => ?_) (fun c41 => absurd (by decide) c41)
      refine r_aload_n (pc := 97) h dX1_most_97 rfl ?_
      refine r_getR (pc := 98) h dX1_most_98 f_X1_11 sh_27 rfl ?_
      refine r_iconst (pc := 101) h dX1_most_101 ci_0 ?_
      refine r_ialoadE (pc := 102) h dX1_most_102 sh_28 (ixe (show 0 < 384 by decide) (by decide) (hD 0 (by omega) (by omega) 0 (Nat.two_pow_pos _))) ?_
      refine r_ri t (pc := 103) dX1_most_103 rfl ?_
      exact ⟨rfl, hD, hC, hF⟩
    | succ i ih =>
      intro g2 v3 hk hR hF hD hC
      have hi : i < c 7 1 := by omega
      rw [nI_sub (show 1 ≤ i + 1 by omega), Nat.add_sub_cancel]
      have inner : ∀ m u (g2 : gG), u + m = 2 ^ c 7 0 → Rx1 g2 c → frm 27 30 g g2 → DT g2 c (i + 1) → CT g2 c i → (∀ v, v < u → g2 28 (i * 64 + v) = nI (dBest c (c 7 1 - i) i v)) → G 57 [.ref 27, .ref 1, .int (nI i), .int (nI u)] [] g2 := by
        intro m
        induction m with
        | zero =>
          intro u g2 hu0 hR hF hD hC hU
          refine r_iload_n (pc := 57) h dX1_most_57 rfl ?_
          refine r_iconst (pc := 58) h dX1_most_58 ci_1 ?_
          refine r_aload_n (pc := 59) h dX1_most_59 rfl ?_
          refine r_getE (pc := 60) h dX1_most_60 f_X1_18 sh_1 rfl (hR.ns) ?_
          refine r_ishl (pc := 63) h dX1_most_63 ?_
          refine r_top (y := nI (2 ^ c 7 0)) h (sh_n _ (by omega)) ?_
          refine r_icmp_ge (pc := 64) (tgt := 91) h dX1_most_64 (by decide) (fun c64 => ?_) (fun c64 => absurd (nI_le (by omega) (by omega)) c64)
          refine r_iinc (pc := 91) (ls2 := [_, _, _, _]) h dX1_most_91 rfl (nI_m1 i) rfl ?_
          refine r_goto (pc := 94) (tgt := 40) h dX1_most_94 (by decide) ?_
          refine ih g2 _ (by omega) hR hF (fun j h1 h2 v hv => ?_) hC
          by_cases e : j = i
          · rw [e]; exact hU v (by omega)
          · exact hD j (by omega) h2 v hv
        | succ m ih2 =>
          intro u g2 hu0 hR hF hD hC hU
          have hu : u < 2 ^ c 7 0 := by omega
          refine r_iload_n (pc := 57) h dX1_most_57 rfl ?_
          refine r_iconst (pc := 58) h dX1_most_58 ci_1 ?_
          refine r_aload_n (pc := 59) h dX1_most_59 rfl ?_
          refine r_getE (pc := 60) h dX1_most_60 f_X1_18 sh_1 rfl (hR.ns) ?_
          refine r_ishl (pc := 63) h dX1_most_63 ?_
          refine r_top (y := nI (2 ^ c 7 0)) h (sh_n _ (by omega)) ?_
          refine r_icmp_ge (pc := 64) (tgt := 91) h dX1_most_64 (by decide) (fun c64 => absurd c64 (nI_ge hu (by omega))) (fun c64 => ?_)
          refine r_aload_n (pc := 67) h dX1_most_67 rfl ?_
          refine r_getR (pc := 68) h dX1_most_68 f_X1_11 sh_27 rfl ?_
          refine r_iload_n (pc := 71) h dX1_most_71 rfl ?_
          refine r_bipush (pc := 72) h dX1_most_72 cb_64 ?_
          refine r_imul (pc := 74) h dX1_most_74 ?_
          refine r_iload_n (pc := 75) h dX1_most_75 rfl ?_
          refine r_iadd (pc := 76) h dX1_most_76 ?_
          refine r_top (y := nI (i * 64 + u)) h (by rw [nI_mul, nI_add]) ?_
          refine r_aload_n (pc := 77) h dX1_most_77 rfl ?_
          refine r_aload_n (pc := 78) h dX1_most_78 rfl ?_
          refine r_iload_n (pc := 79) h dX1_most_79 rfl ?_
          refine r_iload_n (pc := 80) h dX1_most_80 rfl ?_
          refine r_callVi (pc := 81) (As := [_, _, _]) h dX1_most_81 k_X1_31 gc_27 rfl ⟨Nat.le_of_ble_eq_true rfl, Nat.le_of_ble_eq_true rfl, Nat.le_of_ble_eq_true rfl⟩ (c_X1_mostOn hR hi hu hC hD) (fun x_81 g2 hq => ?_)
          obtain ⟨rfl, rfl⟩ := hq
          refine r_iastore (pc := 84) h dX1_most_84 sh_28 (vp_in_nI (show i * 64 + u < 384 by omega) (by decide)) ?_
          obtain ⟨g3, hg3⟩ : ∃ g3, g3 = gup g2 28 (i * 64 + u) (nI (dBest c (c 7 1 - i) i u)) := ⟨_, rfl⟩
          rw [nI_clamp (show i * 64 + u < 2147483648 by omega), ← hg3]
          have hf3 : frm 27 30 g2 g3 := by rw [hg3]; exact frm.rf.up (by decide)
          have hR := hR.f27 hf3
          have hF := hF.tr hf3
          have hD : DT g3 c (i + 1) := fun j h1 h2 v hv => by
            have := Nat.lt_of_lt_of_le hv hp
            rw [hg3, gup_o (by omega)]; exact hD j h1 h2 v hv
          have hC : CT g3 c i := fun j h1 h2 => by rw [hg3, gup_o (by omega)]; exact hC j h1 h2
          have hU : ∀ v, v < u + 1 → g3 28 (i * 64 + v) = nI (dBest c (c 7 1 - i) i v) := fun v hv => by
            rw [hg3]
            by_cases e : v = u
            · rw [e]; exact gup_s
            · rw [gup_o (by omega)]; exact hU v (by omega)
          refine r_iinc (pc := 85) (ls2 := [_, _, _, _]) h dX1_most_85 rfl (ic1 _) rfl ?_
          refine r_goto (pc := 88) (tgt := 57) h dX1_most_88 (by decide) ?_
          exact ih2 (u + 1) g3 (by omega) hR hF hD hC hU
      refine r_iload_n (pc := 40) h dX1_most_40 rfl ?_
      refine r_if_lt (pc := 41) (tgt := 97) h dX1_most_41 (by decide) (fun c41 => absurd c41 (show ¬ nI i < nI 0 from nI_nlt (Nat.zero_le _) (by omega))) (fun c41 => ?_)
      refine r_aload_n (pc := 44) h dX1_most_44 rfl ?_
      refine r_getR (pc := 45) h dX1_most_45 f_X1_15 sh_27 rfl ?_
      refine r_iload_n (pc := 48) h dX1_most_48 rfl ?_
      refine r_aload_n (pc := 49) h dX1_most_49 rfl ?_
      refine r_iload_n (pc := 50) h dX1_most_50 rfl ?_
      refine r_callSi (pc := 51) (As := [_, _]) h dX1_most_51 k_X1_27 rfl ⟨Nat.le_of_ble_eq_true rfl, Nat.le_of_ble_eq_true rfl, Nat.le_of_ble_eq_true rfl⟩ (c_X1_bitsOfCan hR ho hi) (fun x_51 g2 hq => ?_)
      obtain ⟨rfl, rfl⟩ := hq
      refine r_iastore (pc := 54) h dX1_most_54 sh_29 (vp_in_nI (show i < 5 by omega) (by decide)) ?_
      obtain ⟨g3, hg3⟩ : ∃ g3, g3 = gup g2 29 (i) (nI (cbV c i)) := ⟨_, rfl⟩
      rw [nI_clamp (show i < 2147483648 by omega), ← hg3]
      have hf3 : frm 27 30 g2 g3 := by rw [hg3]; exact frm.rf.up (by decide)
      have hR := hR.f27 hf3
      have hF := hF.tr hf3
      have hD : DT g3 c (i + 1) := fun j h1 h2 v hv => by rw [hg3, gup_o (by omega)]; exact hD j h1 h2 v hv
      have hC : CT g3 c i := fun j h1 h2 => by
        rw [hg3]
        by_cases e : j = i
        · rw [e]; exact gup_s
        · rw [gup_o (by omega)]; exact hC j (by omega) h2
      refine r_iconst (pc := 55) h dX1_most_55 ci_0 ?_
      refine r_istore_n (pc := 56) (ls2 := [_, _, _, _]) h dX1_most_56 (Nat.le_of_ble_eq_true rfl) rfl ?_
      exact inner (2 ^ c 7 0) 0 g3 (by omega) hR hF hD hC (fun v hv => absurd hv (by omega))
  have loop1 : ∀ m u (g2 : gG), u + m = 2 ^ c 7 0 → Rx1 g2 c → frm 27 30 g g2 → (∀ v, v < u → g2 28 (c 7 1 * 64 + v) = nI 0) → G 2 [.ref 27, .ref 1, .int (nI u), .null] [] g2 := by
    intro m
    induction m with
    | zero =>
      intro u g2 hu0 hR hF hZ
      refine r_iload_n (pc := 2) h dX1_most_2 rfl ?_
      refine r_iconst (pc := 3) h dX1_most_3 ci_1 ?_
      refine r_aload_n (pc := 4) h dX1_most_4 rfl ?_
      refine r_getE (pc := 5) h dX1_most_5 f_X1_18 sh_1 rfl (hR.ns) ?_
      refine r_ishl (pc := 8) h dX1_most_8 ?_
      refine r_top (y := nI (2 ^ c 7 0)) h (sh_n _ (by omega)) ?_
      refine r_icmp_ge (pc := 9) (tgt := 33) h dX1_most_9 (by decide) (fun c9 => ?_) (fun c9 => absurd (nI_le (by omega) (by omega)) c9)
      refine r_aload_n (pc := 33) h dX1_most_33 rfl ?_
      refine r_getE (pc := 34) h dX1_most_34 f_X1_24 sh_1 rfl (hR.nc) ?_
      refine r_iconst (pc := 37) h dX1_most_37 ci_1 ?_
      refine r_isub (pc := 38) h dX1_most_38 ?_
      refine r_istore_n (pc := 39) (ls2 := [_, _, _, _]) h dX1_most_39 (Nat.le_of_ble_eq_true rfl) rfl ?_
      refine loop2 (c 7 1) g2 _ (Nat.le_refl _) hR hF (fun i h1 h2 v hv => ?_) (fun i h1 h2 => absurd h1 (by omega))
      rw [show i = c 7 1 by omega, Nat.sub_self]
      exact hZ v (by omega)
    | succ m ih =>
      intro u g2 hu0 hR hF hZ
      have hu : u < 2 ^ c 7 0 := by omega
      refine r_iload_n (pc := 2) h dX1_most_2 rfl ?_
      refine r_iconst (pc := 3) h dX1_most_3 ci_1 ?_
      refine r_aload_n (pc := 4) h dX1_most_4 rfl ?_
      refine r_getE (pc := 5) h dX1_most_5 f_X1_18 sh_1 rfl (hR.ns) ?_
      refine r_ishl (pc := 8) h dX1_most_8 ?_
      refine r_top (y := nI (2 ^ c 7 0)) h (sh_n _ (by omega)) ?_
      refine r_icmp_ge (pc := 9) (tgt := 33) h dX1_most_9 (by decide) (fun c9 => absurd c9 (nI_ge hu (by omega))) (fun c9 => ?_)
      refine r_aload_n (pc := 12) h dX1_most_12 rfl ?_
      refine r_getR (pc := 13) h dX1_most_13 f_X1_11 sh_27 rfl ?_
      refine r_aload_n (pc := 16) h dX1_most_16 rfl ?_
      refine r_getE (pc := 17) h dX1_most_17 f_X1_24 sh_1 rfl (hR.nc) ?_
      refine r_bipush (pc := 20) h dX1_most_20 cb_64 ?_
      refine r_imul (pc := 22) h dX1_most_22 ?_
      refine r_iload_n (pc := 23) h dX1_most_23 rfl ?_
      refine r_iadd (pc := 24) h dX1_most_24 ?_
      refine r_top (y := nI (c 7 1 * 64 + u)) h (by rw [nI_mul, nI_add]) ?_
      refine r_iconst (pc := 25) h dX1_most_25 ci_0 ?_
      refine r_iastore (pc := 26) h dX1_most_26 sh_28 (vp_in_nI (show c 7 1 * 64 + u < 384 by omega) (by decide)) ?_
      obtain ⟨g3, hg3⟩ : ∃ g3, g3 = gup g2 28 (c 7 1 * 64 + u) (nI (0)) := ⟨_, rfl⟩
      rw [nI_clamp (show c 7 1 * 64 + u < 2147483648 by omega), ← hg3]
      have hf3 : frm 27 30 g2 g3 := by rw [hg3]; exact frm.rf.up (by decide)
      have hR := hR.f27 hf3
      have hF := hF.tr hf3
      have hZ : ∀ v, v < u + 1 → g3 28 (c 7 1 * 64 + v) = nI 0 := fun v hv => by
        rw [hg3]
        by_cases e : v = u
        · rw [e]; exact gup_s
        · rw [gup_o (by omega)]; exact hZ v (by omega)
      refine r_iinc (pc := 27) (ls2 := [_, _, _, _]) h dX1_most_27 rfl (ic1 _) rfl ?_
      refine r_goto (pc := 30) (tgt := 2) h dX1_most_30 (by decide) ?_
      exact ih (u + 1) g3 (by omega) hR hF hZ
  refine r_iconst (pc := 0) h dX1_most_0 ci_0 ?_
  refine r_istore_n (pc := 1) (ls2 := [_, _, _, _]) h dX1_most_1 (Nat.le_of_ble_eq_true rfl) rfl ?_
  exact loop1 (2 ^ c 7 0) 0 g (by omega) hR frm.rf (fun v hv => absurd hv (by omega))
set_option maxRecDepth 100000 in
set_option maxHeartbeats 4000000 in
theorem c_X1_suitFor {g : gG} {c : gCt} (hR : Rx1 g c) (ho : gok c) {x : Nat} (hx : x < c 7 1) : gCi mX1_suitFor [.ref 27, .ref 1, .int (nI x)] g (fun y g1 => y = oI (dSuit c x) ∧ frm 27 30 g g1) := by
  refine gCi_of (own := RX1) (ls0 := [.ref 27, .ref 1, .int (nI x), .null, .null, .null]) ⟨rfl, pl_X1⟩ rfl (Nat.le_of_ble_eq_true rfl) (fun G (h : gR RX1 cX1_suitFor 4 160 G) (t : gTi cX1_suitFor .int _ G) => ?_)
  have hn5 := hR.n5
  have hn6 := hR.n6
  have loop : ∀ (g2 : gG), Rx1 g2 c → DT g2 c 0 → CT g2 c 0 → frm 27 30 g g2 → ∀ m i u (v5 : Value), i + m = x → u < 2 ^ c 7 0 → gfold (dUF c) m i u = gfold (dUF c) x 0 0 → G 11 [.ref 27, .ref 1, .int (nI x), .int (nI u), .int (nI i), v5] [] g2 := by
    intro g2 hR hD hC hF m
    induction m with
    | zero =>
      intro i u v5 hi0 hul hz
      refine r_iload (pc := 11) h dX1_suitFor_11 rfl ?_
      refine r_iload_n (pc := 13) h dX1_suitFor_13 rfl ?_
      refine r_icmp_ge (pc := 14) (tgt := 47) h dX1_suitFor_14 (by decide) (fun c14 => ?_) (fun c14 => absurd (nI_le (by omega) (by omega)) c14)
      refine r_aload_n (pc := 47) h dX1_suitFor_47 rfl ?_
      refine r_aload_n (pc := 48) h dX1_suitFor_48 rfl ?_
      refine r_iload_n (pc := 49) h dX1_suitFor_49 rfl ?_
      refine r_iload_n (pc := 50) h dX1_suitFor_50 rfl ?_
      refine r_callVi (pc := 51) (As := [_, _, _]) h dX1_suitFor_51 k_X1_39 gc_27 rfl ⟨Nat.le_of_ble_eq_true rfl, Nat.le_of_ble_eq_true rfl, Nat.le_of_ble_eq_true rfl⟩ (c_X1_firstBest hR hx hul (hC.hi (Nat.zero_le _)) (hD.hi (Nat.zero_le _))) (fun x_51 g2 hq => ?_)
      obtain ⟨rfl, rfl⟩ := hq
      refine r_ri t (pc := 54) dX1_suitFor_54 rfl ?_
      exact ⟨by unfold dSuit; rw [← hz]; rfl, hF⟩
    | succ m ih =>
      intro i u v5 hi0 hul hz
      have hi : i < x := by omega
      refine r_iload (pc := 11) h dX1_suitFor_11 rfl ?_
      refine r_iload_n (pc := 13) h dX1_suitFor_13 rfl ?_
      refine r_icmp_ge (pc := 14) (tgt := 47) h dX1_suitFor_14 (by decide) (fun c14 => absurd c14 (nI_ge hi (by omega))) (fun c14 => ?_)
      refine r_aload_n (pc := 17) h dX1_suitFor_17 rfl ?_
      refine r_aload_n (pc := 18) h dX1_suitFor_18 rfl ?_
      refine r_iload (pc := 19) h dX1_suitFor_19 rfl ?_
      refine r_iload_n (pc := 21) h dX1_suitFor_21 rfl ?_
      refine r_callVi (pc := 22) (As := [_, _, _]) h dX1_suitFor_22 k_X1_39 gc_27 rfl ⟨Nat.le_of_ble_eq_true rfl, Nat.le_of_ble_eq_true rfl, Nat.le_of_ble_eq_true rfl⟩ (c_X1_firstBest hR (by omega) hul (hC.hi (Nat.zero_le _)) (hD.hi (Nat.zero_le _))) (fun x_22 g2 hq => ?_)
      obtain ⟨rfl, rfl⟩ := hq
      refine r_istore (pc := 25) (ls2 := [_, _, _, _, _, _]) h dX1_suitFor_25 (Nat.le_of_ble_eq_true rfl) rfl ?_
      refine r_iload (pc := 27) h dX1_suitFor_27 rfl ?_
      refine r_bipush (pc := 29) h dX1_suitFor_29 cb_m9 ?_
      refine r_icmp_eq (pc := 31) (tgt := 41) h dX1_suitFor_31 (by decide) (fun c31 => ?_) (fun c31 => ?_)
      · have hb : dFst c i u = none := (oI_none (fun k hk => by have := dFst_lt hk; omega)).mp c31
        have e : dUF c i u = u := by unfold dUF; rw [hb]
        refine r_iinc (pc := 41) (ls2 := [_, _, _, _, _, _]) h dX1_suitFor_41 rfl (ic1 _) rfl ?_
        refine r_goto (pc := 44) (tgt := 11) h dX1_suitFor_44 (by decide) ?_
        exact ih (i + 1) _ _ (by omega) (by rw [← e]; exact dUF_lt hul) (by rw [← e]; exact hz)
      · obtain ⟨s, hb⟩ : ∃ s, dFst c i u = some s := Option.ne_none_iff_exists'.mp (fun q => c31 (by rw [q]; rfl))
        have hs := dFst_lt hb
        have e : dUF c i u = u ||| 1 <<< s := by unfold dUF; rw [hb]
        rw [show oI (dFst c i u) = nI s by rw [hb]; rfl]
        refine r_iload_n (pc := 34) h dX1_suitFor_34 rfl ?_
        refine r_iconst (pc := 35) h dX1_suitFor_35 ci_1 ?_
        refine r_iload (pc := 36) h dX1_suitFor_36 rfl ?_
        refine r_ishl (pc := 38) h dX1_suitFor_38 ?_
        refine r_ior (pc := 39) h dX1_suitFor_39 ?_
        refine r_top (y := nI (u ||| 1 <<< s)) h (or_7 (by omega)) ?_
        refine r_istore_n (pc := 40) (ls2 := [_, _, _, _, _, _]) h dX1_suitFor_40 (Nat.le_of_ble_eq_true rfl) rfl ?_
        refine r_iinc (pc := 41) (ls2 := [_, _, _, _, _, _]) h dX1_suitFor_41 rfl (ic1 _) rfl ?_
        refine r_goto (pc := 44) (tgt := 11) h dX1_suitFor_44 (by decide) ?_
        exact ih (i + 1) _ _ (by omega) (by rw [← e]; exact dUF_lt hul) (by rw [← e]; exact hz)
  refine r_aload_n (pc := 0) h dX1_suitFor_0 rfl ?_
  refine r_aload_n (pc := 1) h dX1_suitFor_1 rfl ?_
  refine r_callVi (pc := 2) (As := [_]) h dX1_suitFor_2 k_X1_35 gc_27 rfl ⟨Nat.le_of_ble_eq_true rfl, Nat.le_of_ble_eq_true rfl, Nat.le_of_ble_eq_true rfl⟩ (c_X1_most hR ho) (fun x_2 g2 hq => ?_)
  obtain ⟨rfl, hD, hC, hF1⟩ := hq
  have hR := hR.f27 hF1
  refine r_pop (pc := 5) h dX1_suitFor_5 rfl ?_
  refine r_iconst (pc := 6) h dX1_suitFor_6 ci_0 ?_
  refine r_istore_n (pc := 7) (ls2 := [_, _, _, _, _, _]) h dX1_suitFor_7 (Nat.le_of_ble_eq_true rfl) rfl ?_
  refine r_iconst (pc := 8) h dX1_suitFor_8 ci_0 ?_
  refine r_istore (pc := 9) (ls2 := [_, _, _, _, _, _]) h dX1_suitFor_9 (Nat.le_of_ble_eq_true rfl) rfl ?_
  exact loop g2 hR hD hC hF1 x 0 0 _ (by omega) (Nat.two_pow_pos _) rfl
set_option maxRecDepth 100000 in
set_option maxHeartbeats 4000000 in
theorem x_dress (hR : Rx1 g c) (hX : XSr g ck hk lt nl rv nr rf) (ho : gok c) (hd : c 7 3 ≤ 999) (x : Int32) : gCi mX3_dress [.ref 0, .int x] g (fun y g1 => y = ansI (drW c x) (drV c x) ∧ Rx1 g1 (c) ∧ XSr g1 ck hk lt nl rv nr (rfI rf (drW c x)) ∧ frm 0 35 g g1) := by
  refine gCi_of (own := RX3) (ls0 := [.ref 0, .int x, .null]) ⟨rfl, pl_X3⟩ rfl (Nat.le_of_ble_eq_true rfl) (fun G (h : gR RX3 cX3_dress 5 200 G) (t : gTi cX3_dress .int _ G) => ?_)
  have hn5 := hR.n5
  have hn6 := hR.n6
  suffices H : ∀ g2 : gG, Rx1 g2 c → XSr g2 ck hk lt nl rv nr rf → frm 0 35 g g2 → G 0 [.ref 0, .int x, .null] [] g2 from H g hR hX frm.rf
  intro g2 hR hX hF
  refine r_iload_n (pc := 0) h dX3_dress_0 rfl ?_
  refine r_iconst (pc := 1) h dX3_dress_1 ci_m1 ?_
  refine r_icmp_ne (pc := 2) (tgt := 17) h dX3_dress_2 (by decide) (fun c2 => ?_) (fun c2 => ?_)
  · have hx1 : ¬ x = -1 := c2
    have ew : drW c x = calW c x := if_neg hx1
    refine r_aload_n (pc := 17) h dX3_dress_17 rfl ?_
    refine r_iload_n (pc := 18) h dX3_dress_18 rfl ?_
    refine r_callVi (pc := 19) (As := [_]) h dX3_dress_19 k_X3_131 gc_0 rfl ⟨Nat.le_of_ble_eq_true rfl, Nat.le_of_ble_eq_true rfl, Nat.le_of_ble_eq_true rfl⟩ (c_X3_anyCaller hR x) (fun x_19 g2 hq => ?_)
    obtain ⟨rfl, rfl⟩ := hq
    refine r_istore_n (pc := 22) (ls2 := [_, _, _]) h dX3_dress_22 (Nat.le_of_ble_eq_true rfl) rfl ?_
    refine r_iload_n (pc := 23) h dX3_dress_23 rfl ?_
    refine r_if_eq (pc := 24) (tgt := 33) h dX3_dress_24 (by decide) (fun c24 => ?_) (fun c24 => ?_)
    · have hw : calW c x = 0 := c24
      obtain ⟨i, hi, hxi⟩ := cal_0 hw hn5
      have ev : drV c x = oI (dSuit c i) := by unfold drV; rw [if_neg hx1, hxi, nI_clamp (by omega)]
      rw [hxi]
      refine r_aload_n (pc := 33) h dX3_dress_33 rfl ?_
      refine r_getR (pc := 34) h dX3_dress_34 f_X3_36 sh_0 rfl ?_
      refine r_aload_n (pc := 37) h dX3_dress_37 rfl ?_
      refine r_getR (pc := 38) h dX3_dress_38 f_X3_10 sh_0 rfl ?_
      refine r_iload_n (pc := 41) h dX3_dress_41 rfl ?_
      refine r_callVi (pc := 42) (As := [_, _]) h dX3_dress_42 k_X3_184 gc_27 rfl ⟨Nat.le_of_ble_eq_true rfl, Nat.le_of_ble_eq_true rfl, Nat.le_of_ble_eq_true rfl⟩ (c_X1_suitFor hR ho hi) (fun x_42 g2 hq => ?_)
      obtain ⟨rfl, hF1⟩ := hq
      have hR := hR.f27 hF1
      have hX := hX.f27 hF1
      have hF := hF.tr (hF1.wide (by decide) (by decide))
      refine r_ri t (pc := 45) dX3_dress_45 rfl ?_
      exact x_ok hR hX hF (ew.trans hw) ev.symm
    · have hw : ¬ calW c x = 0 := c24
      have hok := okw_cal c x
      refine r_aload_n (pc := 27) h dX3_dress_27 rfl ?_
      refine r_iload_n (pc := 28) h dX3_dress_28 rfl ?_
      refine r_callVi (pc := 29) (As := [_]) h dX3_dress_29 k_X3_67 gc_0 rfl ⟨Nat.le_of_ble_eq_true rfl, Nat.le_of_ble_eq_true rfl, Nat.le_of_ble_eq_true rfl⟩ (c_X3_refuse (okw_in hok hw).1) (fun x_29 g2 hq => ?_)
      obtain ⟨rfl, rfl⟩ := hq
      refine r_ri t (pc := 32) dX3_dress_32 rfl ?_
      rw [ew]
      have hq := x_ref hR hX hok hw (v := drV c x)
      exact ⟨hq.1, hq.2.1, hq.2.2.1, hF.tr hq.2.2.2⟩
  · have hx1 : x = -1 := c2
    refine r_aload_n (pc := 5) h dX3_dress_5 rfl ?_
    refine r_getR (pc := 6) h dX3_dress_6 f_X3_36 sh_0 rfl ?_
    refine r_aload_n (pc := 9) h dX3_dress_9 rfl ?_
    refine r_getR (pc := 10) h dX3_dress_10 f_X3_10 sh_0 rfl ?_
    refine r_callVi (pc := 13) (As := [_]) h dX3_dress_13 k_X3_180 gc_27 rfl ⟨Nat.le_of_ble_eq_true rfl, Nat.le_of_ble_eq_true rfl, Nat.le_of_ble_eq_true rfl⟩ (c_X1_most hR ho) (fun x_13 g2 hq => ?_)
    obtain ⟨rfl, -, -, hF1⟩ := hq
    have hR := hR.f27 hF1
    have hX := hX.f27 hF1
    have hF := hF.tr (hF1.wide (by decide) (by decide))
    refine r_ri t (pc := 16) dX3_dress_16 rfl ?_
    exact x_ok hR hX hF (if_pos hx1) (if_pos hx1).symm
end TX
