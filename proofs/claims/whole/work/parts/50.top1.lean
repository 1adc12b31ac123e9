section TX
variable {g : gG} {c ck : gCt} {hk : Bool} {lt : Nat → Nat} {nl : Nat} {rv : Nat → Nat} {nr : Nat} {rf : Nat → Int32}
set_option maxRecDepth 100000 in
set_option maxHeartbeats 4000000 in
theorem c_X3_refuse {g : gG} {w : Int32} (hw : vp_in (-w) 7) : gCi mX3_refuse [.ref 0, .int w] g (fun y g1 => y = w ∧ g1 = gbmp g 31 w) := by
  refine gCi_of (own := RX3) (ls0 := [.ref 0, .int w]) ⟨rfl, pl_X3⟩ rfl (Nat.le_of_ble_eq_true rfl) (fun G (h : gR RX3 cX3_refuse 0 0 G) (t : gTi cX3_refuse .int _ G) => ?_)
  refine r_aload_n (pc := 0) h dX3_refuse_0 rfl ?_
  refine r_getR (pc := 1) h dX3_refuse_1 f_X3_48 sh_0 rfl ?_
  refine r_iload_n (pc := 4) h dX3_refuse_4 rfl ?_
  refine r_ineg (pc := 5) h dX3_refuse_5 ?_
  refine r_dup2 (pc := 6) h dX3_refuse_6 rfl rfl ?_
  refine r_iaload (pc := 7) h dX3_refuse_7 sh_31 (hw) ?_
  refine r_iconst (pc := 8) h dX3_refuse_8 ci_1 ?_
  refine r_iadd (pc := 9) h dX3_refuse_9 ?_
  refine r_iastore (pc := 10) h dX3_refuse_10 sh_31 (hw) ?_
  refine r_iload_n (pc := 11) h dX3_refuse_11 rfl ?_
  refine r_ri t (pc := 12) dX3_refuse_12 rfl ?_
  exact ⟨rfl, rfl⟩
set_option maxRecDepth 100000 in
set_option maxHeartbeats 4000000 in
theorem c_X3_firstOf {g : gG} (a b d : Int32) : gCi mX3_firstOf [.int a, .int b, .int d] g (fun y g1 => y = fstI a b d ∧ g1 = g) := by
  refine gCi_of (own := RX3) (ls0 := [.int a, .int b, .int d]) ⟨rfl, pl_X3⟩ rfl (Nat.le_of_ble_eq_true rfl) (fun G (h : gR RX3 cX3_firstOf 0 0 G) (t : gTi cX3_firstOf .int _ G) => ?_)
  refine r_iload_n (pc := 0) h dX3_firstOf_0 rfl ?_
  refine r_if_eq (pc := 1) (tgt := 6) h dX3_firstOf_1 (by decide) (fun c1 => ?_) (fun c1 => ?_)
  · refine r_iload_n (pc := 6) h dX3_firstOf_6 rfl ?_
    refine r_if_eq (pc := 7) (tgt := 14) h dX3_firstOf_7 (by decide) (fun c7 => ?_) (fun c7 => ?_)
    · refine r_iload_n (pc := 14) h dX3_firstOf_14 rfl ?_
      refine r_ri t (pc := 15) dX3_firstOf_15 rfl ?_
      exact ⟨by rw [fstI, if_pos c1, if_pos c7], rfl⟩
    · refine r_iload_n (pc := 10) h dX3_firstOf_10 rfl ?_
      refine r_goto (pc := 11) (tgt := 15) h dX3_firstOf_11 (by decide) ?_
      refine r_ri t (pc := 15) dX3_firstOf_15 rfl ?_
      exact ⟨by rw [fstI, if_pos c1, if_neg c7], rfl⟩
  · refine r_iload_n (pc := 4) h dX3_firstOf_4 rfl ?_
    refine r_ri t (pc := 5) dX3_firstOf_5 rfl ?_
    exact ⟨by rw [fstI, if_neg c1], rfl⟩
set_option maxRecDepth 100000 in
set_option maxHeartbeats 4000000 in
theorem c_X3_range {g : gG} (v l m : Int32) : gCi mX3_range [.int v, .int l, .int m] g (fun x g1 => x = bndI v l m ∧ g1 = g) := by
  refine gCi_of (own := RX3) (ls0 := [.int v, .int l, .int m]) ⟨rfl, pl_X3⟩ rfl (Nat.le_of_ble_eq_true rfl) (fun G (h : gR RX3 cX3_range 0 0 G) (t : gTi cX3_range .int _ G) => ?_)
  refine r_iload_n (pc := 0) h dX3_range_0 rfl ?_
  refine r_iload_n (pc := 1) h dX3_range_1 rfl ?_
  refine r_icmp_ge (pc := 2) (tgt := 8) h dX3_range_2 (by decide) (fun c2 => ?_) (fun c2 => ?_)
  · refine r_iload_n (pc := 8) h dX3_range_8 rfl ?_
    refine r_iload_n (pc := 9) h dX3_range_9 rfl ?_
    refine r_icmp_le (pc := 10) (tgt := 18) h dX3_range_10 (by decide) (fun c10 => ?_) (fun c10 => ?_)
    · refine r_iconst (pc := 18) h dX3_range_18 ci_0 ?_
      refine r_ri t (pc := 19) dX3_range_19 rfl ?_
      exact ⟨by rw [bndI, if_neg (Int32.not_lt.mpr c2), if_neg (Int32.not_lt.mpr c10)], rfl⟩
    · refine r_bipush (pc := 13) h dX3_range_13 cb_m6 ?_
      refine r_goto (pc := 15) (tgt := 19) h dX3_range_15 (by decide) ?_
      refine r_ri t (pc := 19) dX3_range_19 rfl ?_
      exact ⟨by rw [bndI, if_neg (Int32.not_lt.mpr c2), if_pos (Int32.not_le.mp c10)], rfl⟩
  · refine r_bipush (pc := 5) h dX3_range_5 cb_m4 ?_
    refine r_ri t (pc := 7) dX3_range_7 rfl ?_
    exact ⟨by rw [bndI, if_pos (Int32.not_le.mp c2)], rfl⟩
set_option maxRecDepth 100000 in
set_option maxHeartbeats 4000000 in
theorem c_X3_anyOf {g : gG} (x : Int32) (n : Nat) : gCi mX3_anyOf [.int x, .int (nI n)] g (fun y g1 => y = whyB (inB x n) (-2) ∧ g1 = g) := by
  refine gCi_of (own := RX3) (ls0 := [.int x, .int (nI n)]) ⟨rfl, pl_X3⟩ rfl (Nat.le_of_ble_eq_true rfl) (fun G (h : gR RX3 cX3_anyOf 0 0 G) (t : gTi cX3_anyOf .int _ G) => ?_)
  refine r_iload_n (pc := 0) h dX3_anyOf_0 rfl ?_
  refine r_if_lt (pc := 1) (tgt := 13) h dX3_anyOf_1 (by decide) (fun c1 => ?_) (fun c1 => ?_)
  · refine r_bipush (pc := 13) h dX3_anyOf_13 cb_m2 ?_
    refine r_ri t (pc := 15) dX3_anyOf_15 rfl ?_
    exact ⟨by simp [whyB, inB, c1], rfl⟩
  · refine r_iload_n (pc := 4) h dX3_anyOf_4 rfl ?_
    refine r_iload_n (pc := 5) h dX3_anyOf_5 rfl ?_
    refine r_icmp_ge (pc := 6) (tgt := 13) h dX3_anyOf_6 (by decide) (fun c6 => ?_) (fun c6 => ?_)
    · refine r_bipush (pc := 13) h dX3_anyOf_13 cb_m2 ?_
      refine r_ri t (pc := 15) dX3_anyOf_15 rfl ?_
      exact ⟨by simp [whyB, inB, c1, c6], rfl⟩
    · refine r_iconst (pc := 9) h dX3_anyOf_9 ci_0 ?_
      refine r_goto (pc := 10) (tgt := 15) h dX3_anyOf_10 (by decide) ?_
      refine r_ri t (pc := 15) dX3_anyOf_15 rfl ?_
      exact ⟨by simp [whyB, inB, c1, c6], rfl⟩
set_option maxRecDepth 100000 in
set_option maxHeartbeats 4000000 in
theorem c_X3_anySuit {g : gG} {c : gCt} (hR : Rx1 g c) (x : Int32) : gCi mX3_anySuit [.ref 0, .int x] g (fun y g1 => y = sufW c x ∧ g1 = g) := by
  refine gCi_of (own := RX3) (ls0 := [.ref 0, .int x]) ⟨rfl, pl_X3⟩ rfl (Nat.le_of_ble_eq_true rfl) (fun G (h : gR RX3 cX3_anySuit 0 0 G) (t : gTi cX3_anySuit .int _ G) => ?_)
  refine r_iload_n (pc := 0) h dX3_anySuit_0 rfl ?_
  refine r_if_lt (pc := 1) (tgt := 19) h dX3_anySuit_1 (by decide) (fun c1 => ?_) (fun c1 => ?_)
  · refine r_iconst (pc := 19) h dX3_anySuit_19 ci_m1 ?_
    refine r_ri t (pc := 20) dX3_anySuit_20 rfl ?_
    exact ⟨by simp [sufW, whyB, inB, c1], rfl⟩
  · refine r_iload_n (pc := 4) h dX3_anySuit_4 rfl ?_
    refine r_aload_n (pc := 5) h dX3_anySuit_5 rfl ?_
    refine r_getR (pc := 6) h dX3_anySuit_6 f_X3_10 sh_0 rfl ?_
    refine r_getE (pc := 9) h dX3_anySuit_9 f_X3_188 sh_1 rfl (hR.ns) ?_
    refine r_icmp_ge (pc := 12) (tgt := 19) h dX3_anySuit_12 (by decide) (fun c12 => ?_) (fun c12 => ?_)
    · refine r_iconst (pc := 19) h dX3_anySuit_19 ci_m1 ?_
      refine r_ri t (pc := 20) dX3_anySuit_20 rfl ?_
      exact ⟨by simp [sufW, whyB, inB, c1, c12], rfl⟩
    · refine r_iconst (pc := 15) h dX3_anySuit_15 ci_0 ?_
      refine r_goto (pc := 16) (tgt := 20) h dX3_anySuit_16 (by decide) ?_
      refine r_ri t (pc := 20) dX3_anySuit_20 rfl ?_
      exact ⟨by simp [sufW, whyB, inB, c1, c12], rfl⟩
set_option maxRecDepth 100000 in
set_option maxHeartbeats 4000000 in
theorem c_X3_anyCaller {g : gG} {c : gCt} (hR : Rx1 g c) (x : Int32) : gCi mX3_anyCaller [.ref 0, .int x] g (fun y g1 => y = calW c x ∧ g1 = g) := by
  refine gCi_of (own := RX3) (ls0 := [.ref 0, .int x]) ⟨rfl, pl_X3⟩ rfl (Nat.le_of_ble_eq_true rfl) (fun G (h : gR RX3 cX3_anyCaller 0 0 G) (t : gTi cX3_anyCaller .int _ G) => ?_)
  refine r_iload_n (pc := 0) h dX3_anyCaller_0 rfl ?_
  refine r_if_lt (pc := 1) (tgt := 19) h dX3_anyCaller_1 (by decide) (fun c1 => ?_) (fun c1 => ?_)
  · refine r_iconst (pc := 19) h dX3_anyCaller_19 ci_m1 ?_
    refine r_ri t (pc := 20) dX3_anyCaller_20 rfl ?_
    exact ⟨by simp [calW, whyB, inB, c1], rfl⟩
  · refine r_iload_n (pc := 4) h dX3_anyCaller_4 rfl ?_
    refine r_aload_n (pc := 5) h dX3_anyCaller_5 rfl ?_
    refine r_getR (pc := 6) h dX3_anyCaller_6 f_X3_10 sh_0 rfl ?_
    refine r_getE (pc := 9) h dX3_anyCaller_9 f_X3_191 sh_1 rfl (hR.nc) ?_
    refine r_icmp_ge (pc := 12) (tgt := 19) h dX3_anyCaller_12 (by decide) (fun c12 => ?_) (fun c12 => ?_)
    · refine r_iconst (pc := 19) h dX3_anyCaller_19 ci_m1 ?_
      refine r_ri t (pc := 20) dX3_anyCaller_20 rfl ?_
      exact ⟨by simp [calW, whyB, inB, c1, c12], rfl⟩
    · refine r_iconst (pc := 15) h dX3_anyCaller_15 ci_0 ?_
      refine r_goto (pc := 16) (tgt := 20) h dX3_anyCaller_16 (by decide) ?_
      refine r_ri t (pc := 20) dX3_anyCaller_20 rfl ?_
      exact ⟨by simp [calW, whyB, inB, c1, c12], rfl⟩
set_option maxRecDepth 100000 in
set_option maxHeartbeats 4000000 in
theorem c_X3_inSuit {g : gG} {c : gCt} (hR : Rx1 g c) (ho : gok c) (x : Int32) : gCi mX3_inSuit [.ref 0, .int x] g (fun y g1 => y = insW c x ∧ g1 = g) := by
  refine gCi_of (own := RX3) (ls0 := [.ref 0, .int x, .null]) ⟨rfl, pl_X3⟩ rfl (Nat.le_of_ble_eq_true rfl) (fun G (h : gR RX3 cX3_inSuit 1 40 G) (t : gTi cX3_inSuit .int _ G) => ?_)
  have hn5 := hR.n5
  have hn6 := hR.n6
  refine r_aload_n (pc := 0) h dX3_inSuit_0 rfl ?_
  refine r_iload_n (pc := 1) h dX3_inSuit_1 rfl ?_
  refine r_callVi (pc := 2) (As := [_]) h dX3_inSuit_2 k_X3_131 gc_0 rfl ⟨Nat.le_of_ble_eq_true rfl, Nat.le_of_ble_eq_true rfl, Nat.le_of_ble_eq_true rfl⟩ (c_X3_anyCaller hR x) (fun x_2 g1 hq => ?_)
  obtain ⟨rfl, rfl⟩ := hq
  refine r_if_ne (pc := 5) (tgt := 26) h dX3_inSuit_5 (by decide) (fun c5 => ?_) (fun c5 => ?_)
  · have hw : ¬ calW c x = 0 := c5
    have e : insW c x = -3 := by unfold insW; rw [show inB x (c 7 1) = false by simpa using fun q => hw ((whyB_0 (by decide)).mpr q)]; rfl
    refine r_iconst (pc := 26) h dX3_inSuit_26 ci_0 ?_
    refine r_istore_n (pc := 27) (ls2 := [_, _, _]) h dX3_inSuit_27 (Nat.le_of_ble_eq_true rfl) rfl ?_
    refine r_iload_n (pc := 28) h dX3_inSuit_28 rfl ?_
    refine r_if_eq (pc := 29) (tgt := 36) h dX3_inSuit_29 (by decide) (fun c29 => ?_) (fun c29 => absurd (rfl) c29)
    refine r_bipush (pc := 36) h dX3_inSuit_36 cb_m3 ?_
    refine r_ri t (pc := 38) dX3_inSuit_38 rfl ?_
    exact ⟨e.symm, rfl⟩
  · obtain ⟨i, hi, rfl⟩ := cal_0 c5 hn5
    have hb : inB (nI i) (c 7 1) = true := inB_nI hi (by omega)
    have hw6 := (ho.2.2.2 i hi).2.2.2
    have ei : (nI i).toNatClampNeg = i := nI_clamp (by omega)
    refine r_aload_n (pc := 8) h dX3_inSuit_8 rfl ?_
    refine r_getR (pc := 9) h dX3_inSuit_9 f_X3_10 sh_0 rfl ?_
    refine r_getR (pc := 12) h dX3_inSuit_12 f_X3_143 sh_1 rfl ?_
    refine r_iload_n (pc := 15) h dX3_inSuit_15 rfl ?_
    refine r_ialoadE (pc := 16) h dX3_inSuit_16 sh_8 (hR.wo hi) ?_
    refine r_bipush (pc := 17) h dX3_inSuit_17 cb_m9 ?_
    refine r_icmp_eq (pc := 19) (tgt := 26) h dX3_inSuit_19 (by decide) (fun c19 => ?_) (fun c19 => ?_)
    · have h0 : c 6 i = 0 := (wz_none (by omega)).mp c19
      have e : insW c (nI i) = -3 := by unfold insW; rw [hb, ei, h0]; rfl
      refine r_iconst (pc := 26) h dX3_inSuit_26 ci_0 ?_
      refine r_istore_n (pc := 27) (ls2 := [_, _, _]) h dX3_inSuit_27 (Nat.le_of_ble_eq_true rfl) rfl ?_
      refine r_iload_n (pc := 28) h dX3_inSuit_28 rfl ?_
      refine r_if_eq (pc := 29) (tgt := 36) h dX3_inSuit_29 (by decide) (fun c29 => ?_) (fun c29 => absurd (rfl) c29)
      refine r_bipush (pc := 36) h dX3_inSuit_36 cb_m3 ?_
      refine r_ri t (pc := 38) dX3_inSuit_38 rfl ?_
      exact ⟨e.symm, rfl⟩
    · have h0 : ¬ c 6 i = 0 := fun q => c19 ((wz_none (by omega)).mpr q)
      have e : insW c (nI i) = nI 0 := by unfold insW; rw [hb, ei]; simp [h0, whyB]
      refine r_iconst (pc := 22) h dX3_inSuit_22 ci_1 ?_
      refine r_goto (pc := 23) (tgt := 27) h dX3_inSuit_23 (by decide) ?_
      refine r_istore_n (pc := 27) (ls2 := [_, _, _]) h dX3_inSuit_27 (Nat.le_of_ble_eq_true rfl) rfl ?_
      refine r_iload_n (pc := 28) h dX3_inSuit_28 rfl ?_
      refine r_if_eq (pc := 29) (tgt := 36) h dX3_inSuit_29 (by decide) (fun c29 => absurd c29 (by decide)) (fun c29 => ?_)
      refine r_iconst (pc := 32) h dX3_inSuit_32 ci_0 ?_
      refine r_goto (pc := 33) (tgt := 38) h dX3_inSuit_33 (by decide) ?_
      refine r_ri t (pc := 38) dX3_inSuit_38 rfl ?_
      exact ⟨e.symm, rfl⟩
set_option maxRecDepth 100000 in
set_option maxHeartbeats 4000000 in
theorem c_X3_rainRange {g : gG} (n t v : Int32) : gCi mX3_rainRange [.int n, .int t, .int v] g (fun y g1 => y = rnW n t v ∧ g1 = g) := by
  refine gCi_of (own := RX3) (ls0 := [.int n, .int t, .int v]) ⟨rfl, pl_X3⟩ rfl (Nat.le_of_ble_eq_true rfl) (fun G (h : gR RX3 cX3_rainRange 0 0 G) (t_ : gTi cX3_rainRange .int _ G) => ?_)
  refine r_iload_n (pc := 0) h dX3_rainRange_0 rfl ?_
  refine r_if_lt (pc := 1) (tgt := 13) h dX3_rainRange_1 (by decide) (fun c1 => ?_) (fun c1 => ?_)
  · refine r_bipush (pc := 13) h dX3_rainRange_13 cb_m4 ?_
    refine r_ri t_ (pc := 15) dX3_rainRange_15 rfl ?_
    exact ⟨by simp [rnW, c1], rfl⟩
  · refine r_iload_n (pc := 4) h dX3_rainRange_4 rfl ?_
    refine r_if_lt (pc := 5) (tgt := 13) h dX3_rainRange_5 (by decide) (fun c5 => ?_) (fun c5 => ?_)
    · refine r_bipush (pc := 13) h dX3_rainRange_13 cb_m4 ?_
      refine r_ri t_ (pc := 15) dX3_rainRange_15 rfl ?_
      exact ⟨by simp [rnW, c1, c5], rfl⟩
    · refine r_iload_n (pc := 8) h dX3_rainRange_8 rfl ?_
      refine r_iconst (pc := 9) h dX3_rainRange_9 ci_2 ?_
      refine r_icmp_ge (pc := 10) (tgt := 16) h dX3_rainRange_10 (by decide) (fun c10 => ?_) (fun c10 => ?_)
      · refine r_iload_n (pc := 16) h dX3_rainRange_16 rfl ?_
        refine r_bipush (pc := 17) h dX3_rainRange_17 cb_7 ?_
        refine r_icmp_gt (pc := 19) (tgt := 34) h dX3_rainRange_19 (by decide) (fun c19 => ?_) (fun c19 => ?_)
        · refine r_bipush (pc := 34) h dX3_rainRange_34 cb_m6 ?_
          refine r_goto (pc := 36) (tgt := 40) h dX3_rainRange_36 (by decide) ?_
          refine r_ri t_ (pc := 40) dX3_rainRange_40 rfl ?_
          exact ⟨by simp [rnW, c1, c5, Int32.not_lt.mpr c10, c19], rfl⟩
        · refine r_iload_n (pc := 22) h dX3_rainRange_22 rfl ?_
          refine r_bipush (pc := 23) h dX3_rainRange_23 cb_20 ?_
          refine r_icmp_gt (pc := 25) (tgt := 34) h dX3_rainRange_25 (by decide) (fun c25 => ?_) (fun c25 => ?_)
          · refine r_bipush (pc := 34) h dX3_rainRange_34 cb_m6 ?_
            refine r_goto (pc := 36) (tgt := 40) h dX3_rainRange_36 (by decide) ?_
            refine r_ri t_ (pc := 40) dX3_rainRange_40 rfl ?_
            exact ⟨by simp [rnW, c1, c5, Int32.not_lt.mpr c10, c19, c25], rfl⟩
          · refine r_iload_n (pc := 28) h dX3_rainRange_28 rfl ?_
            refine r_bipush (pc := 29) h dX3_rainRange_29 cb_6 ?_
            refine r_icmp_le (pc := 31) (tgt := 39) h dX3_rainRange_31 (by decide) (fun c31 => ?_) (fun c31 => ?_)
            · refine r_iconst (pc := 39) h dX3_rainRange_39 ci_0 ?_
              refine r_ri t_ (pc := 40) dX3_rainRange_40 rfl ?_
              exact ⟨by simp [rnW, c1, c5, Int32.not_lt.mpr c10, c19, c25, Int32.not_lt.mpr c31], rfl⟩
            · refine r_bipush (pc := 34) h dX3_rainRange_34 cb_m6 ?_
              refine r_goto (pc := 36) (tgt := 40) h dX3_rainRange_36 (by decide) ?_
              refine r_ri t_ (pc := 40) dX3_rainRange_40 rfl ?_
              exact ⟨by simp [rnW, c1, c5, Int32.not_lt.mpr c10, c19, c25, Int32.not_le.mp c31], rfl⟩
      · refine r_bipush (pc := 13) h dX3_rainRange_13 cb_m4 ?_
        refine r_ri t_ (pc := 15) dX3_rainRange_15 rfl ?_
        exact ⟨by simp [rnW, c1, c5, Int32.not_le.mp c10], rfl⟩
set_option maxRecDepth 100000 in
set_option maxHeartbeats 4000000 in
theorem c_X3_think {g : gG} {c : gCt} (hR : Rx1 g c) : gCv mX3_think [.ref 0] g (fun g1 => Rx9 g1 c ∧ frm 9 17 g g1) := by
  refine gCv_of (own := RX3) (ls0 := [.ref 0]) ⟨rfl, pl_X3⟩ rfl (Nat.le_of_ble_eq_true rfl) (fun G (h : gR RX3 cX3_think 2 80 G) (t : gTv cX3_think _ G) => ?_)
  refine r_aload_n (pc := 0) h dX3_think_0 rfl ?_
  refine r_getR (pc := 1) h dX3_think_1 f_X3_16 sh_0 rfl ?_
  refine r_aload_n (pc := 4) h dX3_think_4 rfl ?_
  refine r_getR (pc := 5) h dX3_think_5 f_X3_10 sh_0 rfl ?_
  refine r_callVv (pc := 8) (As := [_]) h dX3_think_8 k_X3_94 gc_9 rfl ⟨Nat.le_of_ble_eq_true rfl, Nat.le_of_ble_eq_true rfl, Nat.le_of_ble_eq_true rfl⟩ (c_X0_copyFrom_9_1 hR) (fun g1 hq => ?_)
  refine r_rv t (pc := 11) dX3_think_11 ?_
  exact hq
set_option maxRecDepth 100000 in
set_option maxHeartbeats 4000000 in
theorem c_X3_allSaidBehind {g : gG} {d : gCt} (hT : Rx9 g d) (ho : gok d) {n : Nat} (hd : d 7 3 + n ≤ 2000) : gCi mX3_allSaidBehind [.ref 0, .int (nI n)] g (fun y g1 => y = nI (sumN (daysC n d 5) (daysC n d 7 1)) ∧ Rx9 g1 (daysC n d) ∧ frm 9 17 g g1) := by
  refine gCi_of (own := RX3) (ls0 := [.ref 0, .int (nI n)]) ⟨rfl, pl_X3⟩ rfl (Nat.le_of_ble_eq_true rfl) (fun G (h : gR RX3 cX3_allSaidBehind 5 200 G) (t : gTi cX3_allSaidBehind .int _ G) => ?_)
  refine r_aload_n (pc := 0) h dX3_allSaidBehind_0 rfl ?_
  refine r_getR (pc := 1) h dX3_allSaidBehind_1 f_X3_16 sh_0 rfl ?_
  refine r_iload_n (pc := 4) h dX3_allSaidBehind_4 rfl ?_
  refine r_callVv (pc := 5) (As := [_]) h dX3_allSaidBehind_5 k_X3_164 gc_9 rfl ⟨Nat.le_of_ble_eq_true rfl, Nat.le_of_ble_eq_true rfl, Nat.le_of_ble_eq_true rfl⟩ (c_X0_passDays_9 hT ho hd) (fun g1 hq => ?_)
  obtain ⟨hT, hF⟩ := hq
  refine r_aload_n (pc := 8) h dX3_allSaidBehind_8 rfl ?_
  refine r_getR (pc := 9) h dX3_allSaidBehind_9 f_X3_16 sh_0 rfl ?_
  refine r_callVi (pc := 12) (As := []) h dX3_allSaidBehind_12 k_X3_168 gc_9 rfl ⟨Nat.le_of_ble_eq_true rfl, Nat.le_of_ble_eq_true rfl, Nat.le_of_ble_eq_true rfl⟩ (c_X0_allSaid_9 hT) (fun x_12 g1 hq => ?_)
  obtain ⟨rfl, hg2⟩ := hq
  rw [hg2]
  refine r_ri t (pc := 15) dX3_allSaidBehind_15 rfl ?_
  exact ⟨rfl, hT, hF⟩
set_option maxRecDepth 100000 in
set_option maxHeartbeats 4000000 in
theorem x_suit (hR : Rx1 g c) (hX : XSr g ck hk lt nl rv nr rf) (ho : gok c) (hd : c 7 3 ≤ 999) (x w : Int32) : gCi mX3_suit [.ref 0, .int x, .int w] g (fun y g1 => y = ansI (suitW c x w) (suitV c x.toNatClampNeg w.toNatClampNeg) ∧ Rx1 g1 (c) ∧ XSr g1 ck hk lt nl rv nr (rfI rf (suitW c x w)) ∧ frm 0 35 g g1) := by
  refine gCi_of (own := RX3) (ls0 := [.ref 0, .int x, .int w, .null]) ⟨rfl, pl_X3⟩ rfl (Nat.le_of_ble_eq_true rfl) (fun G (h : gR RX3 cX3_suit 2 80 G) (t : gTi cX3_suit .int _ G) => ?_)
  have hn5 := hR.n5
  have hn6 := hR.n6
  refine r_aload_n (pc := 0) h dX3_suit_0 rfl ?_
  refine r_iload_n (pc := 1) h dX3_suit_1 rfl ?_
  refine r_callVi (pc := 2) (As := [_]) h dX3_suit_2 k_X3_98 gc_0 rfl ⟨Nat.le_of_ble_eq_true rfl, Nat.le_of_ble_eq_true rfl, Nat.le_of_ble_eq_true rfl⟩ (c_X3_anySuit hR x) (fun x_2 g1 hq => ?_)
  obtain ⟨rfl, rfl⟩ := hq
  refine r_iload_n (pc := 5) h dX3_suit_5 rfl ?_
  refine r_bipush (pc := 6) h dX3_suit_6 cb_7 ?_
  refine r_callSi (pc := 8) (As := [_, _]) h dX3_suit_8 k_X3_101 rfl ⟨Nat.le_of_ble_eq_true rfl, Nat.le_of_ble_eq_true rfl, Nat.le_of_ble_eq_true rfl⟩ (c_X3_anyOf w 7) (fun x_8 g1 hq => ?_)
  obtain ⟨rfl, rfl⟩ := hq
  refine r_iconst (pc := 11) h dX3_suit_11 ci_0 ?_
  refine r_callSi (pc := 12) (As := [_, _, _]) h dX3_suit_12 k_X3_104 rfl ⟨Nat.le_of_ble_eq_true rfl, Nat.le_of_ble_eq_true rfl, Nat.le_of_ble_eq_true rfl⟩ (c_X3_firstOf _ _ _) (fun x_12 g1 hq => ?_)
  obtain ⟨rfl, rfl⟩ := hq
  refine r_istore_n (pc := 15) (ls2 := [_, _, _, _]) h dX3_suit_15 (Nat.le_of_ble_eq_true rfl) rfl ?_
  refine r_iload_n (pc := 16) h dX3_suit_16 rfl ?_
  refine r_if_eq (pc := 17) (tgt := 26) h dX3_suit_17 (by decide) (fun c17 => ?_) (fun c17 => ?_)
  · have hw : suitW c x w = 0 := c17
    obtain ⟨w1, w2, -⟩ := fst_0.mp hw
    obtain ⟨s, hs, rfl⟩ := suf_0 w1 hn6
    obtain ⟨k, hk7, rfl⟩ := any_0 (by decide) w2 (by decide)
    have es : (nI s).toNatClampNeg = s := nI_clamp (by omega)
    have hk := ho.2.2.1 s hs
    refine r_iload_n (pc := 26) h dX3_suit_26 rfl ?_
    have hcase : k = 0 ∨ k = 1 ∨ k = 2 ∨ k = 3 ∨ k = 4 ∨ k = 5 ∨ k = 6 := by omega
    rcases hcase with rfl | rfl | rfl | rfl | rfl | rfl | rfl
    · refine r_tabIn (pc := 27) (o := 37) (tgt := 64) h dX3_suit_27 (by decide) (by decide) (by decide) (by decide) ?_
      refine r_aload_n (pc := 64) h dX3_suit_64 rfl ?_
      refine r_getR (pc := 65) h dX3_suit_65 f_X3_10 sh_0 rfl ?_
      refine r_getR (pc := 68) h dX3_suit_68 f_X3_107 sh_1 rfl ?_
      refine r_iload_n (pc := 71) h dX3_suit_71 rfl ?_
      refine r_ialoadE (pc := 72) h dX3_suit_72 sh_2 (hR.kd hs) ?_
      refine r_ri t (pc := 73) dX3_suit_73 rfl ?_
      exact x_ok hR hX frm.rf hw (by rw [es]; rfl)
    · refine r_tabIn (pc := 27) (o := 47) (tgt := 74) h dX3_suit_27 (by decide) (by decide) (by decide) (by decide) ?_
      refine r_aload_n (pc := 74) h dX3_suit_74 rfl ?_
      refine r_getR (pc := 75) h dX3_suit_75 f_X3_10 sh_0 rfl ?_
      refine r_getR (pc := 78) h dX3_suit_78 f_X3_110 sh_1 rfl ?_
      refine r_iload_n (pc := 81) h dX3_suit_81 rfl ?_
      refine r_ialoadE (pc := 82) h dX3_suit_82 sh_3 (hR.fg hs) ?_
      refine r_ri t (pc := 83) dX3_suit_83 rfl ?_
      exact x_ok hR hX frm.rf hw (by rw [es]; rfl)
    · refine r_tabIn (pc := 27) (o := 57) (tgt := 84) h dX3_suit_27 (by decide) (by decide) (by decide) (by decide) ?_
      refine r_aload_n (pc := 84) h dX3_suit_84 rfl ?_
      refine r_getR (pc := 85) h dX3_suit_85 f_X3_10 sh_0 rfl ?_
      refine r_getR (pc := 88) h dX3_suit_88 f_X3_113 sh_1 rfl ?_
      refine r_iload_n (pc := 91) h dX3_suit_91 rfl ?_
      refine r_ialoadE (pc := 92) h dX3_suit_92 sh_4 (hR.ru hs) ?_
      refine r_ri t (pc := 93) dX3_suit_93 rfl ?_
      exact x_ok hR hX frm.rf hw (by rw [es]; rfl)
    · refine r_tabIn (pc := 27) (o := 67) (tgt := 94) h dX3_suit_27 (by decide) (by decide) (by decide) (by decide) ?_
      refine r_aload_n (pc := 94) h dX3_suit_94 rfl ?_
      refine r_getR (pc := 95) h dX3_suit_95 f_X3_10 sh_0 rfl ?_
      refine r_iload_n (pc := 98) h dX3_suit_98 rfl ?_
      refine r_callVi (pc := 99) (As := [_]) h dX3_suit_99 k_X3_116 gc_1 rfl ⟨Nat.le_of_ble_eq_true rfl, Nat.le_of_ble_eq_true rfl, Nat.le_of_ble_eq_true rfl⟩ (c_X0_covers_1 hR ho hs) (fun x_99 g1 hq => ?_)
      obtain ⟨rfl, rfl⟩ := hq
      refine r_ri t (pc := 102) dX3_suit_102 rfl ?_
      exact x_ok hR hX frm.rf hw (by rw [es]; rfl)
    · refine r_tabIn (pc := 27) (o := 76) (tgt := 103) h dX3_suit_27 (by decide) (by decide) (by decide) (by decide) ?_
      refine r_aload_n (pc := 103) h dX3_suit_103 rfl ?_
      refine r_getR (pc := 104) h dX3_suit_104 f_X3_10 sh_0 rfl ?_
      refine r_iload_n (pc := 107) h dX3_suit_107 rfl ?_
      refine r_aload_n (pc := 108) h dX3_suit_108 rfl ?_
      refine r_getR (pc := 109) h dX3_suit_109 f_X3_10 sh_0 rfl ?_
      refine r_getE (pc := 112) h dX3_suit_112 f_X3_119 sh_1 rfl (hR.dy) ?_
      refine r_iconst (pc := 115) h dX3_suit_115 ci_1 ?_
      refine r_iadd (pc := 116) h dX3_suit_116 ?_
      refine r_top (y := nI (c 7 3 + 1)) h (nI_add _ _) ?_
      refine r_callVi (pc := 117) (As := [_, _]) h dX3_suit_117 k_X3_122 gc_1 rfl ⟨Nat.le_of_ble_eq_true rfl, Nat.le_of_ble_eq_true rfl, Nat.le_of_ble_eq_true rfl⟩ (c_X0_chafe_1 hR ho hs (by omega)) (fun x_117 g1 hq => ?_)
      obtain ⟨rfl, rfl⟩ := hq
      refine r_ri t (pc := 120) dX3_suit_120 rfl ?_
      exact x_ok hR hX frm.rf hw (by rw [es]; rfl)
    · refine r_tabIn (pc := 27) (o := 94) (tgt := 121) h dX3_suit_27 (by decide) (by decide) (by decide) (by decide) ?_
      refine r_gets (q := 100) (pc := 121) h dX3_suit_121 (by decide) (Or.inr fs_X3_125) ?_
      refine r_aload_n (pc := 124) h dX3_suit_124 rfl ?_
      refine r_getR (pc := 125) h dX3_suit_125 f_X3_10 sh_0 rfl ?_
      refine r_getR (pc := 128) h dX3_suit_128 f_X3_107 sh_1 rfl ?_
      refine r_iload_n (pc := 131) h dX3_suit_131 rfl ?_
      refine r_ialoadE (pc := 132) h dX3_suit_132 sh_2 (hR.kd hs) ?_
      refine r_tabldE (pc := 133) h dX3_suit_133 (by decide) (tabP hk.1) ?_
      refine r_ri t (pc := 134) dX3_suit_134 rfl ?_
      exact x_ok hR hX frm.rf hw (by rw [es]; rfl)
    · refine r_tabOut (pc := 27) (tgt := 135) h dX3_suit_27 (by decide) (by decide) ?_
      refine r_aload_n (pc := 135) h dX3_suit_135 rfl ?_
      refine r_getR (pc := 136) h dX3_suit_136 f_X3_10 sh_0 rfl ?_
      refine r_iload_n (pc := 139) h dX3_suit_139 rfl ?_
      refine r_callVi (pc := 140) (As := [_]) h dX3_suit_140 k_X3_128 gc_1 rfl ⟨Nat.le_of_ble_eq_true rfl, Nat.le_of_ble_eq_true rfl, Nat.le_of_ble_eq_true rfl⟩ (c_X0_wearer_1 hR ho (by omega)) (fun x_140 g1 hq => ?_)
      obtain ⟨rfl, rfl⟩ := hq
      refine r_ri t (pc := 143) dX3_suit_143 rfl ?_
      exact x_ok hR hX frm.rf hw (by rw [es]; rfl)
  · have hw : ¬ suitW c x w = 0 := c17
    have hok : okw (suitW c x w) := okw_f (okw_suf c x) (okw_b okw_2) okw_0
    refine r_aload_n (pc := 20) h dX3_suit_20 rfl ?_
    refine r_iload_n (pc := 21) h dX3_suit_21 rfl ?_
    refine r_callVi (pc := 22) (As := [_]) h dX3_suit_22 k_X3_67 gc_0 rfl ⟨Nat.le_of_ble_eq_true rfl, Nat.le_of_ble_eq_true rfl, Nat.le_of_ble_eq_true rfl⟩ (c_X3_refuse (okw_in hok hw).1) (fun x_22 g1 hq => ?_)
    obtain ⟨rfl, rfl⟩ := hq
    refine r_ri t (pc := 25) dX3_suit_25 rfl ?_
    exact x_ref hR hX hok hw
set_option maxRecDepth 100000 in
set_option maxHeartbeats 4000000 in
theorem x_caller (hR : Rx1 g c) (hX : XSr g ck hk lt nl rv nr rf) (ho : gok c) (hd : c 7 3 ≤ 999) (x w : Int32) : gCi mX3_caller [.ref 0, .int x, .int w] g (fun y g1 => y = ansI (callerW c x w) (callerV c x.toNatClampNeg w.toNatClampNeg) ∧ Rx1 g1 (c) ∧ XSr g1 ck hk lt nl rv nr (rfI rf (callerW c x w)) ∧ frm 0 35 g g1) := by
  refine gCi_of (own := RX3) (ls0 := [.ref 0, .int x, .int w, .null]) ⟨rfl, pl_X3⟩ rfl (Nat.le_of_ble_eq_true rfl) (fun G (h : gR RX3 cX3_caller 3 120 G) (t : gTi cX3_caller .int _ G) => ?_)
  have hn5 := hR.n5
  have hn6 := hR.n6
  refine r_aload_n (pc := 0) h dX3_caller_0 rfl ?_
  refine r_iload_n (pc := 1) h dX3_caller_1 rfl ?_
  refine r_callVi (pc := 2) (As := [_]) h dX3_caller_2 k_X3_131 gc_0 rfl ⟨Nat.le_of_ble_eq_true rfl, Nat.le_of_ble_eq_true rfl, Nat.le_of_ble_eq_true rfl⟩ (c_X3_anyCaller hR x) (fun x_2 g1 hq => ?_)
  obtain ⟨rfl, rfl⟩ := hq
  refine r_iload_n (pc := 5) h dX3_caller_5 rfl ?_
  refine r_bipush (pc := 6) h dX3_caller_6 cb_6 ?_
  refine r_callSi (pc := 8) (As := [_, _]) h dX3_caller_8 k_X3_101 rfl ⟨Nat.le_of_ble_eq_true rfl, Nat.le_of_ble_eq_true rfl, Nat.le_of_ble_eq_true rfl⟩ (c_X3_anyOf w 6) (fun x_8 g1 hq => ?_)
  obtain ⟨rfl, rfl⟩ := hq
  refine r_iconst (pc := 11) h dX3_caller_11 ci_0 ?_
  refine r_callSi (pc := 12) (As := [_, _, _]) h dX3_caller_12 k_X3_104 rfl ⟨Nat.le_of_ble_eq_true rfl, Nat.le_of_ble_eq_true rfl, Nat.le_of_ble_eq_true rfl⟩ (c_X3_firstOf _ _ _) (fun x_12 g1 hq => ?_)
  obtain ⟨rfl, rfl⟩ := hq
  refine r_istore_n (pc := 15) (ls2 := [_, _, _, _]) h dX3_caller_15 (Nat.le_of_ble_eq_true rfl) rfl ?_
  refine r_iload_n (pc := 16) h dX3_caller_16 rfl ?_
  refine r_if_eq (pc := 17) (tgt := 26) h dX3_caller_17 (by decide) (fun c17 => ?_) (fun c17 => ?_)
  · have hw : callerW c x w = 0 := c17
    obtain ⟨w1, w2, -⟩ := fst_0.mp hw
    obtain ⟨i, hi, rfl⟩ := cal_0 w1 hn5
    obtain ⟨k, hk7, rfl⟩ := any_0 (by decide) w2 (by decide)
    have es : (nI i).toNatClampNeg = i := nI_clamp (by omega)
    refine r_iload_n (pc := 26) h dX3_caller_26 rfl ?_
    have hcase : k = 0 ∨ k = 1 ∨ k = 2 ∨ k = 3 ∨ k = 4 ∨ k = 5 := by omega
    rcases hcase with rfl | rfl | rfl | rfl | rfl | rfl
    · refine r_tabIn (pc := 27) (o := 33) (tgt := 60) h dX3_caller_27 (by decide) (by decide) (by decide) (by decide) ?_
      refine r_aload_n (pc := 60) h dX3_caller_60 rfl ?_
      refine r_getR (pc := 61) h dX3_caller_61 f_X3_10 sh_0 rfl ?_
      refine r_getR (pc := 64) h dX3_caller_64 f_X3_134 sh_1 rfl ?_
      refine r_iload_n (pc := 67) h dX3_caller_67 rfl ?_
      refine r_ialoadE (pc := 68) h dX3_caller_68 sh_5 (hR.fe hi) ?_
      refine r_ri t (pc := 69) dX3_caller_69 rfl ?_
      exact x_ok hR hX frm.rf hw (by rw [es]; rfl)
    · refine r_tabIn (pc := 27) (o := 43) (tgt := 70) h dX3_caller_27 (by decide) (by decide) (by decide) (by decide) ?_
      refine r_aload_n (pc := 70) h dX3_caller_70 rfl ?_
      refine r_getR (pc := 71) h dX3_caller_71 f_X3_10 sh_0 rfl ?_
      refine r_getR (pc := 74) h dX3_caller_74 f_X3_137 sh_1 rfl ?_
      refine r_iload_n (pc := 77) h dX3_caller_77 rfl ?_
      refine r_ialoadE (pc := 78) h dX3_caller_78 sh_6 (hR.so hi) ?_
      refine r_ri t (pc := 79) dX3_caller_79 rfl ?_
      exact x_ok hR hX frm.rf hw (by rw [es]; rfl)
    · refine r_tabIn (pc := 27) (o := 53) (tgt := 80) h dX3_caller_27 (by decide) (by decide) (by decide) (by decide) ?_
      refine r_aload_n (pc := 80) h dX3_caller_80 rfl ?_
      refine r_getR (pc := 81) h dX3_caller_81 f_X3_10 sh_0 rfl ?_
      refine r_getR (pc := 84) h dX3_caller_84 f_X3_140 sh_1 rfl ?_
      refine r_iload_n (pc := 87) h dX3_caller_87 rfl ?_
      refine r_ialoadE (pc := 88) h dX3_caller_88 sh_7 (hR.sa hi) ?_
      refine r_ri t (pc := 89) dX3_caller_89 rfl ?_
      exact x_ok hR hX frm.rf hw (by rw [es]; rfl)
    · refine r_tabIn (pc := 27) (o := 63) (tgt := 90) h dX3_caller_27 (by decide) (by decide) (by decide) (by decide) ?_
      refine r_aload_n (pc := 90) h dX3_caller_90 rfl ?_
      refine r_getR (pc := 91) h dX3_caller_91 f_X3_10 sh_0 rfl ?_
      refine r_getR (pc := 94) h dX3_caller_94 f_X3_143 sh_1 rfl ?_
      refine r_iload_n (pc := 97) h dX3_caller_97 rfl ?_
      refine r_ialoadE (pc := 98) h dX3_caller_98 sh_8 (hR.wo hi) ?_
      refine r_ri t (pc := 99) dX3_caller_99 rfl ?_
      exact x_ok hR hX frm.rf hw (by rw [es]; rfl)
    · refine r_tabIn (pc := 27) (o := 73) (tgt := 100) h dX3_caller_27 (by decide) (by decide) (by decide) (by decide) ?_
      refine r_aload_n (pc := 100) h dX3_caller_100 rfl ?_
      refine r_getR (pc := 101) h dX3_caller_101 f_X3_10 sh_0 rfl ?_
      refine r_iload_n (pc := 104) h dX3_caller_104 rfl ?_
      refine r_callVi (pc := 105) (As := [_]) h dX3_caller_105 k_X3_146 gc_1 rfl ⟨Nat.le_of_ble_eq_true rfl, Nat.le_of_ble_eq_true rfl, Nat.le_of_ble_eq_true rfl⟩ (c_X0_can_1 hR ho hi) (fun x_105 g1 hq => ?_)
      obtain ⟨rfl, rfl⟩ := hq
      refine r_if_eq (pc := 108) (tgt := 115) h dX3_caller_108 (by decide) (fun c108 => ?_) (fun c108 => ?_)
      · have hc := (bI_0 _).mp c108
        refine r_iconst (pc := 115) h dX3_caller_115 ci_0 ?_
        refine r_ri t (pc := 116) dX3_caller_116 rfl ?_
        exact x_ok hR hX frm.rf hw (by rw [es]; show _ = bI (canB c i (covOf c i)); rw [hc]; rfl)
      · have hc : canB c i (covOf c i) = true := by simpa using mt (bI_0 (canB c i (covOf c i))).mpr c108
        refine r_iconst (pc := 111) h dX3_caller_111 ci_1 ?_
        refine r_goto (pc := 112) (tgt := 116) h dX3_caller_112 (by decide) ?_
        refine r_ri t (pc := 116) dX3_caller_116 rfl ?_
        exact x_ok hR hX frm.rf hw (by rw [es]; show _ = bI (canB c i (covOf c i)); rw [hc]; rfl)
    · refine r_tabOut (pc := 27) (tgt := 117) h dX3_caller_27 (by decide) (by decide) ?_
      refine r_aload_n (pc := 117) h dX3_caller_117 rfl ?_
      refine r_getR (pc := 118) h dX3_caller_118 f_X3_10 sh_0 rfl ?_
      refine r_iload_n (pc := 121) h dX3_caller_121 rfl ?_
      refine r_callVi (pc := 122) (As := [_]) h dX3_caller_122 k_X3_150 gc_1 rfl ⟨Nat.le_of_ble_eq_true rfl, Nat.le_of_ble_eq_true rfl, Nat.le_of_ble_eq_true rfl⟩ (c_X0_lacks_1 hR ho hi) (fun x_122 g1 hq => ?_)
      obtain ⟨rfl, rfl⟩ := hq
      refine r_ri t (pc := 125) dX3_caller_125 rfl ?_
      exact x_ok hR hX frm.rf hw (by rw [es]; rfl)
  · have hw : ¬ callerW c x w = 0 := c17
    have hok : okw (callerW c x w) := okw_f (okw_cal c x) (okw_b okw_2) okw_0
    refine r_aload_n (pc := 20) h dX3_caller_20 rfl ?_
    refine r_iload_n (pc := 21) h dX3_caller_21 rfl ?_
    refine r_callVi (pc := 22) (As := [_]) h dX3_caller_22 k_X3_67 gc_0 rfl ⟨Nat.le_of_ble_eq_true rfl, Nat.le_of_ble_eq_true rfl, Nat.le_of_ble_eq_true rfl⟩ (c_X3_refuse (okw_in hok hw).1) (fun x_22 g1 hq => ?_)
    obtain ⟨rfl, rfl⟩ := hq
    refine r_ri t (pc := 25) dX3_caller_25 rfl ?_
    exact x_ref hR hX hok hw
set_option maxRecDepth 100000 in
set_option maxHeartbeats 4000000 in
theorem x_courage (hR : Rx1 g c) (hX : XSr g ck hk lt nl rv nr rf) (ho : gok c) (hd : c 7 3 ≤ 999) (x : Int32) : gCi mX3_courage [.ref 0, .int x] g (fun y g1 => y = (if calW c x = 0 then brI c x.toNatClampNeg (covOf c x.toNatClampNeg) else 1000000000 - calW c x) ∧ Rx1 g1 c ∧ XSr g1 ck hk lt nl rv nr (rfI rf (calW c x)) ∧ frm 0 35 g g1) := by
  refine gCi_of (own := RX3) (ls0 := [.ref 0, .int x, .null]) ⟨rfl, pl_X3⟩ rfl (Nat.le_of_ble_eq_true rfl) (fun G (h : gR RX3 cX3_courage 2 80 G) (t : gTi cX3_courage .int _ G) => ?_)
  have hn5 := hR.n5
  refine r_aload_n (pc := 0) h dX3_courage_0 rfl ?_
  refine r_iload_n (pc := 1) h dX3_courage_1 rfl ?_
  refine r_callVi (pc := 2) (As := [_]) h dX3_courage_2 k_X3_131 gc_0 rfl ⟨Nat.le_of_ble_eq_true rfl, Nat.le_of_ble_eq_true rfl, Nat.le_of_ble_eq_true rfl⟩ (c_X3_anyCaller hR x) (fun x_2 g1 hq => ?_)
  obtain ⟨rfl, rfl⟩ := hq
  refine r_istore_n (pc := 5) (ls2 := [_, _, _]) h dX3_courage_5 (Nat.le_of_ble_eq_true rfl) rfl ?_
  refine r_iload_n (pc := 6) h dX3_courage_6 rfl ?_
  refine r_if_eq (pc := 7) (tgt := 19) h dX3_courage_7 (by decide) (fun c7 => ?_) (fun c7 => ?_)
  · have hw : calW c x = 0 := c7
    obtain ⟨i, hi, rfl⟩ := cal_0 hw hn5
    have es : (nI i).toNatClampNeg = i := nI_clamp (by omega)
    refine r_aload_n (pc := 19) h dX3_courage_19 rfl ?_
    refine r_getR (pc := 20) h dX3_courage_20 f_X3_10 sh_0 rfl ?_
    refine r_iload_n (pc := 23) h dX3_courage_23 rfl ?_
    refine r_callVi (pc := 24) (As := [_]) h dX3_courage_24 k_X3_154 gc_1 rfl ⟨Nat.le_of_ble_eq_true rfl, Nat.le_of_ble_eq_true rfl, Nat.le_of_ble_eq_true rfl⟩ (c_X0_bravery_1 hR ho hi) (fun x_24 g1 hq => ?_)
    obtain ⟨rfl, rfl⟩ := hq
    refine r_ri t (pc := 27) dX3_courage_27 rfl ?_
    exact ⟨by rw [if_pos hw, es], (x_ok (v := 0) (u := 0) hR hX frm.rf hw rfl).2⟩
  · have hw : ¬ calW c x = 0 := c7
    have hok := okw_cal c x
    refine r_ldc (pc := 10) h dX3_courage_10 kc_X3_153 ?_
    refine r_aload_n (pc := 12) h dX3_courage_12 rfl ?_
    refine r_iload_n (pc := 13) h dX3_courage_13 rfl ?_
    refine r_callVi (pc := 14) (As := [_]) h dX3_courage_14 k_X3_67 gc_0 rfl ⟨Nat.le_of_ble_eq_true rfl, Nat.le_of_ble_eq_true rfl, Nat.le_of_ble_eq_true rfl⟩ (c_X3_refuse (okw_in hok hw).1) (fun x_14 g1 hq => ?_)
    obtain ⟨rfl, rfl⟩ := hq
    refine r_isub (pc := 17) h dX3_courage_17 ?_
    refine r_ri t (pc := 18) dX3_courage_18 rfl ?_
    exact ⟨by rw [if_neg hw], (x_ref (v := 0) hR hX hok hw).2⟩
set_option maxRecDepth 100000 in
set_option maxHeartbeats 4000000 in
theorem x_wears (hR : Rx1 g c) (hX : XSr g ck hk lt nl rv nr rf) (ho : gok c) (hd : c 7 3 ≤ 999) (x s : Int32) : gCi mX3_wears [.ref 0, .int x, .int s] g (fun y g1 => y = ansI (wearsW c x s) (wz (c 6 x.toNatClampNeg)) ∧ Rx1 g1 (if wearsW c x s = 0 then put c x.toNatClampNeg s.toNatClampNeg else c) ∧ XSr g1 ck hk lt nl rv nr (rfI rf (wearsW c x s)) ∧ frm 0 35 g g1) := by
  refine gCi_of (own := RX3) (ls0 := [.ref 0, .int x, .int s, .null, .null]) ⟨rfl, pl_X3⟩ rfl (Nat.le_of_ble_eq_true rfl) (fun G (h : gR RX3 cX3_wears 2 80 G) (t : gTi cX3_wears .int _ G) => ?_)
  have hn5 := hR.n5
  have hn6 := hR.n6
  refine r_aload_n (pc := 0) h dX3_wears_0 rfl ?_
  refine r_iload_n (pc := 1) h dX3_wears_1 rfl ?_
  refine r_callVi (pc := 2) (As := [_]) h dX3_wears_2 k_X3_131 gc_0 rfl ⟨Nat.le_of_ble_eq_true rfl, Nat.le_of_ble_eq_true rfl, Nat.le_of_ble_eq_true rfl⟩ (c_X3_anyCaller hR x) (fun x_2 g1 hq => ?_)
  obtain ⟨rfl, rfl⟩ := hq
  refine r_aload_n (pc := 5) h dX3_wears_5 rfl ?_
  refine r_iload_n (pc := 6) h dX3_wears_6 rfl ?_
  refine r_callVi (pc := 7) (As := [_]) h dX3_wears_7 k_X3_98 gc_0 rfl ⟨Nat.le_of_ble_eq_true rfl, Nat.le_of_ble_eq_true rfl, Nat.le_of_ble_eq_true rfl⟩ (c_X3_anySuit hR s) (fun x_7 g1 hq => ?_)
  obtain ⟨rfl, rfl⟩ := hq
  refine r_iconst (pc := 10) h dX3_wears_10 ci_0 ?_
  refine r_callSi (pc := 11) (As := [_, _, _]) h dX3_wears_11 k_X3_104 rfl ⟨Nat.le_of_ble_eq_true rfl, Nat.le_of_ble_eq_true rfl, Nat.le_of_ble_eq_true rfl⟩ (c_X3_firstOf _ _ _) (fun x_11 g1 hq => ?_)
  obtain ⟨rfl, rfl⟩ := hq
  refine r_istore_n (pc := 14) (ls2 := [_, _, _, _, _]) h dX3_wears_14 (Nat.le_of_ble_eq_true rfl) rfl ?_
  refine r_iload_n (pc := 15) h dX3_wears_15 rfl ?_
  refine r_if_eq (pc := 16) (tgt := 25) h dX3_wears_16 (by decide) (fun c16 => ?_) (fun c16 => ?_)
  · have hw : wearsW c x s = 0 := c16
    obtain ⟨w1, w2, -⟩ := fst_0.mp hw
    obtain ⟨i, hi, rfl⟩ := cal_0 w1 hn5
    obtain ⟨k, hk, rfl⟩ := suf_0 w2 hn6
    have ei : (nI i).toNatClampNeg = i := nI_clamp (by omega)
    have ek : (nI k).toNatClampNeg = k := nI_clamp (by omega)
    refine r_aload_n (pc := 25) h dX3_wears_25 rfl ?_
    refine r_getR (pc := 26) h dX3_wears_26 f_X3_10 sh_0 rfl ?_
    refine r_getR (pc := 29) h dX3_wears_29 f_X3_143 sh_1 rfl ?_
    refine r_iload_n (pc := 32) h dX3_wears_32 rfl ?_
    refine r_ialoadE (pc := 33) h dX3_wears_33 sh_8 (hR.wo hi) ?_
    refine r_istore (pc := 34) (ls2 := [_, _, _, _, _]) h dX3_wears_34 (Nat.le_of_ble_eq_true rfl) rfl ?_
    refine r_aload_n (pc := 36) h dX3_wears_36 rfl ?_
    refine r_getR (pc := 37) h dX3_wears_37 f_X3_10 sh_0 rfl ?_
    refine r_iload_n (pc := 40) h dX3_wears_40 rfl ?_
    refine r_iload_n (pc := 41) h dX3_wears_41 rfl ?_
    refine r_callVv (pc := 42) (As := [_, _]) h dX3_wears_42 k_X3_157 gc_1 rfl ⟨Nat.le_of_ble_eq_true rfl, Nat.le_of_ble_eq_true rfl, Nat.le_of_ble_eq_true rfl⟩ (c_X0_putIn_1 hR ho hi hk) (fun g1 hq => ?_)
    obtain ⟨hR2, hF⟩ := hq
    refine r_iload (pc := 45) h dX3_wears_45 rfl ?_
    refine r_ri t (pc := 47) dX3_wears_47 rfl ?_
    rw [if_pos hw, ei, ek]
    exact x_ok hR2 (hX.f1 hF) (hF.wide (by decide) (by decide)) hw rfl
  · have hw : ¬ wearsW c x s = 0 := c16
    have hok : okw (wearsW c x s) := okw_f (okw_cal c x) (okw_suf c s) okw_0
    refine r_aload_n (pc := 19) h dX3_wears_19 rfl ?_
    refine r_iload_n (pc := 20) h dX3_wears_20 rfl ?_
    refine r_callVi (pc := 21) (As := [_]) h dX3_wears_21 k_X3_67 gc_0 rfl ⟨Nat.le_of_ble_eq_true rfl, Nat.le_of_ble_eq_true rfl, Nat.le_of_ble_eq_true rfl⟩ (c_X3_refuse (okw_in hok hw).1) (fun x_21 g1 hq => ?_)
    obtain ⟨rfl, rfl⟩ := hq
    refine r_ri t (pc := 24) dX3_wears_24 rfl ?_
    rw [if_neg hw]
    exact x_ref hR hX hok hw
set_option maxRecDepth 100000 in
set_option maxHeartbeats 4000000 in
theorem x_takesOff (hR : Rx1 g c) (hX : XSr g ck hk lt nl rv nr rf) (ho : gok c) (hd : c 7 3 ≤ 999) (x : Int32) : gCi mX3_takesOff [.ref 0, .int x] g (fun y g1 => y = ansI (offW c x) (wz (c 6 x.toNatClampNeg)) ∧ Rx1 g1 (if offW c x = 0 then cup c 6 x.toNatClampNeg 0 else c) ∧ XSr g1 ck hk lt nl rv nr (rfI rf (offW c x)) ∧ frm 0 35 g g1) := by
  refine gCi_of (own := RX3) (ls0 := [.ref 0, .int x, .null, .null]) ⟨rfl, pl_X3⟩ rfl (Nat.le_of_ble_eq_true rfl) (fun G (h : gR RX3 cX3_takesOff 2 80 G) (t : gTi cX3_takesOff .int _ G) => ?_)
  have hn5 := hR.n5
  have hn6 := hR.n6
  refine r_aload_n (pc := 0) h dX3_takesOff_0 rfl ?_
  refine r_iload_n (pc := 1) h dX3_takesOff_1 rfl ?_
  refine r_callVi (pc := 2) (As := [_]) h dX3_takesOff_2 k_X3_131 gc_0 rfl ⟨Nat.le_of_ble_eq_true rfl, Nat.le_of_ble_eq_true rfl, Nat.le_of_ble_eq_true rfl⟩ (c_X3_anyCaller hR x) (fun x_2 g1 hq => ?_)
  obtain ⟨rfl, rfl⟩ := hq
  refine r_aload_n (pc := 5) h dX3_takesOff_5 rfl ?_
  refine r_iload_n (pc := 6) h dX3_takesOff_6 rfl ?_
  refine r_callVi (pc := 7) (As := [_]) h dX3_takesOff_7 k_X3_161 gc_0 rfl ⟨Nat.le_of_ble_eq_true rfl, Nat.le_of_ble_eq_true rfl, Nat.le_of_ble_eq_true rfl⟩ (c_X3_inSuit hR ho x) (fun x_7 g1 hq => ?_)
  obtain ⟨rfl, rfl⟩ := hq
  refine r_iconst (pc := 10) h dX3_takesOff_10 ci_0 ?_
  refine r_callSi (pc := 11) (As := [_, _, _]) h dX3_takesOff_11 k_X3_104 rfl ⟨Nat.le_of_ble_eq_true rfl, Nat.le_of_ble_eq_true rfl, Nat.le_of_ble_eq_true rfl⟩ (c_X3_firstOf _ _ _) (fun x_11 g1 hq => ?_)
  obtain ⟨rfl, rfl⟩ := hq
  refine r_istore_n (pc := 14) (ls2 := [_, _, _, _]) h dX3_takesOff_14 (Nat.le_of_ble_eq_true rfl) rfl ?_
  refine r_iload_n (pc := 15) h dX3_takesOff_15 rfl ?_
  refine r_if_eq (pc := 16) (tgt := 25) h dX3_takesOff_16 (by decide) (fun c16 => ?_) (fun c16 => ?_)
  · have hw : offW c x = 0 := c16
    obtain ⟨w1, w2, -⟩ := fst_0.mp hw
    obtain ⟨i, hi, rfl⟩ := cal_0 w1 hn5
    have ei : (nI i).toNatClampNeg = i := nI_clamp (by omega)
    refine r_aload_n (pc := 25) h dX3_takesOff_25 rfl ?_
    refine r_getR (pc := 26) h dX3_takesOff_26 f_X3_10 sh_0 rfl ?_
    refine r_getR (pc := 29) h dX3_takesOff_29 f_X3_143 sh_1 rfl ?_
    refine r_iload_n (pc := 32) h dX3_takesOff_32 rfl ?_
    refine r_ialoadE (pc := 33) h dX3_takesOff_33 sh_8 (hR.wo hi) ?_
    refine r_istore_n (pc := 34) (ls2 := [_, _, _, _]) h dX3_takesOff_34 (Nat.le_of_ble_eq_true rfl) rfl ?_
    refine r_aload_n (pc := 35) h dX3_takesOff_35 rfl ?_
    refine r_getR (pc := 36) h dX3_takesOff_36 f_X3_10 sh_0 rfl ?_
    refine r_getR (pc := 39) h dX3_takesOff_39 f_X3_143 sh_1 rfl ?_
    refine r_iload_n (pc := 42) h dX3_takesOff_42 rfl ?_
    refine r_bipush (pc := 43) h dX3_takesOff_43 cb_m9 ?_
    refine r_top (y := wz 0) h rfl ?_
    refine r_iastore (pc := 45) h dX3_takesOff_45 sh_8 (hR.ci hi) ?_
    refine r_iload_n (pc := 46) h dX3_takesOff_46 rfl ?_
    refine r_ri t (pc := 47) dX3_takesOff_47 rfl ?_
    rw [if_pos hw, ei]
    have hq := Rx1.wr frm.rf (hR.u_wo hi 0) (by decide)
    rw [ei] at hq
    exact x_ok hq.1 (hX.f1 hq.2) (hq.2.wide (by decide) (by decide)) hw rfl
  · have hw : ¬ offW c x = 0 := c16
    have hok : okw (offW c x) := okw_f (okw_cal c x) (okw_ins c x) okw_0
    refine r_aload_n (pc := 19) h dX3_takesOff_19 rfl ?_
    refine r_iload_n (pc := 20) h dX3_takesOff_20 rfl ?_
    refine r_callVi (pc := 21) (As := [_]) h dX3_takesOff_21 k_X3_67 gc_0 rfl ⟨Nat.le_of_ble_eq_true rfl, Nat.le_of_ble_eq_true rfl, Nat.le_of_ble_eq_true rfl⟩ (c_X3_refuse (okw_in hok hw).1) (fun x_21 g1 hq => ?_)
    obtain ⟨rfl, rfl⟩ := hq
    refine r_ri t (pc := 24) dX3_takesOff_24 rfl ?_
    rw [if_neg hw]
    exact x_ref hR hX hok hw
set_option maxRecDepth 100000 in
set_option maxHeartbeats 4000000 in
theorem x_fears (hR : Rx1 g c) (hX : XSr g ck hk lt nl rv nr rf) (ho : gok c) (hd : c 7 3 ≤ 999) (x v : Int32) : gCi mX3_fears [.ref 0, .int x, .int v] g (fun y g1 => y = ansI (fearsW c x v) (nI (c 3 x.toNatClampNeg)) ∧ Rx1 g1 (if fearsW c x v = 0 then cup c 3 x.toNatClampNeg v.toNatClampNeg else c) ∧ XSr g1 ck hk lt nl rv nr (rfI rf (fearsW c x v)) ∧ frm 0 35 g g1) := by
  refine gCi_of (own := RX3) (ls0 := [.ref 0, .int x, .int v, .null, .null]) ⟨rfl, pl_X3⟩ rfl (Nat.le_of_ble_eq_true rfl) (fun G (h : gR RX3 cX3_fears 1 40 G) (t : gTi cX3_fears .int _ G) => ?_)
  have hn5 := hR.n5
  have hn6 := hR.n6
  refine r_aload_n (pc := 0) h dX3_fears_0 rfl ?_
  refine r_iload_n (pc := 1) h dX3_fears_1 rfl ?_
  refine r_callVi (pc := 2) (As := [_]) h dX3_fears_2 k_X3_131 gc_0 rfl ⟨Nat.le_of_ble_eq_true rfl, Nat.le_of_ble_eq_true rfl, Nat.le_of_ble_eq_true rfl⟩ (c_X3_anyCaller hR x) (fun x_2 g1 hq => ?_)
  obtain ⟨rfl, rfl⟩ := hq
  refine r_iload_n (pc := 5) h dX3_fears_5 rfl ?_
  refine r_iconst (pc := 6) h dX3_fears_6 ci_0 ?_
  refine r_bipush (pc := 7) h dX3_fears_7 cb_20 ?_
  refine r_callSi (pc := 9) (As := [_, _, _]) h dX3_fears_9 k_X3_60 rfl ⟨Nat.le_of_ble_eq_true rfl, Nat.le_of_ble_eq_true rfl, Nat.le_of_ble_eq_true rfl⟩ (c_X3_range _ _ _) (fun x_9 g1 hq => ?_)
  obtain ⟨rfl, rfl⟩ := hq
  refine r_iconst (pc := 12) h dX3_fears_12 ci_0 ?_
  refine r_callSi (pc := 13) (As := [_, _, _]) h dX3_fears_13 k_X3_104 rfl ⟨Nat.le_of_ble_eq_true rfl, Nat.le_of_ble_eq_true rfl, Nat.le_of_ble_eq_true rfl⟩ (c_X3_firstOf _ _ _) (fun x_13 g1 hq => ?_)
  obtain ⟨rfl, rfl⟩ := hq
  refine r_istore_n (pc := 16) (ls2 := [_, _, _, _, _]) h dX3_fears_16 (Nat.le_of_ble_eq_true rfl) rfl ?_
  refine r_iload_n (pc := 17) h dX3_fears_17 rfl ?_
  refine r_if_eq (pc := 18) (tgt := 27) h dX3_fears_18 (by decide) (fun c18 => ?_) (fun c18 => ?_)
  · have hw : fearsW c x v = 0 := c18
    obtain ⟨w1, w2, -⟩ := fst_0.mp hw
    obtain ⟨i, hi, rfl⟩ := cal_0 w1 hn5
    obtain ⟨n, -, hn, rfl⟩ := bnd_nat (by decide) (by decide) w2
    have ei : (nI i).toNatClampNeg = i := nI_clamp (by omega)
    have en : (nI n).toNatClampNeg = n := nI_clamp (by omega)
    refine r_aload_n (pc := 27) h dX3_fears_27 rfl ?_
    refine r_getR (pc := 28) h dX3_fears_28 f_X3_10 sh_0 rfl ?_
    refine r_getR (pc := 31) h dX3_fears_31 f_X3_134 sh_1 rfl ?_
    refine r_iload_n (pc := 34) h dX3_fears_34 rfl ?_
    refine r_ialoadE (pc := 35) h dX3_fears_35 sh_5 (hR.fe hi) ?_
    refine r_istore (pc := 36) (ls2 := [_, _, _, _, _]) h dX3_fears_36 (Nat.le_of_ble_eq_true rfl) rfl ?_
    refine r_aload_n (pc := 38) h dX3_fears_38 rfl ?_
    refine r_getR (pc := 39) h dX3_fears_39 f_X3_10 sh_0 rfl ?_
    refine r_getR (pc := 42) h dX3_fears_42 f_X3_134 sh_1 rfl ?_
    refine r_iload_n (pc := 45) h dX3_fears_45 rfl ?_
    refine r_iload_n (pc := 46) h dX3_fears_46 rfl ?_
    refine r_iastore (pc := 47) h dX3_fears_47 sh_5 (hR.ci hi) ?_
    refine r_iload (pc := 48) h dX3_fears_48 rfl ?_
    refine r_ri t (pc := 50) dX3_fears_50 rfl ?_
    rw [if_pos hw, ei, en]
    have hq := Rx1.wr frm.rf (hR.u_fe hi n) (by decide)
    rw [ei] at hq
    exact x_ok hq.1 (hX.f1 hq.2) (hq.2.wide (by decide) (by decide)) hw rfl
  · have hw : ¬ fearsW c x v = 0 := c18
    have hok : okw (fearsW c x v) := okw_f (okw_cal c x) okw_n okw_0
    refine r_aload_n (pc := 21) h dX3_fears_21 rfl ?_
    refine r_iload_n (pc := 22) h dX3_fears_22 rfl ?_
    refine r_callVi (pc := 23) (As := [_]) h dX3_fears_23 k_X3_67 gc_0 rfl ⟨Nat.le_of_ble_eq_true rfl, Nat.le_of_ble_eq_true rfl, Nat.le_of_ble_eq_true rfl⟩ (c_X3_refuse (okw_in hok hw).1) (fun x_23 g1 hq => ?_)
    obtain ⟨rfl, rfl⟩ := hq
    refine r_ri t (pc := 26) dX3_fears_26 rfl ?_
    rw [if_neg hw]
    exact x_ref hR hX hok hw
set_option maxRecDepth 100000 in
set_option maxHeartbeats 4000000 in
theorem x_rusts (hR : Rx1 g c) (hX : XSr g ck hk lt nl rv nr rf) (ho : gok c) (hd : c 7 3 ≤ 999) (x v : Int32) : gCi mX3_rusts [.ref 0, .int x, .int v] g (fun y g1 => y = ansI (rustsW c x v) (nI (c 2 x.toNatClampNeg)) ∧ Rx1 g1 (if rustsW c x v = 0 then cup c 2 x.toNatClampNeg v.toNatClampNeg else c) ∧ XSr g1 ck hk lt nl rv nr (rfI rf (rustsW c x v)) ∧ frm 0 35 g g1) := by
  refine gCi_of (own := RX3) (ls0 := [.ref 0, .int x, .int v, .null, .null]) ⟨rfl, pl_X3⟩ rfl (Nat.le_of_ble_eq_true rfl) (fun G (h : gR RX3 cX3_rusts 1 40 G) (t : gTi cX3_rusts .int _ G) => ?_)
  have hn5 := hR.n5
  have hn6 := hR.n6
  refine r_aload_n (pc := 0) h dX3_rusts_0 rfl ?_
  refine r_iload_n (pc := 1) h dX3_rusts_1 rfl ?_
  refine r_callVi (pc := 2) (As := [_]) h dX3_rusts_2 k_X3_98 gc_0 rfl ⟨Nat.le_of_ble_eq_true rfl, Nat.le_of_ble_eq_true rfl, Nat.le_of_ble_eq_true rfl⟩ (c_X3_anySuit hR x) (fun x_2 g1 hq => ?_)
  obtain ⟨rfl, rfl⟩ := hq
  refine r_iload_n (pc := 5) h dX3_rusts_5 rfl ?_
  refine r_iconst (pc := 6) h dX3_rusts_6 ci_0 ?_
  refine r_bipush (pc := 7) h dX3_rusts_7 cb_9 ?_
  refine r_callSi (pc := 9) (As := [_, _, _]) h dX3_rusts_9 k_X3_60 rfl ⟨Nat.le_of_ble_eq_true rfl, Nat.le_of_ble_eq_true rfl, Nat.le_of_ble_eq_true rfl⟩ (c_X3_range _ _ _) (fun x_9 g1 hq => ?_)
  obtain ⟨rfl, rfl⟩ := hq
  refine r_iconst (pc := 12) h dX3_rusts_12 ci_0 ?_
  refine r_callSi (pc := 13) (As := [_, _, _]) h dX3_rusts_13 k_X3_104 rfl ⟨Nat.le_of_ble_eq_true rfl, Nat.le_of_ble_eq_true rfl, Nat.le_of_ble_eq_true rfl⟩ (c_X3_firstOf _ _ _) (fun x_13 g1 hq => ?_)
  obtain ⟨rfl, rfl⟩ := hq
  refine r_istore_n (pc := 16) (ls2 := [_, _, _, _, _]) h dX3_rusts_16 (Nat.le_of_ble_eq_true rfl) rfl ?_
  refine r_iload_n (pc := 17) h dX3_rusts_17 rfl ?_
  refine r_if_eq (pc := 18) (tgt := 27) h dX3_rusts_18 (by decide) (fun c18 => ?_) (fun c18 => ?_)
  · have hw : rustsW c x v = 0 := c18
    obtain ⟨w1, w2, -⟩ := fst_0.mp hw
    obtain ⟨i, hi, rfl⟩ := suf_0 w1 hn6
    obtain ⟨n, -, hn, rfl⟩ := bnd_nat (by decide) (by decide) w2
    have ei : (nI i).toNatClampNeg = i := nI_clamp (by omega)
    have en : (nI n).toNatClampNeg = n := nI_clamp (by omega)
    refine r_aload_n (pc := 27) h dX3_rusts_27 rfl ?_
    refine r_getR (pc := 28) h dX3_rusts_28 f_X3_10 sh_0 rfl ?_
    refine r_getR (pc := 31) h dX3_rusts_31 f_X3_113 sh_1 rfl ?_
    refine r_iload_n (pc := 34) h dX3_rusts_34 rfl ?_
    refine r_ialoadE (pc := 35) h dX3_rusts_35 sh_4 (hR.ru hi) ?_
    refine r_istore (pc := 36) (ls2 := [_, _, _, _, _]) h dX3_rusts_36 (Nat.le_of_ble_eq_true rfl) rfl ?_
    refine r_aload_n (pc := 38) h dX3_rusts_38 rfl ?_
    refine r_getR (pc := 39) h dX3_rusts_39 f_X3_10 sh_0 rfl ?_
    refine r_getR (pc := 42) h dX3_rusts_42 f_X3_113 sh_1 rfl ?_
    refine r_iload_n (pc := 45) h dX3_rusts_45 rfl ?_
    refine r_iload_n (pc := 46) h dX3_rusts_46 rfl ?_
    refine r_iastore (pc := 47) h dX3_rusts_47 sh_4 (hR.si hi) ?_
    refine r_iload (pc := 48) h dX3_rusts_48 rfl ?_
    refine r_ri t (pc := 50) dX3_rusts_50 rfl ?_
    rw [if_pos hw, ei, en]
    have hq := Rx1.wr frm.rf (hR.u_ru hi n) (by decide)
    rw [ei] at hq
    exact x_ok hq.1 (hX.f1 hq.2) (hq.2.wide (by decide) (by decide)) hw rfl
  · have hw : ¬ rustsW c x v = 0 := c18
    have hok : okw (rustsW c x v) := okw_f (okw_suf c x) okw_n okw_0
    refine r_aload_n (pc := 21) h dX3_rusts_21 rfl ?_
    refine r_iload_n (pc := 22) h dX3_rusts_22 rfl ?_
    refine r_callVi (pc := 23) (As := [_]) h dX3_rusts_23 k_X3_67 gc_0 rfl ⟨Nat.le_of_ble_eq_true rfl, Nat.le_of_ble_eq_true rfl, Nat.le_of_ble_eq_true rfl⟩ (c_X3_refuse (okw_in hok hw).1) (fun x_23 g1 hq => ?_)
    obtain ⟨rfl, rfl⟩ := hq
    refine r_ri t (pc := 26) dX3_rusts_26 rfl ?_
    rw [if_neg hw]
    exact x_ref hR hX hok hw
set_option maxRecDepth 100000 in
set_option maxHeartbeats 4000000 in
theorem x_soothes (hR : Rx1 g c) (hX : XSr g ck hk lt nl rv nr rf) (ho : gok c) (hd : c 7 3 ≤ 999) (x v : Int32) : gCi mX3_soothes [.ref 0, .int x, .int v] g (fun y g1 => y = ansI (fearsW c x v) (nI (c 4 x.toNatClampNeg)) ∧ Rx1 g1 (if fearsW c x v = 0 then cup c 4 x.toNatClampNeg v.toNatClampNeg else c) ∧ XSr g1 ck hk lt nl rv nr (rfI rf (fearsW c x v)) ∧ frm 0 35 g g1) := by
  refine gCi_of (own := RX3) (ls0 := [.ref 0, .int x, .int v, .null, .null]) ⟨rfl, pl_X3⟩ rfl (Nat.le_of_ble_eq_true rfl) (fun G (h : gR RX3 cX3_soothes 1 40 G) (t : gTi cX3_soothes .int _ G) => ?_)
  have hn5 := hR.n5
  have hn6 := hR.n6
  refine r_aload_n (pc := 0) h dX3_soothes_0 rfl ?_
  refine r_iload_n (pc := 1) h dX3_soothes_1 rfl ?_
  refine r_callVi (pc := 2) (As := [_]) h dX3_soothes_2 k_X3_131 gc_0 rfl ⟨Nat.le_of_ble_eq_true rfl, Nat.le_of_ble_eq_true rfl, Nat.le_of_ble_eq_true rfl⟩ (c_X3_anyCaller hR x) (fun x_2 g1 hq => ?_)
  obtain ⟨rfl, rfl⟩ := hq
  refine r_iload_n (pc := 5) h dX3_soothes_5 rfl ?_
  refine r_iconst (pc := 6) h dX3_soothes_6 ci_0 ?_
  refine r_bipush (pc := 7) h dX3_soothes_7 cb_20 ?_
  refine r_callSi (pc := 9) (As := [_, _, _]) h dX3_soothes_9 k_X3_60 rfl ⟨Nat.le_of_ble_eq_true rfl, Nat.le_of_ble_eq_true rfl, Nat.le_of_ble_eq_true rfl⟩ (c_X3_range _ _ _) (fun x_9 g1 hq => ?_)
  obtain ⟨rfl, rfl⟩ := hq
  refine r_iconst (pc := 12) h dX3_soothes_12 ci_0 ?_
  refine r_callSi (pc := 13) (As := [_, _, _]) h dX3_soothes_13 k_X3_104 rfl ⟨Nat.le_of_ble_eq_true rfl, Nat.le_of_ble_eq_true rfl, Nat.le_of_ble_eq_true rfl⟩ (c_X3_firstOf _ _ _) (fun x_13 g1 hq => ?_)
  obtain ⟨rfl, rfl⟩ := hq
  refine r_istore_n (pc := 16) (ls2 := [_, _, _, _, _]) h dX3_soothes_16 (Nat.le_of_ble_eq_true rfl) rfl ?_
  refine r_iload_n (pc := 17) h dX3_soothes_17 rfl ?_
  refine r_if_eq (pc := 18) (tgt := 27) h dX3_soothes_18 (by decide) (fun c18 => ?_) (fun c18 => ?_)
  · have hw : fearsW c x v = 0 := c18
    obtain ⟨w1, w2, -⟩ := fst_0.mp hw
    obtain ⟨i, hi, rfl⟩ := cal_0 w1 hn5
    obtain ⟨n, -, hn, rfl⟩ := bnd_nat (by decide) (by decide) w2
    have ei : (nI i).toNatClampNeg = i := nI_clamp (by omega)
    have en : (nI n).toNatClampNeg = n := nI_clamp (by omega)
    refine r_aload_n (pc := 27) h dX3_soothes_27 rfl ?_
    refine r_getR (pc := 28) h dX3_soothes_28 f_X3_10 sh_0 rfl ?_
    refine r_getR (pc := 31) h dX3_soothes_31 f_X3_137 sh_1 rfl ?_
    refine r_iload_n (pc := 34) h dX3_soothes_34 rfl ?_
    refine r_ialoadE (pc := 35) h dX3_soothes_35 sh_6 (hR.so hi) ?_
    refine r_istore (pc := 36) (ls2 := [_, _, _, _, _]) h dX3_soothes_36 (Nat.le_of_ble_eq_true rfl) rfl ?_
    refine r_aload_n (pc := 38) h dX3_soothes_38 rfl ?_
    refine r_getR (pc := 39) h dX3_soothes_39 f_X3_10 sh_0 rfl ?_
    refine r_getR (pc := 42) h dX3_soothes_42 f_X3_137 sh_1 rfl ?_
    refine r_iload_n (pc := 45) h dX3_soothes_45 rfl ?_
    refine r_iload_n (pc := 46) h dX3_soothes_46 rfl ?_
    refine r_iastore (pc := 47) h dX3_soothes_47 sh_6 (hR.ci hi) ?_
    refine r_iload (pc := 48) h dX3_soothes_48 rfl ?_
    refine r_ri t (pc := 50) dX3_soothes_50 rfl ?_
    rw [if_pos hw, ei, en]
    have hq := Rx1.wr frm.rf (hR.u_so hi n) (by decide)
    rw [ei] at hq
    exact x_ok hq.1 (hX.f1 hq.2) (hq.2.wide (by decide) (by decide)) hw rfl
  · have hw : ¬ fearsW c x v = 0 := c18
    have hok : okw (fearsW c x v) := okw_f (okw_cal c x) okw_n okw_0
    refine r_aload_n (pc := 21) h dX3_soothes_21 rfl ?_
    refine r_iload_n (pc := 22) h dX3_soothes_22 rfl ?_
    refine r_callVi (pc := 23) (As := [_]) h dX3_soothes_23 k_X3_67 gc_0 rfl ⟨Nat.le_of_ble_eq_true rfl, Nat.le_of_ble_eq_true rfl, Nat.le_of_ble_eq_true rfl⟩ (c_X3_refuse (okw_in hok hw).1) (fun x_23 g1 hq => ?_)
    obtain ⟨rfl, rfl⟩ := hq
    refine r_ri t (pc := 26) dX3_soothes_26 rfl ?_
    rw [if_neg hw]
    exact x_ref hR hX hok hw
set_option maxRecDepth 100000 in
set_option maxHeartbeats 4000000 in
theorem x_turn (hR : Rx1 g c) (hX : XSr g ck hk lt nl rv nr rf) (ho : gok c) (hd : c 7 3 ≤ 999) (x k v : Int32) : gCi mX3_turn [.ref 0, .int x, .int k, .int v] g (fun y g1 => y = ansI (turnW c x k v) (nI (10 * c 0 x.toNatClampNeg + c 1 x.toNatClampNeg)) ∧ Rx1 g1 (if turnW c x k v = 0 then cup (cup c 0 x.toNatClampNeg k.toNatClampNeg) 1 x.toNatClampNeg v.toNatClampNeg else c) ∧ XSr g1 ck hk lt nl rv nr (rfI rf (turnW c x k v)) ∧ frm 0 35 g g1) := by
  refine gCi_of (own := RX3) (ls0 := [.ref 0, .int x, .int k, .int v, .null, .null]) ⟨rfl, pl_X3⟩ rfl (Nat.le_of_ble_eq_true rfl) (fun G (h : gR RX3 cX3_turn 1 40 G) (t : gTi cX3_turn .int _ G) => ?_)
  have hn5 := hR.n5
  have hn6 := hR.n6
  refine r_aload_n (pc := 0) h dX3_turn_0 rfl ?_
  refine r_iload_n (pc := 1) h dX3_turn_1 rfl ?_
  refine r_callVi (pc := 2) (As := [_]) h dX3_turn_2 k_X3_98 gc_0 rfl ⟨Nat.le_of_ble_eq_true rfl, Nat.le_of_ble_eq_true rfl, Nat.le_of_ble_eq_true rfl⟩ (c_X3_anySuit hR x) (fun x_2 g1 hq => ?_)
  obtain ⟨rfl, rfl⟩ := hq
  refine r_iload_n (pc := 5) h dX3_turn_5 rfl ?_
  refine r_bipush (pc := 6) h dX3_turn_6 cb_6 ?_
  refine r_callSi (pc := 8) (As := [_, _]) h dX3_turn_8 k_X3_101 rfl ⟨Nat.le_of_ble_eq_true rfl, Nat.le_of_ble_eq_true rfl, Nat.le_of_ble_eq_true rfl⟩ (c_X3_anyOf k 6) (fun x_8 g1 hq => ?_)
  obtain ⟨rfl, rfl⟩ := hq
  refine r_iload_n (pc := 11) h dX3_turn_11 rfl ?_
  refine r_iconst (pc := 12) h dX3_turn_12 ci_0 ?_
  refine r_bipush (pc := 13) h dX3_turn_13 cb_9 ?_
  refine r_callSi (pc := 15) (As := [_, _, _]) h dX3_turn_15 k_X3_60 rfl ⟨Nat.le_of_ble_eq_true rfl, Nat.le_of_ble_eq_true rfl, Nat.le_of_ble_eq_true rfl⟩ (c_X3_range _ _ _) (fun x_15 g1 hq => ?_)
  obtain ⟨rfl, rfl⟩ := hq
  refine r_callSi (pc := 18) (As := [_, _, _]) h dX3_turn_18 k_X3_104 rfl ⟨Nat.le_of_ble_eq_true rfl, Nat.le_of_ble_eq_true rfl, Nat.le_of_ble_eq_true rfl⟩ (c_X3_firstOf _ _ _) (fun x_18 g1 hq => ?_)
  obtain ⟨rfl, rfl⟩ := hq
  refine r_istore (pc := 21) (ls2 := [_, _, _, _, _, _]) h dX3_turn_21 (Nat.le_of_ble_eq_true rfl) rfl ?_
  refine r_iload (pc := 23) h dX3_turn_23 rfl ?_
  refine r_if_eq (pc := 25) (tgt := 35) h dX3_turn_25 (by decide) (fun c25 => ?_) (fun c25 => ?_)
  · have hw : turnW c x k v = 0 := c25
    obtain ⟨w1, w2, w3⟩ := fst_0.mp hw
    obtain ⟨i, hi, rfl⟩ := suf_0 w1 hn6
    obtain ⟨q, hq6, rfl⟩ := any_0 (by decide) w2 (by decide)
    obtain ⟨n, -, hn, rfl⟩ := bnd_nat (by decide) (by decide) w3
    have ei : (nI i).toNatClampNeg = i := nI_clamp (by omega)
    have eq : (nI q).toNatClampNeg = q := nI_clamp (by omega)
    have en : (nI n).toNatClampNeg = n := nI_clamp (by omega)
    refine r_bipush (pc := 35) h dX3_turn_35 cb_10 ?_
    refine r_aload_n (pc := 37) h dX3_turn_37 rfl ?_
    refine r_getR (pc := 38) h dX3_turn_38 f_X3_10 sh_0 rfl ?_
    refine r_getR (pc := 41) h dX3_turn_41 f_X3_107 sh_1 rfl ?_
    refine r_iload_n (pc := 44) h dX3_turn_44 rfl ?_
    refine r_ialoadE (pc := 45) h dX3_turn_45 sh_2 (hR.kd hi) ?_
    refine r_imul (pc := 46) h dX3_turn_46 ?_
    refine r_aload_n (pc := 47) h dX3_turn_47 rfl ?_
    refine r_getR (pc := 48) h dX3_turn_48 f_X3_10 sh_0 rfl ?_
    refine r_getR (pc := 51) h dX3_turn_51 f_X3_110 sh_1 rfl ?_
    refine r_iload_n (pc := 54) h dX3_turn_54 rfl ?_
    refine r_ialoadE (pc := 55) h dX3_turn_55 sh_3 (hR.fg hi) ?_
    refine r_iadd (pc := 56) h dX3_turn_56 ?_
    refine r_top (y := nI (10 * c 0 i + c 1 i)) h (by rw [pk_mul, nI_add]) ?_
    refine r_istore (pc := 57) (ls2 := [_, _, _, _, _, _]) h dX3_turn_57 (Nat.le_of_ble_eq_true rfl) rfl ?_
    refine r_aload_n (pc := 59) h dX3_turn_59 rfl ?_
    refine r_getR (pc := 60) h dX3_turn_60 f_X3_10 sh_0 rfl ?_
    refine r_getR (pc := 63) h dX3_turn_63 f_X3_107 sh_1 rfl ?_
    refine r_iload_n (pc := 66) h dX3_turn_66 rfl ?_
    refine r_iload_n (pc := 67) h dX3_turn_67 rfl ?_
    refine r_iastore (pc := 68) h dX3_turn_68 sh_2 (hR.si hi) ?_
    refine r_aload_n (pc := 69) h dX3_turn_69 rfl ?_
    refine r_getR (pc := 70) h dX3_turn_70 f_X3_10 sh_0 rfl ?_
    refine r_getR (pc := 73) h dX3_turn_73 f_X3_110 sh_1 rfl ?_
    refine r_iload_n (pc := 76) h dX3_turn_76 rfl ?_
    refine r_iload_n (pc := 77) h dX3_turn_77 rfl ?_
    refine r_iastore (pc := 78) h dX3_turn_78 sh_3 (hR.si hi) ?_
    refine r_iload (pc := 79) h dX3_turn_79 rfl ?_
    refine r_ri t (pc := 81) dX3_turn_81 rfl ?_
    rw [if_pos hw, ei, eq, en]
    have hq := Rx1.wr frm.rf (hR.u_kd hi q) (by decide)
    have hq := Rx1.wr hq.2 (hq.1.u_fg hi n) (by decide)
    rw [ei] at hq
    exact x_ok hq.1 (hX.f1 hq.2) (hq.2.wide (by decide) (by decide)) hw rfl
  · have hw : ¬ turnW c x k v = 0 := c25
    have hok : okw (turnW c x k v) := okw_f (okw_suf c x) (okw_b okw_2) okw_n
    refine r_aload_n (pc := 28) h dX3_turn_28 rfl ?_
    refine r_iload (pc := 29) h dX3_turn_29 rfl ?_
    refine r_callVi (pc := 31) (As := [_]) h dX3_turn_31 k_X3_67 gc_0 rfl ⟨Nat.le_of_ble_eq_true rfl, Nat.le_of_ble_eq_true rfl, Nat.le_of_ble_eq_true rfl⟩ (c_X3_refuse (okw_in hok hw).1) (fun x_31 g1 hq => ?_)
    obtain ⟨rfl, rfl⟩ := hq
    refine r_ri t (pc := 34) dX3_turn_34 rfl ?_
    rw [if_neg hw]
    exact x_ref hR hX hok hw
end TX
