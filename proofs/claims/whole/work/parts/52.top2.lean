section TX
variable {g : gG} {c ck : gCt} {hk : Bool} {lt : Nat → Nat} {nl : Nat} {rv : Nat → Nat} {nr : Nat} {rf : Nat → Int32}
set_option maxRecDepth 100000 in
set_option maxHeartbeats 4000000 in
theorem c_X2_add {g : gG} {nl n : Nat} (hl : g 25 1 = nI nl) (h96 : nl < 96) (hn : n ≤ 255) : gCi mX2_add [.ref 25, .int (nI n)] g (fun y g1 => y = nI (nl + 1) ∧ g1 = gup (gup g 26 nl (nI n)) 25 1 (nI (nl + 1))) := by
  refine gCi_of (own := RX2) (ls0 := [.ref 25, .int (nI n)]) ⟨rfl, pl_X2⟩ rfl (Nat.le_of_ble_eq_true rfl) (fun G (h : gR RX2 cX2_add 0 0 G) (t : gTi cX2_add .int _ G) => ?_)
  have el : (nI nl).toNatClampNeg = nl := nI_clamp (by omega)
  refine r_aload_n (pc := 0) h dX2_add_0 rfl ?_
  refine r_getR (pc := 1) h dX2_add_1 f_X2_9 sh_25 rfl ?_
  refine r_aload_n (pc := 4) h dX2_add_4 rfl ?_
  refine r_getE (pc := 5) h dX2_add_5 f_X2_15 sh_25 rfl (hl) ?_
  refine r_iload_n (pc := 8) h dX2_add_8 rfl ?_
  refine r_i2c (pc := 9) h dX2_add_9 ?_
  refine r_castore (pc := 10) h dX2_add_10 sh_26 (vp_in_nI h96 (by decide)) ?_
  refine r_aload_n (pc := 11) h dX2_add_11 rfl ?_
  refine r_dup (pc := 12) h dX2_add_12 rfl ?_
  refine r_getE (pc := 13) h dX2_add_13 f_X2_15 sh_25 rfl (show gup g 26 (nI nl).toNatClampNeg (vp_nar .char ((nI n).toUInt32 % 65536).toInt32) 25 1 = nI nl by rw [gup_o (by omega)]; exact hl) ?_
  refine r_iconst (pc := 16) h dX2_add_16 ci_1 ?_
  refine r_iadd (pc := 17) h dX2_add_17 ?_
  refine r_top (y := nI (nl + 1)) h (nI_add _ _) ?_
  refine r_putI (pc := 18) h dX2_add_18 fw_X2_15 sh_25 rfl rfl rfl ?_
  refine r_aload_n (pc := 21) h dX2_add_21 rfl ?_
  refine r_getE (pc := 22) h dX2_add_22 f_X2_15 sh_25 rfl (gup_s) ?_
  refine r_ri t (pc := 25) dX2_add_25 rfl ?_
  exact ⟨rfl, by rw [el, chr_nar hn]⟩
set_option maxRecDepth 100000 in
set_option maxHeartbeats 4000000 in
theorem x_letter (hR : Rx1 g c) (hX : XSr g ck hk lt nl rv nr rf) (ho : gok c) (hd : c 7 3 ≤ 999) (v : Int32) : gCi mX3_letter [.ref 0, .int v] g (fun y g1 => y = ansI (letW nl v) (nI (nl + 1)) ∧ Rx1 g1 c ∧ XSr g1 ck hk (if letW nl v = 0 then nup lt nl v.toNatClampNeg else lt) (if letW nl v = 0 then nl + 1 else nl) rv nr (rfI rf (letW nl v)) ∧ frm 0 35 g g1) := by
  refine gCi_of (own := RX3) (ls0 := [.ref 0, .int v, .null]) ⟨rfl, pl_X3⟩ rfl (Nat.le_of_ble_eq_true rfl) (fun G (h : gR RX3 cX3_letter 1 40 G) (t : gTi cX3_letter .int _ G) => ?_)
  have h96' := hX.2.1.2.1
  have hok : okw (letW nl v) := okw_f okw_n okw_r okw_0
  refine r_iload_n (pc := 0) h dX3_letter_0 rfl ?_
  refine r_iconst (pc := 1) h dX3_letter_1 ci_0 ?_
  refine r_sipush (pc := 2) h dX3_letter_2 cs_255 ?_
  refine r_callSi (pc := 5) (As := [_, _, _]) h dX3_letter_5 k_X3_60 rfl ⟨Nat.le_of_ble_eq_true rfl, Nat.le_of_ble_eq_true rfl, Nat.le_of_ble_eq_true rfl⟩ (c_X3_range _ _ _) (fun x_5 g1 hq => ?_)
  obtain ⟨rfl, rfl⟩ := hq
  refine r_istore_n (pc := 8) (ls2 := [_, _, _]) h dX3_letter_8 (Nat.le_of_ble_eq_true rfl) rfl ?_
  refine r_iload_n (pc := 9) h dX3_letter_9 rfl ?_
  refine r_if_ne (pc := 10) (tgt := 28) h dX3_letter_10 (by decide) (fun c10 => ?_) (fun c10 => ?_)
  · have hw : ¬ letW nl v = 0 := fun q => c10 (fst_0.mp q).1
    have ew : letW nl v = bndI v (nI 0) (nI 255) := by unfold letW fstI; rw [if_neg c10]
    refine r_iload_n (pc := 28) h dX3_letter_28 rfl ?_
    refine r_if_eq (pc := 29) (tgt := 38) h dX3_letter_29 (by decide) (fun c29 => absurd c29 (c10)) (fun c29 => ?_)
    refine r_aload_n (pc := 32) h dX3_letter_32 rfl ?_
    refine r_iload_n (pc := 33) h dX3_letter_33 rfl ?_
    refine r_callVi (pc := 34) (As := [_]) h dX3_letter_34 k_X3_67 gc_0 rfl ⟨Nat.le_of_ble_eq_true rfl, Nat.le_of_ble_eq_true rfl, Nat.le_of_ble_eq_true rfl⟩ (c_X3_refuse (by first | (rw [← ew]; exact (okw_in hok hw).1) | exact (okw_in okw_6 (by decide)).1)) (fun x_34 g1 hq => ?_)
    obtain ⟨rfl, rfl⟩ := hq
    refine r_ri t (pc := 37) dX3_letter_37 rfl ?_
    rw [← ew, if_neg hw, if_neg hw]
    exact x_ref hR hX hok hw
  · refine r_aload_n (pc := 13) h dX3_letter_13 rfl ?_
    refine r_getR (pc := 14) h dX3_letter_14 f_X3_29 sh_0 rfl ?_
    refine r_getE (pc := 17) h dX3_letter_17 f_X3_64 sh_25 rfl (hX.2.1.1) ?_
    refine r_bipush (pc := 20) h dX3_letter_20 cb_96 ?_
    refine r_icmp_lt (pc := 22) (tgt := 28) h dX3_letter_22 (by decide) (fun c22 => ?_) (fun c22 => ?_)
    · have h96 : nl < 96 := (nI_ltI (by omega) (by decide)).mp c22
      have hw : letW nl v = 0 := fst_0.mpr ⟨c10, if_0.mpr h96, rfl⟩
      obtain ⟨n, -, hn, rfl⟩ := bnd_nat (by decide) (by decide) c10
      have en : (nI n).toNatClampNeg = n := nI_clamp (by omega)
      refine r_iload_n (pc := 28) h dX3_letter_28 rfl ?_
      refine r_if_eq (pc := 29) (tgt := 38) h dX3_letter_29 (by decide) (fun c29 => ?_) (fun c29 => absurd (c10) c29)
      refine r_aload_n (pc := 38) h dX3_letter_38 rfl ?_
      refine r_getR (pc := 39) h dX3_letter_39 f_X3_29 sh_0 rfl ?_
      refine r_iload_n (pc := 42) h dX3_letter_42 rfl ?_
      refine r_callVi (pc := 43) (As := [_]) h dX3_letter_43 k_X3_71 gc_25 rfl ⟨Nat.le_of_ble_eq_true rfl, Nat.le_of_ble_eq_true rfl, Nat.le_of_ble_eq_true rfl⟩ (c_X2_add hX.2.1.1 h96 hn) (fun x_43 g1 hq => ?_)
      obtain ⟨rfl, rfl⟩ := hq
      refine r_ri t (pc := 46) dX3_letter_46 rfl ?_
      rw [if_pos hw, if_pos hw, en]
      obtain ⟨h1, ⟨h3, h4, h5⟩, h6, h9⟩ := hX
      refine ⟨by rw [ansI, if_pos hw], hR.of (fun k a b => by rw [gup_ne (by omega), gup_ne (by omega)]), ⟨⟨by rw [gup_ne (by decide), gup_ne (by decide)]; exact h1.1, fun q => (h1.2 q).of (fun k a b => by rw [gup_ne (by omega), gup_ne (by omega)])⟩, ⟨gup_s, by omega, fun i hi => ?_⟩, ⟨by rw [gup_ne (by decide), gup_ne (by decide)]; exact h6.1, h6.2.1, fun i hi => by rw [gup_ne (by decide), gup_ne (by decide)]; exact h6.2.2 i hi⟩, fun j hj => by rw [rfI, if_pos hw, gup_ne (by decide), gup_ne (by decide)]; exact h9 j hj⟩, (frm.rf.up (by decide)).up (by decide)⟩
      unfold nup
      by_cases e : i = nl
      · subst e; rw [gup_o (by omega), gup_s, if_pos rfl]; exact ⟨rfl, hn⟩
      · rw [gup_o (by omega), gup_o (by omega), if_neg e]; exact h5 i (by omega)
    · have h96 : ¬ nl < 96 := fun q => c22 (nI_lt q (by decide))
      have hw : ¬ letW nl v = 0 := fun q => h96 (if_0.mp (fst_0.mp q).2.1)
      have ew : letW nl v = -6 := by unfold letW fstI; rw [if_pos c10, if_neg h96]; rfl
      refine r_bipush (pc := 25) h dX3_letter_25 cb_m6 ?_
      refine r_istore_n (pc := 27) (ls2 := [_, _, _]) h dX3_letter_27 (Nat.le_of_ble_eq_true rfl) rfl ?_
      refine r_iload_n (pc := 28) h dX3_letter_28 rfl ?_
      refine r_if_eq (pc := 29) (tgt := 38) h dX3_letter_29 (by decide) (fun c29 => absurd c29 (by decide)) (fun c29 => ?_)
      refine r_aload_n (pc := 32) h dX3_letter_32 rfl ?_
      refine r_iload_n (pc := 33) h dX3_letter_33 rfl ?_
      refine r_callVi (pc := 34) (As := [_]) h dX3_letter_34 k_X3_67 gc_0 rfl ⟨Nat.le_of_ble_eq_true rfl, Nat.le_of_ble_eq_true rfl, Nat.le_of_ble_eq_true rfl⟩ (c_X3_refuse (by first | (rw [← ew]; exact (okw_in hok hw).1) | exact (okw_in okw_6 (by decide)).1)) (fun x_34 g1 hq => ?_)
      obtain ⟨rfl, rfl⟩ := hq
      refine r_ri t (pc := 37) dX3_letter_37 rfl ?_
      rw [← ew, if_neg hw, if_neg hw]
      exact x_ref hR hX hok hw
set_option maxRecDepth 100000 in
set_option maxHeartbeats 4000000 in
theorem x_row (hR : Rx1 g c) (hX : XSr g ck hk lt nl rv nr rf) (ho : gok c) (hd : c 7 3 ≤ 999) (v : Int32) : gCi mX3_row [.ref 0, .int v] g (fun y g1 => y = ansI (rowW nr v) (nI (nr + 1)) ∧ Rx1 g1 c ∧ XSr g1 ck hk lt nl (if rowW nr v = 0 then nup rv nr v.toNatClampNeg else rv) (if rowW nr v = 0 then nr + 1 else nr) (rfI rf (rowW nr v)) ∧ frm 0 35 g g1) := by
  refine gCi_of (own := RX3) (ls0 := [.ref 0, .int v, .null]) ⟨rfl, pl_X3⟩ rfl (Nat.le_of_ble_eq_true rfl) (fun G (h : gR RX3 cX3_row 1 40 G) (t : gTi cX3_row .int _ G) => ?_)
  have h16' := hX.2.2.1.2.1
  have er : (nI nr).toNatClampNeg = nr := nI_clamp (by omega)
  have hok : okw (rowW nr v) := okw_f okw_n okw_r okw_0
  refine r_iload_n (pc := 0) h dX3_row_0 rfl ?_
  refine r_iconst (pc := 1) h dX3_row_1 ci_0 ?_
  refine r_bipush (pc := 2) h dX3_row_2 cb_99 ?_
  refine r_callSi (pc := 4) (As := [_, _, _]) h dX3_row_4 k_X3_60 rfl ⟨Nat.le_of_ble_eq_true rfl, Nat.le_of_ble_eq_true rfl, Nat.le_of_ble_eq_true rfl⟩ (c_X3_range _ _ _) (fun x_4 g1 hq => ?_)
  obtain ⟨rfl, rfl⟩ := hq
  refine r_istore_n (pc := 7) (ls2 := [_, _, _]) h dX3_row_7 (Nat.le_of_ble_eq_true rfl) rfl ?_
  refine r_iload_n (pc := 8) h dX3_row_8 rfl ?_
  refine r_if_ne (pc := 9) (tgt := 24) h dX3_row_9 (by decide) (fun c9 => ?_) (fun c9 => ?_)
  · have hw : ¬ rowW nr v = 0 := fun q => c9 (fst_0.mp q).1
    have ew : rowW nr v = bndI v (nI 0) (nI 99) := by unfold rowW fstI; rw [if_neg c9]
    refine r_iload_n (pc := 24) h dX3_row_24 rfl ?_
    refine r_if_eq (pc := 25) (tgt := 34) h dX3_row_25 (by decide) (fun c25 => absurd c25 (c9)) (fun c25 => ?_)
    refine r_aload_n (pc := 28) h dX3_row_28 rfl ?_
    refine r_iload_n (pc := 29) h dX3_row_29 rfl ?_
    refine r_callVi (pc := 30) (As := [_]) h dX3_row_30 k_X3_67 gc_0 rfl ⟨Nat.le_of_ble_eq_true rfl, Nat.le_of_ble_eq_true rfl, Nat.le_of_ble_eq_true rfl⟩ (c_X3_refuse (by first | (rw [← ew]; exact (okw_in hok hw).1) | exact (okw_in okw_6 (by decide)).1)) (fun x_30 g1 hq => ?_)
    obtain ⟨rfl, rfl⟩ := hq
    refine r_ri t (pc := 33) dX3_row_33 rfl ?_
    rw [← ew, if_neg hw, if_neg hw]
    exact x_ref hR hX hok hw
  · refine r_aload_n (pc := 12) h dX3_row_12 rfl ?_
    refine r_getE (pc := 13) h dX3_row_13 f_X3_44 sh_0 rfl (hX.2.2.1.1) ?_
    refine r_bipush (pc := 16) h dX3_row_16 cb_16 ?_
    refine r_icmp_lt (pc := 18) (tgt := 24) h dX3_row_18 (by decide) (fun c18 => ?_) (fun c18 => ?_)
    · have h16 : nr < 16 := (nI_ltI (by omega) (by decide)).mp c18
      have hw : rowW nr v = 0 := fst_0.mpr ⟨c9, if_0.mpr h16, rfl⟩
      obtain ⟨n, -, hn, rfl⟩ := bnd_nat (by decide) (by decide) c9
      have en : (nI n).toNatClampNeg = n := nI_clamp (by omega)
      refine r_iload_n (pc := 24) h dX3_row_24 rfl ?_
      refine r_if_eq (pc := 25) (tgt := 34) h dX3_row_25 (by decide) (fun c25 => ?_) (fun c25 => absurd (c9) c25)
      refine r_aload_n (pc := 34) h dX3_row_34 rfl ?_
      refine r_getR (pc := 35) h dX3_row_35 f_X3_40 sh_0 rfl ?_
      refine r_aload_n (pc := 38) h dX3_row_38 rfl ?_
      refine r_getE (pc := 39) h dX3_row_39 f_X3_44 sh_0 rfl (hX.2.2.1.1) ?_
      refine r_iload_n (pc := 42) h dX3_row_42 rfl ?_
      refine r_iastore (pc := 43) h dX3_row_43 sh_30 (vp_in_nI h16 (by decide)) ?_
      refine r_aload_n (pc := 44) h dX3_row_44 rfl ?_
      refine r_dup (pc := 45) h dX3_row_45 rfl ?_
      refine r_getE (pc := 46) h dX3_row_46 f_X3_44 sh_0 rfl (show gup _ 30 (nI nr).toNatClampNeg (nI n) 0 7 = nI nr by rw [gup_ne (by decide)]; exact hX.2.2.1.1) ?_
      refine r_iconst (pc := 49) h dX3_row_49 ci_1 ?_
      refine r_iadd (pc := 50) h dX3_row_50 ?_
      refine r_top (y := nI (nr + 1)) h (nI_add _ _) ?_
      refine r_putI (pc := 51) h dX3_row_51 fw_X3_44 sh_0 rfl rfl rfl ?_
      refine r_aload_n (pc := 54) h dX3_row_54 rfl ?_
      refine r_getE (pc := 55) h dX3_row_55 f_X3_44 sh_0 rfl (gup_s) ?_
      refine r_ri t (pc := 58) dX3_row_58 rfl ?_
      rw [if_pos hw, if_pos hw, en]
      obtain ⟨h1, h3, ⟨h6, h7, h8⟩, h9⟩ := hX
      refine ⟨by rw [ansI, if_pos hw], hR.of (fun k a b => by rw [gup_ne (by omega), gup_ne (by omega)]), ⟨⟨by rw [gup_o (by omega), gup_o (by omega)]; exact h1.1, fun q => (h1.2 q).of (fun k a b => by rw [gup_ne (by omega), gup_ne (by omega)])⟩, ⟨by rw [gup_ne (by decide), gup_ne (by decide)]; exact h3.1, h3.2.1, fun i hi => by rw [gup_ne (by decide), gup_ne (by decide)]; exact h3.2.2 i hi⟩, ⟨gup_s, by omega, fun i hi => ?_⟩, fun j hj => by rw [rfI, if_pos hw, gup_ne (by decide), gup_ne (by decide)]; exact h9 j hj⟩, (frm.rf.up (by decide)).up (by decide)⟩
      rw [er]
      unfold nup
      by_cases e : i = nr
      · subst e; rw [gup_o (by omega), gup_s, if_pos rfl]; exact ⟨rfl, hn⟩
      · rw [gup_o (by omega), gup_o (by omega), if_neg e]; exact h8 i (by omega)
    · have h16 : ¬ nr < 16 := fun q => c18 (nI_lt q (by decide))
      have hw : ¬ rowW nr v = 0 := fun q => h16 (if_0.mp (fst_0.mp q).2.1)
      have ew : rowW nr v = -6 := by unfold rowW fstI; rw [if_pos c9, if_neg h16]; rfl
      refine r_bipush (pc := 21) h dX3_row_21 cb_m6 ?_
      refine r_istore_n (pc := 23) (ls2 := [_, _, _]) h dX3_row_23 (Nat.le_of_ble_eq_true rfl) rfl ?_
      refine r_iload_n (pc := 24) h dX3_row_24 rfl ?_
      refine r_if_eq (pc := 25) (tgt := 34) h dX3_row_25 (by decide) (fun c25 => absurd c25 (by decide)) (fun c25 => ?_)
      refine r_aload_n (pc := 28) h dX3_row_28 rfl ?_
      refine r_iload_n (pc := 29) h dX3_row_29 rfl ?_
      refine r_callVi (pc := 30) (As := [_]) h dX3_row_30 k_X3_67 gc_0 rfl ⟨Nat.le_of_ble_eq_true rfl, Nat.le_of_ble_eq_true rfl, Nat.le_of_ble_eq_true rfl⟩ (c_X3_refuse (by first | (rw [← ew]; exact (okw_in hok hw).1) | exact (okw_in okw_6 (by decide)).1)) (fun x_30 g1 hq => ?_)
      obtain ⟨rfl, rfl⟩ := hq
      refine r_ri t (pc := 33) dX3_row_33 rfl ?_
      rw [← ew, if_neg hw, if_neg hw]
      exact x_ref hR hX hok hw
set_option maxRecDepth 100000 in
set_option maxHeartbeats 4000000 in
theorem x_clear (hR : Rx1 g c) (hX : XSr g ck hk lt nl rv nr rf) (ho : gok c) (hd : c 7 3 ≤ 999) : gCi mX3_clear [.ref 0] g (fun y g1 => y = nI nr ∧ Rx1 g1 c ∧ XSr g1 ck hk lt nl rv 0 rf ∧ frm 0 35 g g1) := by
  refine gCi_of (own := RX3) (ls0 := [.ref 0, .null]) ⟨rfl, pl_X3⟩ rfl (Nat.le_of_ble_eq_true rfl) (fun G (h : gR RX3 cX3_clear 0 0 G) (t : gTi cX3_clear .int _ G) => ?_)
  refine r_aload_n (pc := 0) h dX3_clear_0 rfl ?_
  refine r_getE (pc := 1) h dX3_clear_1 f_X3_44 sh_0 rfl (hX.2.2.1.1) ?_
  refine r_istore_n (pc := 4) (ls2 := [_, _]) h dX3_clear_4 (Nat.le_of_ble_eq_true rfl) rfl ?_
  refine r_aload_n (pc := 5) h dX3_clear_5 rfl ?_
  refine r_iconst (pc := 6) h dX3_clear_6 ci_0 ?_
  refine r_putI (pc := 7) h dX3_clear_7 fw_X3_44 sh_0 rfl rfl rfl ?_
  refine r_iload_n (pc := 10) h dX3_clear_10 rfl ?_
  refine r_ri t (pc := 11) dX3_clear_11 rfl ?_
  obtain ⟨h1, h3, ⟨h6, h7, h8⟩, h9⟩ := hX
  exact ⟨rfl, hR.of (fun k a b => gup_ne (by omega)), ⟨⟨by rw [gup_o (by decide)]; exact h1.1, fun q => (h1.2 q).of (fun k a b => gup_ne (by omega))⟩, ⟨by rw [gup_ne (by decide)]; exact h3.1, h3.2.1, fun i hi => by rw [gup_ne (by decide)]; exact h3.2.2 i hi⟩, ⟨gup_s, by decide, fun i hi => by omega⟩, fun j hj => by rw [gup_ne (by decide)]; exact h9 j hj⟩, frm.rf.up (by decide)⟩
set_option maxRecDepth 100000 in
set_option maxHeartbeats 4000000 in
theorem x_judge (hR : Rx1 g c) (hX : XSr g ck hk lt nl rv nr rf) (ho : gok c) (hd : c 7 3 ≤ 999) : gCi mX3_judge [.ref 0] g (fun y g1 => y = oI (jdg c rv nr) ∧ Rx1 g1 c ∧ XSr g1 ck hk lt nl rv 0 rf ∧ frm 0 35 g g1) := by
  refine gCi_of (own := RX3) (ls0 := [.ref 0, .null, .null]) ⟨rfl, pl_X3⟩ rfl (Nat.le_of_ble_eq_true rfl) (fun G (h : gR RX3 cX3_judge 0 0 G) (t : gTi cX3_judge .int _ G) => ?_)
  have hn5 := hR.n5
  have h16' := hX.2.2.1.2.1
  have loop : ∀ m q, m + q = nr → G 10 [.ref 0, .int (oI (gfind (fun i => decide (c 7 1 ≤ i) || !(c 3 i == rv i)) q m)), .int (nI m - nI 1)] [] g := by
    intro m
    induction m with
    | zero =>
      intro q hq
      have eq : q = nr := by omega
      subst eq
      refine r_iload_n (pc := 10) h dX3_judge_10 rfl ?_
      refine r_if_lt (pc := 11) (tgt := 51) h dX3_judge_11 (by decide) (fun c11 => ?_) (fun c11 => absurd (by decide) c11)
      refine r_aload_n (pc := 51) h dX3_judge_51 rfl ?_
      refine r_iconst (pc := 52) h dX3_judge_52 ci_0 ?_
      refine r_putI (pc := 53) h dX3_judge_53 fw_X3_44 sh_0 rfl rfl rfl ?_
      refine r_iload_n (pc := 56) h dX3_judge_56 rfl ?_
      refine r_ri t (pc := 57) dX3_judge_57 rfl ?_
      obtain ⟨h1, h3, ⟨h6, h7, h8⟩, h9⟩ := hX
      exact ⟨rfl, hR.of (fun k a b => gup_ne (by omega)), ⟨⟨by rw [gup_o (by decide)]; exact h1.1, fun q => (h1.2 q).of (fun k a b => gup_ne (by omega))⟩, ⟨by rw [gup_ne (by decide)]; exact h3.1, h3.2.1, fun i hi => by rw [gup_ne (by decide)]; exact h3.2.2 i hi⟩, ⟨gup_s, by decide, fun i hi => by omega⟩, fun j hj => by rw [gup_ne (by decide)]; exact h9 j hj⟩, frm.rf.up (by decide)⟩
    | succ m ih =>
      intro q hq
      rw [nI_sub (show 1 ≤ m + 1 by omega), show m + 1 - 1 = m by omega]
      have hm : m < nr := by omega
      have hrv := (hX.2.2.1.2.2 m hm).2
      refine r_iload_n (pc := 10) h dX3_judge_10 rfl ?_
      refine r_if_lt (pc := 11) (tgt := 51) h dX3_judge_11 (by decide) (fun c11 => absurd c11 (nI_pos (by omega))) (fun c11 => ?_)
      refine r_iload_n (pc := 14) h dX3_judge_14 rfl ?_
      refine r_aload_n (pc := 15) h dX3_judge_15 rfl ?_
      refine r_getR (pc := 16) h dX3_judge_16 f_X3_10 sh_0 rfl ?_
      refine r_getE (pc := 19) h dX3_judge_19 f_X3_191 sh_1 rfl (hR.nc) ?_
      refine r_icmp_ge (pc := 22) (tgt := 43) h dX3_judge_22 (by decide) (fun c22 => ?_) (fun c22 => ?_)
      · have hc : c 7 1 ≤ m := (nI_leI (by omega) (by omega)).mp c22
        have e : nI m = oI (gfind (fun i => decide (c 7 1 ≤ i) || !(c 3 i == rv i)) (q + 1) m) := by rw [gfind, if_pos (by simp [hc])]; rfl
        refine r_iload_n (pc := 43) h dX3_judge_43 rfl ?_
        refine r_istore_n (pc := 44) (ls2 := [_, _, _]) h dX3_judge_44 (Nat.le_of_ble_eq_true rfl) rfl ?_
        refine r_iinc (pc := 45) (ls2 := [_, _, _]) h dX3_judge_45 rfl (icm2 _) rfl ?_
        refine r_goto (pc := 48) (tgt := 10) h dX3_judge_48 (by decide) ?_
        have ih := ih (q + 1) (by omega)
        rw [← e] at ih
        exact ih
      · have hc : m < c 7 1 := Nat.lt_of_not_le fun q => c22 (nI_le q (by omega))
        have h3 := (ho.2.2.2 m hc).1
        refine r_aload_n (pc := 25) h dX3_judge_25 rfl ?_
        refine r_getR (pc := 26) h dX3_judge_26 f_X3_10 sh_0 rfl ?_
        refine r_getR (pc := 29) h dX3_judge_29 f_X3_134 sh_1 rfl ?_
        refine r_iload_n (pc := 32) h dX3_judge_32 rfl ?_
        refine r_ialoadE (pc := 33) h dX3_judge_33 sh_5 (hR.fe hc) ?_
        refine r_aload_n (pc := 34) h dX3_judge_34 rfl ?_
        refine r_getR (pc := 35) h dX3_judge_35 f_X3_40 sh_0 rfl ?_
        refine r_iload_n (pc := 38) h dX3_judge_38 rfl ?_
        refine r_ialoadE (pc := 39) h dX3_judge_39 sh_30 (hX.ro hm) ?_
        refine r_icmp_eq (pc := 40) (tgt := 45) h dX3_judge_40 (by decide) (fun c40 => ?_) (fun c40 => ?_)
        · have he : c 3 m = rv m := (nI_eq (by omega) (by omega)).mp c40
          have e : oI (gfind (fun i => decide (c 7 1 ≤ i) || !(c 3 i == rv i)) q (m + 1)) = oI (gfind (fun i => decide (c 7 1 ≤ i) || !(c 3 i == rv i)) (q + 1) m) := by rw [gfind, if_neg (by simp [he]; omega)]
          refine r_iinc (pc := 45) (ls2 := [_, _, _]) h dX3_judge_45 rfl (icm2 _) rfl ?_
          refine r_goto (pc := 48) (tgt := 10) h dX3_judge_48 (by decide) ?_
          have ih := ih (q + 1) (by omega)
          rw [← e] at ih
          exact ih
        · have he : ¬ c 3 m = rv m := fun z => c40 (by rw [z])
          have e : nI m = oI (gfind (fun i => decide (c 7 1 ≤ i) || !(c 3 i == rv i)) (q + 1) m) := by rw [gfind, if_pos (by simp [he])]; rfl
          refine r_iload_n (pc := 43) h dX3_judge_43 rfl ?_
          refine r_istore_n (pc := 44) (ls2 := [_, _, _]) h dX3_judge_44 (Nat.le_of_ble_eq_true rfl) rfl ?_
          refine r_iinc (pc := 45) (ls2 := [_, _, _]) h dX3_judge_45 rfl (icm2 _) rfl ?_
          refine r_goto (pc := 48) (tgt := 10) h dX3_judge_48 (by decide) ?_
          have ih := ih (q + 1) (by omega)
          rw [← e] at ih
          exact ih
  refine r_bipush (pc := 0) h dX3_judge_0 cb_m9 ?_
  refine r_istore_n (pc := 2) (ls2 := [_, _, _]) h dX3_judge_2 (Nat.le_of_ble_eq_true rfl) rfl ?_
  refine r_aload_n (pc := 3) h dX3_judge_3 rfl ?_
  refine r_getE (pc := 4) h dX3_judge_4 f_X3_44 sh_0 rfl (hX.2.2.1.1) ?_
  refine r_iconst (pc := 7) h dX3_judge_7 ci_1 ?_
  refine r_isub (pc := 8) h dX3_judge_8 ?_
  refine r_istore_n (pc := 9) (ls2 := [_, _, _]) h dX3_judge_9 (Nat.le_of_ble_eq_true rfl) rfl ?_
  exact loop nr 0 rfl
set_option maxRecDepth 100000 in
set_option maxHeartbeats 4000000 in
theorem x_image (hR : Rx1 g c) (hX : XSr g ck hk lt nl rv nr rf) (ho : gok c) (hd : c 7 3 ≤ 999) : gCi mX3_image [.ref 0] g (fun y g1 => y = nI (c 7 3) ∧ Rx1 g1 c ∧ XSr g1 c true lt nl rv nr rf ∧ frm 0 35 g g1) := by
  refine gCi_of (own := RX3) (ls0 := [.ref 0]) ⟨rfl, pl_X3⟩ rfl (Nat.le_of_ble_eq_true rfl) (fun G (h : gR RX3 cX3_image 2 80 G) (t : gTi cX3_image .int _ G) => ?_)
  refine r_aload_n (pc := 0) h dX3_image_0 rfl ?_
  refine r_getR (pc := 1) h dX3_image_1 f_X3_19 sh_0 rfl ?_
  refine r_aload_n (pc := 4) h dX3_image_4 rfl ?_
  refine r_getR (pc := 5) h dX3_image_5 f_X3_10 sh_0 rfl ?_
  refine r_callVv (pc := 8) (As := [_]) h dX3_image_8 k_X3_94 gc_17 rfl ⟨Nat.le_of_ble_eq_true rfl, Nat.le_of_ble_eq_true rfl, Nat.le_of_ble_eq_true rfl⟩ (c_X0_copyFrom_17_1 hR) (fun g1 hq => ?_)
  obtain ⟨hC, hF⟩ := hq
  refine r_aload_n (pc := 11) h dX3_image_11 rfl ?_
  refine r_iconst (pc := 12) h dX3_image_12 ci_1 ?_
  refine r_putI (pc := 13) h dX3_image_13 fw_X3_22 sh_0 rfl (by decide) (by decide) ?_
  refine r_aload_n (pc := 16) h dX3_image_16 rfl ?_
  refine r_getR (pc := 17) h dX3_image_17 f_X3_10 sh_0 rfl ?_
  refine r_getE (pc := 20) h dX3_image_20 f_X3_119 sh_1 rfl (show gup g1 0 3 (nI 1) 1 10 = nI (c 7 3) by rw [gup_ne (by decide), hF 1 (by decide)]; exact hR.dy) ?_
  refine r_ri t (pc := 23) dX3_image_23 rfl ?_
  obtain ⟨h1, ⟨h3, h4, h5⟩, ⟨h6, h7, h8⟩, h9⟩ := hX
  exact ⟨rfl, hR.of (fun k a b => by rw [gup_ne (by omega)]; exact hF k (by omega)), ⟨⟨gup_s, fun _ => hC.of (fun k a b => gup_ne (by omega))⟩, ⟨by rw [gup_ne (by decide), hF 25 (by decide)]; exact h3, h4, fun i hi => by rw [gup_ne (by decide), hF 26 (by decide)]; exact h5 i hi⟩, ⟨by rw [gup_o (by decide), hF 0 (by decide)]; exact h6, h7, fun i hi => by rw [gup_ne (by decide), hF 30 (by decide)]; exact h8 i hi⟩, fun j hj => by rw [gup_ne (by decide), hF 31 (by decide)]; exact h9 j hj⟩, (hF.wide (by decide) (by decide)).up (by decide)⟩
set_option maxRecDepth 100000 in
set_option maxHeartbeats 4000000 in
theorem x_on (hR : Rx1 g c) (hX : XSr g ck hk lt nl rv nr rf) (ho : gok c) (hd : c 7 3 ≤ 999) : gCi mX3_on [.ref 0] g (fun y g1 => y = ansI (whyB hk (-3)) (nI (ck 7 3)) ∧ Rx1 g1 (if hk = true then ck else c) ∧ XSr g1 ck hk lt nl rv nr (rfI rf (whyB hk (-3))) ∧ frm 0 35 g g1) := by
  refine gCi_of (own := RX3) (ls0 := [.ref 0]) ⟨rfl, pl_X3⟩ rfl (Nat.le_of_ble_eq_true rfl) (fun G (h : gR RX3 cX3_on 2 80 G) (t : gTi cX3_on .int _ G) => ?_)
  refine r_aload_n (pc := 0) h dX3_on_0 rfl ?_
  refine r_getE (pc := 1) h dX3_on_1 f_X3_22 sh_0 rfl (hX.1.1) ?_
  refine r_if_ne (pc := 4) (tgt := 14) h dX3_on_4 (by decide) (fun c4 => ?_) (fun c4 => ?_)
  · have hb : hk = true := by cases hk with | true => rfl | false => exact absurd rfl c4
    have hC := hX.1.2 hb
    have hw : whyB hk (-3) = 0 := (whyB_0 (by decide)).mpr hb
    refine r_aload_n (pc := 14) h dX3_on_14 rfl ?_
    refine r_getR (pc := 15) h dX3_on_15 f_X3_10 sh_0 rfl ?_
    refine r_aload_n (pc := 18) h dX3_on_18 rfl ?_
    refine r_getR (pc := 19) h dX3_on_19 f_X3_19 sh_0 rfl ?_
    refine r_callVv (pc := 22) (As := [_]) h dX3_on_22 k_X3_94 gc_1 rfl ⟨Nat.le_of_ble_eq_true rfl, Nat.le_of_ble_eq_true rfl, Nat.le_of_ble_eq_true rfl⟩ (c_X0_copyFrom_1_17 hC) (fun g1 hq => ?_)
    obtain ⟨hR2, hF⟩ := hq
    refine r_aload_n (pc := 25) h dX3_on_25 rfl ?_
    refine r_getR (pc := 26) h dX3_on_26 f_X3_10 sh_0 rfl ?_
    refine r_getE (pc := 29) h dX3_on_29 f_X3_119 sh_1 rfl (hR2.dy) ?_
    refine r_ri t (pc := 32) dX3_on_32 rfl ?_
    rw [if_pos hb]
    exact x_ok hR2 (hX.f1 hF) (hF.wide (by decide) (by decide)) hw rfl
  · have hb : hk = false := (bI_0 _).mp c4
    have hw : ¬ whyB hk (-3) = 0 := fun q => by rw [(whyB_0 (by decide)).mp q] at hb; cases hb
    have ew : whyB hk (-3) = -3 := by rw [hb]; rfl
    refine r_aload_n (pc := 7) h dX3_on_7 rfl ?_
    refine r_bipush (pc := 8) h dX3_on_8 cb_m3 ?_
    refine r_callVi (pc := 10) (As := [_]) h dX3_on_10 k_X3_67 gc_0 rfl ⟨Nat.le_of_ble_eq_true rfl, Nat.le_of_ble_eq_true rfl, Nat.le_of_ble_eq_true rfl⟩ (c_X3_refuse (okw_in okw_3 (by decide)).1) (fun x_10 g1 hq => ?_)
    obtain ⟨rfl, rfl⟩ := hq
    refine r_ri t (pc := 13) dX3_on_13 rfl ?_
    rw [if_neg (by rw [hb]; decide), ew]
    exact x_ref hR hX okw_3 (by decide)
set_option maxRecDepth 100000 in
set_option maxHeartbeats 4000000 in
theorem x_days (hR : Rx1 g c) (hX : XSr g ck hk lt nl rv nr rf) (ho : gok c) (hd : c 7 3 ≤ 999) (v : Int32) : gCi mX3_days [.ref 0, .int v] g (fun y g1 => y = ansI (dayW c v) (nI (sumN (daysC v.toNatClampNeg c 5) (daysC v.toNatClampNeg c 7 1))) ∧ Rx1 g1 (if dayW c v = 0 then daysC v.toNatClampNeg c else c) ∧ XSr g1 ck hk lt nl rv nr (rfI rf (dayW c v)) ∧ frm 0 35 g g1) := by
  refine gCi_of (own := RX3) (ls0 := [.ref 0, .int v, .null]) ⟨rfl, pl_X3⟩ rfl (Nat.le_of_ble_eq_true rfl) (fun G (h : gR RX3 cX3_days 5 200 G) (t : gTi cX3_days .int _ G) => ?_)
  have hok : okw (dayW c v) := okw_f okw_n okw_d okw_0
  refine r_iload_n (pc := 0) h dX3_days_0 rfl ?_
  refine r_iconst (pc := 1) h dX3_days_1 ci_1 ?_
  refine r_bipush (pc := 2) h dX3_days_2 cb_60 ?_
  refine r_callSi (pc := 4) (As := [_, _, _]) h dX3_days_4 k_X3_60 rfl ⟨Nat.le_of_ble_eq_true rfl, Nat.le_of_ble_eq_true rfl, Nat.le_of_ble_eq_true rfl⟩ (c_X3_range _ _ _) (fun x_4 g1 hq => ?_)
  obtain ⟨rfl, rfl⟩ := hq
  refine r_istore_n (pc := 7) (ls2 := [_, _, _]) h dX3_days_7 (Nat.le_of_ble_eq_true rfl) rfl ?_
  refine r_iload_n (pc := 8) h dX3_days_8 rfl ?_
  refine r_if_ne (pc := 9) (tgt := 30) h dX3_days_9 (by decide) (fun c9 => ?_) (fun c9 => ?_)
  · have hw : ¬ dayW c v = 0 := fun q => c9 (fst_0.mp q).1
    have ew : dayW c v = bndI v (nI 1) (nI 60) := by unfold dayW fstI; rw [if_neg c9]
    refine r_iload_n (pc := 30) h dX3_days_30 rfl ?_
    refine r_if_eq (pc := 31) (tgt := 40) h dX3_days_31 (by decide) (fun c31 => absurd c31 (c9)) (fun c31 => ?_)
    refine r_aload_n (pc := 34) h dX3_days_34 rfl ?_
    refine r_iload_n (pc := 35) h dX3_days_35 rfl ?_
    refine r_callVi (pc := 36) (As := [_]) h dX3_days_36 k_X3_67 gc_0 rfl ⟨Nat.le_of_ble_eq_true rfl, Nat.le_of_ble_eq_true rfl, Nat.le_of_ble_eq_true rfl⟩ (c_X3_refuse (by first | (rw [← ew]; exact (okw_in hok hw).1) | exact (okw_in okw_6 (by decide)).1)) (fun x_36 g1 hq => ?_)
    obtain ⟨rfl, rfl⟩ := hq
    refine r_ri t (pc := 39) dX3_days_39 rfl ?_
    rw [← ew, if_neg hw]
    exact x_ref hR hX hok hw
  · obtain ⟨n, hn1, hn, rfl⟩ := bnd_nat (by decide) (by decide) c9
    have en : (nI n).toNatClampNeg = n := nI_clamp (by omega)
    refine r_aload_n (pc := 12) h dX3_days_12 rfl ?_
    refine r_getR (pc := 13) h dX3_days_13 f_X3_10 sh_0 rfl ?_
    refine r_getE (pc := 16) h dX3_days_16 f_X3_119 sh_1 rfl (hR.dy) ?_
    refine r_iload_n (pc := 19) h dX3_days_19 rfl ?_
    refine r_iadd (pc := 20) h dX3_days_20 ?_
    refine r_sipush (pc := 21) h dX3_days_21 cs_999 ?_
    refine r_icmp_le (pc := 24) (tgt := 30) h dX3_days_24 (by decide) (fun c24 => ?_) (fun c24 => ?_)
    · rw [nI_add] at c24
      have h9 : c 7 3 + n ≤ 999 := (nI_leI (by omega) (by decide)).mp c24
      have hw : dayW c (nI n) = 0 := fst_0.mpr ⟨c9, by rw [en]; exact if_0.mpr h9, rfl⟩
      refine r_iload_n (pc := 30) h dX3_days_30 rfl ?_
      refine r_if_eq (pc := 31) (tgt := 40) h dX3_days_31 (by decide) (fun c31 => ?_) (fun c31 => absurd (c9) c31)
      refine r_aload_n (pc := 40) h dX3_days_40 rfl ?_
      refine r_getR (pc := 41) h dX3_days_41 f_X3_10 sh_0 rfl ?_
      refine r_iload_n (pc := 44) h dX3_days_44 rfl ?_
      refine r_callVv (pc := 45) (As := [_]) h dX3_days_45 k_X3_164 gc_1 rfl ⟨Nat.le_of_ble_eq_true rfl, Nat.le_of_ble_eq_true rfl, Nat.le_of_ble_eq_true rfl⟩ (c_X0_passDays_1 hR ho (by omega)) (fun g1 hq => ?_)
      obtain ⟨hR2, hF⟩ := hq
      refine r_aload_n (pc := 48) h dX3_days_48 rfl ?_
      refine r_getR (pc := 49) h dX3_days_49 f_X3_10 sh_0 rfl ?_
      refine r_callVi (pc := 52) (As := []) h dX3_days_52 k_X3_168 gc_1 rfl ⟨Nat.le_of_ble_eq_true rfl, Nat.le_of_ble_eq_true rfl, Nat.le_of_ble_eq_true rfl⟩ (c_X0_allSaid_1 hR2) (fun x_52 g1 hq => ?_)
      obtain ⟨rfl, hg2⟩ := hq
      rw [hg2]
      refine r_ri t (pc := 55) dX3_days_55 rfl ?_
      rw [if_pos hw, en]
      exact x_ok hR2 (hX.f1 hF) (hF.wide (by decide) (by decide)) hw rfl
    · rw [nI_add] at c24
      have h9 : ¬ c 7 3 + n ≤ 999 := fun q => c24 (nI_le q (by decide))
      have hw : ¬ dayW c (nI n) = 0 := fun q => h9 (by have := if_0.mp (fst_0.mp q).2.1; rwa [en] at this)
      have ew : dayW c (nI n) = -6 := by unfold dayW fstI; rw [if_pos c9, en, if_neg h9]; rfl
      refine r_bipush (pc := 27) h dX3_days_27 cb_m6 ?_
      refine r_istore_n (pc := 29) (ls2 := [_, _, _]) h dX3_days_29 (Nat.le_of_ble_eq_true rfl) rfl ?_
      refine r_iload_n (pc := 30) h dX3_days_30 rfl ?_
      refine r_if_eq (pc := 31) (tgt := 40) h dX3_days_31 (by decide) (fun c31 => absurd c31 (by decide)) (fun c31 => ?_)
      refine r_aload_n (pc := 34) h dX3_days_34 rfl ?_
      refine r_iload_n (pc := 35) h dX3_days_35 rfl ?_
      refine r_callVi (pc := 36) (As := [_]) h dX3_days_36 k_X3_67 gc_0 rfl ⟨Nat.le_of_ble_eq_true rfl, Nat.le_of_ble_eq_true rfl, Nat.le_of_ble_eq_true rfl⟩ (c_X3_refuse (by first | (rw [← ew]; exact (okw_in hok hw).1) | exact (okw_in okw_6 (by decide)).1)) (fun x_36 g1 hq => ?_)
      obtain ⟨rfl, rfl⟩ := hq
      refine r_ri t (pc := 39) dX3_days_39 rfl ?_
      rw [← ew, if_neg hw]
      exact x_ref hR hX hok hw
end TX
