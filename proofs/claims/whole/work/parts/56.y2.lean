section TX
variable {g : gG} {c ck : gCt} {hk : Bool} {lt : Nat → Nat} {nl : Nat} {rv : Nat → Nat} {nr : Nat} {rf : Nat → Int32}
set_option maxRecDepth 100000 in
set_option maxHeartbeats 4000000 in
theorem y_letter (hR : Rm g c) (hX : MSr g ck hk lt nl rv nr rf) (ho : gok c) (hd : c 7 3 ≤ 999) (v : Int32) : gCi mX4_letter [.ref 35, .int v] g (fun y g1 => y = ansI (letW nl v) (nI (nl + 1)) ∧ Rm g1 c ∧ MSr g1 ck hk (if letW nl v = 0 then nup lt nl v.toNatClampNeg else lt) (if letW nl v = 0 then nl + 1 else nl) rv nr (rfI rf (letW nl v)) ∧ frm 35 58 g g1) := by
  refine gCi_of (own := RX4) (ls0 := [.ref 35, .int v, .null]) ⟨rfl, pl_X4⟩ rfl (Nat.le_of_ble_eq_true rfl) (fun G (h : gR RX4 cX4_letter 1 40 G) (t : gTi cX4_letter .int _ G) => ?_)
  have h96' := hX.2.1.2.1
  have el : (nI nl).toNatClampNeg = nl := nI_clamp (by omega)
  have hok : okw (letW nl v) := okw_f okw_n okw_r okw_0
  refine r_iload_n (pc := 0) h dX4_letter_0 rfl ?_
  refine r_iconst (pc := 1) h dX4_letter_1 ci_0 ?_
  refine r_sipush (pc := 2) h dX4_letter_2 cs_255 ?_
  refine r_callSi (pc := 5) (As := [_, _, _]) h dX4_letter_5 k_X4_70 rfl ⟨Nat.le_of_ble_eq_true rfl, Nat.le_of_ble_eq_true rfl, Nat.le_of_ble_eq_true rfl⟩ (c_X4_bound _ _ _) (fun x_5 g1 hq => ?_)
  obtain ⟨rfl, rfl⟩ := hq
  refine r_istore_n (pc := 8) (ls2 := [_, _, _]) h dX4_letter_8 (Nat.le_of_ble_eq_true rfl) rfl ?_
  refine r_iload_n (pc := 9) h dX4_letter_9 rfl ?_
  refine r_if_ne (pc := 10) (tgt := 25) h dX4_letter_10 (by decide) (fun c10 => ?_) (fun c10 => ?_)
  · have hw : ¬ letW nl v = 0 := fun q => c10 (fst_0.mp q).1
    have ew : letW nl v = bndI v (nI 0) (nI 255) := by unfold letW fstI; rw [if_neg c10]
    refine r_iload_n (pc := 25) h dX4_letter_25 rfl ?_
    refine r_if_eq (pc := 26) (tgt := 35) h dX4_letter_26 (by decide) (fun c26 => absurd c26 (c10)) (fun c26 => ?_)
    refine r_aload_n (pc := 29) h dX4_letter_29 rfl ?_
    refine r_iload_n (pc := 30) h dX4_letter_30 rfl ?_
    refine r_callVi (pc := 31) (As := [_]) h dX4_letter_31 k_X4_77 gc_35 rfl ⟨Nat.le_of_ble_eq_true rfl, Nat.le_of_ble_eq_true rfl, Nat.le_of_ble_eq_true rfl⟩ (c_X4_no (by first | (rw [← ew]; exact (okw_in hok hw).1) | exact (okw_in okw_6 (by decide)).1)) (fun x_31 g1 hq => ?_)
    obtain ⟨rfl, rfl⟩ := hq
    refine r_ri t (pc := 34) dX4_letter_34 rfl ?_
    rw [← ew, if_neg hw, if_neg hw]
    exact y_ref hR hX hok hw
  · refine r_aload_n (pc := 13) h dX4_letter_13 rfl ?_
    refine r_getE (pc := 14) h dX4_letter_14 f_X4_74 sh_35 rfl (hX.2.1.1) ?_
    refine r_bipush (pc := 17) h dX4_letter_17 cb_96 ?_
    refine r_icmp_ne (pc := 19) (tgt := 25) h dX4_letter_19 (by decide) (fun c19 => ?_) (fun c19 => ?_)
    · have h96 : nl < 96 := by have : ¬ nl = 96 := fun q => c19 (by rw [q]); omega
      have hw : letW nl v = 0 := fst_0.mpr ⟨c10, if_0.mpr h96, rfl⟩
      obtain ⟨n, -, hn, rfl⟩ := bnd_nat (by decide) (by decide) c10
      have en : (nI n).toNatClampNeg = n := nI_clamp (by omega)
      refine r_iload_n (pc := 25) h dX4_letter_25 rfl ?_
      refine r_if_eq (pc := 26) (tgt := 35) h dX4_letter_26 (by decide) (fun c26 => ?_) (fun c26 => absurd (c10) c26)
      refine r_aload_n (pc := 35) h dX4_letter_35 rfl ?_
      refine r_getR (pc := 36) h dX4_letter_36 f_X4_34 sh_35 rfl ?_
      refine r_aload_n (pc := 39) h dX4_letter_39 rfl ?_
      refine r_getE (pc := 40) h dX4_letter_40 f_X4_74 sh_35 rfl (hX.2.1.1) ?_
      refine r_iload_n (pc := 43) h dX4_letter_43 rfl ?_
      refine r_iastore (pc := 44) h dX4_letter_44 sh_44 (vp_in_nI h96 (by decide)) ?_
      refine r_aload_n (pc := 45) h dX4_letter_45 rfl ?_
      refine r_dup (pc := 46) h dX4_letter_46 rfl ?_
      refine r_getE (pc := 47) h dX4_letter_47 f_X4_74 sh_35 rfl (show gup _ 44 (nI nl).toNatClampNeg (nI n) 35 16 = nI nl by rw [gup_o (by omega)]; exact hX.2.1.1) ?_
      refine r_iconst (pc := 50) h dX4_letter_50 ci_1 ?_
      refine r_iadd (pc := 51) h dX4_letter_51 ?_
      refine r_top (y := nI (nl + 1)) h (nI_add _ _) ?_
      refine r_putI (pc := 52) h dX4_letter_52 fw_X4_74 sh_35 rfl rfl rfl ?_
      refine r_aload_n (pc := 55) h dX4_letter_55 rfl ?_
      refine r_getE (pc := 56) h dX4_letter_56 f_X4_74 sh_35 rfl (gup_s) ?_
      refine r_ri t (pc := 59) dX4_letter_59 rfl ?_
      rw [if_pos hw, if_pos hw, en]
      obtain ⟨h1, ⟨h3, h4, h5⟩, h6, h9⟩ := hX
      rw [el]
      refine ⟨by rw [ansI, if_pos hw], (hR.up (by decide) (by omega)).up (by decide) (by decide), ⟨⟨by rw [gup_o (by decide), gup_o (by omega)]; exact h1.1, fun q => ((h1.2 q).up (by decide)).up (by decide)⟩, ⟨gup_s, by omega, fun i hi => ?_⟩, ⟨by rw [gup_o (by decide), gup_o (by omega)]; exact h6.1, h6.2.1, fun i hi => by rw [gup_o (by omega), gup_o (by omega)]; exact h6.2.2 i hi⟩, fun j hj => by rw [rfI, if_pos hw, gup_o (by omega), gup_o (by omega)]; exact h9 j hj⟩, (frm.rf.up (by decide)).up (by decide)⟩
      unfold nup
      by_cases e : i = nl
      · subst e; rw [gup_o (by omega), gup_s, if_pos rfl]; exact ⟨rfl, hn⟩
      · rw [gup_o (by omega), gup_o (by omega), if_neg e]; exact h5 i (by omega)
    · have h96 : ¬ nl < 96 := by have : nl = 96 := (nI_eq (by omega) (by decide)).mp c19; omega
      have hw : ¬ letW nl v = 0 := fun q => h96 (if_0.mp (fst_0.mp q).2.1)
      have ew : letW nl v = -6 := by unfold letW fstI; rw [if_pos c10, if_neg h96]; rfl
      refine r_bipush (pc := 22) h dX4_letter_22 cb_m6 ?_
      refine r_istore_n (pc := 24) (ls2 := [_, _, _]) h dX4_letter_24 (Nat.le_of_ble_eq_true rfl) rfl ?_
      refine r_iload_n (pc := 25) h dX4_letter_25 rfl ?_
      refine r_if_eq (pc := 26) (tgt := 35) h dX4_letter_26 (by decide) (fun c26 => absurd c26 (by decide)) (fun c26 => ?_)
      refine r_aload_n (pc := 29) h dX4_letter_29 rfl ?_
      refine r_iload_n (pc := 30) h dX4_letter_30 rfl ?_
      refine r_callVi (pc := 31) (As := [_]) h dX4_letter_31 k_X4_77 gc_35 rfl ⟨Nat.le_of_ble_eq_true rfl, Nat.le_of_ble_eq_true rfl, Nat.le_of_ble_eq_true rfl⟩ (c_X4_no (by first | (rw [← ew]; exact (okw_in hok hw).1) | exact (okw_in okw_6 (by decide)).1)) (fun x_31 g1 hq => ?_)
      obtain ⟨rfl, rfl⟩ := hq
      refine r_ri t (pc := 34) dX4_letter_34 rfl ?_
      rw [← ew, if_neg hw, if_neg hw]
      exact y_ref hR hX hok hw
set_option maxRecDepth 100000 in
set_option maxHeartbeats 4000000 in
theorem y_row (hR : Rm g c) (hX : MSr g ck hk lt nl rv nr rf) (ho : gok c) (hd : c 7 3 ≤ 999) (v : Int32) : gCi mX4_row [.ref 35, .int v] g (fun y g1 => y = ansI (rowW nr v) (nI (nr + 1)) ∧ Rm g1 c ∧ MSr g1 ck hk lt nl (if rowW nr v = 0 then nup rv nr v.toNatClampNeg else rv) (if rowW nr v = 0 then nr + 1 else nr) (rfI rf (rowW nr v)) ∧ frm 35 58 g g1) := by
  refine gCi_of (own := RX4) (ls0 := [.ref 35, .int v, .null]) ⟨rfl, pl_X4⟩ rfl (Nat.le_of_ble_eq_true rfl) (fun G (h : gR RX4 cX4_row 1 40 G) (t : gTi cX4_row .int _ G) => ?_)
  have h16' := hX.2.2.1.2.1
  have er : (nI nr).toNatClampNeg = nr := nI_clamp (by omega)
  have hok : okw (rowW nr v) := okw_f okw_n okw_r okw_0
  refine r_iload_n (pc := 0) h dX4_row_0 rfl ?_
  refine r_iconst (pc := 1) h dX4_row_1 ci_0 ?_
  refine r_bipush (pc := 2) h dX4_row_2 cb_99 ?_
  refine r_callSi (pc := 4) (As := [_, _, _]) h dX4_row_4 k_X4_70 rfl ⟨Nat.le_of_ble_eq_true rfl, Nat.le_of_ble_eq_true rfl, Nat.le_of_ble_eq_true rfl⟩ (c_X4_bound _ _ _) (fun x_4 g1 hq => ?_)
  obtain ⟨rfl, rfl⟩ := hq
  refine r_istore_n (pc := 7) (ls2 := [_, _, _]) h dX4_row_7 (Nat.le_of_ble_eq_true rfl) rfl ?_
  refine r_iload_n (pc := 8) h dX4_row_8 rfl ?_
  refine r_if_ne (pc := 9) (tgt := 24) h dX4_row_9 (by decide) (fun c9 => ?_) (fun c9 => ?_)
  · have hw : ¬ rowW nr v = 0 := fun q => c9 (fst_0.mp q).1
    have ew : rowW nr v = bndI v (nI 0) (nI 99) := by unfold rowW fstI; rw [if_neg c9]
    refine r_iload_n (pc := 24) h dX4_row_24 rfl ?_
    refine r_if_eq (pc := 25) (tgt := 34) h dX4_row_25 (by decide) (fun c25 => absurd c25 (c9)) (fun c25 => ?_)
    refine r_aload_n (pc := 28) h dX4_row_28 rfl ?_
    refine r_iload_n (pc := 29) h dX4_row_29 rfl ?_
    refine r_callVi (pc := 30) (As := [_]) h dX4_row_30 k_X4_77 gc_35 rfl ⟨Nat.le_of_ble_eq_true rfl, Nat.le_of_ble_eq_true rfl, Nat.le_of_ble_eq_true rfl⟩ (c_X4_no (by first | (rw [← ew]; exact (okw_in hok hw).1) | exact (okw_in okw_6 (by decide)).1)) (fun x_30 g1 hq => ?_)
    obtain ⟨rfl, rfl⟩ := hq
    refine r_ri t (pc := 33) dX4_row_33 rfl ?_
    rw [← ew, if_neg hw, if_neg hw]
    exact y_ref hR hX hok hw
  · refine r_aload_n (pc := 12) h dX4_row_12 rfl ?_
    refine r_getE (pc := 13) h dX4_row_13 f_X4_295 sh_35 rfl (hX.2.2.1.1) ?_
    refine r_bipush (pc := 16) h dX4_row_16 cb_16 ?_
    refine r_icmp_ne (pc := 18) (tgt := 24) h dX4_row_18 (by decide) (fun c18 => ?_) (fun c18 => ?_)
    · have h16 : nr < 16 := by have : ¬ nr = 16 := fun q => c18 (by rw [q]); omega
      have hw : rowW nr v = 0 := fst_0.mpr ⟨c9, if_0.mpr h16, rfl⟩
      obtain ⟨n, -, hn, rfl⟩ := bnd_nat (by decide) (by decide) c9
      have en : (nI n).toNatClampNeg = n := nI_clamp (by omega)
      refine r_iload_n (pc := 24) h dX4_row_24 rfl ?_
      refine r_if_eq (pc := 25) (tgt := 34) h dX4_row_25 (by decide) (fun c25 => ?_) (fun c25 => absurd (c9) c25)
      refine r_aload_n (pc := 34) h dX4_row_34 rfl ?_
      refine r_getR (pc := 35) h dX4_row_35 f_X4_57 sh_35 rfl ?_
      refine r_aload_n (pc := 38) h dX4_row_38 rfl ?_
      refine r_getE (pc := 39) h dX4_row_39 f_X4_295 sh_35 rfl (hX.2.2.1.1) ?_
      refine r_iload_n (pc := 42) h dX4_row_42 rfl ?_
      refine r_iastore (pc := 43) h dX4_row_43 sh_57 (vp_in_nI h16 (by decide)) ?_
      refine r_aload_n (pc := 44) h dX4_row_44 rfl ?_
      refine r_dup (pc := 45) h dX4_row_45 rfl ?_
      refine r_getE (pc := 46) h dX4_row_46 f_X4_295 sh_35 rfl (show gup _ 57 (nI nr).toNatClampNeg (nI n) 35 30 = nI nr by rw [gup_o (by omega)]; exact hX.2.2.1.1) ?_
      refine r_iconst (pc := 49) h dX4_row_49 ci_1 ?_
      refine r_iadd (pc := 50) h dX4_row_50 ?_
      refine r_top (y := nI (nr + 1)) h (nI_add _ _) ?_
      refine r_putI (pc := 51) h dX4_row_51 fw_X4_295 sh_35 rfl rfl rfl ?_
      refine r_aload_n (pc := 54) h dX4_row_54 rfl ?_
      refine r_getE (pc := 55) h dX4_row_55 f_X4_295 sh_35 rfl (gup_s) ?_
      refine r_ri t (pc := 58) dX4_row_58 rfl ?_
      rw [if_pos hw, if_pos hw, en]
      obtain ⟨h1, h3, ⟨h6, h7, h8⟩, h9⟩ := hX
      rw [er]
      refine ⟨by rw [ansI, if_pos hw], (hR.up (by decide) (by omega)).up (by decide) (by decide), ⟨⟨by rw [gup_o (by decide), gup_o (by omega)]; exact h1.1, fun q => ((h1.2 q).up (by decide)).up (by decide)⟩, ⟨by rw [gup_o (by decide), gup_o (by omega)]; exact h3.1, h3.2.1, fun i hi => by rw [gup_o (by omega), gup_o (by omega)]; exact h3.2.2 i hi⟩, ⟨gup_s, by omega, fun i hi => ?_⟩, fun j hj => by rw [rfI, if_pos hw, gup_o (by omega), gup_o (by omega)]; exact h9 j hj⟩, (frm.rf.up (by decide)).up (by decide)⟩
      unfold nup
      by_cases e : i = nr
      · subst e; rw [gup_o (by omega), gup_s, if_pos rfl]; exact ⟨rfl, hn⟩
      · rw [gup_o (by omega), gup_o (by omega), if_neg e]; exact h8 i (by omega)
    · have h16 : ¬ nr < 16 := by have : nr = 16 := (nI_eq (by omega) (by decide)).mp c18; omega
      have hw : ¬ rowW nr v = 0 := fun q => h16 (if_0.mp (fst_0.mp q).2.1)
      have ew : rowW nr v = -6 := by unfold rowW fstI; rw [if_pos c9, if_neg h16]; rfl
      refine r_bipush (pc := 21) h dX4_row_21 cb_m6 ?_
      refine r_istore_n (pc := 23) (ls2 := [_, _, _]) h dX4_row_23 (Nat.le_of_ble_eq_true rfl) rfl ?_
      refine r_iload_n (pc := 24) h dX4_row_24 rfl ?_
      refine r_if_eq (pc := 25) (tgt := 34) h dX4_row_25 (by decide) (fun c25 => absurd c25 (by decide)) (fun c25 => ?_)
      refine r_aload_n (pc := 28) h dX4_row_28 rfl ?_
      refine r_iload_n (pc := 29) h dX4_row_29 rfl ?_
      refine r_callVi (pc := 30) (As := [_]) h dX4_row_30 k_X4_77 gc_35 rfl ⟨Nat.le_of_ble_eq_true rfl, Nat.le_of_ble_eq_true rfl, Nat.le_of_ble_eq_true rfl⟩ (c_X4_no (by first | (rw [← ew]; exact (okw_in hok hw).1) | exact (okw_in okw_6 (by decide)).1)) (fun x_30 g1 hq => ?_)
      obtain ⟨rfl, rfl⟩ := hq
      refine r_ri t (pc := 33) dX4_row_33 rfl ?_
      rw [← ew, if_neg hw, if_neg hw]
      exact y_ref hR hX hok hw
set_option maxRecDepth 100000 in
set_option maxHeartbeats 4000000 in
theorem y_clear (hR : Rm g c) (hX : MSr g ck hk lt nl rv nr rf) (ho : gok c) (hd : c 7 3 ≤ 999) : gCi mX4_clear [.ref 35] g (fun y g1 => y = nI nr ∧ Rm g1 c ∧ MSr g1 ck hk lt nl rv 0 rf ∧ frm 35 58 g g1) := by
  refine gCi_of (own := RX4) (ls0 := [.ref 35, .null]) ⟨rfl, pl_X4⟩ rfl (Nat.le_of_ble_eq_true rfl) (fun G (h : gR RX4 cX4_clear 0 0 G) (t : gTi cX4_clear .int _ G) => ?_)
  refine r_aload_n (pc := 0) h dX4_clear_0 rfl ?_
  refine r_getE (pc := 1) h dX4_clear_1 f_X4_295 sh_35 rfl (hX.2.2.1.1) ?_
  refine r_istore_n (pc := 4) (ls2 := [_, _]) h dX4_clear_4 (Nat.le_of_ble_eq_true rfl) rfl ?_
  refine r_aload_n (pc := 5) h dX4_clear_5 rfl ?_
  refine r_iconst (pc := 6) h dX4_clear_6 ci_0 ?_
  refine r_putI (pc := 7) h dX4_clear_7 fw_X4_295 sh_35 rfl rfl rfl ?_
  refine r_iload_n (pc := 10) h dX4_clear_10 rfl ?_
  refine r_ri t (pc := 11) dX4_clear_11 rfl ?_
  obtain ⟨h1, h3, ⟨h6, h7, h8⟩, h9⟩ := hX
  exact ⟨rfl, hR.up (by decide) (by decide), ⟨⟨by rw [gup_o (by decide)]; exact h1.1, fun q => (h1.2 q).up (by decide)⟩, ⟨by rw [gup_o (by decide)]; exact h3.1, h3.2.1, fun i hi => by rw [gup_o (by omega)]; exact h3.2.2 i hi⟩, ⟨gup_s, by decide, fun i hi => by omega⟩, fun j hj => by rw [gup_o (by omega)]; exact h9 j hj⟩, frm.rf.up (by decide)⟩
set_option maxRecDepth 100000 in
set_option maxHeartbeats 4000000 in
theorem y_judge (hR : Rm g c) (hX : MSr g ck hk lt nl rv nr rf) (ho : gok c) (hd : c 7 3 ≤ 999) : gCi mX4_judge [.ref 35] g (fun y g1 => y = oI (jdg c rv nr) ∧ Rm g1 c ∧ MSr g1 ck hk lt nl rv 0 rf ∧ frm 35 58 g g1) := by
  refine gCi_of (own := RX4) (ls0 := [.ref 35, .null, .null]) ⟨rfl, pl_X4⟩ rfl (Nat.le_of_ble_eq_true rfl) (fun G (h : gR RX4 cX4_judge 0 0 G) (t : gTi cX4_judge .int _ G) => ?_)
  have hn5 := hR.n5
  have h16' := hX.2.2.1.2.1
  have hro : ∀ i, i < nr → vp_in (nI i) 16 ∧ gup g 35 30 (nI 0) 57 (nI i).toNatClampNeg = nI (rv i) := fun i hi => by rw [gup_o (by omega)]; exact hX.ro hi
  have hrv := hX.2.2.1.2.2
  have hR2 : Rm (gup g 35 30 (nI 0)) c := hR.up (by decide) (by decide)
  have fin : ∀ v, v = oI (jdg c rv nr) → v = oI (jdg c rv nr) ∧ Rm (gup g 35 30 (nI 0)) c ∧ MSr (gup g 35 30 (nI 0)) ck hk lt nl rv 0 rf ∧ frm 35 58 g (gup g 35 30 (nI 0)) := by
    intro v hv
    obtain ⟨h1, h3, ⟨h6, h7, h8⟩, h9⟩ := hX
    exact ⟨hv, hR.up (by decide) (by decide), ⟨⟨by rw [gup_o (by decide)]; exact h1.1, fun q => (h1.2 q).up (by decide)⟩, ⟨by rw [gup_o (by decide)]; exact h3.1, h3.2.1, fun i hi => by rw [gup_o (by omega)]; exact h3.2.2 i hi⟩, ⟨gup_s, by decide, fun i hi => by omega⟩, fun j hj => by rw [gup_o (by omega)]; exact h9 j hj⟩, frm.rf.up (by decide)⟩
  have loop : ∀ q i, i + q = nr → jdg c rv nr = gfind (fun i => decide (c 7 1 ≤ i) || !(c 3 i == rv i)) q i → G 12 [.ref 35, .int (nI nr), .int (nI i)] [] (gup g 35 30 (nI 0)) := by
    intro q
    induction q with
    | zero =>
      intro i hi hw
      refine r_iload_n (pc := 12) h dX4_judge_12 rfl ?_
      refine r_iload_n (pc := 13) h dX4_judge_13 rfl ?_
      refine r_icmp_ge (pc := 14) (tgt := 48) h dX4_judge_14 (by decide) (fun c14 => ?_) (fun c14 => absurd (nI_le (by omega) (by omega)) c14)
      refine r_bipush (pc := 48) h dX4_judge_48 cb_m9 ?_
      refine r_ri t (pc := 50) dX4_judge_50 rfl ?_
      exact fin _ (by rw [hw]; rfl)
    | succ q ih =>
      intro i hin hw
      have hm : i < nr := by omega
      have hr9 := (hrv i hm).2
      refine r_iload_n (pc := 12) h dX4_judge_12 rfl ?_
      refine r_iload_n (pc := 13) h dX4_judge_13 rfl ?_
      refine r_icmp_ge (pc := 14) (tgt := 48) h dX4_judge_14 (by decide) (fun c14 => absurd c14 (nI_ge hm (by omega))) (fun c14 => ?_)
      refine r_iload_n (pc := 17) h dX4_judge_17 rfl ?_
      refine r_aload_n (pc := 18) h dX4_judge_18 rfl ?_
      refine r_getE (pc := 19) h dX4_judge_19 f_X4_67 sh_35 rfl (hR2.nc) ?_
      refine r_icmp_ge (pc := 22) (tgt := 40) h dX4_judge_22 (by decide) (fun c22 => ?_) (fun c22 => ?_)
      · have hc : c 7 1 ≤ i := (nI_leI (by omega) (by omega)).mp c22
        have e : gfind (fun i => decide (c 7 1 ≤ i) || !(c 3 i == rv i)) (q + 1) i = some i := by rw [gfind, if_pos (by simp [hc])]
        refine r_iload_n (pc := 40) h dX4_judge_40 rfl ?_
        refine r_ri t (pc := 41) dX4_judge_41 rfl ?_
        exact fin _ (by rw [hw, e]; rfl)
      · have hc : i < c 7 1 := Nat.lt_of_not_le fun q => c22 (nI_le q (by omega))
        have h3 := (ho.2.2.2 i hc).1
        refine r_aload_n (pc := 25) h dX4_judge_25 rfl ?_
        refine r_getR (pc := 26) h dX4_judge_26 f_X4_22 sh_35 rfl ?_
        refine r_iload_n (pc := 29) h dX4_judge_29 rfl ?_
        refine r_ialoadE (pc := 30) h dX4_judge_30 sh_40 (hR2.fe hc) ?_
        refine r_aload_n (pc := 31) h dX4_judge_31 rfl ?_
        refine r_getR (pc := 32) h dX4_judge_32 f_X4_57 sh_35 rfl ?_
        refine r_iload_n (pc := 35) h dX4_judge_35 rfl ?_
        refine r_ialoadE (pc := 36) h dX4_judge_36 sh_57 (hro i hm) ?_
        refine r_icmp_eq (pc := 37) (tgt := 42) h dX4_judge_37 (by decide) (fun c37 => ?_) (fun c37 => ?_)
        · have he : c 3 i = rv i := (nI_eq (by omega) (by omega)).mp c37
          refine r_iinc (pc := 42) (ls2 := [_, _, _]) h dX4_judge_42 rfl (ic1 _) rfl ?_
          refine r_goto (pc := 45) (tgt := 12) h dX4_judge_45 (by decide) ?_
          exact ih (i + 1) (by omega) (by rw [hw, gfind, if_neg (by simp [he]; omega)])
        · have he : ¬ c 3 i = rv i := fun z => c37 (by rw [z])
          have e : gfind (fun i => decide (c 7 1 ≤ i) || !(c 3 i == rv i)) (q + 1) i = some i := by rw [gfind, if_pos (by simp [he])]
          refine r_iload_n (pc := 40) h dX4_judge_40 rfl ?_
          refine r_ri t (pc := 41) dX4_judge_41 rfl ?_
          exact fin _ (by rw [hw, e]; rfl)
  refine r_aload_n (pc := 0) h dX4_judge_0 rfl ?_
  refine r_getE (pc := 1) h dX4_judge_1 f_X4_295 sh_35 rfl (hX.2.2.1.1) ?_
  refine r_istore_n (pc := 4) (ls2 := [_, _, _]) h dX4_judge_4 (Nat.le_of_ble_eq_true rfl) rfl ?_
  refine r_aload_n (pc := 5) h dX4_judge_5 rfl ?_
  refine r_iconst (pc := 6) h dX4_judge_6 ci_0 ?_
  refine r_putI (pc := 7) h dX4_judge_7 fw_X4_295 sh_35 rfl rfl rfl ?_
  refine r_iconst (pc := 10) h dX4_judge_10 ci_0 ?_
  refine r_istore_n (pc := 11) (ls2 := [_, _, _]) h dX4_judge_11 (Nat.le_of_ble_eq_true rfl) rfl ?_
  exact loop nr 0 (by omega) rfl
set_option maxRecDepth 100000 in
set_option maxHeartbeats 4000000 in
theorem y_image (hR : Rm g c) (hX : MSr g ck hk lt nl rv nr rf) (ho : gok c) (hd : c 7 3 ≤ 999) : gCi mX4_image [.ref 35] g (fun y g1 => y = nI (c 7 3) ∧ Rm g1 c ∧ MSr g1 c true lt nl rv nr rf ∧ frm 35 58 g g1) := by
  refine gCi_of (own := RX4) (ls0 := [.ref 35]) ⟨rfl, pl_X4⟩ rfl (Nat.le_of_ble_eq_true rfl) (fun G (h : gR RX4 cX4_image 2 80 G) (t : gTi cX4_image .int _ G) => ?_)
  have hR2 : Rm (gup g 35 20 (nI 1)) c := hR.up (by decide) (by decide)
  refine r_aload_n (pc := 0) h dX4_image_0 rfl ?_
  refine r_iconst (pc := 1) h dX4_image_1 ci_1 ?_
  refine r_putI (pc := 2) h dX4_image_2 fw_X4_166 sh_35 rfl (by decide) (by decide) ?_
  refine r_aload_n (pc := 5) h dX4_image_5 rfl ?_
  refine r_iconst (pc := 6) h dX4_image_6 ci_0 ?_
  refine r_iconst (pc := 7) h dX4_image_7 ci_1 ?_
  refine r_callVv (pc := 8) (As := [_, _]) h dX4_image_8 k_X4_142 gc_35 rfl ⟨Nat.le_of_ble_eq_true rfl, Nat.le_of_ble_eq_true rfl, Nat.le_of_ble_eq_true rfl⟩ (c_X4_passesAll_k0 hR2) (fun g1 hq => ?_)
  obtain ⟨hK, hF⟩ := hq
  have hR3 := hR2.kf hF
  refine r_aload_n (pc := 11) h dX4_image_11 rfl ?_
  refine r_getE (pc := 12) h dX4_image_12 f_X4_119 sh_35 rfl (hR3.dy) ?_
  refine r_ri t (pc := 15) dX4_image_15 rfl ?_
  obtain ⟨h1, ⟨h3, h4, h5⟩, ⟨h6, h7, h8⟩, h9⟩ := hX
  have hE : ∀ a b, ¬ (a = 48) → ¬ (a = 35 ∧ (b = 20 ∨ b = 21 ∨ b = 22)) → g1 a b = g a b := fun a b q1 q2 => (hF a b (by omega) (by omega)).trans (gup_o (by omega))
  exact ⟨rfl, hR3, ⟨⟨(hF 35 20 (by omega) (by omega)).trans gup_s, fun _ => hK⟩, ⟨(hE 35 16 (by decide) (by decide)).trans h3, h4, fun i hi => by rw [hE 44 i (by decide) (by omega)]; exact h5 i hi⟩, ⟨(hE 35 30 (by decide) (by decide)).trans h6, h7, fun i hi => by rw [hE 57 i (by decide) (by omega)]; exact h8 i hi⟩, fun j hj => (hE 36 j (by decide) (by omega)).trans (h9 j hj)⟩, (frm.rf.up (by decide)).tr hF.frm⟩
set_option maxRecDepth 100000 in
set_option maxHeartbeats 4000000 in
theorem y_on (hR : Rm g c) (hX : MSr g ck hk lt nl rv nr rf) (ho : gok c) (hd : c 7 3 ≤ 999) : gCi mX4_on [.ref 35] g (fun y g1 => y = ansI (whyB hk (-3)) (nI (ck 7 3)) ∧ Rm g1 (if hk = true then ck else c) ∧ MSr g1 ck hk lt nl rv nr (rfI rf (whyB hk (-3))) ∧ frm 35 58 g g1) := by
  refine gCi_of (own := RX4) (ls0 := [.ref 35]) ⟨rfl, pl_X4⟩ rfl (Nat.le_of_ble_eq_true rfl) (fun G (h : gR RX4 cX4_on 2 80 G) (t : gTi cX4_on .int _ G) => ?_)
  refine r_aload_n (pc := 0) h dX4_on_0 rfl ?_
  refine r_getE (pc := 1) h dX4_on_1 f_X4_166 sh_35 rfl (hX.1.1) ?_
  refine r_if_ne (pc := 4) (tgt := 14) h dX4_on_4 (by decide) (fun c4 => ?_) (fun c4 => ?_)
  · have hb : hk = true := by cases hk with | true => rfl | false => exact absurd rfl c4
    have hC := hX.1.2 hb
    have hw : whyB hk (-3) = 0 := (whyB_0 (by decide)).mpr hb
    refine r_aload_n (pc := 14) h dX4_on_14 rfl ?_
    refine r_iconst (pc := 15) h dX4_on_15 ci_0 ?_
    refine r_iconst (pc := 16) h dX4_on_16 ci_0 ?_
    refine r_callVv (pc := 17) (As := [_, _]) h dX4_on_17 k_X4_142 gc_35 rfl ⟨Nat.le_of_ble_eq_true rfl, Nat.le_of_ble_eq_true rfl, Nat.le_of_ble_eq_true rfl⟩ (c_X4_passesAll_u0 hC) (fun g1 hq => ?_)
    obtain ⟨hR2, hF⟩ := hq
    refine r_aload_n (pc := 20) h dX4_on_20 rfl ?_
    refine r_getE (pc := 21) h dX4_on_21 f_X4_119 sh_35 rfl (hR2.dy) ?_
    refine r_ri t (pc := 24) dX4_on_24 rfl ?_
    rw [if_pos hb]
    exact y_ok hR2 (hX.uf hF) hF.frm hw rfl
  · have hb : hk = false := (bI_0 _).mp c4
    have ew : whyB hk (-3) = -3 := by rw [hb]; rfl
    refine r_aload_n (pc := 7) h dX4_on_7 rfl ?_
    refine r_bipush (pc := 8) h dX4_on_8 cb_m3 ?_
    refine r_callVi (pc := 10) (As := [_]) h dX4_on_10 k_X4_77 gc_35 rfl ⟨Nat.le_of_ble_eq_true rfl, Nat.le_of_ble_eq_true rfl, Nat.le_of_ble_eq_true rfl⟩ (c_X4_no (okw_in okw_3 (by decide)).1) (fun x_10 g1 hq => ?_)
    obtain ⟨rfl, rfl⟩ := hq
    refine r_ri t (pc := 13) dX4_on_13 rfl ?_
    rw [if_neg (by rw [hb]; decide), ew]
    exact y_ref hR hX okw_3 (by decide)
set_option maxRecDepth 100000 in
set_option maxHeartbeats 4000000 in
theorem y_days (hR : Rm g c) (hX : MSr g ck hk lt nl rv nr rf) (ho : gok c) (hd : c 7 3 ≤ 999) (v : Int32) : gCi mX4_days [.ref 35, .int v] g (fun y g1 => y = ansI (dayW c v) (nI (sumN (daysC v.toNatClampNeg c 5) (daysC v.toNatClampNeg c 7 1))) ∧ Rm g1 (if dayW c v = 0 then daysC v.toNatClampNeg c else c) ∧ MSr g1 ck hk lt nl rv nr (rfI rf (dayW c v)) ∧ frm 35 58 g g1) := by
  refine gCi_of (own := RX4) (ls0 := [.ref 35, .int v, .null]) ⟨rfl, pl_X4⟩ rfl (Nat.le_of_ble_eq_true rfl) (fun G (h : gR RX4 cX4_days 6 240 G) (t : gTi cX4_days .int _ G) => ?_)
  have hok : okw (dayW c v) := okw_f okw_n okw_d okw_0
  refine r_iload_n (pc := 0) h dX4_days_0 rfl ?_
  refine r_iconst (pc := 1) h dX4_days_1 ci_1 ?_
  refine r_bipush (pc := 2) h dX4_days_2 cb_60 ?_
  refine r_callSi (pc := 4) (As := [_, _, _]) h dX4_days_4 k_X4_70 rfl ⟨Nat.le_of_ble_eq_true rfl, Nat.le_of_ble_eq_true rfl, Nat.le_of_ble_eq_true rfl⟩ (c_X4_bound _ _ _) (fun x_4 g1 hq => ?_)
  obtain ⟨rfl, rfl⟩ := hq
  refine r_istore_n (pc := 7) (ls2 := [_, _, _]) h dX4_days_7 (Nat.le_of_ble_eq_true rfl) rfl ?_
  refine r_iload_n (pc := 8) h dX4_days_8 rfl ?_
  refine r_if_ne (pc := 9) (tgt := 27) h dX4_days_9 (by decide) (fun c9 => ?_) (fun c9 => ?_)
  · have hw : ¬ dayW c v = 0 := fun q => c9 (fst_0.mp q).1
    have ew : dayW c v = bndI v (nI 1) (nI 60) := by unfold dayW fstI; rw [if_neg c9]
    refine r_iload_n (pc := 27) h dX4_days_27 rfl ?_
    refine r_if_eq (pc := 28) (tgt := 37) h dX4_days_28 (by decide) (fun c28 => absurd c28 (c9)) (fun c28 => ?_)
    refine r_aload_n (pc := 31) h dX4_days_31 rfl ?_
    refine r_iload_n (pc := 32) h dX4_days_32 rfl ?_
    refine r_callVi (pc := 33) (As := [_]) h dX4_days_33 k_X4_77 gc_35 rfl ⟨Nat.le_of_ble_eq_true rfl, Nat.le_of_ble_eq_true rfl, Nat.le_of_ble_eq_true rfl⟩ (c_X4_no (by first | (rw [← ew]; exact (okw_in hok hw).1) | exact (okw_in okw_6 (by decide)).1)) (fun x_33 g1 hq => ?_)
    obtain ⟨rfl, rfl⟩ := hq
    refine r_ri t (pc := 36) dX4_days_36 rfl ?_
    rw [← ew, if_neg hw]
    exact y_ref hR hX hok hw
  · obtain ⟨n, hn1, hn, rfl⟩ := bnd_nat (by decide) (by decide) c9
    have en : (nI n).toNatClampNeg = n := nI_clamp (by omega)
    refine r_aload_n (pc := 12) h dX4_days_12 rfl ?_
    refine r_getE (pc := 13) h dX4_days_13 f_X4_119 sh_35 rfl (hR.dy) ?_
    refine r_iload_n (pc := 16) h dX4_days_16 rfl ?_
    refine r_iadd (pc := 17) h dX4_days_17 ?_
    refine r_sipush (pc := 18) h dX4_days_18 cs_999 ?_
    refine r_icmp_le (pc := 21) (tgt := 27) h dX4_days_21 (by decide) (fun c21 => ?_) (fun c21 => ?_)
    · rw [nI_add] at c21
      have h9 : c 7 3 + n ≤ 999 := (nI_leI (by omega) (by decide)).mp c21
      have hw : dayW c (nI n) = 0 := fst_0.mpr ⟨c9, by rw [en]; exact if_0.mpr h9, rfl⟩
      refine r_iload_n (pc := 27) h dX4_days_27 rfl ?_
      refine r_if_eq (pc := 28) (tgt := 37) h dX4_days_28 (by decide) (fun c28 => ?_) (fun c28 => absurd (c9) c28)
      refine r_aload_n (pc := 37) h dX4_days_37 rfl ?_
      refine r_iload_n (pc := 38) h dX4_days_38 rfl ?_
      refine r_callVv (pc := 39) (As := [_]) h dX4_days_39 k_X4_122 gc_35 rfl ⟨Nat.le_of_ble_eq_true rfl, Nat.le_of_ble_eq_true rfl, Nat.le_of_ble_eq_true rfl⟩ (c_X4_goes hR ho (by omega)) (fun g1 hq => ?_)
      obtain ⟨hR2, hF⟩ := hq
      refine r_aload_n (pc := 42) h dX4_days_42 rfl ?_
      refine r_aload_n (pc := 43) h dX4_days_43 rfl ?_
      refine r_getR (pc := 44) h dX4_days_44 f_X4_28 sh_35 rfl ?_
      refine r_callVi (pc := 47) (As := [_]) h dX4_days_47 k_X4_212 gc_35 rfl ⟨Nat.le_of_ble_eq_true rfl, Nat.le_of_ble_eq_true rfl, Nat.le_of_ble_eq_true rfl⟩ (c_X4_allOf_42 hR2) (fun x_47 g1 hq => ?_)
      obtain ⟨rfl, hg2⟩ := hq
      rw [hg2]
      refine r_ri t (pc := 50) dX4_days_50 rfl ?_
      rw [if_pos hw, en]
      exact y_ok hR2 (hX.fm hF) hF.frm hw rfl
    · rw [nI_add] at c21
      have h9 : ¬ c 7 3 + n ≤ 999 := fun q => c21 (nI_le q (by decide))
      have hw : ¬ dayW c (nI n) = 0 := fun q => h9 (by have := if_0.mp (fst_0.mp q).2.1; rwa [en] at this)
      have ew : dayW c (nI n) = -6 := by unfold dayW fstI; rw [if_pos c9, en, if_neg h9]; rfl
      refine r_bipush (pc := 24) h dX4_days_24 cb_m6 ?_
      refine r_istore_n (pc := 26) (ls2 := [_, _, _]) h dX4_days_26 (Nat.le_of_ble_eq_true rfl) rfl ?_
      refine r_iload_n (pc := 27) h dX4_days_27 rfl ?_
      refine r_if_eq (pc := 28) (tgt := 37) h dX4_days_28 (by decide) (fun c28 => absurd c28 (by decide)) (fun c28 => ?_)
      refine r_aload_n (pc := 31) h dX4_days_31 rfl ?_
      refine r_iload_n (pc := 32) h dX4_days_32 rfl ?_
      refine r_callVi (pc := 33) (As := [_]) h dX4_days_33 k_X4_77 gc_35 rfl ⟨Nat.le_of_ble_eq_true rfl, Nat.le_of_ble_eq_true rfl, Nat.le_of_ble_eq_true rfl⟩ (c_X4_no (by first | (rw [← ew]; exact (okw_in hok hw).1) | exact (okw_in okw_6 (by decide)).1)) (fun x_33 g1 hq => ?_)
      obtain ⟨rfl, rfl⟩ := hq
      refine r_ri t (pc := 36) dX4_days_36 rfl ?_
      rw [← ew, if_neg hw]
      exact y_ref hR hX hok hw
set_option maxRecDepth 100000 in
set_option maxHeartbeats 4000000 in
theorem y_count (hR : Rm g c) (hX : MSr g ck hk lt nl rv nr rf) (ho : gok c) (hd : c 7 3 ≤ 999) (w : Int32) : gCi mX4_count [.ref 35, .int w] g (fun y g1 => y = cntV c nl nr rf w ∧ Rm g1 c ∧ MSr g1 ck hk lt nl rv nr rf ∧ frm 35 58 g g1) := by
  refine gCi_of (own := RX4) (ls0 := [.ref 35, .int w]) ⟨rfl, pl_X4⟩ rfl (Nat.le_of_ble_eq_true rfl) (fun G (h : gR RX4 cX4_count 1 40 G) (t : gTi cX4_count .int _ G) => ?_)
  refine r_iload_n (pc := 0) h dX4_count_0 rfl ?_
  refine r_bipush (pc := 1) h dX4_count_1 cb_11 ?_
  refine r_bipush (pc := 3) h dX4_count_3 cb_16 ?_
  refine r_callSi (pc := 5) (As := [_, _, _]) h dX4_count_5 k_X4_88 rfl ⟨Nat.le_of_ble_eq_true rfl, Nat.le_of_ble_eq_true rfl, Nat.le_of_ble_eq_true rfl⟩ (c_X4_isIn _ _ _) (fun x_5 g1 hq => ?_)
  obtain ⟨rfl, rfl⟩ := hq
  refine r_if_eq (pc := 8) (tgt := 21) h dX4_count_8 (by decide) (fun c8 => ?_) (fun c8 => ?_)
  · have hb : isInB w (nI 11) (nI 16) = false := (bI_0 (isInB w (nI 11) (nI 16))).mp c8
    refine r_iload_n (pc := 21) h dX4_count_21 rfl ?_
    by_cases hb2 : inB w 8 = true
    · obtain ⟨k, hkn, rfl⟩ := (inB_iff (by decide)).mp hb2
      have hcase : k = 0 ∨ k = 1 ∨ k = 2 ∨ k = 3 ∨ k = 4 ∨ k = 5 ∨ k = 6 ∨ k = 7 := by omega
      rcases hcase with rfl | rfl | rfl | rfl | rfl | rfl | rfl | rfl
      · refine r_tabIn (pc := 22) (o := 46) (tgt := 68) h dX4_count_22 (by decide) (by decide) (by decide) (by decide) ?_
        refine r_aload_n (pc := 68) h dX4_count_68 rfl ?_
        refine r_getE (pc := 69) h dX4_count_69 f_X4_60 sh_35 rfl (hR.ns) ?_
        refine r_ri t (pc := 72) dX4_count_72 rfl ?_
        exact ⟨by rw [cntV, hb, hb2]; rfl, hR, hX, frm.rf⟩
      · refine r_tabIn (pc := 22) (o := 51) (tgt := 73) h dX4_count_22 (by decide) (by decide) (by decide) (by decide) ?_
        refine r_aload_n (pc := 73) h dX4_count_73 rfl ?_
        refine r_getE (pc := 74) h dX4_count_74 f_X4_67 sh_35 rfl (hR.nc) ?_
        refine r_ri t (pc := 77) dX4_count_77 rfl ?_
        exact ⟨by rw [cntV, hb, hb2]; rfl, hR, hX, frm.rf⟩
      · refine r_tabIn (pc := 22) (o := 56) (tgt := 78) h dX4_count_22 (by decide) (by decide) (by decide) (by decide) ?_
        refine r_aload_n (pc := 78) h dX4_count_78 rfl ?_
        refine r_getE (pc := 79) h dX4_count_79 f_X4_119 sh_35 rfl (hR.dy) ?_
        refine r_ri t (pc := 82) dX4_count_82 rfl ?_
        exact ⟨by rw [cntV, hb, hb2]; rfl, hR, hX, frm.rf⟩
      · refine r_tabIn (pc := 22) (o := 61) (tgt := 83) h dX4_count_22 (by decide) (by decide) (by decide) (by decide) ?_
        refine r_aload_n (pc := 83) h dX4_count_83 rfl ?_
        refine r_getE (pc := 84) h dX4_count_84 f_X4_163 sh_35 rfl (hR.pd) ?_
        refine r_ri t (pc := 87) dX4_count_87 rfl ?_
        exact ⟨by rw [cntV, hb, hb2]; rfl, hR, hX, frm.rf⟩
      · refine r_tabIn (pc := 22) (o := 66) (tgt := 88) h dX4_count_22 (by decide) (by decide) (by decide) (by decide) ?_
        refine r_aload_n (pc := 88) h dX4_count_88 rfl ?_
        refine r_aload_n (pc := 89) h dX4_count_89 rfl ?_
        refine r_getR (pc := 90) h dX4_count_90 f_X4_28 sh_35 rfl ?_
        refine r_callVi (pc := 93) (As := [_]) h dX4_count_93 k_X4_212 gc_35 rfl ⟨Nat.le_of_ble_eq_true rfl, Nat.le_of_ble_eq_true rfl, Nat.le_of_ble_eq_true rfl⟩ (c_X4_allOf_42 hR) (fun x_93 g1 hq => ?_)
        obtain ⟨rfl, rfl⟩ := hq
        refine r_ri t (pc := 96) dX4_count_96 rfl ?_
        exact ⟨by rw [cntV, hb, hb2]; rfl, hR, hX, frm.rf⟩
      · refine r_tabIn (pc := 22) (o := 75) (tgt := 97) h dX4_count_22 (by decide) (by decide) (by decide) (by decide) ?_
        refine r_aload_n (pc := 97) h dX4_count_97 rfl ?_
        refine r_aload_n (pc := 98) h dX4_count_98 rfl ?_
        refine r_getR (pc := 99) h dX4_count_99 f_X4_22 sh_35 rfl ?_
        refine r_callVi (pc := 102) (As := [_]) h dX4_count_102 k_X4_212 gc_35 rfl ⟨Nat.le_of_ble_eq_true rfl, Nat.le_of_ble_eq_true rfl, Nat.le_of_ble_eq_true rfl⟩ (c_X4_allOf_40 hR) (fun x_102 g1 hq => ?_)
        obtain ⟨rfl, rfl⟩ := hq
        refine r_ri t (pc := 105) dX4_count_105 rfl ?_
        exact ⟨by rw [cntV, hb, hb2]; rfl, hR, hX, frm.rf⟩
      · refine r_tabIn (pc := 22) (o := 84) (tgt := 106) h dX4_count_22 (by decide) (by decide) (by decide) (by decide) ?_
        refine r_aload_n (pc := 106) h dX4_count_106 rfl ?_
        refine r_getE (pc := 107) h dX4_count_107 f_X4_295 sh_35 rfl (hX.2.2.1.1) ?_
        refine r_ri t (pc := 110) dX4_count_110 rfl ?_
        exact ⟨by rw [cntV, hb, hb2]; rfl, hR, hX, frm.rf⟩
      · refine r_tabIn (pc := 22) (o := 89) (tgt := 111) h dX4_count_22 (by decide) (by decide) (by decide) (by decide) ?_
        refine r_aload_n (pc := 111) h dX4_count_111 rfl ?_
        refine r_getE (pc := 112) h dX4_count_112 f_X4_74 sh_35 rfl (hX.2.1.1) ?_
        refine r_ri t (pc := 115) dX4_count_115 rfl ?_
        exact ⟨by rw [cntV, hb, hb2]; rfl, hR, hX, frm.rf⟩
    · have hb2 : inB w 8 = false := by simpa using hb2
      have ho8 := inB_out (by decide) hb2
      refine r_tabOut (pc := 22) (tgt := 116) h dX4_count_22 (by omega) (by decide) ?_
      refine r_bipush (pc := 116) h dX4_count_116 cb_m9 ?_
      refine r_ri t (pc := 118) dX4_count_118 rfl ?_
      exact ⟨by rw [cntV, hb, hb2]; rfl, hR, hX, frm.rf⟩
  · have hb : isInB w (nI 11) (nI 16) = true := by simpa using mt (bI_0 (isInB w (nI 11) (nI 16))).mpr c8
    have hb0 := of_decide_eq_true (show decide (¬ w < nI 11 ∧ ¬ nI 16 < w) = true from hb)
    obtain ⟨n, hn1, hn2, rfl⟩ := bnd_nat (v := w) (l := 11) (m := 16) (by decide) (by decide) (bnd_0.mpr hb0)
    have hsub : nI n - nI 10 = nI (n - 10) := nI_sub (by omega)
    have hix : vp_in (nI n - nI 10) 7 ∧ g1 36 (nI n - nI 10).toNatClampNeg = rf (nI n - nI 10).toNatClampNeg := by rw [hsub, nI_clamp (by omega)]; exact ⟨vp_in_nI (by omega) (by decide), hX.2.2.2 _ (by omega)⟩
    refine r_aload_n (pc := 11) h dX4_count_11 rfl ?_
    refine r_getR (pc := 12) h dX4_count_12 f_X4_7 sh_35 rfl ?_
    refine r_iload_n (pc := 15) h dX4_count_15 rfl ?_
    refine r_bipush (pc := 16) h dX4_count_16 cb_10 ?_
    refine r_isub (pc := 18) h dX4_count_18 ?_
    refine r_ialoadE (pc := 19) h dX4_count_19 sh_36 (hix) ?_
    refine r_ri t (pc := 20) dX4_count_20 rfl ?_
    exact ⟨by rw [cntV, hb, if_pos rfl], hR, hX, frm.rf⟩
set_option maxRecDepth 100000 in
set_option maxHeartbeats 4000000 in
theorem y_left (hR : Rm g c) (hX : MSr g ck hk lt nl rv nr rf) (ho : gok c) (hd : c 7 3 ≤ 999) : gCi mX4_left [.ref 35] g (fun y g1 => y = lefV c ∧ Rm g1 c ∧ MSr g1 ck hk lt nl rv nr rf ∧ frm 35 58 g g1) := by
  refine gCi_of (own := RX4) (ls0 := [.ref 35, .null, .null]) ⟨rfl, pl_X4⟩ rfl (Nat.le_of_ble_eq_true rfl) (fun G (h : gR RX4 cX4_left 1 40 G) (t : gTi cX4_left .int _ G) => ?_)
  have hn5 := hR.n5
  have hn6 := hR.n6
  have loop : ∀ n i (a : Int32), i + n = c 7 0 → gfold (fun s b => if wr c s = none then b ||| (nI 1 <<< (nI s &&& 31)) else b) n i a = lefV c → G 4 [.ref 35, .int a, .int (nI i)] [] g := by
    intro n
    induction n with
    | zero =>
      intro i a hi hw
      refine r_iload_n (pc := 4) h dX4_left_4 rfl ?_
      refine r_aload_n (pc := 5) h dX4_left_5 rfl ?_
      refine r_getE (pc := 6) h dX4_left_6 f_X4_60 sh_35 rfl (hR.ns) ?_
      refine r_icmp_ge (pc := 9) (tgt := 36) h dX4_left_9 (by decide) (fun c9 => ?_) (fun c9 => absurd (nI_le (by omega) (by omega)) c9)
      refine r_iload_n (pc := 36) h dX4_left_36 rfl ?_
      refine r_ri t (pc := 37) dX4_left_37 rfl ?_
      exact ⟨hw, hR, hX, frm.rf⟩
    | succ n ih =>
      intro i a hin hw
      have hi : i < c 7 0 := by omega
      refine r_iload_n (pc := 4) h dX4_left_4 rfl ?_
      refine r_aload_n (pc := 5) h dX4_left_5 rfl ?_
      refine r_getE (pc := 6) h dX4_left_6 f_X4_60 sh_35 rfl (hR.ns) ?_
      refine r_icmp_ge (pc := 9) (tgt := 36) h dX4_left_9 (by decide) (fun c9 => absurd c9 (nI_ge hi (by omega))) (fun c9 => ?_)
      refine r_iload_n (pc := 12) h dX4_left_12 rfl ?_
      refine r_aload_n (pc := 13) h dX4_left_13 rfl ?_
      refine r_iload_n (pc := 14) h dX4_left_14 rfl ?_
      refine r_callVi (pc := 15) (As := [_]) h dX4_left_15 k_X4_169 gc_35 rfl ⟨Nat.le_of_ble_eq_true rfl, Nat.le_of_ble_eq_true rfl, Nat.le_of_ble_eq_true rfl⟩ (c_X4_wearerOf hR ho (by omega)) (fun x_15 g1 hq => ?_)
      obtain ⟨rfl, hg1⟩ := hq
      rw [hg1]
      refine r_if_ge (pc := 18) (tgt := 27) h dX4_left_18 (by decide) (fun c18 => ?_) (fun c18 => ?_)
      · rw [gfold, if_neg (fun q => absurd ((wr_neg hn5).mpr q) (Int32.not_lt.mpr c18))] at hw
        have ez : a ||| nI 0 = a := by rw [nI00]; exact Int32.or_zero
        refine r_iconst (pc := 27) h dX4_left_27 ci_0 ?_
        refine r_ior (pc := 28) h dX4_left_28 ?_
        try rw [ez]
        refine r_istore_n (pc := 29) (ls2 := [_, _, _]) h dX4_left_29 (Nat.le_of_ble_eq_true rfl) rfl ?_
        refine r_iinc (pc := 30) (ls2 := [_, _, _]) h dX4_left_30 rfl (ic1 _) rfl ?_
        refine r_goto (pc := 33) (tgt := 4) h dX4_left_33 (by decide) ?_
        exact ih (i + 1) _ (by omega) hw
      · rw [gfold, if_pos ((wr_neg hn5).mp (Int32.not_le.mp c18))] at hw
        refine r_iconst (pc := 21) h dX4_left_21 ci_1 ?_
        refine r_iload_n (pc := 22) h dX4_left_22 rfl ?_
        refine r_ishl (pc := 23) h dX4_left_23 ?_
        refine r_goto (pc := 24) (tgt := 28) h dX4_left_24 (by decide) ?_
        refine r_ior (pc := 28) h dX4_left_28 ?_
        try rw [ez]
        refine r_istore_n (pc := 29) (ls2 := [_, _, _]) h dX4_left_29 (Nat.le_of_ble_eq_true rfl) rfl ?_
        refine r_iinc (pc := 30) (ls2 := [_, _, _]) h dX4_left_30 rfl (ic1 _) rfl ?_
        refine r_goto (pc := 33) (tgt := 4) h dX4_left_33 (by decide) ?_
        exact ih (i + 1) _ (by omega) hw
  refine r_iconst (pc := 0) h dX4_left_0 ci_0 ?_
  refine r_istore_n (pc := 1) (ls2 := [_, _, _]) h dX4_left_1 (Nat.le_of_ble_eq_true rfl) rfl ?_
  refine r_iconst (pc := 2) h dX4_left_2 ci_0 ?_
  refine r_istore_n (pc := 3) (ls2 := [_, _, _]) h dX4_left_3 (Nat.le_of_ble_eq_true rfl) rfl ?_
  exact loop (c 7 0) 0 _ (by omega) rfl
set_option maxRecDepth 100000 in
set_option maxHeartbeats 4000000 in
theorem c_X4_aheadOf {g : gG} {c : gCt} (hR : Rm g c) (ho : gok c) {s : Nat} (hs : s < c 7 0) : gCi mX4_aheadOf [.ref 35, .int (nI s)] g (fun y g1 => y = nI (ahd c s) ∧ g1 = g) := by
  refine gCi_of (own := RX4) (ls0 := [.ref 35, .int (nI s), .null, .null]) ⟨rfl, pl_X4⟩ rfl (Nat.le_of_ble_eq_true rfl) (fun G (h : gR RX4 cX4_aheadOf 1 40 G) (t : gTi cX4_aheadOf .int _ G) => ?_)
  have hn6 := hR.n6
  have hcl : ∀ k, k < c 7 0 → cvr c k ≤ 31 := fun k hk => covN_le (ho.2.2.1 k hk).2.1 _
  have hs31 := hcl s hs
  have loop : ∀ n i a, i + n = c 7 0 → gfold (ahdF c s) n i a = ahd c s → G 4 [.ref 35, .int (nI s), .int (nI a), .int (nI i)] [] g := by
    intro n
    induction n with
    | zero =>
      intro i a hi hw
      refine r_iload_n (pc := 4) h dX4_aheadOf_4 rfl ?_
      refine r_aload_n (pc := 5) h dX4_aheadOf_5 rfl ?_
      refine r_getE (pc := 6) h dX4_aheadOf_6 f_X4_60 sh_35 rfl (hR.ns) ?_
      refine r_icmp_ge (pc := 9) (tgt := 57) h dX4_aheadOf_9 (by decide) (fun c9 => ?_) (fun c9 => absurd (nI_le (by omega) (by omega)) c9)
      refine r_iload_n (pc := 57) h dX4_aheadOf_57 rfl ?_
      refine r_ri t (pc := 58) dX4_aheadOf_58 rfl ?_
      exact ⟨by rw [← hw]; rfl, rfl⟩
    | succ n ih =>
      intro i a hin hw
      have hi : i < c 7 0 := by omega
      have hi31 := hcl i hi
      refine r_iload_n (pc := 4) h dX4_aheadOf_4 rfl ?_
      refine r_aload_n (pc := 5) h dX4_aheadOf_5 rfl ?_
      refine r_getE (pc := 6) h dX4_aheadOf_6 f_X4_60 sh_35 rfl (hR.ns) ?_
      refine r_icmp_ge (pc := 9) (tgt := 57) h dX4_aheadOf_9 (by decide) (fun c9 => absurd c9 (nI_ge hi (by omega))) (fun c9 => ?_)
      refine r_iload_n (pc := 12) h dX4_aheadOf_12 rfl ?_
      refine r_aload_n (pc := 13) h dX4_aheadOf_13 rfl ?_
      refine r_iload_n (pc := 14) h dX4_aheadOf_14 rfl ?_
      refine r_callVi (pc := 15) (As := [_]) h dX4_aheadOf_15 k_X4_172 gc_35 rfl ⟨Nat.le_of_ble_eq_true rfl, Nat.le_of_ble_eq_true rfl, Nat.le_of_ble_eq_true rfl⟩ (c_X4_covers hR ho hi) (fun x_15 g1 hq => ?_)
      obtain ⟨rfl, hg1⟩ := hq
      rw [hg1]
      refine r_aload_n (pc := 18) h dX4_aheadOf_18 rfl ?_
      refine r_iload_n (pc := 19) h dX4_aheadOf_19 rfl ?_
      refine r_callVi (pc := 20) (As := [_]) h dX4_aheadOf_20 k_X4_172 gc_35 rfl ⟨Nat.le_of_ble_eq_true rfl, Nat.le_of_ble_eq_true rfl, Nat.le_of_ble_eq_true rfl⟩ (c_X4_covers hR ho hs) (fun x_20 g1 hq => ?_)
      obtain ⟨rfl, hg1⟩ := hq
      rw [hg1]
      refine r_icmp_gt (pc := 23) (tgt := 44) h dX4_aheadOf_23 (by decide) (fun c23 => ?_) (fun c23 => ?_)
      · have q1 : cvr c s < cvr c i := (nI_ltI (by omega) (by omega)).mp c23
        have e : ahdF c s i a = a + 1 := if_pos (Or.inl q1)
        refine r_iconst (pc := 44) h dX4_aheadOf_44 ci_1 ?_
        refine r_goto (pc := 45) (tgt := 49) h dX4_aheadOf_45 (by decide) ?_
        refine r_iadd (pc := 49) h dX4_aheadOf_49 ?_
        refine r_top (y := nI (ahdF c s i a)) h (by rw [nI_add, e]) ?_
        refine r_istore_n (pc := 50) (ls2 := [_, _, _, _]) h dX4_aheadOf_50 (Nat.le_of_ble_eq_true rfl) rfl ?_
        refine r_iinc (pc := 51) (ls2 := [_, _, _, _]) h dX4_aheadOf_51 rfl (ic1 _) rfl ?_
        refine r_goto (pc := 54) (tgt := 4) h dX4_aheadOf_54 (by decide) ?_
        exact ih (i + 1) _ (by omega) hw
      · have q1 : ¬ cvr c s < cvr c i := fun q => c23 (nI_lt q (by omega))
        refine r_aload_n (pc := 26) h dX4_aheadOf_26 rfl ?_
        refine r_iload_n (pc := 27) h dX4_aheadOf_27 rfl ?_
        refine r_callVi (pc := 28) (As := [_]) h dX4_aheadOf_28 k_X4_172 gc_35 rfl ⟨Nat.le_of_ble_eq_true rfl, Nat.le_of_ble_eq_true rfl, Nat.le_of_ble_eq_true rfl⟩ (c_X4_covers hR ho hi) (fun x_28 g1 hq => ?_)
        obtain ⟨rfl, hg1⟩ := hq
        rw [hg1]
        refine r_aload_n (pc := 31) h dX4_aheadOf_31 rfl ?_
        refine r_iload_n (pc := 32) h dX4_aheadOf_32 rfl ?_
        refine r_callVi (pc := 33) (As := [_]) h dX4_aheadOf_33 k_X4_172 gc_35 rfl ⟨Nat.le_of_ble_eq_true rfl, Nat.le_of_ble_eq_true rfl, Nat.le_of_ble_eq_true rfl⟩ (c_X4_covers hR ho hs) (fun x_33 g1 hq => ?_)
        obtain ⟨rfl, hg1⟩ := hq
        rw [hg1]
        refine r_icmp_ne (pc := 36) (tgt := 48) h dX4_aheadOf_36 (by decide) (fun c36 => ?_) (fun c36 => ?_)
        · have q2 : ¬ cvr c i = cvr c s := fun q => c36 (by rw [q])
          have e : ahdF c s i a = a + 0 := if_neg (by omega)
          refine r_iconst (pc := 48) h dX4_aheadOf_48 ci_0 ?_
          refine r_iadd (pc := 49) h dX4_aheadOf_49 ?_
          refine r_top (y := nI (ahdF c s i a)) h (by rw [nI_add, e]) ?_
          refine r_istore_n (pc := 50) (ls2 := [_, _, _, _]) h dX4_aheadOf_50 (Nat.le_of_ble_eq_true rfl) rfl ?_
          refine r_iinc (pc := 51) (ls2 := [_, _, _, _]) h dX4_aheadOf_51 rfl (ic1 _) rfl ?_
          refine r_goto (pc := 54) (tgt := 4) h dX4_aheadOf_54 (by decide) ?_
          exact ih (i + 1) _ (by omega) hw
        · have q2 : cvr c i = cvr c s := (nI_eq (by omega) (by omega)).mp c36
          refine r_iload_n (pc := 39) h dX4_aheadOf_39 rfl ?_
          refine r_iload_n (pc := 40) h dX4_aheadOf_40 rfl ?_
          refine r_icmp_ge (pc := 41) (tgt := 48) h dX4_aheadOf_41 (by decide) (fun c41 => ?_) (fun c41 => ?_)
          · have q3 : s ≤ i := (nI_leI (by omega) (by omega)).mp c41
            have e : ahdF c s i a = a + 0 := if_neg (by omega)
            refine r_iconst (pc := 48) h dX4_aheadOf_48 ci_0 ?_
            refine r_iadd (pc := 49) h dX4_aheadOf_49 ?_
            refine r_top (y := nI (ahdF c s i a)) h (by rw [nI_add, e]) ?_
            refine r_istore_n (pc := 50) (ls2 := [_, _, _, _]) h dX4_aheadOf_50 (Nat.le_of_ble_eq_true rfl) rfl ?_
            refine r_iinc (pc := 51) (ls2 := [_, _, _, _]) h dX4_aheadOf_51 rfl (ic1 _) rfl ?_
            refine r_goto (pc := 54) (tgt := 4) h dX4_aheadOf_54 (by decide) ?_
            exact ih (i + 1) _ (by omega) hw
          · have q3 : ¬ s ≤ i := fun q => c41 (nI_le q (by omega))
            have e : ahdF c s i a = a + 1 := if_pos (by omega)
            refine r_iconst (pc := 44) h dX4_aheadOf_44 ci_1 ?_
            refine r_goto (pc := 45) (tgt := 49) h dX4_aheadOf_45 (by decide) ?_
            refine r_iadd (pc := 49) h dX4_aheadOf_49 ?_
            refine r_top (y := nI (ahdF c s i a)) h (by rw [nI_add, e]) ?_
            refine r_istore_n (pc := 50) (ls2 := [_, _, _, _]) h dX4_aheadOf_50 (Nat.le_of_ble_eq_true rfl) rfl ?_
            refine r_iinc (pc := 51) (ls2 := [_, _, _, _]) h dX4_aheadOf_51 rfl (ic1 _) rfl ?_
            refine r_goto (pc := 54) (tgt := 4) h dX4_aheadOf_54 (by decide) ?_
            exact ih (i + 1) _ (by omega) hw
  refine r_iconst (pc := 0) h dX4_aheadOf_0 ci_0 ?_
  refine r_istore_n (pc := 1) (ls2 := [_, _, _, _]) h dX4_aheadOf_1 (Nat.le_of_ble_eq_true rfl) rfl ?_
  refine r_iconst (pc := 2) h dX4_aheadOf_2 ci_0 ?_
  refine r_istore_n (pc := 3) (ls2 := [_, _, _, _]) h dX4_aheadOf_3 (Nat.le_of_ble_eq_true rfl) rfl ?_
  exact loop (c 7 0) 0 0 (by omega) rfl
set_option maxRecDepth 100000 in
set_option maxHeartbeats 4000000 in
theorem y_order (hR : Rm g c) (hX : MSr g ck hk lt nl rv nr rf) (ho : gok c) (hd : c 7 3 ≤ 999) (v : Int32) : gCi mX4_order [.ref 35, .int v] g (fun y g1 => y = ansI (ordW v) (oI (ordV c v)) ∧ Rm g1 (c) ∧ MSr g1 ck hk lt nl rv nr (rfI rf (ordW v)) ∧ frm 35 58 g g1) := by
  refine gCi_of (own := RX4) (ls0 := [.ref 35, .int v, .null]) ⟨rfl, pl_X4⟩ rfl (Nat.le_of_ble_eq_true rfl) (fun G (h : gR RX4 cX4_order 2 80 G) (t : gTi cX4_order .int _ G) => ?_)
  have hn6 := hR.n6
  have loop : ordW v = 0 → ∀ n i, i + n = c 7 0 → ordV c v = gfind (fun s => decide (nI (ahd c s) = v)) n i → G 13 [.ref 35, .int v, .int (nI i)] [] g := by
    intro hw n
    induction n with
    | zero =>
      intro i hi hq
      refine r_iload_n (pc := 13) h dX4_order_13 rfl ?_
      refine r_aload_n (pc := 14) h dX4_order_14 rfl ?_
      refine r_getE (pc := 15) h dX4_order_15 f_X4_60 sh_35 rfl (hR.ns) ?_
      refine r_icmp_ge (pc := 18) (tgt := 38) h dX4_order_18 (by decide) (fun c18 => ?_) (fun c18 => absurd (nI_le (by omega) (by omega)) c18)
      refine r_bipush (pc := 38) h dX4_order_38 cb_m9 ?_
      refine r_ri t (pc := 40) dX4_order_40 rfl ?_
      exact y_ok hR hX frm.rf hw (by rw [hq]; rfl)
    | succ n ih =>
      intro i hin hq
      have hi : i < c 7 0 := by omega
      refine r_iload_n (pc := 13) h dX4_order_13 rfl ?_
      refine r_aload_n (pc := 14) h dX4_order_14 rfl ?_
      refine r_getE (pc := 15) h dX4_order_15 f_X4_60 sh_35 rfl (hR.ns) ?_
      refine r_icmp_ge (pc := 18) (tgt := 38) h dX4_order_18 (by decide) (fun c18 => absurd c18 (nI_ge hi (by omega))) (fun c18 => ?_)
      refine r_aload_n (pc := 21) h dX4_order_21 rfl ?_
      refine r_iload_n (pc := 22) h dX4_order_22 rfl ?_
      refine r_callVi (pc := 23) (As := [_]) h dX4_order_23 k_X4_273 gc_35 rfl ⟨Nat.le_of_ble_eq_true rfl, Nat.le_of_ble_eq_true rfl, Nat.le_of_ble_eq_true rfl⟩ (c_X4_aheadOf hR ho hi) (fun x_23 g1 hq1 => ?_)
      obtain ⟨rfl, hg1⟩ := hq1
      rw [hg1]
      refine r_iload_n (pc := 26) h dX4_order_26 rfl ?_
      refine r_icmp_ne (pc := 27) (tgt := 32) h dX4_order_27 (by decide) (fun c27 => ?_) (fun c27 => ?_)
      · refine r_iinc (pc := 32) (ls2 := [_, _, _]) h dX4_order_32 rfl (ic1 _) rfl ?_
        refine r_goto (pc := 35) (tgt := 13) h dX4_order_35 (by decide) ?_
        exact ih (i + 1) (by omega) (by rw [hq, gfind, if_neg (by simpa using c27)])
      · refine r_iload_n (pc := 30) h dX4_order_30 rfl ?_
        refine r_ri t (pc := 31) dX4_order_31 rfl ?_
        exact y_ok hR hX frm.rf hw (by rw [hq, gfind, if_pos (by simpa using c27)]; rfl)
  refine r_iload_n (pc := 0) h dX4_order_0 rfl ?_
  refine r_if_ge (pc := 1) (tgt := 11) h dX4_order_1 (by decide) (fun c1 => ?_) (fun c1 => ?_)
  · have hw : ordW v = 0 := if_neg (Int32.not_lt.mpr c1)
    refine r_iconst (pc := 11) h dX4_order_11 ci_0 ?_
    refine r_istore_n (pc := 12) (ls2 := [_, _, _]) h dX4_order_12 (Nat.le_of_ble_eq_true rfl) rfl ?_
    exact loop hw (c 7 0) 0 (by omega) rfl
  · have hw : ordW v = -4 := if_pos (Int32.not_le.mp c1)
    refine r_aload_n (pc := 4) h dX4_order_4 rfl ?_
    refine r_bipush (pc := 5) h dX4_order_5 cb_m4 ?_
    refine r_callVi (pc := 7) (As := [_]) h dX4_order_7 k_X4_77 gc_35 rfl ⟨Nat.le_of_ble_eq_true rfl, Nat.le_of_ble_eq_true rfl, Nat.le_of_ble_eq_true rfl⟩ (c_X4_no (okw_in okw_4 (by decide)).1) (fun x_7 g1 hq => ?_)
    obtain ⟨rfl, rfl⟩ := hq
    refine r_ri t (pc := 10) dX4_order_10 rfl ?_
    rw [hw]
    exact y_ref hR hX okw_4 (by decide)
set_option maxRecDepth 100000 in
set_option maxHeartbeats 4000000 in
theorem y_heard (hR : Rm g c) (hX : MSr g ck hk lt nl rv nr rf) (ho : gok c) (hd : c 7 3 ≤ 999) (v : Int32) : gCi mX4_heard [.ref 35, .int v] g (fun y g1 => y = ansI (whyB (inB v 6) (-1)) (nI (heaV c v.toNatClampNeg)) ∧ Rm g1 (c) ∧ MSr g1 ck hk lt nl rv nr (rfI rf (whyB (inB v 6) (-1))) ∧ frm 35 58 g g1) := by
  refine gCi_of (own := RX4) (ls0 := [.ref 35, .int v, .null, .null]) ⟨rfl, pl_X4⟩ rfl (Nat.le_of_ble_eq_true rfl) (fun G (h : gR RX4 cX4_heard 1 40 G) (t : gTi cX4_heard .int _ G) => ?_)
  have hn5 := hR.n5
  have loop : ∀ k, k < 6 → whyB (inB (nI k) 6) (-1) = 0 → v = nI k → ∀ n i a, i + n = c 7 1 → gfold (fun i n => if k < c 5 i then n + 1 else n) n i a = heaV c k → G 19 [.ref 35, .int (nI k), .int (nI a), .int (nI i)] [] g := by
    intro k hk6 hw hv n
    subst hv
    have ek : (nI k).toNatClampNeg = k := nI_clamp (by omega)
    induction n with
    | zero =>
      intro i a hi hq
      refine r_iload_n (pc := 19) h dX4_heard_19 rfl ?_
      refine r_aload_n (pc := 20) h dX4_heard_20 rfl ?_
      refine r_getE (pc := 21) h dX4_heard_21 f_X4_67 sh_35 rfl (hR.nc) ?_
      refine r_icmp_ge (pc := 24) (tgt := 51) h dX4_heard_24 (by decide) (fun c24 => ?_) (fun c24 => absurd (nI_le (by omega) (by omega)) c24)
      refine r_iload_n (pc := 51) h dX4_heard_51 rfl ?_
      refine r_ri t (pc := 52) dX4_heard_52 rfl ?_
      exact y_ok hR hX frm.rf hw (by rw [ek, ← hq]; rfl)
    | succ n ih =>
      intro i a hin hq
      have hi : i < c 7 1 := by omega
      have h5 := (ho.2.2.2 i hi).2.2.1
      refine r_iload_n (pc := 19) h dX4_heard_19 rfl ?_
      refine r_aload_n (pc := 20) h dX4_heard_20 rfl ?_
      refine r_getE (pc := 21) h dX4_heard_21 f_X4_67 sh_35 rfl (hR.nc) ?_
      refine r_icmp_ge (pc := 24) (tgt := 51) h dX4_heard_24 (by decide) (fun c24 => absurd c24 (nI_ge hi (by omega))) (fun c24 => ?_)
      refine r_iload_n (pc := 27) h dX4_heard_27 rfl ?_
      refine r_aload_n (pc := 28) h dX4_heard_28 rfl ?_
      refine r_getR (pc := 29) h dX4_heard_29 f_X4_28 sh_35 rfl ?_
      refine r_iload_n (pc := 32) h dX4_heard_32 rfl ?_
      refine r_ialoadE (pc := 33) h dX4_heard_33 sh_42 (hR.sa hi) ?_
      refine r_iload_n (pc := 34) h dX4_heard_34 rfl ?_
      refine r_icmp_le (pc := 35) (tgt := 42) h dX4_heard_35 (by decide) (fun c35 => ?_) (fun c35 => ?_)
      · have q : c 5 i ≤ k := (nI_leI (by omega) (by omega)).mp c35
        rw [gfold, if_neg (by omega)] at hq
        refine r_iconst (pc := 42) h dX4_heard_42 ci_0 ?_
        refine r_iadd (pc := 43) h dX4_heard_43 ?_
        refine r_top h (nI_add _ _) ?_
        refine r_istore_n (pc := 44) (ls2 := [_, _, _, _]) h dX4_heard_44 (Nat.le_of_ble_eq_true rfl) rfl ?_
        refine r_iinc (pc := 45) (ls2 := [_, _, _, _]) h dX4_heard_45 rfl (ic1 _) rfl ?_
        refine r_goto (pc := 48) (tgt := 19) h dX4_heard_48 (by decide) ?_
        exact ih (i + 1) _ (by omega) hq
      · have q : ¬ c 5 i ≤ k := fun z => c35 (nI_le z (by omega))
        rw [gfold, if_pos (by omega)] at hq
        refine r_iconst (pc := 38) h dX4_heard_38 ci_1 ?_
        refine r_goto (pc := 39) (tgt := 43) h dX4_heard_39 (by decide) ?_
        refine r_iadd (pc := 43) h dX4_heard_43 ?_
        refine r_top h (nI_add _ _) ?_
        refine r_istore_n (pc := 44) (ls2 := [_, _, _, _]) h dX4_heard_44 (Nat.le_of_ble_eq_true rfl) rfl ?_
        refine r_iinc (pc := 45) (ls2 := [_, _, _, _]) h dX4_heard_45 rfl (ic1 _) rfl ?_
        refine r_goto (pc := 48) (tgt := 19) h dX4_heard_48 (by decide) ?_
        exact ih (i + 1) _ (by omega) hq
  refine r_iload_n (pc := 0) h dX4_heard_0 rfl ?_
  refine r_iconst (pc := 1) h dX4_heard_1 ci_0 ?_
  refine r_iconst (pc := 2) h dX4_heard_2 ci_5 ?_
  refine r_callSi (pc := 3) (As := [_, _, _]) h dX4_heard_3 k_X4_88 rfl ⟨Nat.le_of_ble_eq_true rfl, Nat.le_of_ble_eq_true rfl, Nat.le_of_ble_eq_true rfl⟩ (c_X4_isIn _ _ _) (fun x_3 g1 hq => ?_)
  rw [isIn_inB (by decide)] at hq
  obtain ⟨rfl, hg1⟩ := hq
  rw [hg1]
  refine r_if_ne (pc := 6) (tgt := 15) h dX4_heard_6 (by decide) (fun c6 => ?_) (fun c6 => ?_)
  · have hb : inB v (5 + 1) = true := by simpa using mt (bI_0 (inB v (5 + 1))).mpr c6
    obtain ⟨k, hk6, hv⟩ := (inB_iff (x := v) (n := 6) (by decide)).mp hb
    subst hv
    refine r_iconst (pc := 15) h dX4_heard_15 ci_0 ?_
    refine r_istore_n (pc := 16) (ls2 := [_, _, _, _]) h dX4_heard_16 (Nat.le_of_ble_eq_true rfl) rfl ?_
    refine r_iconst (pc := 17) h dX4_heard_17 ci_0 ?_
    refine r_istore_n (pc := 18) (ls2 := [_, _, _, _]) h dX4_heard_18 (Nat.le_of_ble_eq_true rfl) rfl ?_
    exact loop k hk6 (by rw [inB_nI hk6 (by decide)]; rfl) rfl (c 7 1) 0 0 (by omega) rfl
  · have hb : inB v (5 + 1) = false := (bI_0 (inB v (5 + 1))).mp c6
    refine r_aload_n (pc := 9) h dX4_heard_9 rfl ?_
    refine r_iconst (pc := 10) h dX4_heard_10 ci_m1 ?_
    refine r_callVi (pc := 11) (As := [_]) h dX4_heard_11 k_X4_77 gc_35 rfl ⟨Nat.le_of_ble_eq_true rfl, Nat.le_of_ble_eq_true rfl, Nat.le_of_ble_eq_true rfl⟩ (c_X4_no (okw_in okw_1 (by decide)).1) (fun x_11 g1 hq => ?_)
    obtain ⟨rfl, rfl⟩ := hq
    refine r_ri t (pc := 14) dX4_heard_14 rfl ?_
    rw [show whyB (inB v 6) (-1) = -1 by rw [show inB v 6 = false from hb]; rfl]
    exact y_ref hR hX okw_1 (by decide)
end TX
