section TX
variable {g : gG} {c ck : gCt} {hk : Bool} {lt : Nat → Nat} {nl : Nat} {rv : Nat → Nat} {nr : Nat} {rf : Nat → Int32}
set_option maxRecDepth 100000 in
set_option maxHeartbeats 4000000 in
theorem y_suit (hR : Rm g c) (hX : MSr g ck hk lt nl rv nr rf) (ho : gok c) (hd : c 7 3 ≤ 999) (x w : Int32) : gCi mX4_suit [.ref 35, .int x, .int w] g (fun y g1 => y = ansI (suitW c x w) (suitV c x.toNatClampNeg w.toNatClampNeg) ∧ Rm g1 (c) ∧ MSr g1 ck hk lt nl rv nr (rfI rf (suitW c x w)) ∧ frm 35 58 g g1) := by
  refine gCi_of (own := RX4) (ls0 := [.ref 35, .int x, .int w]) ⟨rfl, pl_X4⟩ rfl (Nat.le_of_ble_eq_true rfl) (fun G (h : gR RX4 cX4_suit 1 40 G) (t : gTi cX4_suit .int _ G) => ?_)
  have hn5 := hR.n5
  have hn6 := hR.n6
  refine r_aload_n (pc := 0) h dX4_suit_0 rfl ?_
  refine r_iload_n (pc := 1) h dX4_suit_1 rfl ?_
  refine r_callVi (pc := 2) (As := [_]) h dX4_suit_2 k_X4_109 gc_35 rfl ⟨Nat.le_of_ble_eq_true rfl, Nat.le_of_ble_eq_true rfl, Nat.le_of_ble_eq_true rfl⟩ (c_X4_isSuit hR x) (fun x_2 g1 hq => ?_)
  obtain ⟨rfl, rfl⟩ := hq
  refine r_if_ne (pc := 5) (tgt := 14) h dX4_suit_5 (by decide) (fun c5 => ?_) (fun c5 => ?_)
  · have hb : inB x (c 7 0) = true := by simpa using mt (bI_0 (inB x (c 7 0))).mpr c5
    obtain ⟨s, hs, rfl⟩ := (inB_iff (by omega)).mp hb
    have es : (nI s).toNatClampNeg = s := nI_clamp (by omega)
    refine r_iload_n (pc := 14) h dX4_suit_14 rfl ?_
    by_cases hb2 : inB w 7 = true
    · obtain ⟨k, hkn, rfl⟩ := (inB_iff (by decide)).mp hb2
      have hcase : k = 0 ∨ k = 1 ∨ k = 2 ∨ k = 3 ∨ k = 4 ∨ k = 5 ∨ k = 6 := by omega
      rcases hcase with rfl | rfl | rfl | rfl | rfl | rfl | rfl
      · refine r_tabIn (pc := 15) (o := 41) (tgt := 56) h dX4_suit_15 (by decide) (by decide) (by decide) (by decide) ?_
        refine r_aload_n (pc := 56) h dX4_suit_56 rfl ?_
        refine r_getR (pc := 57) h dX4_suit_57 f_X4_13 sh_35 rfl ?_
        refine r_iload_n (pc := 60) h dX4_suit_60 rfl ?_
        refine r_ialoadE (pc := 61) h dX4_suit_61 sh_37 (hR.kd hs) ?_
        refine r_ri t (pc := 62) dX4_suit_62 rfl ?_
        exact y_ok hR hX frm.rf (by unfold suitW sufW whyB fstI; rw [hb]; rfl) (by rw [es]; rfl)
      · refine r_tabIn (pc := 15) (o := 48) (tgt := 63) h dX4_suit_15 (by decide) (by decide) (by decide) (by decide) ?_
        refine r_aload_n (pc := 63) h dX4_suit_63 rfl ?_
        refine r_getR (pc := 64) h dX4_suit_64 f_X4_16 sh_35 rfl ?_
        refine r_iload_n (pc := 67) h dX4_suit_67 rfl ?_
        refine r_ialoadE (pc := 68) h dX4_suit_68 sh_38 (hR.fg hs) ?_
        refine r_ri t (pc := 69) dX4_suit_69 rfl ?_
        exact y_ok hR hX frm.rf (by unfold suitW sufW whyB fstI; rw [hb]; rfl) (by rw [es]; rfl)
      · refine r_tabIn (pc := 15) (o := 55) (tgt := 70) h dX4_suit_15 (by decide) (by decide) (by decide) (by decide) ?_
        refine r_aload_n (pc := 70) h dX4_suit_70 rfl ?_
        refine r_getR (pc := 71) h dX4_suit_71 f_X4_19 sh_35 rfl ?_
        refine r_iload_n (pc := 74) h dX4_suit_74 rfl ?_
        refine r_ialoadE (pc := 75) h dX4_suit_75 sh_39 (hR.ru hs) ?_
        refine r_ri t (pc := 76) dX4_suit_76 rfl ?_
        exact y_ok hR hX frm.rf (by unfold suitW sufW whyB fstI; rw [hb]; rfl) (by rw [es]; rfl)
      · refine r_tabIn (pc := 15) (o := 62) (tgt := 77) h dX4_suit_15 (by decide) (by decide) (by decide) (by decide) ?_
        refine r_aload_n (pc := 77) h dX4_suit_77 rfl ?_
        refine r_iload_n (pc := 78) h dX4_suit_78 rfl ?_
        refine r_callVi (pc := 79) (As := [_]) h dX4_suit_79 k_X4_172 gc_35 rfl ⟨Nat.le_of_ble_eq_true rfl, Nat.le_of_ble_eq_true rfl, Nat.le_of_ble_eq_true rfl⟩ (c_X4_covers hR ho hs) (fun x_79 g1 hq => ?_)
        obtain ⟨rfl, rfl⟩ := hq
        refine r_ri t (pc := 82) dX4_suit_82 rfl ?_
        exact y_ok hR hX frm.rf (by unfold suitW sufW whyB fstI; rw [hb]; rfl) (by rw [es]; rfl)
      · refine r_tabIn (pc := 15) (o := 68) (tgt := 83) h dX4_suit_15 (by decide) (by decide) (by decide) (by decide) ?_
        refine r_aload_n (pc := 83) h dX4_suit_83 rfl ?_
        refine r_iload_n (pc := 84) h dX4_suit_84 rfl ?_
        refine r_aload_n (pc := 85) h dX4_suit_85 rfl ?_
        refine r_getE (pc := 86) h dX4_suit_86 f_X4_119 sh_35 rfl (hR.dy) ?_
        refine r_iconst (pc := 89) h dX4_suit_89 ci_1 ?_
        refine r_iadd (pc := 90) h dX4_suit_90 ?_
        refine r_top (y := nI (c 7 3 + 1)) h (nI_add _ _) ?_
        refine r_callVi (pc := 91) (As := [_, _]) h dX4_suit_91 k_X4_194 gc_35 rfl ⟨Nat.le_of_ble_eq_true rfl, Nat.le_of_ble_eq_true rfl, Nat.le_of_ble_eq_true rfl⟩ (c_X4_chafes hR ho hs (by omega)) (fun x_91 g1 hq => ?_)
        obtain ⟨rfl, rfl⟩ := hq
        refine r_ri t (pc := 94) dX4_suit_94 rfl ?_
        exact y_ok hR hX frm.rf (by unfold suitW sufW whyB fstI; rw [hb]; rfl) (by rw [es]; rfl)
      · refine r_tabIn (pc := 15) (o := 80) (tgt := 95) h dX4_suit_15 (by decide) (by decide) (by decide) (by decide) ?_
        refine r_aload_n (pc := 95) h dX4_suit_95 rfl ?_
        refine r_iload_n (pc := 96) h dX4_suit_96 rfl ?_
        refine r_callVi (pc := 97) (As := [_]) h dX4_suit_97 k_X4_191 gc_35 rfl ⟨Nat.le_of_ble_eq_true rfl, Nat.le_of_ble_eq_true rfl, Nat.le_of_ble_eq_true rfl⟩ (c_X4_costs hR ho hs) (fun x_97 g1 hq => ?_)
        obtain ⟨rfl, rfl⟩ := hq
        refine r_ri t (pc := 100) dX4_suit_100 rfl ?_
        exact y_ok hR hX frm.rf (by unfold suitW sufW whyB fstI; rw [hb]; rfl) (by rw [es]; rfl)
      · refine r_tabIn (pc := 15) (o := 86) (tgt := 101) h dX4_suit_15 (by decide) (by decide) (by decide) (by decide) ?_
        refine r_aload_n (pc := 101) h dX4_suit_101 rfl ?_
        refine r_iload_n (pc := 102) h dX4_suit_102 rfl ?_
        refine r_callVi (pc := 103) (As := [_]) h dX4_suit_103 k_X4_169 gc_35 rfl ⟨Nat.le_of_ble_eq_true rfl, Nat.le_of_ble_eq_true rfl, Nat.le_of_ble_eq_true rfl⟩ (c_X4_wearerOf hR ho (by omega)) (fun x_103 g1 hq => ?_)
        obtain ⟨rfl, rfl⟩ := hq
        refine r_ri t (pc := 106) dX4_suit_106 rfl ?_
        exact y_ok hR hX frm.rf (by unfold suitW sufW whyB fstI; rw [hb]; rfl) (by rw [es]; rfl)
    · have hb2 : inB w 7 = false := by simpa using hb2
      have ho8 := inB_out (by decide) hb2
      refine r_tabOut (pc := 15) (tgt := 107) h dX4_suit_15 (by omega) (by decide) ?_
      refine r_aload_n (pc := 107) h dX4_suit_107 rfl ?_
      refine r_bipush (pc := 108) h dX4_suit_108 cb_m2 ?_
      refine r_callVi (pc := 110) (As := [_]) h dX4_suit_110 k_X4_77 gc_35 rfl ⟨Nat.le_of_ble_eq_true rfl, Nat.le_of_ble_eq_true rfl, Nat.le_of_ble_eq_true rfl⟩ (c_X4_no (okw_in okw_2 (by decide)).1) (fun x_110 g1 hq => ?_)
      obtain ⟨rfl, rfl⟩ := hq
      refine r_ri t (pc := 113) dX4_suit_113 rfl ?_
      rw [show suitW c (nI s) w = -2 by unfold suitW sufW whyB fstI; rw [hb, hb2]; rfl]
      exact y_ref hR hX okw_2 (by decide)
  · have hb : inB x (c 7 0) = false := (bI_0 (inB x (c 7 0))).mp c5
    have hw : suitW c x w = -1 := by unfold suitW sufW whyB fstI; rw [hb]; rfl
    refine r_aload_n (pc := 8) h dX4_suit_8 rfl ?_
    refine r_iconst (pc := 9) h dX4_suit_9 ci_m1 ?_
    refine r_callVi (pc := 10) (As := [_]) h dX4_suit_10 k_X4_77 gc_35 rfl ⟨Nat.le_of_ble_eq_true rfl, Nat.le_of_ble_eq_true rfl, Nat.le_of_ble_eq_true rfl⟩ (c_X4_no (okw_in okw_1 (by decide)).1) (fun x_10 g1 hq => ?_)
    obtain ⟨rfl, rfl⟩ := hq
    refine r_ri t (pc := 13) dX4_suit_13 rfl ?_
    rw [hw]
    exact y_ref hR hX okw_1 (by decide)
set_option maxRecDepth 100000 in
set_option maxHeartbeats 4000000 in
theorem y_caller (hR : Rm g c) (hX : MSr g ck hk lt nl rv nr rf) (ho : gok c) (hd : c 7 3 ≤ 999) (x w : Int32) : gCi mX4_caller [.ref 35, .int x, .int w] g (fun y g1 => y = ansI (callerW c x w) (callerV c x.toNatClampNeg w.toNatClampNeg) ∧ Rm g1 (c) ∧ MSr g1 ck hk lt nl rv nr (rfI rf (callerW c x w)) ∧ frm 35 58 g g1) := by
  refine gCi_of (own := RX4) (ls0 := [.ref 35, .int x, .int w]) ⟨rfl, pl_X4⟩ rfl (Nat.le_of_ble_eq_true rfl) (fun G (h : gR RX4 cX4_caller 4 160 G) (t : gTi cX4_caller .int _ G) => ?_)
  have hn5 := hR.n5
  have hn6 := hR.n6
  refine r_aload_n (pc := 0) h dX4_caller_0 rfl ?_
  refine r_iload_n (pc := 1) h dX4_caller_1 rfl ?_
  refine r_callVi (pc := 2) (As := [_]) h dX4_caller_2 k_X4_112 gc_35 rfl ⟨Nat.le_of_ble_eq_true rfl, Nat.le_of_ble_eq_true rfl, Nat.le_of_ble_eq_true rfl⟩ (c_X4_isCaller hR x) (fun x_2 g1 hq => ?_)
  obtain ⟨rfl, rfl⟩ := hq
  refine r_if_ne (pc := 5) (tgt := 14) h dX4_caller_5 (by decide) (fun c5 => ?_) (fun c5 => ?_)
  · have hb : inB x (c 7 1) = true := by simpa using mt (bI_0 (inB x (c 7 1))).mpr c5
    obtain ⟨i, hi, rfl⟩ := (inB_iff (by omega)).mp hb
    have ei : (nI i).toNatClampNeg = i := nI_clamp (by omega)
    have hk4 := ho.2.2.2 i hi
    refine r_iload_n (pc := 14) h dX4_caller_14 rfl ?_
    by_cases hb2 : inB w 6 = true
    · obtain ⟨k, hkn, rfl⟩ := (inB_iff (by decide)).mp hb2
      have hcase : k = 0 ∨ k = 1 ∨ k = 2 ∨ k = 3 ∨ k = 4 ∨ k = 5 := by omega
      rcases hcase with rfl | rfl | rfl | rfl | rfl | rfl
      · refine r_tabIn (pc := 15) (o := 37) (tgt := 52) h dX4_caller_15 (by decide) (by decide) (by decide) (by decide) ?_
        refine r_aload_n (pc := 52) h dX4_caller_52 rfl ?_
        refine r_getR (pc := 53) h dX4_caller_53 f_X4_22 sh_35 rfl ?_
        refine r_iload_n (pc := 56) h dX4_caller_56 rfl ?_
        refine r_ialoadE (pc := 57) h dX4_caller_57 sh_40 (hR.fe hi) ?_
        refine r_ri t (pc := 58) dX4_caller_58 rfl ?_
        exact y_ok hR hX frm.rf (by unfold callerW calW whyB fstI; rw [hb]; rfl) (by rw [ei]; rfl)
      · refine r_tabIn (pc := 15) (o := 44) (tgt := 59) h dX4_caller_15 (by decide) (by decide) (by decide) (by decide) ?_
        refine r_aload_n (pc := 59) h dX4_caller_59 rfl ?_
        refine r_getR (pc := 60) h dX4_caller_60 f_X4_25 sh_35 rfl ?_
        refine r_iload_n (pc := 63) h dX4_caller_63 rfl ?_
        refine r_ialoadE (pc := 64) h dX4_caller_64 sh_41 (hR.so hi) ?_
        refine r_ri t (pc := 65) dX4_caller_65 rfl ?_
        exact y_ok hR hX frm.rf (by unfold callerW calW whyB fstI; rw [hb]; rfl) (by rw [ei]; rfl)
      · refine r_tabIn (pc := 15) (o := 51) (tgt := 66) h dX4_caller_15 (by decide) (by decide) (by decide) (by decide) ?_
        refine r_aload_n (pc := 66) h dX4_caller_66 rfl ?_
        refine r_getR (pc := 67) h dX4_caller_67 f_X4_28 sh_35 rfl ?_
        refine r_iload_n (pc := 70) h dX4_caller_70 rfl ?_
        refine r_ialoadE (pc := 71) h dX4_caller_71 sh_42 (hR.sa hi) ?_
        refine r_ri t (pc := 72) dX4_caller_72 rfl ?_
        exact y_ok hR hX frm.rf (by unfold callerW calW whyB fstI; rw [hb]; rfl) (by rw [ei]; rfl)
      · refine r_tabIn (pc := 15) (o := 58) (tgt := 73) h dX4_caller_15 (by decide) (by decide) (by decide) (by decide) ?_
        refine r_aload_n (pc := 73) h dX4_caller_73 rfl ?_
        refine r_getR (pc := 74) h dX4_caller_74 f_X4_31 sh_35 rfl ?_
        refine r_iload_n (pc := 77) h dX4_caller_77 rfl ?_
        refine r_ialoadE (pc := 78) h dX4_caller_78 sh_43 (hR.wo hi) ?_
        refine r_if_ne (pc := 79) (tgt := 87) h dX4_caller_79 (by decide) (fun c79 => ?_) (fun c79 => ?_)
        · have h0 : ¬ c 6 i = 0 := fun q => c79 (by rw [q]; rfl)
          refine r_aload_n (pc := 87) h dX4_caller_87 rfl ?_
          refine r_getR (pc := 88) h dX4_caller_88 f_X4_31 sh_35 rfl ?_
          refine r_iload_n (pc := 91) h dX4_caller_91 rfl ?_
          refine r_ialoadE (pc := 92) h dX4_caller_92 sh_43 (hR.wo hi) ?_
          refine r_iconst (pc := 93) h dX4_caller_93 ci_1 ?_
          refine r_isub (pc := 94) h dX4_caller_94 ?_
          refine r_ri t (pc := 95) dX4_caller_95 rfl ?_
          exact y_ok hR hX frm.rf (by unfold callerW calW whyB fstI; rw [hb]; rfl) (by rw [ei]; show _ = wz (c 6 i); rw [nI_sub (by omega), wz, if_neg h0])
        · have h0 : c 6 i = 0 := (nI_eq0 (by omega)).mp c79
          refine r_bipush (pc := 82) h dX4_caller_82 cb_m9 ?_
          refine r_goto (pc := 84) (tgt := 95) h dX4_caller_84 (by decide) ?_
          refine r_ri t (pc := 95) dX4_caller_95 rfl ?_
          exact y_ok hR hX frm.rf (by unfold callerW calW whyB fstI; rw [hb]; rfl) (by rw [ei]; show _ = wz (c 6 i); rw [h0]; rfl)
      · refine r_tabIn (pc := 15) (o := 81) (tgt := 96) h dX4_caller_15 (by decide) (by decide) (by decide) (by decide) ?_
        refine r_aload_n (pc := 96) h dX4_caller_96 rfl ?_
        refine r_iload_n (pc := 97) h dX4_caller_97 rfl ?_
        refine r_callVi (pc := 98) (As := [_]) h dX4_caller_98 k_X4_182 gc_35 rfl ⟨Nat.le_of_ble_eq_true rfl, Nat.le_of_ble_eq_true rfl, Nat.le_of_ble_eq_true rfl⟩ (c_X4_canSay hR ho hi) (fun x_98 g1 hq => ?_)
        obtain ⟨rfl, rfl⟩ := hq
        refine r_if_eq (pc := 101) (tgt := 108) h dX4_caller_101 (by decide) (fun c101 => ?_) (fun c101 => ?_)
        · have hc : canB c i (covOf c i) = false := (bI_0 (canB c i (covOf c i))).mp c101
          refine r_iconst (pc := 108) h dX4_caller_108 ci_0 ?_
          refine r_ri t (pc := 109) dX4_caller_109 rfl ?_
          exact y_ok hR hX frm.rf (by unfold callerW calW whyB fstI; rw [hb]; rfl) (by rw [ei]; show _ = bI (canB c i (covOf c i)); rw [hc]; rfl)
        · have hc : canB c i (covOf c i) = true := by simpa using mt (bI_0 (canB c i (covOf c i))).mpr c101
          refine r_iconst (pc := 104) h dX4_caller_104 ci_1 ?_
          refine r_goto (pc := 105) (tgt := 109) h dX4_caller_105 (by decide) ?_
          refine r_ri t (pc := 109) dX4_caller_109 rfl ?_
          exact y_ok hR hX frm.rf (by unfold callerW calW whyB fstI; rw [hb]; rfl) (by rw [ei]; show _ = bI (canB c i (covOf c i)); rw [hc]; rfl)
      · refine r_tabIn (pc := 15) (o := 95) (tgt := 110) h dX4_caller_15 (by decide) (by decide) (by decide) (by decide) ?_
        refine r_aload_n (pc := 110) h dX4_caller_110 rfl ?_
        refine r_iload_n (pc := 111) h dX4_caller_111 rfl ?_
        refine r_callVi (pc := 112) (As := [_]) h dX4_caller_112 k_X4_203 gc_35 rfl ⟨Nat.le_of_ble_eq_true rfl, Nat.le_of_ble_eq_true rfl, Nat.le_of_ble_eq_true rfl⟩ (c_X4_lacks hR ho hi) (fun x_112 g1 hq => ?_)
        obtain ⟨rfl, rfl⟩ := hq
        refine r_ri t (pc := 115) dX4_caller_115 rfl ?_
        exact y_ok hR hX frm.rf (by unfold callerW calW whyB fstI; rw [hb]; rfl) (by rw [ei]; rfl)
    · have hb2 : inB w 6 = false := by simpa using hb2
      have ho8 := inB_out (by decide) hb2
      refine r_tabOut (pc := 15) (tgt := 116) h dX4_caller_15 (by omega) (by decide) ?_
      refine r_aload_n (pc := 116) h dX4_caller_116 rfl ?_
      refine r_bipush (pc := 117) h dX4_caller_117 cb_m2 ?_
      refine r_callVi (pc := 119) (As := [_]) h dX4_caller_119 k_X4_77 gc_35 rfl ⟨Nat.le_of_ble_eq_true rfl, Nat.le_of_ble_eq_true rfl, Nat.le_of_ble_eq_true rfl⟩ (c_X4_no (okw_in okw_2 (by decide)).1) (fun x_119 g1 hq => ?_)
      obtain ⟨rfl, rfl⟩ := hq
      refine r_ri t (pc := 122) dX4_caller_122 rfl ?_
      rw [show callerW c (nI i) w = -2 by unfold callerW calW whyB fstI; rw [hb, hb2]; rfl]
      exact y_ref hR hX okw_2 (by decide)
  · have hb : inB x (c 7 1) = false := (bI_0 (inB x (c 7 1))).mp c5
    have hw : callerW c x w = -1 := by unfold callerW calW whyB fstI; rw [hb]; rfl
    refine r_aload_n (pc := 8) h dX4_caller_8 rfl ?_
    refine r_iconst (pc := 9) h dX4_caller_9 ci_m1 ?_
    refine r_callVi (pc := 10) (As := [_]) h dX4_caller_10 k_X4_77 gc_35 rfl ⟨Nat.le_of_ble_eq_true rfl, Nat.le_of_ble_eq_true rfl, Nat.le_of_ble_eq_true rfl⟩ (c_X4_no (okw_in okw_1 (by decide)).1) (fun x_10 g1 hq => ?_)
    obtain ⟨rfl, rfl⟩ := hq
    refine r_ri t (pc := 13) dX4_caller_13 rfl ?_
    rw [hw]
    exact y_ref hR hX okw_1 (by decide)
set_option maxRecDepth 100000 in
set_option maxHeartbeats 4000000 in
theorem y_courage (hR : Rm g c) (hX : MSr g ck hk lt nl rv nr rf) (ho : gok c) (hd : c 7 3 ≤ 999) (x : Int32) : gCi mX4_courage [.ref 35, .int x] g (fun y g1 => y = (if calW c x = 0 then brI c x.toNatClampNeg (covOf c x.toNatClampNeg) else 1000000000 - calW c x) ∧ Rm g1 c ∧ MSr g1 ck hk lt nl rv nr (rfI rf (calW c x)) ∧ frm 35 58 g g1) := by
  refine gCi_of (own := RX4) (ls0 := [.ref 35, .int x]) ⟨rfl, pl_X4⟩ rfl (Nat.le_of_ble_eq_true rfl) (fun G (h : gR RX4 cX4_courage 2 80 G) (t : gTi cX4_courage .int _ G) => ?_)
  have hn5 := hR.n5
  have hn6 := hR.n6
  refine r_aload_n (pc := 0) h dX4_courage_0 rfl ?_
  refine r_iload_n (pc := 1) h dX4_courage_1 rfl ?_
  refine r_callVi (pc := 2) (As := [_]) h dX4_courage_2 k_X4_112 gc_35 rfl ⟨Nat.le_of_ble_eq_true rfl, Nat.le_of_ble_eq_true rfl, Nat.le_of_ble_eq_true rfl⟩ (c_X4_isCaller hR x) (fun x_2 g1 hq => ?_)
  obtain ⟨rfl, rfl⟩ := hq
  refine r_if_eq (pc := 5) (tgt := 16) h dX4_courage_5 (by decide) (fun c5 => ?_) (fun c5 => ?_)
  · have hb : inB x (c 7 1) = false := (bI_0 (inB x (c 7 1))).mp c5
    have hw : calW c x = -1 := by unfold calW whyB; rw [hb]; rfl
    refine r_aload_n (pc := 16) h dX4_courage_16 rfl ?_
    refine r_iconst (pc := 17) h dX4_courage_17 ci_m1 ?_
    refine r_callVi (pc := 18) (As := [_]) h dX4_courage_18 k_X4_206 gc_35 rfl ⟨Nat.le_of_ble_eq_true rfl, Nat.le_of_ble_eq_true rfl, Nat.le_of_ble_eq_true rfl⟩ (c_X4_lower (okw_in okw_1 (by decide)).1) (fun x_18 g1 hq => ?_)
    obtain ⟨rfl, rfl⟩ := hq
    refine r_ri t (pc := 21) dX4_courage_21 rfl ?_
    rw [hw]
    exact ⟨rfl, (y_ref (v := 0) hR hX okw_1 (by decide)).2⟩
  · have hb : inB x (c 7 1) = true := by simpa using mt (bI_0 (inB x (c 7 1))).mpr c5
    obtain ⟨i, hi, rfl⟩ := (inB_iff (by omega)).mp hb
    have ei : (nI i).toNatClampNeg = i := nI_clamp (by omega)
    have hw : calW c (nI i) = 0 := by unfold calW whyB; rw [hb]; rfl
    refine r_aload_n (pc := 8) h dX4_courage_8 rfl ?_
    refine r_iload_n (pc := 9) h dX4_courage_9 rfl ?_
    refine r_callVi (pc := 10) (As := [_]) h dX4_courage_10 k_X4_185 gc_35 rfl ⟨Nat.le_of_ble_eq_true rfl, Nat.le_of_ble_eq_true rfl, Nat.le_of_ble_eq_true rfl⟩ (c_X4_courageOf hR ho hi) (fun x_10 g1 hq => ?_)
    obtain ⟨rfl, rfl⟩ := hq
    refine r_goto (pc := 13) (tgt := 21) h dX4_courage_13 (by decide) ?_
    refine r_ri t (pc := 21) dX4_courage_21 rfl ?_
    exact ⟨by rw [if_pos hw, ei], (y_ok (v := 0) (u := 0) hR hX frm.rf hw rfl).2⟩
set_option maxRecDepth 100000 in
set_option maxHeartbeats 4000000 in
theorem y_wears (hR : Rm g c) (hX : MSr g ck hk lt nl rv nr rf) (ho : gok c) (hd : c 7 3 ≤ 999) (x s : Int32) : gCi mX4_wears [.ref 35, .int x, .int s] g (fun y g1 => y = ansI (wearsW c x s) (wz (c 6 x.toNatClampNeg)) ∧ Rm g1 (if wearsW c x s = 0 then put c x.toNatClampNeg s.toNatClampNeg else c) ∧ MSr g1 ck hk lt nl rv nr (rfI rf (wearsW c x s)) ∧ frm 35 58 g g1) := by
  refine gCi_of (own := RX4) (ls0 := [.ref 35, .int x, .int s, .null]) ⟨rfl, pl_X4⟩ rfl (Nat.le_of_ble_eq_true rfl) (fun G (h : gR RX4 cX4_wears 2 80 G) (t : gTi cX4_wears .int _ G) => ?_)
  have hn5 := hR.n5
  have hn6 := hR.n6
  refine r_aload_n (pc := 0) h dX4_wears_0 rfl ?_
  refine r_iload_n (pc := 1) h dX4_wears_1 rfl ?_
  refine r_callVi (pc := 2) (As := [_]) h dX4_wears_2 k_X4_112 gc_35 rfl ⟨Nat.le_of_ble_eq_true rfl, Nat.le_of_ble_eq_true rfl, Nat.le_of_ble_eq_true rfl⟩ (c_X4_isCaller hR x) (fun x_2 g1 hq => ?_)
  obtain ⟨rfl, rfl⟩ := hq
  refine r_if_eq (pc := 5) (tgt := 16) h dX4_wears_5 (by decide) (fun c5 => ?_) (fun c5 => ?_)
  · have hb : inB x (c 7 1) = false := (bI_0 (inB x (c 7 1))).mp c5
    have hw : wearsW c x s = -1 := by unfold wearsW calW whyB fstI; rw [hb]; rfl
    refine r_aload_n (pc := 16) h dX4_wears_16 rfl ?_
    refine r_iconst (pc := 17) h dX4_wears_17 ci_m1 ?_
    refine r_callVi (pc := 18) (As := [_]) h dX4_wears_18 k_X4_77 gc_35 rfl ⟨Nat.le_of_ble_eq_true rfl, Nat.le_of_ble_eq_true rfl, Nat.le_of_ble_eq_true rfl⟩ (c_X4_no (okw_in okw_1 (by decide)).1) (fun x_18 g1 hq => ?_)
    obtain ⟨rfl, rfl⟩ := hq
    refine r_ri t (pc := 21) dX4_wears_21 rfl ?_
    rw [hw]
    exact y_ref hR hX okw_1 (by decide)
  · have hb : inB x (c 7 1) = true := by simpa using mt (bI_0 (inB x (c 7 1))).mpr c5
    refine r_aload_n (pc := 8) h dX4_wears_8 rfl ?_
    refine r_iload_n (pc := 9) h dX4_wears_9 rfl ?_
    refine r_callVi (pc := 10) (As := [_]) h dX4_wears_10 k_X4_109 gc_35 rfl ⟨Nat.le_of_ble_eq_true rfl, Nat.le_of_ble_eq_true rfl, Nat.le_of_ble_eq_true rfl⟩ (c_X4_isSuit hR s) (fun x_10 g1 hq => ?_)
    obtain ⟨rfl, rfl⟩ := hq
    refine r_if_ne (pc := 13) (tgt := 22) h dX4_wears_13 (by decide) (fun c13 => ?_) (fun c13 => ?_)
    · have hb2 : inB s (c 7 0) = true := by simpa using mt (bI_0 (inB s (c 7 0))).mpr c13
      obtain ⟨k, hk7, rfl⟩ := (inB_iff (by omega)).mp hb2
      have ek : (nI k).toNatClampNeg = k := nI_clamp (by omega)
      have hw : wearsW c x (nI k) = 0 := by unfold wearsW calW sufW whyB fstI; rw [hb, hb2]; rfl
      obtain ⟨i, hi, rfl⟩ := (inB_iff (by omega)).mp hb
      have ei : (nI i).toNatClampNeg = i := nI_clamp (by omega)
      have hk4 := ho.2.2.2 i hi
      refine r_aload_n (pc := 22) h dX4_wears_22 rfl ?_
      refine r_getR (pc := 23) h dX4_wears_23 f_X4_31 sh_35 rfl ?_
      refine r_iload_n (pc := 26) h dX4_wears_26 rfl ?_
      refine r_ialoadE (pc := 27) h dX4_wears_27 sh_43 (hR.wo hi) ?_
      refine r_callSi (pc := 28) (As := [_]) h dX4_wears_28 k_X4_209 rfl ⟨Nat.le_of_ble_eq_true rfl, Nat.le_of_ble_eq_true rfl, Nat.le_of_ble_eq_true rfl⟩ (c_X4_suitOf (by omega)) (fun x_28 g1 hq => ?_)
      obtain ⟨rfl, rfl⟩ := hq
      refine r_istore_n (pc := 31) (ls2 := [_, _, _, _]) h dX4_wears_31 (Nat.le_of_ble_eq_true rfl) rfl ?_
      refine r_aload_n (pc := 32) h dX4_wears_32 rfl ?_
      refine r_iload_n (pc := 33) h dX4_wears_33 rfl ?_
      refine r_iload_n (pc := 34) h dX4_wears_34 rfl ?_
      refine r_callVv (pc := 35) (As := [_, _]) h dX4_wears_35 k_X4_115 gc_35 rfl ⟨Nat.le_of_ble_eq_true rfl, Nat.le_of_ble_eq_true rfl, Nat.le_of_ble_eq_true rfl⟩ (c_X4_putsOn hR ho hi hk7) (fun g1 hq => ?_)
      obtain ⟨hR2, hF⟩ := hq
      refine r_iload_n (pc := 38) h dX4_wears_38 rfl ?_
      refine r_ri t (pc := 39) dX4_wears_39 rfl ?_
      rw [if_pos hw, ei, ek]
      exact y_ok hR2 (hX.fm hF) hF.frm hw rfl
    · have hb2 : inB s (c 7 0) = false := (bI_0 (inB s (c 7 0))).mp c13
      have hw : wearsW c x s = -1 := by unfold wearsW calW sufW whyB fstI; rw [hb, hb2]; rfl
      refine r_aload_n (pc := 16) h dX4_wears_16 rfl ?_
      refine r_iconst (pc := 17) h dX4_wears_17 ci_m1 ?_
      refine r_callVi (pc := 18) (As := [_]) h dX4_wears_18 k_X4_77 gc_35 rfl ⟨Nat.le_of_ble_eq_true rfl, Nat.le_of_ble_eq_true rfl, Nat.le_of_ble_eq_true rfl⟩ (c_X4_no (okw_in okw_1 (by decide)).1) (fun x_18 g1 hq => ?_)
      obtain ⟨rfl, rfl⟩ := hq
      refine r_ri t (pc := 21) dX4_wears_21 rfl ?_
      rw [hw]
      exact y_ref hR hX okw_1 (by decide)
set_option maxRecDepth 100000 in
set_option maxHeartbeats 4000000 in
theorem y_takesOff (hR : Rm g c) (hX : MSr g ck hk lt nl rv nr rf) (ho : gok c) (hd : c 7 3 ≤ 999) (x : Int32) : gCi mX4_takesOff [.ref 35, .int x] g (fun y g1 => y = ansI (offW c x) (wz (c 6 x.toNatClampNeg)) ∧ Rm g1 (if offW c x = 0 then cup c 6 x.toNatClampNeg 0 else c) ∧ MSr g1 ck hk lt nl rv nr (rfI rf (offW c x)) ∧ frm 35 58 g g1) := by
  refine gCi_of (own := RX4) (ls0 := [.ref 35, .int x, .null, .null]) ⟨rfl, pl_X4⟩ rfl (Nat.le_of_ble_eq_true rfl) (fun G (h : gR RX4 cX4_takesOff 1 40 G) (t : gTi cX4_takesOff .int _ G) => ?_)
  have hn5 := hR.n5
  have hn6 := hR.n6
  refine r_aload_n (pc := 0) h dX4_takesOff_0 rfl ?_
  refine r_iload_n (pc := 1) h dX4_takesOff_1 rfl ?_
  refine r_callVi (pc := 2) (As := [_]) h dX4_takesOff_2 k_X4_112 gc_35 rfl ⟨Nat.le_of_ble_eq_true rfl, Nat.le_of_ble_eq_true rfl, Nat.le_of_ble_eq_true rfl⟩ (c_X4_isCaller hR x) (fun x_2 g1 hq => ?_)
  obtain ⟨rfl, rfl⟩ := hq
  refine r_if_ne (pc := 5) (tgt := 12) h dX4_takesOff_5 (by decide) (fun c5 => ?_) (fun c5 => ?_)
  · have hb : inB x (c 7 1) = true := by simpa using mt (bI_0 (inB x (c 7 1))).mpr c5
    obtain ⟨i, hi, rfl⟩ := (inB_iff (by omega)).mp hb
    have ei : (nI i).toNatClampNeg = i := nI_clamp (by omega)
    have hk4 := ho.2.2.2 i hi
    refine r_aload_n (pc := 12) h dX4_takesOff_12 rfl ?_
    refine r_getR (pc := 13) h dX4_takesOff_13 f_X4_31 sh_35 rfl ?_
    refine r_iload_n (pc := 16) h dX4_takesOff_16 rfl ?_
    refine r_ialoadE (pc := 17) h dX4_takesOff_17 sh_43 (hR.wo hi) ?_
    refine r_if_ne (pc := 18) (tgt := 26) h dX4_takesOff_18 (by decide) (fun c18 => ?_) (fun c18 => ?_)
    · have h0 : ¬ c 6 i = 0 := fun q => c18 (by rw [q]; rfl)
      have hw : offW c (nI i) = 0 := by unfold offW calW insW whyB fstI; rw [hb, ei]; simp [h0, nI00]
      refine r_iconst (pc := 26) h dX4_takesOff_26 ci_0 ?_
      refine r_istore_n (pc := 27) (ls2 := [_, _, _, _]) h dX4_takesOff_27 (Nat.le_of_ble_eq_true rfl) rfl ?_
      refine r_iload_n (pc := 28) h dX4_takesOff_28 rfl ?_
      refine r_if_eq (pc := 29) (tgt := 38) h dX4_takesOff_29 (by decide) (fun c29 => ?_) (fun c29 => absurd (rfl) c29)
      refine r_aload_n (pc := 38) h dX4_takesOff_38 rfl ?_
      refine r_getR (pc := 39) h dX4_takesOff_39 f_X4_31 sh_35 rfl ?_
      refine r_iload_n (pc := 42) h dX4_takesOff_42 rfl ?_
      refine r_ialoadE (pc := 43) h dX4_takesOff_43 sh_43 (hR.wo hi) ?_
      refine r_callSi (pc := 44) (As := [_]) h dX4_takesOff_44 k_X4_209 rfl ⟨Nat.le_of_ble_eq_true rfl, Nat.le_of_ble_eq_true rfl, Nat.le_of_ble_eq_true rfl⟩ (c_X4_suitOf (by omega)) (fun x_44 g1 hq => ?_)
      obtain ⟨rfl, hg1⟩ := hq
      rw [hg1]
      refine r_istore_n (pc := 47) (ls2 := [_, _, _, _]) h dX4_takesOff_47 (Nat.le_of_ble_eq_true rfl) rfl ?_
      refine r_aload_n (pc := 48) h dX4_takesOff_48 rfl ?_
      refine r_getR (pc := 49) h dX4_takesOff_49 f_X4_31 sh_35 rfl ?_
      refine r_iload_n (pc := 52) h dX4_takesOff_52 rfl ?_
      refine r_iconst (pc := 53) h dX4_takesOff_53 ci_0 ?_
      refine r_iastore (pc := 54) h dX4_takesOff_54 sh_43 (hR.ci hi) ?_
      refine r_iload_n (pc := 55) h dX4_takesOff_55 rfl ?_
      refine r_ri t (pc := 56) dX4_takesOff_56 rfl ?_
      rw [if_pos hw, ei]
      have hq := Rm.wrC fmC.rf (hR.u_wo hi 0) (by omega)
      rw [ei] at hq
      exact y_ok hq.1 (hX.fm hq.2) hq.2.frm hw rfl
    · have h0 : c 6 i = 0 := (nI_eq0 (by omega)).mp c18
      have hw : offW c (nI i) = -3 := by unfold offW calW insW whyB fstI; rw [hb, ei, h0]; rfl
      refine r_bipush (pc := 21) h dX4_takesOff_21 cb_m3 ?_
      refine r_goto (pc := 23) (tgt := 27) h dX4_takesOff_23 (by decide) ?_
      refine r_istore_n (pc := 27) (ls2 := [_, _, _, _]) h dX4_takesOff_27 (Nat.le_of_ble_eq_true rfl) rfl ?_
      refine r_iload_n (pc := 28) h dX4_takesOff_28 rfl ?_
      refine r_if_eq (pc := 29) (tgt := 38) h dX4_takesOff_29 (by decide) (fun c29 => absurd c29 (by decide)) (fun c29 => ?_)
      refine r_aload_n (pc := 32) h dX4_takesOff_32 rfl ?_
      refine r_iload_n (pc := 33) h dX4_takesOff_33 rfl ?_
      refine r_callVi (pc := 34) (As := [_]) h dX4_takesOff_34 k_X4_77 gc_35 rfl ⟨Nat.le_of_ble_eq_true rfl, Nat.le_of_ble_eq_true rfl, Nat.le_of_ble_eq_true rfl⟩ (c_X4_no (by first | exact (okw_in okw_1 (by decide)).1 | exact (okw_in okw_3 (by decide)).1)) (fun x_34 g1 hq => ?_)
      obtain ⟨rfl, rfl⟩ := hq
      refine r_ri t (pc := 37) dX4_takesOff_37 rfl ?_
      rw [hw]
      first | exact y_ref hR hX okw_1 (by decide) | exact y_ref hR hX okw_3 (by decide)
  · have hb : inB x (c 7 1) = false := (bI_0 (inB x (c 7 1))).mp c5
    have hw : offW c x = -1 := by unfold offW calW whyB fstI; rw [hb]; rfl
    refine r_iconst (pc := 8) h dX4_takesOff_8 ci_m1 ?_
    refine r_goto (pc := 9) (tgt := 27) h dX4_takesOff_9 (by decide) ?_
    refine r_istore_n (pc := 27) (ls2 := [_, _, _, _]) h dX4_takesOff_27 (Nat.le_of_ble_eq_true rfl) rfl ?_
    refine r_iload_n (pc := 28) h dX4_takesOff_28 rfl ?_
    refine r_if_eq (pc := 29) (tgt := 38) h dX4_takesOff_29 (by decide) (fun c29 => absurd c29 (by decide)) (fun c29 => ?_)
    refine r_aload_n (pc := 32) h dX4_takesOff_32 rfl ?_
    refine r_iload_n (pc := 33) h dX4_takesOff_33 rfl ?_
    refine r_callVi (pc := 34) (As := [_]) h dX4_takesOff_34 k_X4_77 gc_35 rfl ⟨Nat.le_of_ble_eq_true rfl, Nat.le_of_ble_eq_true rfl, Nat.le_of_ble_eq_true rfl⟩ (c_X4_no (by first | exact (okw_in okw_1 (by decide)).1 | exact (okw_in okw_3 (by decide)).1)) (fun x_34 g1 hq => ?_)
    obtain ⟨rfl, rfl⟩ := hq
    refine r_ri t (pc := 37) dX4_takesOff_37 rfl ?_
    rw [hw]
    first | exact y_ref hR hX okw_1 (by decide) | exact y_ref hR hX okw_3 (by decide)
set_option maxRecDepth 100000 in
set_option maxHeartbeats 4000000 in
theorem y_fears (hR : Rm g c) (hX : MSr g ck hk lt nl rv nr rf) (ho : gok c) (hd : c 7 3 ≤ 999) (x v : Int32) : gCi mX4_fears [.ref 35, .int x, .int v] g (fun y g1 => y = ansI (fearsW c x v) (nI (c 3 x.toNatClampNeg)) ∧ Rm g1 (if fearsW c x v = 0 then cup c 3 x.toNatClampNeg v.toNatClampNeg else c) ∧ MSr g1 ck hk lt nl rv nr (rfI rf (fearsW c x v)) ∧ frm 35 58 g g1) := by
  refine gCi_of (own := RX4) (ls0 := [.ref 35, .int x, .int v, .null, .null]) ⟨rfl, pl_X4⟩ rfl (Nat.le_of_ble_eq_true rfl) (fun G (h : gR RX4 cX4_fears 1 40 G) (t : gTi cX4_fears .int _ G) => ?_)
  have hn5 := hR.n5
  have hn6 := hR.n6
  refine r_aload_n (pc := 0) h dX4_fears_0 rfl ?_
  refine r_iload_n (pc := 1) h dX4_fears_1 rfl ?_
  refine r_callVi (pc := 2) (As := [_]) h dX4_fears_2 k_X4_112 gc_35 rfl ⟨Nat.le_of_ble_eq_true rfl, Nat.le_of_ble_eq_true rfl, Nat.le_of_ble_eq_true rfl⟩ (c_X4_isCaller hR x) (fun x_2 g1 hq => ?_)
  obtain ⟨rfl, rfl⟩ := hq
  refine r_if_ne (pc := 5) (tgt := 12) h dX4_fears_5 (by decide) (fun c5 => ?_) (fun c5 => ?_)
  · have hb : inB x (c 7 1) = true := by simpa using mt (bI_0 (inB x (c 7 1))).mpr c5
    obtain ⟨i, hi, rfl⟩ := (inB_iff (by omega)).mp hb
    have ei : (nI i).toNatClampNeg = i := nI_clamp (by omega)
    refine r_iload_n (pc := 12) h dX4_fears_12 rfl ?_
    refine r_iconst (pc := 13) h dX4_fears_13 ci_0 ?_
    refine r_bipush (pc := 14) h dX4_fears_14 cb_20 ?_
    refine r_callSi (pc := 16) (As := [_, _, _]) h dX4_fears_16 k_X4_70 rfl ⟨Nat.le_of_ble_eq_true rfl, Nat.le_of_ble_eq_true rfl, Nat.le_of_ble_eq_true rfl⟩ (c_X4_bound _ _ _) (fun x_16 g1 hq => ?_)
    obtain ⟨rfl, rfl⟩ := hq
    refine r_istore_n (pc := 19) (ls2 := [_, _, _, _, _]) h dX4_fears_19 (Nat.le_of_ble_eq_true rfl) rfl ?_
    refine r_iload_n (pc := 20) h dX4_fears_20 rfl ?_
    refine r_if_eq (pc := 21) (tgt := 30) h dX4_fears_21 (by decide) (fun c21 => ?_) (fun c21 => ?_)
    · obtain ⟨n, -, hn, rfl⟩ := bnd_nat (by decide) (by decide) c21
      have en : (nI n).toNatClampNeg = n := nI_clamp (by omega)
      have hw : fearsW c (nI i) (nI n) = 0 := fst_0.mpr ⟨by unfold calW whyB; rw [hb]; rfl, c21, rfl⟩
      refine r_aload_n (pc := 30) h dX4_fears_30 rfl ?_
      refine r_getR (pc := 31) h dX4_fears_31 f_X4_22 sh_35 rfl ?_
      refine r_iload_n (pc := 34) h dX4_fears_34 rfl ?_
      refine r_ialoadE (pc := 35) h dX4_fears_35 sh_40 (hR.fe hi) ?_
      refine r_istore (pc := 36) (ls2 := [_, _, _, _, _]) h dX4_fears_36 (Nat.le_of_ble_eq_true rfl) rfl ?_
      refine r_aload_n (pc := 38) h dX4_fears_38 rfl ?_
      refine r_getR (pc := 39) h dX4_fears_39 f_X4_22 sh_35 rfl ?_
      refine r_iload_n (pc := 42) h dX4_fears_42 rfl ?_
      refine r_iload_n (pc := 43) h dX4_fears_43 rfl ?_
      refine r_iastore (pc := 44) h dX4_fears_44 sh_40 (hR.ci hi) ?_
      refine r_iload (pc := 45) h dX4_fears_45 rfl ?_
      refine r_ri t (pc := 47) dX4_fears_47 rfl ?_
      rw [if_pos hw, ei, en]
      have hq := Rm.wrC fmC.rf (hR.u_fe hi n) (by omega)
      rw [ei] at hq
      exact y_ok hq.1 (hX.fm hq.2) hq.2.frm hw rfl
    · have hw2 : ¬ bndI v (nI 0) (nI 20) = 0 := c21
      have hw : fearsW c (nI i) v = bndI v (nI 0) (nI 20) := by unfold fearsW fstI; rw [if_pos (show calW c (nI i) = 0 by unfold calW whyB; rw [hb]; rfl), if_neg c21]
      refine r_aload_n (pc := 24) h dX4_fears_24 rfl ?_
      refine r_iload_n (pc := 25) h dX4_fears_25 rfl ?_
      refine r_callVi (pc := 26) (As := [_]) h dX4_fears_26 k_X4_77 gc_35 rfl ⟨Nat.le_of_ble_eq_true rfl, Nat.le_of_ble_eq_true rfl, Nat.le_of_ble_eq_true rfl⟩ (c_X4_no (by first | exact (okw_in okw_1 (by decide)).1 | exact (okw_in okw_n hw2).1)) (fun x_26 g1 hq => ?_)
      obtain ⟨rfl, rfl⟩ := hq
      refine r_ri t (pc := 29) dX4_fears_29 rfl ?_
      rw [hw]
      first | (rw [if_neg (by decide)]; exact y_ref hR hX okw_1 (by decide)) | (rw [if_neg hw2]; exact y_ref hR hX okw_n hw2)
  · have hb : inB x (c 7 1) = false := (bI_0 (inB x (c 7 1))).mp c5
    have hw : fearsW c x v = -1 := by unfold fearsW calW whyB fstI; rw [hb]; rfl
    refine r_iconst (pc := 8) h dX4_fears_8 ci_m1 ?_
    refine r_goto (pc := 9) (tgt := 19) h dX4_fears_9 (by decide) ?_
    refine r_istore_n (pc := 19) (ls2 := [_, _, _, _, _]) h dX4_fears_19 (Nat.le_of_ble_eq_true rfl) rfl ?_
    refine r_iload_n (pc := 20) h dX4_fears_20 rfl ?_
    refine r_if_eq (pc := 21) (tgt := 30) h dX4_fears_21 (by decide) (fun c21 => absurd c21 (by decide)) (fun c21 => ?_)
    refine r_aload_n (pc := 24) h dX4_fears_24 rfl ?_
    refine r_iload_n (pc := 25) h dX4_fears_25 rfl ?_
    refine r_callVi (pc := 26) (As := [_]) h dX4_fears_26 k_X4_77 gc_35 rfl ⟨Nat.le_of_ble_eq_true rfl, Nat.le_of_ble_eq_true rfl, Nat.le_of_ble_eq_true rfl⟩ (c_X4_no (by first | exact (okw_in okw_1 (by decide)).1 | exact (okw_in okw_n hw2).1)) (fun x_26 g1 hq => ?_)
    obtain ⟨rfl, rfl⟩ := hq
    refine r_ri t (pc := 29) dX4_fears_29 rfl ?_
    rw [hw]
    first | (rw [if_neg (by decide)]; exact y_ref hR hX okw_1 (by decide)) | (rw [if_neg hw2]; exact y_ref hR hX okw_n hw2)
set_option maxRecDepth 100000 in
set_option maxHeartbeats 4000000 in
theorem y_rusts (hR : Rm g c) (hX : MSr g ck hk lt nl rv nr rf) (ho : gok c) (hd : c 7 3 ≤ 999) (x v : Int32) : gCi mX4_rusts [.ref 35, .int x, .int v] g (fun y g1 => y = ansI (rustsW c x v) (nI (c 2 x.toNatClampNeg)) ∧ Rm g1 (if rustsW c x v = 0 then cup c 2 x.toNatClampNeg v.toNatClampNeg else c) ∧ MSr g1 ck hk lt nl rv nr (rfI rf (rustsW c x v)) ∧ frm 35 58 g g1) := by
  refine gCi_of (own := RX4) (ls0 := [.ref 35, .int x, .int v, .null, .null]) ⟨rfl, pl_X4⟩ rfl (Nat.le_of_ble_eq_true rfl) (fun G (h : gR RX4 cX4_rusts 1 40 G) (t : gTi cX4_rusts .int _ G) => ?_)
  have hn5 := hR.n5
  have hn6 := hR.n6
  refine r_aload_n (pc := 0) h dX4_rusts_0 rfl ?_
  refine r_iload_n (pc := 1) h dX4_rusts_1 rfl ?_
  refine r_callVi (pc := 2) (As := [_]) h dX4_rusts_2 k_X4_109 gc_35 rfl ⟨Nat.le_of_ble_eq_true rfl, Nat.le_of_ble_eq_true rfl, Nat.le_of_ble_eq_true rfl⟩ (c_X4_isSuit hR x) (fun x_2 g1 hq => ?_)
  obtain ⟨rfl, rfl⟩ := hq
  refine r_if_ne (pc := 5) (tgt := 12) h dX4_rusts_5 (by decide) (fun c5 => ?_) (fun c5 => ?_)
  · have hb : inB x (c 7 0) = true := by simpa using mt (bI_0 (inB x (c 7 0))).mpr c5
    obtain ⟨i, hi, rfl⟩ := (inB_iff (by omega)).mp hb
    have ei : (nI i).toNatClampNeg = i := nI_clamp (by omega)
    refine r_iload_n (pc := 12) h dX4_rusts_12 rfl ?_
    refine r_iconst (pc := 13) h dX4_rusts_13 ci_0 ?_
    refine r_bipush (pc := 14) h dX4_rusts_14 cb_9 ?_
    refine r_callSi (pc := 16) (As := [_, _, _]) h dX4_rusts_16 k_X4_70 rfl ⟨Nat.le_of_ble_eq_true rfl, Nat.le_of_ble_eq_true rfl, Nat.le_of_ble_eq_true rfl⟩ (c_X4_bound _ _ _) (fun x_16 g1 hq => ?_)
    obtain ⟨rfl, rfl⟩ := hq
    refine r_istore_n (pc := 19) (ls2 := [_, _, _, _, _]) h dX4_rusts_19 (Nat.le_of_ble_eq_true rfl) rfl ?_
    refine r_iload_n (pc := 20) h dX4_rusts_20 rfl ?_
    refine r_if_eq (pc := 21) (tgt := 30) h dX4_rusts_21 (by decide) (fun c21 => ?_) (fun c21 => ?_)
    · obtain ⟨n, -, hn, rfl⟩ := bnd_nat (by decide) (by decide) c21
      have en : (nI n).toNatClampNeg = n := nI_clamp (by omega)
      have hw : rustsW c (nI i) (nI n) = 0 := fst_0.mpr ⟨by unfold sufW whyB; rw [hb]; rfl, c21, rfl⟩
      refine r_aload_n (pc := 30) h dX4_rusts_30 rfl ?_
      refine r_getR (pc := 31) h dX4_rusts_31 f_X4_19 sh_35 rfl ?_
      refine r_iload_n (pc := 34) h dX4_rusts_34 rfl ?_
      refine r_ialoadE (pc := 35) h dX4_rusts_35 sh_39 (hR.ru hi) ?_
      refine r_istore (pc := 36) (ls2 := [_, _, _, _, _]) h dX4_rusts_36 (Nat.le_of_ble_eq_true rfl) rfl ?_
      refine r_aload_n (pc := 38) h dX4_rusts_38 rfl ?_
      refine r_getR (pc := 39) h dX4_rusts_39 f_X4_19 sh_35 rfl ?_
      refine r_iload_n (pc := 42) h dX4_rusts_42 rfl ?_
      refine r_iload_n (pc := 43) h dX4_rusts_43 rfl ?_
      refine r_iastore (pc := 44) h dX4_rusts_44 sh_39 (hR.si hi) ?_
      refine r_iload (pc := 45) h dX4_rusts_45 rfl ?_
      refine r_ri t (pc := 47) dX4_rusts_47 rfl ?_
      rw [if_pos hw, ei, en]
      have hq := Rm.wrC fmC.rf (hR.u_ru hi n) (by omega)
      rw [ei] at hq
      exact y_ok hq.1 (hX.fm hq.2) hq.2.frm hw rfl
    · have hw2 : ¬ bndI v (nI 0) (nI 9) = 0 := c21
      have hw : rustsW c (nI i) v = bndI v (nI 0) (nI 9) := by unfold rustsW fstI; rw [if_pos (show sufW c (nI i) = 0 by unfold sufW whyB; rw [hb]; rfl), if_neg c21]
      refine r_aload_n (pc := 24) h dX4_rusts_24 rfl ?_
      refine r_iload_n (pc := 25) h dX4_rusts_25 rfl ?_
      refine r_callVi (pc := 26) (As := [_]) h dX4_rusts_26 k_X4_77 gc_35 rfl ⟨Nat.le_of_ble_eq_true rfl, Nat.le_of_ble_eq_true rfl, Nat.le_of_ble_eq_true rfl⟩ (c_X4_no (by first | exact (okw_in okw_1 (by decide)).1 | exact (okw_in okw_n hw2).1)) (fun x_26 g1 hq => ?_)
      obtain ⟨rfl, rfl⟩ := hq
      refine r_ri t (pc := 29) dX4_rusts_29 rfl ?_
      rw [hw]
      first | (rw [if_neg (by decide)]; exact y_ref hR hX okw_1 (by decide)) | (rw [if_neg hw2]; exact y_ref hR hX okw_n hw2)
  · have hb : inB x (c 7 0) = false := (bI_0 (inB x (c 7 0))).mp c5
    have hw : rustsW c x v = -1 := by unfold rustsW sufW whyB fstI; rw [hb]; rfl
    refine r_iconst (pc := 8) h dX4_rusts_8 ci_m1 ?_
    refine r_goto (pc := 9) (tgt := 19) h dX4_rusts_9 (by decide) ?_
    refine r_istore_n (pc := 19) (ls2 := [_, _, _, _, _]) h dX4_rusts_19 (Nat.le_of_ble_eq_true rfl) rfl ?_
    refine r_iload_n (pc := 20) h dX4_rusts_20 rfl ?_
    refine r_if_eq (pc := 21) (tgt := 30) h dX4_rusts_21 (by decide) (fun c21 => absurd c21 (by decide)) (fun c21 => ?_)
    refine r_aload_n (pc := 24) h dX4_rusts_24 rfl ?_
    refine r_iload_n (pc := 25) h dX4_rusts_25 rfl ?_
    refine r_callVi (pc := 26) (As := [_]) h dX4_rusts_26 k_X4_77 gc_35 rfl ⟨Nat.le_of_ble_eq_true rfl, Nat.le_of_ble_eq_true rfl, Nat.le_of_ble_eq_true rfl⟩ (c_X4_no (by first | exact (okw_in okw_1 (by decide)).1 | exact (okw_in okw_n hw2).1)) (fun x_26 g1 hq => ?_)
    obtain ⟨rfl, rfl⟩ := hq
    refine r_ri t (pc := 29) dX4_rusts_29 rfl ?_
    rw [hw]
    first | (rw [if_neg (by decide)]; exact y_ref hR hX okw_1 (by decide)) | (rw [if_neg hw2]; exact y_ref hR hX okw_n hw2)
set_option maxRecDepth 100000 in
set_option maxHeartbeats 4000000 in
theorem y_soothes (hR : Rm g c) (hX : MSr g ck hk lt nl rv nr rf) (ho : gok c) (hd : c 7 3 ≤ 999) (x v : Int32) : gCi mX4_soothes [.ref 35, .int x, .int v] g (fun y g1 => y = ansI (fearsW c x v) (nI (c 4 x.toNatClampNeg)) ∧ Rm g1 (if fearsW c x v = 0 then cup c 4 x.toNatClampNeg v.toNatClampNeg else c) ∧ MSr g1 ck hk lt nl rv nr (rfI rf (fearsW c x v)) ∧ frm 35 58 g g1) := by
  refine gCi_of (own := RX4) (ls0 := [.ref 35, .int x, .int v, .null, .null]) ⟨rfl, pl_X4⟩ rfl (Nat.le_of_ble_eq_true rfl) (fun G (h : gR RX4 cX4_soothes 1 40 G) (t : gTi cX4_soothes .int _ G) => ?_)
  have hn5 := hR.n5
  have hn6 := hR.n6
  refine r_aload_n (pc := 0) h dX4_soothes_0 rfl ?_
  refine r_iload_n (pc := 1) h dX4_soothes_1 rfl ?_
  refine r_callVi (pc := 2) (As := [_]) h dX4_soothes_2 k_X4_112 gc_35 rfl ⟨Nat.le_of_ble_eq_true rfl, Nat.le_of_ble_eq_true rfl, Nat.le_of_ble_eq_true rfl⟩ (c_X4_isCaller hR x) (fun x_2 g1 hq => ?_)
  obtain ⟨rfl, rfl⟩ := hq
  refine r_if_ne (pc := 5) (tgt := 12) h dX4_soothes_5 (by decide) (fun c5 => ?_) (fun c5 => ?_)
  · have hb : inB x (c 7 1) = true := by simpa using mt (bI_0 (inB x (c 7 1))).mpr c5
    obtain ⟨i, hi, rfl⟩ := (inB_iff (by omega)).mp hb
    have ei : (nI i).toNatClampNeg = i := nI_clamp (by omega)
    refine r_iload_n (pc := 12) h dX4_soothes_12 rfl ?_
    refine r_iconst (pc := 13) h dX4_soothes_13 ci_0 ?_
    refine r_bipush (pc := 14) h dX4_soothes_14 cb_20 ?_
    refine r_callSi (pc := 16) (As := [_, _, _]) h dX4_soothes_16 k_X4_70 rfl ⟨Nat.le_of_ble_eq_true rfl, Nat.le_of_ble_eq_true rfl, Nat.le_of_ble_eq_true rfl⟩ (c_X4_bound _ _ _) (fun x_16 g1 hq => ?_)
    obtain ⟨rfl, rfl⟩ := hq
    refine r_istore_n (pc := 19) (ls2 := [_, _, _, _, _]) h dX4_soothes_19 (Nat.le_of_ble_eq_true rfl) rfl ?_
    refine r_iload_n (pc := 20) h dX4_soothes_20 rfl ?_
    refine r_if_eq (pc := 21) (tgt := 30) h dX4_soothes_21 (by decide) (fun c21 => ?_) (fun c21 => ?_)
    · obtain ⟨n, -, hn, rfl⟩ := bnd_nat (by decide) (by decide) c21
      have en : (nI n).toNatClampNeg = n := nI_clamp (by omega)
      have hw : fearsW c (nI i) (nI n) = 0 := fst_0.mpr ⟨by unfold calW whyB; rw [hb]; rfl, c21, rfl⟩
      refine r_aload_n (pc := 30) h dX4_soothes_30 rfl ?_
      refine r_getR (pc := 31) h dX4_soothes_31 f_X4_25 sh_35 rfl ?_
      refine r_iload_n (pc := 34) h dX4_soothes_34 rfl ?_
      refine r_ialoadE (pc := 35) h dX4_soothes_35 sh_41 (hR.so hi) ?_
      refine r_istore (pc := 36) (ls2 := [_, _, _, _, _]) h dX4_soothes_36 (Nat.le_of_ble_eq_true rfl) rfl ?_
      refine r_aload_n (pc := 38) h dX4_soothes_38 rfl ?_
      refine r_getR (pc := 39) h dX4_soothes_39 f_X4_25 sh_35 rfl ?_
      refine r_iload_n (pc := 42) h dX4_soothes_42 rfl ?_
      refine r_iload_n (pc := 43) h dX4_soothes_43 rfl ?_
      refine r_iastore (pc := 44) h dX4_soothes_44 sh_41 (hR.ci hi) ?_
      refine r_iload (pc := 45) h dX4_soothes_45 rfl ?_
      refine r_ri t (pc := 47) dX4_soothes_47 rfl ?_
      rw [if_pos hw, ei, en]
      have hq := Rm.wrC fmC.rf (hR.u_so hi n) (by omega)
      rw [ei] at hq
      exact y_ok hq.1 (hX.fm hq.2) hq.2.frm hw rfl
    · have hw2 : ¬ bndI v (nI 0) (nI 20) = 0 := c21
      have hw : fearsW c (nI i) v = bndI v (nI 0) (nI 20) := by unfold fearsW fstI; rw [if_pos (show calW c (nI i) = 0 by unfold calW whyB; rw [hb]; rfl), if_neg c21]
      refine r_aload_n (pc := 24) h dX4_soothes_24 rfl ?_
      refine r_iload_n (pc := 25) h dX4_soothes_25 rfl ?_
      refine r_callVi (pc := 26) (As := [_]) h dX4_soothes_26 k_X4_77 gc_35 rfl ⟨Nat.le_of_ble_eq_true rfl, Nat.le_of_ble_eq_true rfl, Nat.le_of_ble_eq_true rfl⟩ (c_X4_no (by first | exact (okw_in okw_1 (by decide)).1 | exact (okw_in okw_n hw2).1)) (fun x_26 g1 hq => ?_)
      obtain ⟨rfl, rfl⟩ := hq
      refine r_ri t (pc := 29) dX4_soothes_29 rfl ?_
      rw [hw]
      first | (rw [if_neg (by decide)]; exact y_ref hR hX okw_1 (by decide)) | (rw [if_neg hw2]; exact y_ref hR hX okw_n hw2)
  · have hb : inB x (c 7 1) = false := (bI_0 (inB x (c 7 1))).mp c5
    have hw : fearsW c x v = -1 := by unfold fearsW calW whyB fstI; rw [hb]; rfl
    refine r_iconst (pc := 8) h dX4_soothes_8 ci_m1 ?_
    refine r_goto (pc := 9) (tgt := 19) h dX4_soothes_9 (by decide) ?_
    refine r_istore_n (pc := 19) (ls2 := [_, _, _, _, _]) h dX4_soothes_19 (Nat.le_of_ble_eq_true rfl) rfl ?_
    refine r_iload_n (pc := 20) h dX4_soothes_20 rfl ?_
    refine r_if_eq (pc := 21) (tgt := 30) h dX4_soothes_21 (by decide) (fun c21 => absurd c21 (by decide)) (fun c21 => ?_)
    refine r_aload_n (pc := 24) h dX4_soothes_24 rfl ?_
    refine r_iload_n (pc := 25) h dX4_soothes_25 rfl ?_
    refine r_callVi (pc := 26) (As := [_]) h dX4_soothes_26 k_X4_77 gc_35 rfl ⟨Nat.le_of_ble_eq_true rfl, Nat.le_of_ble_eq_true rfl, Nat.le_of_ble_eq_true rfl⟩ (c_X4_no (by first | exact (okw_in okw_1 (by decide)).1 | exact (okw_in okw_n hw2).1)) (fun x_26 g1 hq => ?_)
    obtain ⟨rfl, rfl⟩ := hq
    refine r_ri t (pc := 29) dX4_soothes_29 rfl ?_
    rw [hw]
    first | (rw [if_neg (by decide)]; exact y_ref hR hX okw_1 (by decide)) | (rw [if_neg hw2]; exact y_ref hR hX okw_n hw2)
set_option maxRecDepth 100000 in
set_option maxHeartbeats 4000000 in
theorem y_turn (hR : Rm g c) (hX : MSr g ck hk lt nl rv nr rf) (ho : gok c) (hd : c 7 3 ≤ 999) (x k v : Int32) : gCi mX4_turn [.ref 35, .int x, .int k, .int v] g (fun y g1 => y = ansI (turnW c x k v) (nI (10 * c 0 x.toNatClampNeg + c 1 x.toNatClampNeg)) ∧ Rm g1 (if turnW c x k v = 0 then cup (cup c 0 x.toNatClampNeg k.toNatClampNeg) 1 x.toNatClampNeg v.toNatClampNeg else c) ∧ MSr g1 ck hk lt nl rv nr (rfI rf (turnW c x k v)) ∧ frm 35 58 g g1) := by
  refine gCi_of (own := RX4) (ls0 := [.ref 35, .int x, .int k, .int v, .null, .null]) ⟨rfl, pl_X4⟩ rfl (Nat.le_of_ble_eq_true rfl) (fun G (h : gR RX4 cX4_turn 1 40 G) (t : gTi cX4_turn .int _ G) => ?_)
  have hn5 := hR.n5
  have hn6 := hR.n6
  refine r_aload_n (pc := 0) h dX4_turn_0 rfl ?_
  refine r_iload_n (pc := 1) h dX4_turn_1 rfl ?_
  refine r_callVi (pc := 2) (As := [_]) h dX4_turn_2 k_X4_109 gc_35 rfl ⟨Nat.le_of_ble_eq_true rfl, Nat.le_of_ble_eq_true rfl, Nat.le_of_ble_eq_true rfl⟩ (c_X4_isSuit hR x) (fun x_2 g1 hq => ?_)
  obtain ⟨rfl, rfl⟩ := hq
  refine r_if_ne (pc := 5) (tgt := 12) h dX4_turn_5 (by decide) (fun c5 => ?_) (fun c5 => ?_)
  · have hb : inB x (c 7 0) = true := by simpa using mt (bI_0 (inB x (c 7 0))).mpr c5
    obtain ⟨i, hi, rfl⟩ := (inB_iff (by omega)).mp hb
    have ei : (nI i).toNatClampNeg = i := nI_clamp (by omega)
    refine r_iload_n (pc := 12) h dX4_turn_12 rfl ?_
    refine r_iconst (pc := 13) h dX4_turn_13 ci_0 ?_
    refine r_iconst (pc := 14) h dX4_turn_14 ci_5 ?_
    refine r_callSi (pc := 15) (As := [_, _, _]) h dX4_turn_15 k_X4_88 rfl ⟨Nat.le_of_ble_eq_true rfl, Nat.le_of_ble_eq_true rfl, Nat.le_of_ble_eq_true rfl⟩ (c_X4_isIn _ _ _) (fun x_15 g1 hq => ?_)
    rw [isIn_inB (by decide)] at hq
    obtain ⟨rfl, rfl⟩ := hq
    refine r_if_ne (pc := 18) (tgt := 26) h dX4_turn_18 (by decide) (fun c18 => ?_) (fun c18 => ?_)
    · have hb2 : inB k (5 + 1) = true := by simpa using mt (bI_0 (inB k (5 + 1))).mpr c18
      obtain ⟨q, hq6, rfl⟩ := (inB_iff (by omega)).mp hb2
      have eq : (nI q).toNatClampNeg = q := nI_clamp (by omega)
      refine r_iload_n (pc := 26) h dX4_turn_26 rfl ?_
      refine r_iconst (pc := 27) h dX4_turn_27 ci_0 ?_
      refine r_bipush (pc := 28) h dX4_turn_28 cb_9 ?_
      refine r_callSi (pc := 30) (As := [_, _, _]) h dX4_turn_30 k_X4_70 rfl ⟨Nat.le_of_ble_eq_true rfl, Nat.le_of_ble_eq_true rfl, Nat.le_of_ble_eq_true rfl⟩ (c_X4_bound _ _ _) (fun x_30 g1 hq => ?_)
      obtain ⟨rfl, rfl⟩ := hq
      refine r_istore (pc := 33) (ls2 := [_, _, _, _, _, _]) h dX4_turn_33 (Nat.le_of_ble_eq_true rfl) rfl ?_
      refine r_iload (pc := 35) h dX4_turn_35 rfl ?_
      refine r_if_eq (pc := 37) (tgt := 47) h dX4_turn_37 (by decide) (fun c37 => ?_) (fun c37 => ?_)
      · obtain ⟨n, -, hn, rfl⟩ := bnd_nat (by decide) (by decide) c37
        have en : (nI n).toNatClampNeg = n := nI_clamp (by omega)
        have hw : turnW c (nI i) (nI q) (nI n) = 0 := fst_0.mpr ⟨by unfold sufW whyB; rw [hb]; rfl, by unfold whyB; rw [show inB (nI q) 6 = true from hb2]; rfl, c37⟩
        refine r_bipush (pc := 47) h dX4_turn_47 cb_10 ?_
        refine r_aload_n (pc := 49) h dX4_turn_49 rfl ?_
        refine r_getR (pc := 50) h dX4_turn_50 f_X4_13 sh_35 rfl ?_
        refine r_iload_n (pc := 53) h dX4_turn_53 rfl ?_
        refine r_ialoadE (pc := 54) h dX4_turn_54 sh_37 (hR.kd hi) ?_
        refine r_imul (pc := 55) h dX4_turn_55 ?_
        refine r_aload_n (pc := 56) h dX4_turn_56 rfl ?_
        refine r_getR (pc := 57) h dX4_turn_57 f_X4_16 sh_35 rfl ?_
        refine r_iload_n (pc := 60) h dX4_turn_60 rfl ?_
        refine r_ialoadE (pc := 61) h dX4_turn_61 sh_38 (hR.fg hi) ?_
        refine r_iadd (pc := 62) h dX4_turn_62 ?_
        refine r_top (y := nI (10 * c 0 i + c 1 i)) h (by rw [pk_mul, nI_add]) ?_
        refine r_istore (pc := 63) (ls2 := [_, _, _, _, _, _]) h dX4_turn_63 (Nat.le_of_ble_eq_true rfl) rfl ?_
        refine r_aload_n (pc := 65) h dX4_turn_65 rfl ?_
        refine r_getR (pc := 66) h dX4_turn_66 f_X4_13 sh_35 rfl ?_
        refine r_iload_n (pc := 69) h dX4_turn_69 rfl ?_
        refine r_iload_n (pc := 70) h dX4_turn_70 rfl ?_
        refine r_iastore (pc := 71) h dX4_turn_71 sh_37 (hR.si hi) ?_
        refine r_aload_n (pc := 72) h dX4_turn_72 rfl ?_
        refine r_getR (pc := 73) h dX4_turn_73 f_X4_16 sh_35 rfl ?_
        refine r_iload_n (pc := 76) h dX4_turn_76 rfl ?_
        refine r_iload_n (pc := 77) h dX4_turn_77 rfl ?_
        refine r_iastore (pc := 78) h dX4_turn_78 sh_38 (hR.si hi) ?_
        refine r_iload (pc := 79) h dX4_turn_79 rfl ?_
        refine r_ri t (pc := 81) dX4_turn_81 rfl ?_
        rw [if_pos hw, ei, eq, en]
        have hq := Rm.wrC fmC.rf (hR.u_kd hi q) (by omega)
        have hq := Rm.wrC hq.2 (hq.1.u_fg hi n) (by omega)
        rw [ei] at hq
        exact y_ok hq.1 (hX.fm hq.2) hq.2.frm hw rfl
      · have hw2 : ¬ bndI v (nI 0) (nI 9) = 0 := c37
        have hw : turnW c (nI i) (nI q) v = bndI v (nI 0) (nI 9) := by unfold turnW fstI; rw [if_pos (show sufW c (nI i) = 0 by unfold sufW whyB; rw [hb]; rfl), if_pos (show whyB (inB (nI q) 6) (-2) = 0 by unfold whyB; rw [show inB (nI q) 6 = true from hb2]; rfl)]
        refine r_aload_n (pc := 40) h dX4_turn_40 rfl ?_
        refine r_iload (pc := 41) h dX4_turn_41 rfl ?_
        refine r_callVi (pc := 43) (As := [_]) h dX4_turn_43 k_X4_77 gc_35 rfl ⟨Nat.le_of_ble_eq_true rfl, Nat.le_of_ble_eq_true rfl, Nat.le_of_ble_eq_true rfl⟩ (c_X4_no (by first | exact (okw_in okw_1 (by decide)).1 | exact (okw_in okw_2 (by decide)).1 | exact (okw_in okw_n hw2).1)) (fun x_43 g1 hq => ?_)
        obtain ⟨rfl, rfl⟩ := hq
        refine r_ri t (pc := 46) dX4_turn_46 rfl ?_
        rw [hw]
        first | (rw [if_neg (by decide)]; exact y_ref hR hX okw_1 (by decide)) | (rw [if_neg (by decide)]; exact y_ref hR hX okw_2 (by decide)) | (rw [if_neg hw2]; exact y_ref hR hX okw_n hw2)
    · have hb2 : inB k (5 + 1) = false := (bI_0 (inB k (5 + 1))).mp c18
      have hw : turnW c (nI i) k v = -2 := by unfold turnW sufW whyB fstI; rw [hb, show inB k 6 = false from hb2]; rfl
      refine r_bipush (pc := 21) h dX4_turn_21 cb_m2 ?_
      refine r_goto (pc := 23) (tgt := 33) h dX4_turn_23 (by decide) ?_
      refine r_istore (pc := 33) (ls2 := [_, _, _, _, _, _]) h dX4_turn_33 (Nat.le_of_ble_eq_true rfl) rfl ?_
      refine r_iload (pc := 35) h dX4_turn_35 rfl ?_
      refine r_if_eq (pc := 37) (tgt := 47) h dX4_turn_37 (by decide) (fun c37 => absurd c37 (by decide)) (fun c37 => ?_)
      refine r_aload_n (pc := 40) h dX4_turn_40 rfl ?_
      refine r_iload (pc := 41) h dX4_turn_41 rfl ?_
      refine r_callVi (pc := 43) (As := [_]) h dX4_turn_43 k_X4_77 gc_35 rfl ⟨Nat.le_of_ble_eq_true rfl, Nat.le_of_ble_eq_true rfl, Nat.le_of_ble_eq_true rfl⟩ (c_X4_no (by first | exact (okw_in okw_1 (by decide)).1 | exact (okw_in okw_2 (by decide)).1 | exact (okw_in okw_n hw2).1)) (fun x_43 g1 hq => ?_)
      obtain ⟨rfl, rfl⟩ := hq
      refine r_ri t (pc := 46) dX4_turn_46 rfl ?_
      rw [hw]
      first | (rw [if_neg (by decide)]; exact y_ref hR hX okw_1 (by decide)) | (rw [if_neg (by decide)]; exact y_ref hR hX okw_2 (by decide)) | (rw [if_neg hw2]; exact y_ref hR hX okw_n hw2)
  · have hb : inB x (c 7 0) = false := (bI_0 (inB x (c 7 0))).mp c5
    have hw : turnW c x k v = -1 := by unfold turnW sufW whyB fstI; rw [hb]; rfl
    refine r_iconst (pc := 8) h dX4_turn_8 ci_m1 ?_
    refine r_goto (pc := 9) (tgt := 33) h dX4_turn_9 (by decide) ?_
    refine r_istore (pc := 33) (ls2 := [_, _, _, _, _, _]) h dX4_turn_33 (Nat.le_of_ble_eq_true rfl) rfl ?_
    refine r_iload (pc := 35) h dX4_turn_35 rfl ?_
    refine r_if_eq (pc := 37) (tgt := 47) h dX4_turn_37 (by decide) (fun c37 => absurd c37 (by decide)) (fun c37 => ?_)
    refine r_aload_n (pc := 40) h dX4_turn_40 rfl ?_
    refine r_iload (pc := 41) h dX4_turn_41 rfl ?_
    refine r_callVi (pc := 43) (As := [_]) h dX4_turn_43 k_X4_77 gc_35 rfl ⟨Nat.le_of_ble_eq_true rfl, Nat.le_of_ble_eq_true rfl, Nat.le_of_ble_eq_true rfl⟩ (c_X4_no (by first | exact (okw_in okw_1 (by decide)).1 | exact (okw_in okw_2 (by decide)).1 | exact (okw_in okw_n hw2).1)) (fun x_43 g1 hq => ?_)
    obtain ⟨rfl, rfl⟩ := hq
    refine r_ri t (pc := 46) dX4_turn_46 rfl ?_
    rw [hw]
    first | (rw [if_neg (by decide)]; exact y_ref hR hX okw_1 (by decide)) | (rw [if_neg (by decide)]; exact y_ref hR hX okw_2 (by decide)) | (rw [if_neg hw2]; exact y_ref hR hX okw_n hw2)
end TX
