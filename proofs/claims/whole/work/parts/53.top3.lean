section TX
variable {g : gG} {c ck : gCt} {hk : Bool} {lt : Nat → Nat} {nl : Nat} {rv : Nat → Nat} {nr : Nat} {rf : Nat → Int32}
set_option maxRecDepth 100000 in
set_option maxHeartbeats 4000000 in
theorem x_count (hR : Rx1 g c) (hX : XSr g ck hk lt nl rv nr rf) (ho : gok c) (hd : c 7 3 ≤ 999) (w : Int32) : gCi mX3_count [.ref 0, .int w] g (fun y g1 => y = cntV c nl nr rf w ∧ Rx1 g1 c ∧ XSr g1 ck hk lt nl rv nr rf ∧ frm 0 35 g g1) := by
  refine gCi_of (own := RX3) (ls0 := [.ref 0, .int w]) ⟨rfl, pl_X3⟩ rfl (Nat.le_of_ble_eq_true rfl) (fun G (h : gR RX3 cX3_count 1 40 G) (t : gTi cX3_count .int _ G) => ?_)
  refine r_iload_n (pc := 0) h dX3_count_0 rfl ?_
  by_cases hb : inB w 8 = true
  · obtain ⟨k, hk8, rfl⟩ := (inB_iff (by decide)).mp hb
    have hni : isInB (nI k) (nI 11) (nI 16) = false := by unfold isInB; exact decide_eq_false (fun q => q.1 (nI_lt (by omega) (by decide)))
    have hcase : k = 0 ∨ k = 1 ∨ k = 2 ∨ k = 3 ∨ k = 4 ∨ k = 5 ∨ k = 6 ∨ k = 7 := by omega
    rcases hcase with rfl | rfl | rfl | rfl | rfl | rfl | rfl | rfl
    · refine r_tabIn (pc := 1) (o := 47) (tgt := 48) h dX3_count_1 (by decide) (by decide) (by decide) (by decide) ?_
      refine r_aload_n (pc := 48) h dX3_count_48 rfl ?_
      refine r_getR (pc := 49) h dX3_count_49 f_X3_10 sh_0 rfl ?_
      refine r_getE (pc := 52) h dX3_count_52 f_X3_188 sh_1 rfl (hR.ns) ?_
      refine r_ri t (pc := 55) dX3_count_55 rfl ?_
      exact ⟨by rw [cntV, hni, hb]; rfl, hR, hX, frm.rf⟩
    · refine r_tabIn (pc := 1) (o := 55) (tgt := 56) h dX3_count_1 (by decide) (by decide) (by decide) (by decide) ?_
      refine r_aload_n (pc := 56) h dX3_count_56 rfl ?_
      refine r_getR (pc := 57) h dX3_count_57 f_X3_10 sh_0 rfl ?_
      refine r_getE (pc := 60) h dX3_count_60 f_X3_191 sh_1 rfl (hR.nc) ?_
      refine r_ri t (pc := 63) dX3_count_63 rfl ?_
      exact ⟨by rw [cntV, hni, hb]; rfl, hR, hX, frm.rf⟩
    · refine r_tabIn (pc := 1) (o := 63) (tgt := 64) h dX3_count_1 (by decide) (by decide) (by decide) (by decide) ?_
      refine r_aload_n (pc := 64) h dX3_count_64 rfl ?_
      refine r_getR (pc := 65) h dX3_count_65 f_X3_10 sh_0 rfl ?_
      refine r_getE (pc := 68) h dX3_count_68 f_X3_119 sh_1 rfl (hR.dy) ?_
      refine r_ri t (pc := 71) dX3_count_71 rfl ?_
      exact ⟨by rw [cntV, hni, hb]; rfl, hR, hX, frm.rf⟩
    · refine r_tabIn (pc := 1) (o := 71) (tgt := 72) h dX3_count_1 (by decide) (by decide) (by decide) (by decide) ?_
      refine r_aload_n (pc := 72) h dX3_count_72 rfl ?_
      refine r_getR (pc := 73) h dX3_count_73 f_X3_10 sh_0 rfl ?_
      refine r_getE (pc := 76) h dX3_count_76 f_X3_171 sh_1 rfl (hR.pd) ?_
      refine r_ri t (pc := 79) dX3_count_79 rfl ?_
      exact ⟨by rw [cntV, hni, hb]; rfl, hR, hX, frm.rf⟩
    · refine r_tabIn (pc := 1) (o := 79) (tgt := 80) h dX3_count_1 (by decide) (by decide) (by decide) (by decide) ?_
      refine r_aload_n (pc := 80) h dX3_count_80 rfl ?_
      refine r_getR (pc := 81) h dX3_count_81 f_X3_10 sh_0 rfl ?_
      refine r_callVi (pc := 84) (As := []) h dX3_count_84 k_X3_168 gc_1 rfl ⟨Nat.le_of_ble_eq_true rfl, Nat.le_of_ble_eq_true rfl, Nat.le_of_ble_eq_true rfl⟩ (c_X0_allSaid_1 hR) (fun x_84 g1 hq => ?_)
      obtain ⟨rfl, rfl⟩ := hq
      refine r_ri t (pc := 87) dX3_count_87 rfl ?_
      exact ⟨by rw [cntV, hni, hb]; rfl, hR, hX, frm.rf⟩
    · refine r_tabIn (pc := 1) (o := 87) (tgt := 88) h dX3_count_1 (by decide) (by decide) (by decide) (by decide) ?_
      refine r_aload_n (pc := 88) h dX3_count_88 rfl ?_
      refine r_getR (pc := 89) h dX3_count_89 f_X3_10 sh_0 rfl ?_
      refine r_callVi (pc := 92) (As := []) h dX3_count_92 k_X3_233 gc_1 rfl ⟨Nat.le_of_ble_eq_true rfl, Nat.le_of_ble_eq_true rfl, Nat.le_of_ble_eq_true rfl⟩ (c_X0_allFear_1 hR) (fun x_92 g1 hq => ?_)
      obtain ⟨rfl, rfl⟩ := hq
      refine r_ri t (pc := 95) dX3_count_95 rfl ?_
      exact ⟨by rw [cntV, hni, hb]; rfl, hR, hX, frm.rf⟩
    · refine r_tabIn (pc := 1) (o := 95) (tgt := 96) h dX3_count_1 (by decide) (by decide) (by decide) (by decide) ?_
      refine r_aload_n (pc := 96) h dX3_count_96 rfl ?_
      refine r_getE (pc := 97) h dX3_count_97 f_X3_44 sh_0 rfl (hX.2.2.1.1) ?_
      refine r_ri t (pc := 100) dX3_count_100 rfl ?_
      exact ⟨by rw [cntV, hni, hb]; rfl, hR, hX, frm.rf⟩
    · refine r_tabIn (pc := 1) (o := 100) (tgt := 101) h dX3_count_1 (by decide) (by decide) (by decide) (by decide) ?_
      refine r_aload_n (pc := 101) h dX3_count_101 rfl ?_
      refine r_getR (pc := 102) h dX3_count_102 f_X3_29 sh_0 rfl ?_
      refine r_getE (pc := 105) h dX3_count_105 f_X3_64 sh_25 rfl (hX.2.1.1) ?_
      refine r_ri t (pc := 108) dX3_count_108 rfl ?_
      exact ⟨by rw [cntV, hni, hb]; rfl, hR, hX, frm.rf⟩
  · have hb : inB w 8 = false := by simpa using hb
    have ho8 := inB_out (by decide) hb
    refine r_tabOut (pc := 1) (tgt := 109) h dX3_count_1 (by omega) (by decide) ?_
    refine r_iload_n (pc := 109) h dX3_count_109 rfl ?_
    refine r_bipush (pc := 110) h dX3_count_110 cb_11 ?_
    refine r_icmp_lt (pc := 112) (tgt := 133) h dX3_count_112 (by decide) (fun c112 => ?_) (fun c112 => ?_)
    · refine r_bipush (pc := 133) h dX3_count_133 cb_m9 ?_
      refine r_ri t (pc := 135) dX3_count_135 rfl ?_
      exact ⟨by rw [cntV, show isInB w (nI 11) (nI 16) = false by unfold isInB; exact decide_eq_false (fun q => q.1 c112), hb]; rfl, hR, hX, frm.rf⟩
    · refine r_iload_n (pc := 115) h dX3_count_115 rfl ?_
      refine r_bipush (pc := 116) h dX3_count_116 cb_16 ?_
      refine r_icmp_gt (pc := 118) (tgt := 133) h dX3_count_118 (by decide) (fun c118 => ?_) (fun c118 => ?_)
      · refine r_bipush (pc := 133) h dX3_count_133 cb_m9 ?_
        refine r_ri t (pc := 135) dX3_count_135 rfl ?_
        exact ⟨by rw [cntV, show isInB w (nI 11) (nI 16) = false by unfold isInB; exact decide_eq_false (fun q => q.2 c118), hb]; rfl, hR, hX, frm.rf⟩
      · obtain ⟨n, hn1, hn2, rfl⟩ := bnd_nat (v := w) (l := 11) (m := 16) (by decide) (by decide) (bnd_0.mpr ⟨c112, c118⟩)
        have hsub : nI n - nI 10 = nI (n - 10) := nI_sub (by omega)
        have hix : vp_in (nI n - nI 10) 7 ∧ g 31 (nI n - nI 10).toNatClampNeg = rf (nI n - nI 10).toNatClampNeg := by rw [hsub, nI_clamp (by omega)]; exact ⟨vp_in_nI (by omega) (by decide), hX.2.2.2 _ (by omega)⟩
        refine r_aload_n (pc := 121) h dX3_count_121 rfl ?_
        refine r_getR (pc := 122) h dX3_count_122 f_X3_48 sh_0 rfl ?_
        refine r_iload_n (pc := 125) h dX3_count_125 rfl ?_
        refine r_bipush (pc := 126) h dX3_count_126 cb_10 ?_
        refine r_isub (pc := 128) h dX3_count_128 ?_
        refine r_ialoadE (pc := 129) h dX3_count_129 sh_31 (hix) ?_
        refine r_goto (pc := 130) (tgt := 135) h dX3_count_130 (by decide) ?_
        refine r_ri t (pc := 135) dX3_count_135 rfl ?_
        exact ⟨by rw [cntV, show isInB (nI n) (nI 11) (nI 16) = true by unfold isInB; exact decide_eq_true ⟨c112, c118⟩, if_pos rfl], hR, hX, frm.rf⟩
set_option maxRecDepth 100000 in
set_option maxHeartbeats 4000000 in
theorem x_boldest (hR : Rx1 g c) (hX : XSr g ck hk lt nl rv nr rf) (ho : gok c) (hd : c 7 3 ≤ 999) (w : Int32) : gCi mX3_boldest [.ref 0, .int w] g (fun y g1 => y = ansI (whyB (inB w 2) (-2)) (oI (bstV (bldf c w.toNatClampNeg) (c 7 1))) ∧ Rx1 g1 (c) ∧ XSr g1 ck hk lt nl rv nr (rfI rf (whyB (inB w 2) (-2))) ∧ frm 0 35 g g1) := by
  refine gCi_of (own := RX3) (ls0 := [.ref 0, .int w, .null, .null, .null, .null, .null]) ⟨rfl, pl_X3⟩ rfl (Nat.le_of_ble_eq_true rfl) (fun G (h : gR RX3 cX3_boldest 2 80 G) (t : gTi cX3_boldest .int _ G) => ?_)
  have hn5 := hR.n5
  refine r_iload_n (pc := 0) h dX3_boldest_0 rfl ?_
  refine r_iconst (pc := 1) h dX3_boldest_1 ci_2 ?_
  refine r_callSi (pc := 2) (As := [_, _]) h dX3_boldest_2 k_X3_101 rfl ⟨Nat.le_of_ble_eq_true rfl, Nat.le_of_ble_eq_true rfl, Nat.le_of_ble_eq_true rfl⟩ (c_X3_anyOf w 2) (fun x_2 g1 hq => ?_)
  obtain ⟨rfl, hg1⟩ := hq
  rw [hg1]
  refine r_istore_n (pc := 5) (ls2 := [_, _, _, _, _, _, _]) h dX3_boldest_5 (Nat.le_of_ble_eq_true rfl) rfl ?_
  refine r_iload_n (pc := 6) h dX3_boldest_6 rfl ?_
  refine r_if_eq (pc := 7) (tgt := 16) h dX3_boldest_7 (by decide) (fun c7 => ?_) (fun c7 => ?_)
  · have hw : whyB (inB w 2) (-2) = 0 := c7
    obtain ⟨k, hk2, rfl⟩ := any_0 (by decide) hw (by decide)
    have ek : (nI k).toNatClampNeg = k := nI_clamp (by omega)
    refine r_bipush (pc := 16) h dX3_boldest_16 cb_m9 ?_
    refine r_istore_n (pc := 18) (ls2 := [_, _, _, _, _, _, _]) h dX3_boldest_18 (Nat.le_of_ble_eq_true rfl) rfl ?_
    refine r_iconst (pc := 19) h dX3_boldest_19 ci_0 ?_
    refine r_istore (pc := 20) (ls2 := [_, _, _, _, _, _, _]) h dX3_boldest_20 (Nat.le_of_ble_eq_true rfl) rfl ?_
    refine r_iconst (pc := 22) h dX3_boldest_22 ci_0 ?_
    refine r_istore (pc := 23) (ls2 := [_, _, _, _, _, _, _]) h dX3_boldest_23 (Nat.le_of_ble_eq_true rfl) rfl ?_
    have loop : ∀ n i (ob m : Int32) (v6 : Value), i + n = c 7 1 → ∀ b : Option Nat, ob = oI b → (∀ j, b = some j → j < 2147483648) → (∀ j, b = some j → m = bldf c k j) → gfold (bstF (bldf c k)) n i b = bstV (bldf c k) (c 7 1) → G 25 [.ref 0, .int (nI k), .int (whyB (inB (nI k) 2) (-2)), .int ob, .int m, .int (nI i), v6] [] g := by
      intro n
      induction n with
      | zero =>
        intro i ob m v6 hi b eb hbk hbm hw2
        have hz : b = bstV (bldf c k) (c 7 1) := hw2
        refine r_iload (pc := 25) h dX3_boldest_25 rfl ?_
        refine r_aload_n (pc := 27) h dX3_boldest_27 rfl ?_
        refine r_getR (pc := 28) h dX3_boldest_28 f_X3_10 sh_0 rfl ?_
        refine r_getE (pc := 31) h dX3_boldest_31 f_X3_191 sh_1 rfl (hR.nc) ?_
        refine r_icmp_ge (pc := 34) (tgt := 91) h dX3_boldest_34 (by decide) (fun c34 => ?_) (fun c34 => absurd (nI_le (by omega) (by omega)) c34)
        refine r_iload_n (pc := 91) h dX3_boldest_91 rfl ?_
        refine r_ri t (pc := 92) dX3_boldest_92 rfl ?_
        rw [ek]
        exact x_ok hR hX frm.rf hw (by rw [eb, hz])
      | succ n ih =>
        intro i ob m v6 hin b eb hbk hbm hw2
        have hi : i < c 7 1 := by omega
        subst eb
        refine r_iload (pc := 25) h dX3_boldest_25 rfl ?_
        refine r_aload_n (pc := 27) h dX3_boldest_27 rfl ?_
        refine r_getR (pc := 28) h dX3_boldest_28 f_X3_10 sh_0 rfl ?_
        refine r_getE (pc := 31) h dX3_boldest_31 f_X3_191 sh_1 rfl (hR.nc) ?_
        refine r_icmp_ge (pc := 34) (tgt := 91) h dX3_boldest_34 (by decide) (fun c34 => absurd c34 (nI_ge hi (by omega))) (fun c34 => ?_)
        refine r_iload_n (pc := 37) h dX3_boldest_37 rfl ?_
        refine r_if_ne (pc := 38) (tgt := 53) h dX3_boldest_38 (by decide) (fun c38 => ?_) (fun c38 => ?_)
        · have hf : bldf c k i = nI (c 4 i) := by unfold bldf; rw [if_neg (fun q => c38 (by rw [q]; rfl))]
          refine r_aload_n (pc := 53) h dX3_boldest_53 rfl ?_
          refine r_getR (pc := 54) h dX3_boldest_54 f_X3_10 sh_0 rfl ?_
          refine r_getR (pc := 57) h dX3_boldest_57 f_X3_137 sh_1 rfl ?_
          refine r_iload (pc := 60) h dX3_boldest_60 rfl ?_
          refine r_ialoadE (pc := 62) h dX3_boldest_62 sh_6 (hR.so hi) ?_
          refine r_istore (pc := 63) (ls2 := [_, _, _, _, _, _, _]) h dX3_boldest_63 (Nat.le_of_ble_eq_true rfl) rfl ?_
          refine r_iload_n (pc := 65) h dX3_boldest_65 rfl ?_
          refine r_bipush (pc := 66) h dX3_boldest_66 cb_m9 ?_
          refine r_icmp_eq (pc := 68) (tgt := 78) h dX3_boldest_68 (by decide) (fun c68 => ?_) (fun c68 => ?_)
          · have hb : b = none := (oI_none hbk).mp c68
            have e : bstF (bldf c k) i b = some i := by rw [hb]; rfl
            refine r_iload (pc := 78) h dX3_boldest_78 rfl ?_
            refine r_istore (pc := 80) (ls2 := [_, _, _, _, _, _, _]) h dX3_boldest_80 (Nat.le_of_ble_eq_true rfl) rfl ?_
            refine r_iload (pc := 82) h dX3_boldest_82 rfl ?_
            refine r_istore_n (pc := 84) (ls2 := [_, _, _, _, _, _, _]) h dX3_boldest_84 (Nat.le_of_ble_eq_true rfl) rfl ?_
            refine r_iinc (pc := 85) (ls2 := [_, _, _, _, _, _, _]) h dX3_boldest_85 rfl (ic1 _) rfl ?_
            refine r_goto (pc := 88) (tgt := 25) h dX3_boldest_88 (by decide) ?_
            exact ih (i + 1) _ _ _ (by omega) (bstF (bldf c k) i b) (by rw [e]; first | rfl | (rw [hb])) (fun z hz => by rw [e] at hz; cases hz; first | omega | exact hbk _ hb) (fun z hz => by rw [e] at hz; cases hz; first | exact hf.symm | exact hm) hw2
          · obtain ⟨j, hb⟩ : ∃ j, b = some j := Option.ne_none_iff_exists'.mp (fun q => c68 ((oI_none hbk).mpr q))
            have hm : m = bldf c k j := hbm j hb
            refine r_iload (pc := 71) h dX3_boldest_71 rfl ?_
            refine r_iload (pc := 73) h dX3_boldest_73 rfl ?_
            refine r_icmp_le (pc := 75) (tgt := 85) h dX3_boldest_75 (by decide) (fun c75 => ?_) (fun c75 => ?_)
            · have e : bstF (bldf c k) i b = some j := by rw [hb]; exact if_neg (by rw [← hm, hf]; exact Int32.not_lt.mpr c75)
              refine r_iinc (pc := 85) (ls2 := [_, _, _, _, _, _, _]) h dX3_boldest_85 rfl (ic1 _) rfl ?_
              refine r_goto (pc := 88) (tgt := 25) h dX3_boldest_88 (by decide) ?_
              exact ih (i + 1) _ _ _ (by omega) (bstF (bldf c k) i b) (by rw [e]; first | rfl | (rw [hb])) (fun z hz => by rw [e] at hz; cases hz; first | omega | exact hbk _ hb) (fun z hz => by rw [e] at hz; cases hz; first | exact hf.symm | exact hm) hw2
            · have e : bstF (bldf c k) i b = some i := by rw [hb]; exact if_pos (by rw [← hm, hf]; exact Int32.not_le.mp c75)
              refine r_iload (pc := 78) h dX3_boldest_78 rfl ?_
              refine r_istore (pc := 80) (ls2 := [_, _, _, _, _, _, _]) h dX3_boldest_80 (Nat.le_of_ble_eq_true rfl) rfl ?_
              refine r_iload (pc := 82) h dX3_boldest_82 rfl ?_
              refine r_istore_n (pc := 84) (ls2 := [_, _, _, _, _, _, _]) h dX3_boldest_84 (Nat.le_of_ble_eq_true rfl) rfl ?_
              refine r_iinc (pc := 85) (ls2 := [_, _, _, _, _, _, _]) h dX3_boldest_85 rfl (ic1 _) rfl ?_
              refine r_goto (pc := 88) (tgt := 25) h dX3_boldest_88 (by decide) ?_
              exact ih (i + 1) _ _ _ (by omega) (bstF (bldf c k) i b) (by rw [e]; first | rfl | (rw [hb])) (fun z hz => by rw [e] at hz; cases hz; first | omega | exact hbk _ hb) (fun z hz => by rw [e] at hz; cases hz; first | exact hf.symm | exact hm) hw2
        · have hf : bldf c k i = brI c i (covOf c i) := by unfold bldf; rw [if_pos ((nI_eq0 (by omega)).mp c38)]
          refine r_aload_n (pc := 41) h dX3_boldest_41 rfl ?_
          refine r_getR (pc := 42) h dX3_boldest_42 f_X3_10 sh_0 rfl ?_
          refine r_iload (pc := 45) h dX3_boldest_45 rfl ?_
          refine r_callVi (pc := 47) (As := [_]) h dX3_boldest_47 k_X3_154 gc_1 rfl ⟨Nat.le_of_ble_eq_true rfl, Nat.le_of_ble_eq_true rfl, Nat.le_of_ble_eq_true rfl⟩ (c_X0_bravery_1 hR ho hi) (fun x_47 g1 hq => ?_)
          obtain ⟨rfl, hg1⟩ := hq
          rw [hg1]
          refine r_goto (pc := 50) (tgt := 63) h dX3_boldest_50 (by decide) ?_
          refine r_istore (pc := 63) (ls2 := [_, _, _, _, _, _, _]) h dX3_boldest_63 (Nat.le_of_ble_eq_true rfl) rfl ?_
          refine r_iload_n (pc := 65) h dX3_boldest_65 rfl ?_
          refine r_bipush (pc := 66) h dX3_boldest_66 cb_m9 ?_
          refine r_icmp_eq (pc := 68) (tgt := 78) h dX3_boldest_68 (by decide) (fun c68 => ?_) (fun c68 => ?_)
          · have hb : b = none := (oI_none hbk).mp c68
            have e : bstF (bldf c k) i b = some i := by rw [hb]; rfl
            refine r_iload (pc := 78) h dX3_boldest_78 rfl ?_
            refine r_istore (pc := 80) (ls2 := [_, _, _, _, _, _, _]) h dX3_boldest_80 (Nat.le_of_ble_eq_true rfl) rfl ?_
            refine r_iload (pc := 82) h dX3_boldest_82 rfl ?_
            refine r_istore_n (pc := 84) (ls2 := [_, _, _, _, _, _, _]) h dX3_boldest_84 (Nat.le_of_ble_eq_true rfl) rfl ?_
            refine r_iinc (pc := 85) (ls2 := [_, _, _, _, _, _, _]) h dX3_boldest_85 rfl (ic1 _) rfl ?_
            refine r_goto (pc := 88) (tgt := 25) h dX3_boldest_88 (by decide) ?_
            exact ih (i + 1) _ _ _ (by omega) (bstF (bldf c k) i b) (by rw [e]; first | rfl | (rw [hb])) (fun z hz => by rw [e] at hz; cases hz; first | omega | exact hbk _ hb) (fun z hz => by rw [e] at hz; cases hz; first | exact hf.symm | exact hm) hw2
          · obtain ⟨j, hb⟩ : ∃ j, b = some j := Option.ne_none_iff_exists'.mp (fun q => c68 ((oI_none hbk).mpr q))
            have hm : m = bldf c k j := hbm j hb
            refine r_iload (pc := 71) h dX3_boldest_71 rfl ?_
            refine r_iload (pc := 73) h dX3_boldest_73 rfl ?_
            refine r_icmp_le (pc := 75) (tgt := 85) h dX3_boldest_75 (by decide) (fun c75 => ?_) (fun c75 => ?_)
            · have e : bstF (bldf c k) i b = some j := by rw [hb]; exact if_neg (by rw [← hm, hf]; exact Int32.not_lt.mpr c75)
              refine r_iinc (pc := 85) (ls2 := [_, _, _, _, _, _, _]) h dX3_boldest_85 rfl (ic1 _) rfl ?_
              refine r_goto (pc := 88) (tgt := 25) h dX3_boldest_88 (by decide) ?_
              exact ih (i + 1) _ _ _ (by omega) (bstF (bldf c k) i b) (by rw [e]; first | rfl | (rw [hb])) (fun z hz => by rw [e] at hz; cases hz; first | omega | exact hbk _ hb) (fun z hz => by rw [e] at hz; cases hz; first | exact hf.symm | exact hm) hw2
            · have e : bstF (bldf c k) i b = some i := by rw [hb]; exact if_pos (by rw [← hm, hf]; exact Int32.not_le.mp c75)
              refine r_iload (pc := 78) h dX3_boldest_78 rfl ?_
              refine r_istore (pc := 80) (ls2 := [_, _, _, _, _, _, _]) h dX3_boldest_80 (Nat.le_of_ble_eq_true rfl) rfl ?_
              refine r_iload (pc := 82) h dX3_boldest_82 rfl ?_
              refine r_istore_n (pc := 84) (ls2 := [_, _, _, _, _, _, _]) h dX3_boldest_84 (Nat.le_of_ble_eq_true rfl) rfl ?_
              refine r_iinc (pc := 85) (ls2 := [_, _, _, _, _, _, _]) h dX3_boldest_85 rfl (ic1 _) rfl ?_
              refine r_goto (pc := 88) (tgt := 25) h dX3_boldest_88 (by decide) ?_
              exact ih (i + 1) _ _ _ (by omega) (bstF (bldf c k) i b) (by rw [e]; first | rfl | (rw [hb])) (fun z hz => by rw [e] at hz; cases hz; first | omega | exact hbk _ hb) (fun z hz => by rw [e] at hz; cases hz; first | exact hf.symm | exact hm) hw2
    exact loop (c 7 1) 0 _ _ _ (by omega) none rfl (fun j hj => by cases hj) (fun j hj => by cases hj) rfl
  · have hw : ¬ whyB (inB w 2) (-2) = 0 := c7
    have hok : okw (whyB (inB w 2) (-2)) := okw_b okw_2
    refine r_aload_n (pc := 10) h dX3_boldest_10 rfl ?_
    refine r_iload_n (pc := 11) h dX3_boldest_11 rfl ?_
    refine r_callVi (pc := 12) (As := [_]) h dX3_boldest_12 k_X3_67 gc_0 rfl ⟨Nat.le_of_ble_eq_true rfl, Nat.le_of_ble_eq_true rfl, Nat.le_of_ble_eq_true rfl⟩ (c_X3_refuse (okw_in hok hw).1) (fun x_12 g1 hq => ?_)
    obtain ⟨rfl, rfl⟩ := hq
    refine r_ri t (pc := 15) dX3_boldest_15 rfl ?_
    exact x_ref hR hX hok hw
set_option maxRecDepth 100000 in
set_option maxHeartbeats 4000000 in
theorem x_left (hR : Rx1 g c) (hX : XSr g ck hk lt nl rv nr rf) (ho : gok c) (hd : c 7 3 ≤ 999) : gCi mX3_left [.ref 0] g (fun y g1 => y = lefV c ∧ Rx1 g1 c ∧ XSr g1 ck hk lt nl rv nr rf ∧ frm 0 35 g g1) := by
  refine gCi_of (own := RX3) (ls0 := [.ref 0, .null, .null]) ⟨rfl, pl_X3⟩ rfl (Nat.le_of_ble_eq_true rfl) (fun G (h : gR RX3 cX3_left 1 40 G) (t : gTi cX3_left .int _ G) => ?_)
  have hn5 := hR.n5
  have hn6 := hR.n6
  have loop : ∀ n i (a : Int32), i + n = c 7 0 → gfold (fun s b => if wr c s = none then b ||| (nI 1 <<< (nI s &&& 31)) else b) n i a = lefV c → G 4 [.ref 0, .int a, .int (nI i)] [] g := by
    intro n
    induction n with
    | zero =>
      intro i a hi hw
      refine r_iload_n (pc := 4) h dX3_left_4 rfl ?_
      refine r_aload_n (pc := 5) h dX3_left_5 rfl ?_
      refine r_getR (pc := 6) h dX3_left_6 f_X3_10 sh_0 rfl ?_
      refine r_getE (pc := 9) h dX3_left_9 f_X3_188 sh_1 rfl (hR.ns) ?_
      refine r_icmp_ge (pc := 12) (tgt := 40) h dX3_left_12 (by decide) (fun c12 => ?_) (fun c12 => absurd (nI_le (by omega) (by omega)) c12)
      refine r_iload_n (pc := 40) h dX3_left_40 rfl ?_
      refine r_ri t (pc := 41) dX3_left_41 rfl ?_
      exact ⟨hw, hR, hX, frm.rf⟩
    | succ n ih =>
      intro i a hin hw
      have hi : i < c 7 0 := by omega
      refine r_iload_n (pc := 4) h dX3_left_4 rfl ?_
      refine r_aload_n (pc := 5) h dX3_left_5 rfl ?_
      refine r_getR (pc := 6) h dX3_left_6 f_X3_10 sh_0 rfl ?_
      refine r_getE (pc := 9) h dX3_left_9 f_X3_188 sh_1 rfl (hR.ns) ?_
      refine r_icmp_ge (pc := 12) (tgt := 40) h dX3_left_12 (by decide) (fun c12 => absurd c12 (nI_ge hi (by omega))) (fun c12 => ?_)
      refine r_aload_n (pc := 15) h dX3_left_15 rfl ?_
      refine r_getR (pc := 16) h dX3_left_16 f_X3_10 sh_0 rfl ?_
      refine r_iload_n (pc := 19) h dX3_left_19 rfl ?_
      refine r_callVi (pc := 20) (As := [_]) h dX3_left_20 k_X3_128 gc_1 rfl ⟨Nat.le_of_ble_eq_true rfl, Nat.le_of_ble_eq_true rfl, Nat.le_of_ble_eq_true rfl⟩ (c_X0_wearer_1 hR ho (by omega)) (fun x_20 g1 hq => ?_)
      obtain ⟨rfl, hg1⟩ := hq
      rw [hg1]
      refine r_bipush (pc := 23) h dX3_left_23 cb_m9 ?_
      refine r_icmp_ne (pc := 25) (tgt := 34) h dX3_left_25 (by decide) (fun c25 => ?_) (fun c25 => ?_)
      · rw [gfold, if_neg (fun q => c25 ((wr_9 hn5).mpr q))] at hw
        refine r_iinc (pc := 34) (ls2 := [_, _, _]) h dX3_left_34 rfl (ic1 _) rfl ?_
        refine r_goto (pc := 37) (tgt := 4) h dX3_left_37 (by decide) ?_
        exact ih (i + 1) _ (by omega) hw
      · rw [gfold, if_pos ((wr_9 hn5).mp c25)] at hw
        refine r_iload_n (pc := 28) h dX3_left_28 rfl ?_
        refine r_iconst (pc := 29) h dX3_left_29 ci_1 ?_
        refine r_iload_n (pc := 30) h dX3_left_30 rfl ?_
        refine r_ishl (pc := 31) h dX3_left_31 ?_
        refine r_ior (pc := 32) h dX3_left_32 ?_
        refine r_istore_n (pc := 33) (ls2 := [_, _, _]) h dX3_left_33 (Nat.le_of_ble_eq_true rfl) rfl ?_
        refine r_iinc (pc := 34) (ls2 := [_, _, _]) h dX3_left_34 rfl (ic1 _) rfl ?_
        refine r_goto (pc := 37) (tgt := 4) h dX3_left_37 (by decide) ?_
        exact ih (i + 1) _ (by omega) hw
  refine r_iconst (pc := 0) h dX3_left_0 ci_0 ?_
  refine r_istore_n (pc := 1) (ls2 := [_, _, _]) h dX3_left_1 (Nat.le_of_ble_eq_true rfl) rfl ?_
  refine r_iconst (pc := 2) h dX3_left_2 ci_0 ?_
  refine r_istore_n (pc := 3) (ls2 := [_, _, _]) h dX3_left_3 (Nat.le_of_ble_eq_true rfl) rfl ?_
  exact loop (c 7 0) 0 _ (by omega) rfl
set_option maxRecDepth 100000 in
set_option maxHeartbeats 4000000 in
theorem c_X3_suitsAhead {g : gG} {c : gCt} (hR : Rx1 g c) (ho : gok c) {s : Nat} (hs : s < c 7 0) : gCi mX3_suitsAhead [.ref 0, .int (nI s)] g (fun y g1 => y = nI (ahd c s) ∧ g1 = g) := by
  refine gCi_of (own := RX3) (ls0 := [.ref 0, .int (nI s), .null, .null, .null, .null]) ⟨rfl, pl_X3⟩ rfl (Nat.le_of_ble_eq_true rfl) (fun G (h : gR RX3 cX3_suitsAhead 2 80 G) (t : gTi cX3_suitsAhead .int _ G) => ?_)
  have hn6 := hR.n6
  have hcl : ∀ k, k < c 7 0 → cvr c k ≤ 31 := fun k hk => covN_le (ho.2.2.1 k hk).2.1 _
  have hs31 := hcl s hs
  have loop : ∀ n i a (v5 : Value), i + n = c 7 0 → gfold (ahdF c s) n i a = ahd c s → G 14 [.ref 0, .int (nI s), .int (nI a), .int (nI (cvr c s)), .int (nI i), v5] [] g := by
    intro n
    induction n with
    | zero =>
      intro i a v5 hi hw
      refine r_iload (pc := 14) h dX3_suitsAhead_14 rfl ?_
      refine r_aload_n (pc := 16) h dX3_suitsAhead_16 rfl ?_
      refine r_getR (pc := 17) h dX3_suitsAhead_17 f_X3_10 sh_0 rfl ?_
      refine r_getE (pc := 20) h dX3_suitsAhead_20 f_X3_188 sh_1 rfl (hR.ns) ?_
      refine r_icmp_ge (pc := 23) (tgt := 64) h dX3_suitsAhead_23 (by decide) (fun c23 => ?_) (fun c23 => absurd (nI_le (by omega) (by omega)) c23)
      refine r_iload_n (pc := 64) h dX3_suitsAhead_64 rfl ?_
      refine r_ri t (pc := 65) dX3_suitsAhead_65 rfl ?_
      exact ⟨by rw [← hw]; rfl, rfl⟩
    | succ n ih =>
      intro i a v5 hin hw
      have hi : i < c 7 0 := by omega
      have hi31 := hcl i hi
      refine r_iload (pc := 14) h dX3_suitsAhead_14 rfl ?_
      refine r_aload_n (pc := 16) h dX3_suitsAhead_16 rfl ?_
      refine r_getR (pc := 17) h dX3_suitsAhead_17 f_X3_10 sh_0 rfl ?_
      refine r_getE (pc := 20) h dX3_suitsAhead_20 f_X3_188 sh_1 rfl (hR.ns) ?_
      refine r_icmp_ge (pc := 23) (tgt := 64) h dX3_suitsAhead_23 (by decide) (fun c23 => absurd c23 (nI_ge hi (by omega))) (fun c23 => ?_)
      refine r_aload_n (pc := 26) h dX3_suitsAhead_26 rfl ?_
      refine r_getR (pc := 27) h dX3_suitsAhead_27 f_X3_10 sh_0 rfl ?_
      refine r_iload (pc := 30) h dX3_suitsAhead_30 rfl ?_
      refine r_callVi (pc := 32) (As := [_]) h dX3_suitsAhead_32 k_X3_116 gc_1 rfl ⟨Nat.le_of_ble_eq_true rfl, Nat.le_of_ble_eq_true rfl, Nat.le_of_ble_eq_true rfl⟩ (c_X0_covers_1 hR ho hi) (fun x_32 g1 hq => ?_)
      obtain ⟨rfl, hg1⟩ := hq
      rw [hg1]
      refine r_istore (pc := 35) (ls2 := [_, _, _, _, _, _]) h dX3_suitsAhead_35 (Nat.le_of_ble_eq_true rfl) rfl ?_
      refine r_iload (pc := 37) h dX3_suitsAhead_37 rfl ?_
      refine r_iload_n (pc := 39) h dX3_suitsAhead_39 rfl ?_
      refine r_icmp_gt (pc := 40) (tgt := 55) h dX3_suitsAhead_40 (by decide) (fun c40 => ?_) (fun c40 => ?_)
      · have q1 : cvr c s < cvr c i := (nI_ltI (by omega) (by omega)).mp c40
        have e : ahdF c s i a = a + 1 := if_pos (Or.inl q1)
        refine r_iinc (pc := 55) (ls2 := [_, _, _, _, _, _]) h dX3_suitsAhead_55 rfl (ic1 _) rfl ?_
        refine r_iinc (pc := 58) (ls2 := [_, _, _, _, _, _]) h dX3_suitsAhead_58 rfl (ic1 _) rfl ?_
        refine r_goto (pc := 61) (tgt := 14) h dX3_suitsAhead_61 (by decide) ?_
        exact ih (i + 1) _ _ (by omega) (by rw [gfold, e] at hw; exact hw)
      · have q1 : ¬ cvr c s < cvr c i := fun q => c40 (nI_lt q (by omega))
        refine r_iload (pc := 43) h dX3_suitsAhead_43 rfl ?_
        refine r_iload_n (pc := 45) h dX3_suitsAhead_45 rfl ?_
        refine r_icmp_ne (pc := 46) (tgt := 58) h dX3_suitsAhead_46 (by decide) (fun c46 => ?_) (fun c46 => ?_)
        · have q2 : ¬ cvr c i = cvr c s := fun q => c46 (by rw [q])
          have e : ahdF c s i a = a := if_neg (by omega)
          refine r_iinc (pc := 58) (ls2 := [_, _, _, _, _, _]) h dX3_suitsAhead_58 rfl (ic1 _) rfl ?_
          refine r_goto (pc := 61) (tgt := 14) h dX3_suitsAhead_61 (by decide) ?_
          exact ih (i + 1) _ _ (by omega) (by rw [gfold, e] at hw; exact hw)
        · have q2 : cvr c i = cvr c s := (nI_eq (by omega) (by omega)).mp c46
          refine r_iload (pc := 49) h dX3_suitsAhead_49 rfl ?_
          refine r_iload_n (pc := 51) h dX3_suitsAhead_51 rfl ?_
          refine r_icmp_ge (pc := 52) (tgt := 58) h dX3_suitsAhead_52 (by decide) (fun c52 => ?_) (fun c52 => ?_)
          · have q3 : s ≤ i := (nI_leI (by omega) (by omega)).mp c52
            have e : ahdF c s i a = a := if_neg (by omega)
            refine r_iinc (pc := 58) (ls2 := [_, _, _, _, _, _]) h dX3_suitsAhead_58 rfl (ic1 _) rfl ?_
            refine r_goto (pc := 61) (tgt := 14) h dX3_suitsAhead_61 (by decide) ?_
            exact ih (i + 1) _ _ (by omega) (by rw [gfold, e] at hw; exact hw)
          · have q3 : ¬ s ≤ i := fun q => c52 (nI_le q (by omega))
            have e : ahdF c s i a = a + 1 := if_pos (by omega)
            refine r_iinc (pc := 55) (ls2 := [_, _, _, _, _, _]) h dX3_suitsAhead_55 rfl (ic1 _) rfl ?_
            refine r_iinc (pc := 58) (ls2 := [_, _, _, _, _, _]) h dX3_suitsAhead_58 rfl (ic1 _) rfl ?_
            refine r_goto (pc := 61) (tgt := 14) h dX3_suitsAhead_61 (by decide) ?_
            exact ih (i + 1) _ _ (by omega) (by rw [gfold, e] at hw; exact hw)
  refine r_iconst (pc := 0) h dX3_suitsAhead_0 ci_0 ?_
  refine r_istore_n (pc := 1) (ls2 := [_, _, _, _, _, _]) h dX3_suitsAhead_1 (Nat.le_of_ble_eq_true rfl) rfl ?_
  refine r_aload_n (pc := 2) h dX3_suitsAhead_2 rfl ?_
  refine r_getR (pc := 3) h dX3_suitsAhead_3 f_X3_10 sh_0 rfl ?_
  refine r_iload_n (pc := 6) h dX3_suitsAhead_6 rfl ?_
  refine r_callVi (pc := 7) (As := [_]) h dX3_suitsAhead_7 k_X3_116 gc_1 rfl ⟨Nat.le_of_ble_eq_true rfl, Nat.le_of_ble_eq_true rfl, Nat.le_of_ble_eq_true rfl⟩ (c_X0_covers_1 hR ho hs) (fun x_7 g1 hq => ?_)
  obtain ⟨rfl, hg1⟩ := hq
  rw [hg1]
  refine r_istore_n (pc := 10) (ls2 := [_, _, _, _, _, _]) h dX3_suitsAhead_10 (Nat.le_of_ble_eq_true rfl) rfl ?_
  refine r_iconst (pc := 11) h dX3_suitsAhead_11 ci_0 ?_
  refine r_istore (pc := 12) (ls2 := [_, _, _, _, _, _]) h dX3_suitsAhead_12 (Nat.le_of_ble_eq_true rfl) rfl ?_
  exact loop (c 7 0) 0 0 _ (by omega) rfl
set_option maxRecDepth 100000 in
set_option maxHeartbeats 4000000 in
theorem x_order (hR : Rx1 g c) (hX : XSr g ck hk lt nl rv nr rf) (ho : gok c) (hd : c 7 3 ≤ 999) (v : Int32) : gCi mX3_order [.ref 0, .int v] g (fun y g1 => y = ansI (ordW v) (oI (ordV c v)) ∧ Rx1 g1 (c) ∧ XSr g1 ck hk lt nl rv nr (rfI rf (ordW v)) ∧ frm 0 35 g g1) := by
  refine gCi_of (own := RX3) (ls0 := [.ref 0, .int v, .null]) ⟨rfl, pl_X3⟩ rfl (Nat.le_of_ble_eq_true rfl) (fun G (h : gR RX3 cX3_order 3 120 G) (t : gTi cX3_order .int _ G) => ?_)
  have hn6 := hR.n6
  have loop : ordW v = 0 → ∀ n i, i + n = c 7 0 → ordV c v = gfind (fun s => decide (nI (ahd c s) = v)) n i → G 13 [.ref 0, .int v, .int (nI i)] [] g := by
    intro hw n
    induction n with
    | zero =>
      intro i hi hq
      refine r_iload_n (pc := 13) h dX3_order_13 rfl ?_
      refine r_aload_n (pc := 14) h dX3_order_14 rfl ?_
      refine r_getR (pc := 15) h dX3_order_15 f_X3_10 sh_0 rfl ?_
      refine r_getE (pc := 18) h dX3_order_18 f_X3_188 sh_1 rfl (hR.ns) ?_
      refine r_icmp_ge (pc := 21) (tgt := 41) h dX3_order_21 (by decide) (fun c21 => ?_) (fun c21 => absurd (nI_le (by omega) (by omega)) c21)
      refine r_bipush (pc := 41) h dX3_order_41 cb_m9 ?_
      refine r_ri t (pc := 43) dX3_order_43 rfl ?_
      exact x_ok hR hX frm.rf hw (by rw [hq]; rfl)
    | succ n ih =>
      intro i hin hq
      have hi : i < c 7 0 := by omega
      refine r_iload_n (pc := 13) h dX3_order_13 rfl ?_
      refine r_aload_n (pc := 14) h dX3_order_14 rfl ?_
      refine r_getR (pc := 15) h dX3_order_15 f_X3_10 sh_0 rfl ?_
      refine r_getE (pc := 18) h dX3_order_18 f_X3_188 sh_1 rfl (hR.ns) ?_
      refine r_icmp_ge (pc := 21) (tgt := 41) h dX3_order_21 (by decide) (fun c21 => absurd c21 (nI_ge hi (by omega))) (fun c21 => ?_)
      refine r_aload_n (pc := 24) h dX3_order_24 rfl ?_
      refine r_iload_n (pc := 25) h dX3_order_25 rfl ?_
      refine r_callVi (pc := 26) (As := [_]) h dX3_order_26 k_X3_194 gc_0 rfl ⟨Nat.le_of_ble_eq_true rfl, Nat.le_of_ble_eq_true rfl, Nat.le_of_ble_eq_true rfl⟩ (c_X3_suitsAhead hR ho hi) (fun x_26 g1 hq1 => ?_)
      obtain ⟨rfl, hg1⟩ := hq1
      rw [hg1]
      refine r_iload_n (pc := 29) h dX3_order_29 rfl ?_
      refine r_icmp_ne (pc := 30) (tgt := 35) h dX3_order_30 (by decide) (fun c30 => ?_) (fun c30 => ?_)
      · refine r_iinc (pc := 35) (ls2 := [_, _, _]) h dX3_order_35 rfl (ic1 _) rfl ?_
        refine r_goto (pc := 38) (tgt := 13) h dX3_order_38 (by decide) ?_
        exact ih (i + 1) (by omega) (by rw [hq, gfind, if_neg (by simpa using c30)])
      · refine r_iload_n (pc := 33) h dX3_order_33 rfl ?_
        refine r_ri t (pc := 34) dX3_order_34 rfl ?_
        exact x_ok hR hX frm.rf hw (by rw [hq, gfind, if_pos (by simpa using c30)]; rfl)
  refine r_iload_n (pc := 0) h dX3_order_0 rfl ?_
  refine r_if_ge (pc := 1) (tgt := 11) h dX3_order_1 (by decide) (fun c1 => ?_) (fun c1 => ?_)
  · have hw : ordW v = 0 := if_neg (Int32.not_lt.mpr c1)
    refine r_iconst (pc := 11) h dX3_order_11 ci_0 ?_
    refine r_istore_n (pc := 12) (ls2 := [_, _, _]) h dX3_order_12 (Nat.le_of_ble_eq_true rfl) rfl ?_
    exact loop hw (c 7 0) 0 (by omega) rfl
  · have hw : ordW v = -4 := if_pos (Int32.not_le.mp c1)
    refine r_aload_n (pc := 4) h dX3_order_4 rfl ?_
    refine r_bipush (pc := 5) h dX3_order_5 cb_m4 ?_
    refine r_callVi (pc := 7) (As := [_]) h dX3_order_7 k_X3_67 gc_0 rfl ⟨Nat.le_of_ble_eq_true rfl, Nat.le_of_ble_eq_true rfl, Nat.le_of_ble_eq_true rfl⟩ (c_X3_refuse (okw_in okw_4 (by decide)).1) (fun x_7 g1 hq => ?_)
    obtain ⟨rfl, rfl⟩ := hq
    refine r_ri t (pc := 10) dX3_order_10 rfl ?_
    rw [hw]
    exact x_ref hR hX okw_4 (by decide)
set_option maxRecDepth 100000 in
set_option maxHeartbeats 4000000 in
theorem x_heard (hR : Rx1 g c) (hX : XSr g ck hk lt nl rv nr rf) (ho : gok c) (hd : c 7 3 ≤ 999) (v : Int32) : gCi mX3_heard [.ref 0, .int v] g (fun y g1 => y = ansI (whyB (inB v 6) (-1)) (nI (heaV c v.toNatClampNeg)) ∧ Rx1 g1 (c) ∧ XSr g1 ck hk lt nl rv nr (rfI rf (whyB (inB v 6) (-1))) ∧ frm 0 35 g g1) := by
  refine gCi_of (own := RX3) (ls0 := [.ref 0, .int v, .null, .null]) ⟨rfl, pl_X3⟩ rfl (Nat.le_of_ble_eq_true rfl) (fun G (h : gR RX3 cX3_heard 1 40 G) (t : gTi cX3_heard .int _ G) => ?_)
  have hn5 := hR.n5
  have loop : ∀ k, k < 6 → whyB (inB (nI k) 6) (-1) = 0 → v = nI k → ∀ n i a, i + n = c 7 1 → gfold (fun i n => if k < c 5 i then n + 1 else n) n i a = heaV c k → G 20 [.ref 0, .int (nI k), .int (nI a), .int (nI i)] [] g := by
    intro k hk6 hw hv n
    subst hv
    have ek : (nI k).toNatClampNeg = k := nI_clamp (by omega)
    induction n with
    | zero =>
      intro i a hi hq
      refine r_iload_n (pc := 20) h dX3_heard_20 rfl ?_
      refine r_aload_n (pc := 21) h dX3_heard_21 rfl ?_
      refine r_getR (pc := 22) h dX3_heard_22 f_X3_10 sh_0 rfl ?_
      refine r_getE (pc := 25) h dX3_heard_25 f_X3_191 sh_1 rfl (hR.nc) ?_
      refine r_icmp_ge (pc := 28) (tgt := 53) h dX3_heard_28 (by decide) (fun c28 => ?_) (fun c28 => absurd (nI_le (by omega) (by omega)) c28)
      refine r_iload_n (pc := 53) h dX3_heard_53 rfl ?_
      refine r_ri t (pc := 54) dX3_heard_54 rfl ?_
      exact x_ok hR hX frm.rf hw (by rw [ek, ← hq]; rfl)
    | succ n ih =>
      intro i a hin hq
      have hi : i < c 7 1 := by omega
      have h5 := (ho.2.2.2 i hi).2.2.1
      refine r_iload_n (pc := 20) h dX3_heard_20 rfl ?_
      refine r_aload_n (pc := 21) h dX3_heard_21 rfl ?_
      refine r_getR (pc := 22) h dX3_heard_22 f_X3_10 sh_0 rfl ?_
      refine r_getE (pc := 25) h dX3_heard_25 f_X3_191 sh_1 rfl (hR.nc) ?_
      refine r_icmp_ge (pc := 28) (tgt := 53) h dX3_heard_28 (by decide) (fun c28 => absurd c28 (nI_ge hi (by omega))) (fun c28 => ?_)
      refine r_aload_n (pc := 31) h dX3_heard_31 rfl ?_
      refine r_getR (pc := 32) h dX3_heard_32 f_X3_10 sh_0 rfl ?_
      refine r_getR (pc := 35) h dX3_heard_35 f_X3_140 sh_1 rfl ?_
      refine r_iload_n (pc := 38) h dX3_heard_38 rfl ?_
      refine r_ialoadE (pc := 39) h dX3_heard_39 sh_7 (hR.sa hi) ?_
      refine r_iload_n (pc := 40) h dX3_heard_40 rfl ?_
      refine r_icmp_le (pc := 41) (tgt := 47) h dX3_heard_41 (by decide) (fun c41 => ?_) (fun c41 => ?_)
      · have q : c 5 i ≤ k := (nI_leI (by omega) (by omega)).mp c41
        rw [gfold, if_neg (by omega)] at hq
        refine r_iinc (pc := 47) (ls2 := [_, _, _, _]) h dX3_heard_47 rfl (ic1 _) rfl ?_
        refine r_goto (pc := 50) (tgt := 20) h dX3_heard_50 (by decide) ?_
        exact ih (i + 1) _ (by omega) hq
      · have q : ¬ c 5 i ≤ k := fun z => c41 (nI_le z (by omega))
        rw [gfold, if_pos (by omega)] at hq
        refine r_iinc (pc := 44) (ls2 := [_, _, _, _]) h dX3_heard_44 rfl (ic1 _) rfl ?_
        refine r_iinc (pc := 47) (ls2 := [_, _, _, _]) h dX3_heard_47 rfl (ic1 _) rfl ?_
        refine r_goto (pc := 50) (tgt := 20) h dX3_heard_50 (by decide) ?_
        exact ih (i + 1) _ (by omega) hq
  refine r_iload_n (pc := 0) h dX3_heard_0 rfl ?_
  refine r_if_lt (pc := 1) (tgt := 10) h dX3_heard_1 (by decide) (fun c1 => ?_) (fun c1 => ?_)
  · have hb : inB v 6 = false := by simp [inB, c1]
    refine r_aload_n (pc := 10) h dX3_heard_10 rfl ?_
    refine r_iconst (pc := 11) h dX3_heard_11 ci_m1 ?_
    refine r_callVi (pc := 12) (As := [_]) h dX3_heard_12 k_X3_67 gc_0 rfl ⟨Nat.le_of_ble_eq_true rfl, Nat.le_of_ble_eq_true rfl, Nat.le_of_ble_eq_true rfl⟩ (c_X3_refuse (okw_in okw_1 (by decide)).1) (fun x_12 g1 hq => ?_)
    obtain ⟨rfl, rfl⟩ := hq
    refine r_ri t (pc := 15) dX3_heard_15 rfl ?_
    rw [show whyB (inB v 6) (-1) = -1 by rw [hb]; rfl]
    exact x_ref hR hX okw_1 (by decide)
  · refine r_iload_n (pc := 4) h dX3_heard_4 rfl ?_
    refine r_bipush (pc := 5) h dX3_heard_5 cb_6 ?_
    refine r_icmp_lt (pc := 7) (tgt := 16) h dX3_heard_7 (by decide) (fun c7 => ?_) (fun c7 => ?_)
    · obtain ⟨k, hk6, hv⟩ := (inB_iff (x := v) (n := 6) (by decide)).mp (decide_eq_true ⟨c1, Int32.not_le.mpr c7⟩)
      subst hv
      refine r_iconst (pc := 16) h dX3_heard_16 ci_0 ?_
      refine r_istore_n (pc := 17) (ls2 := [_, _, _, _]) h dX3_heard_17 (Nat.le_of_ble_eq_true rfl) rfl ?_
      refine r_iconst (pc := 18) h dX3_heard_18 ci_0 ?_
      refine r_istore_n (pc := 19) (ls2 := [_, _, _, _]) h dX3_heard_19 (Nat.le_of_ble_eq_true rfl) rfl ?_
      exact loop k hk6 (by rw [inB_nI hk6 (by decide)]; rfl) rfl (c 7 1) 0 0 (by omega) rfl
    · have hb : inB v 6 = false := by unfold inB; exact decide_eq_false (fun q => q.2 (Int32.not_lt.mp c7))
      refine r_aload_n (pc := 10) h dX3_heard_10 rfl ?_
      refine r_iconst (pc := 11) h dX3_heard_11 ci_m1 ?_
      refine r_callVi (pc := 12) (As := [_]) h dX3_heard_12 k_X3_67 gc_0 rfl ⟨Nat.le_of_ble_eq_true rfl, Nat.le_of_ble_eq_true rfl, Nat.le_of_ble_eq_true rfl⟩ (c_X3_refuse (okw_in okw_1 (by decide)).1) (fun x_12 g1 hq => ?_)
      obtain ⟨rfl, rfl⟩ := hq
      refine r_ri t (pc := 15) dX3_heard_15 rfl ?_
      rw [show whyB (inB v 6) (-1) = -1 by rw [hb]; rfl]
      exact x_ref hR hX okw_1 (by decide)
set_option maxRecDepth 100000 in
set_option maxHeartbeats 4000000 in
theorem x_rusted (hR : Rx1 g c) (hX : XSr g ck hk lt nl rv nr rf) (ho : gok c) (hd : c 7 3 ≤ 999) (x : Int32) : gCi mX3_rusted [.ref 0, .int x] g (fun y g1 => y = ansI (sufW c x) (rusV c x.toNatClampNeg) ∧ Rx1 g1 (c) ∧ XSr g1 ck hk lt nl rv nr (rfI rf (sufW c x)) ∧ frm 0 35 g g1) := by
  refine gCi_of (own := RX3) (ls0 := [.ref 0, .int x, .null, .null, .null]) ⟨rfl, pl_X3⟩ rfl (Nat.le_of_ble_eq_true rfl) (fun G (h : gR RX3 cX3_rusted 2 80 G) (t : gTi cX3_rusted .int _ G) => ?_)
  have hn5 := hR.n5
  have hn6 := hR.n6
  have loop : ∀ s, s < c 7 0 → sufW c (nI s) = 0 → x = nI s → ∀ i, i < c 7 1 → wr c s = some i → c 5 i < 6 → ∀ n r, r + n = 10 → rusV c s = oI (gfind (fun r => !canB c i (covN (c 0 s) (c 1 s) r)) n r) → G 51 [.ref 0, .int (nI s), .int (nI 0), .int (nI i), .int (nI r)] [] g := by
    intro s hs hw hx i hi hwr h5 n
    subst hx
    have es : (nI s).toNatClampNeg = s := nI_clamp (by omega)
    have hk := ho.2.2.1 s hs
    induction n with
    | zero =>
      intro r hr hq
      refine r_iload (pc := 51) h dX3_rusted_51 rfl ?_
      refine r_bipush (pc := 53) h dX3_rusted_53 cb_9 ?_
      refine r_icmp_gt (pc := 55) (tgt := 88) h dX3_rusted_55 (by decide) (fun c55 => ?_) (fun c55 => absurd (nI_lt (by omega) (by omega)) c55)
      refine r_bipush (pc := 88) h dX3_rusted_88 cb_m9 ?_
      refine r_ri t (pc := 90) dX3_rusted_90 rfl ?_
      exact x_ok hR hX frm.rf hw (by rw [es, hq]; rfl)
    | succ n ih =>
      intro r hr hq
      refine r_iload (pc := 51) h dX3_rusted_51 rfl ?_
      refine r_bipush (pc := 53) h dX3_rusted_53 cb_9 ?_
      refine r_icmp_gt (pc := 55) (tgt := 88) h dX3_rusted_55 (by decide) (fun c55 => absurd c55 (nI_nlt (by omega) (by omega))) (fun c55 => ?_)
      refine r_aload_n (pc := 58) h dX3_rusted_58 rfl ?_
      refine r_getR (pc := 59) h dX3_rusted_59 f_X3_10 sh_0 rfl ?_
      refine r_iload_n (pc := 62) h dX3_rusted_62 rfl ?_
      refine r_aload_n (pc := 63) h dX3_rusted_63 rfl ?_
      refine r_getR (pc := 64) h dX3_rusted_64 f_X3_10 sh_0 rfl ?_
      refine r_iload_n (pc := 67) h dX3_rusted_67 rfl ?_
      refine r_iload (pc := 68) h dX3_rusted_68 rfl ?_
      refine r_callVi (pc := 70) (As := [_, _]) h dX3_rusted_70 k_X3_197 gc_1 rfl ⟨Nat.le_of_ble_eq_true rfl, Nat.le_of_ble_eq_true rfl, Nat.le_of_ble_eq_true rfl⟩ (c_X0_coversWith_1 hR ho hs (by omega)) (fun x_70 g1 hq1 => ?_)
      obtain ⟨rfl, hg1⟩ := hq1
      rw [hg1]
      refine r_callVi (pc := 73) (As := [_, _]) h dX3_rusted_73 k_X3_200 gc_1 rfl ⟨Nat.le_of_ble_eq_true rfl, Nat.le_of_ble_eq_true rfl, Nat.le_of_ble_eq_true rfl⟩ (c_X0_canCovered_1 hR ho hi (covN_le hk.2.1 _)) (fun x_73 g1 hq1 => ?_)
      obtain ⟨rfl, hg1⟩ := hq1
      rw [hg1]
      refine r_if_ne (pc := 76) (tgt := 82) h dX3_rusted_76 (by decide) (fun c76 => ?_) (fun c76 => ?_)
      · have hc : canB c i (covN (c 0 s) (c 1 s) r) = true := by simpa using mt (bI_0 (canB c i (covN (c 0 s) (c 1 s) r))).mpr c76
        refine r_iinc (pc := 82) (ls2 := [_, _, _, _, _]) h dX3_rusted_82 rfl (ic1 _) rfl ?_
        refine r_goto (pc := 85) (tgt := 51) h dX3_rusted_85 (by decide) ?_
        exact ih (r + 1) (by omega) (by rw [hq, gfind, if_neg (by rw [hc]; decide)])
      · have hc := (bI_0 _).mp c76
        refine r_iload (pc := 79) h dX3_rusted_79 rfl ?_
        refine r_ri t (pc := 81) dX3_rusted_81 rfl ?_
        exact x_ok hR hX frm.rf hw (by rw [es, hq, gfind, if_pos (by rw [hc]; rfl)]; rfl)
  refine r_aload_n (pc := 0) h dX3_rusted_0 rfl ?_
  refine r_iload_n (pc := 1) h dX3_rusted_1 rfl ?_
  refine r_callVi (pc := 2) (As := [_]) h dX3_rusted_2 k_X3_98 gc_0 rfl ⟨Nat.le_of_ble_eq_true rfl, Nat.le_of_ble_eq_true rfl, Nat.le_of_ble_eq_true rfl⟩ (c_X3_anySuit hR x) (fun x_2 g1 hq => ?_)
  obtain ⟨rfl, hg1⟩ := hq
  rw [hg1]
  refine r_istore_n (pc := 5) (ls2 := [_, _, _, _, _]) h dX3_rusted_5 (Nat.le_of_ble_eq_true rfl) rfl ?_
  refine r_iload_n (pc := 6) h dX3_rusted_6 rfl ?_
  refine r_if_eq (pc := 7) (tgt := 16) h dX3_rusted_7 (by decide) (fun c7 => ?_) (fun c7 => ?_)
  · have hw : sufW c x = 0 := c7
    obtain ⟨s, hs, rfl⟩ := suf_0 hw hn6
    have es : (nI s).toNatClampNeg = s := nI_clamp (by omega)
    refine r_aload_n (pc := 16) h dX3_rusted_16 rfl ?_
    refine r_getR (pc := 17) h dX3_rusted_17 f_X3_10 sh_0 rfl ?_
    refine r_iload_n (pc := 20) h dX3_rusted_20 rfl ?_
    refine r_callVi (pc := 21) (As := [_]) h dX3_rusted_21 k_X3_128 gc_1 rfl ⟨Nat.le_of_ble_eq_true rfl, Nat.le_of_ble_eq_true rfl, Nat.le_of_ble_eq_true rfl⟩ (c_X0_wearer_1 hR ho (by omega)) (fun x_21 g1 hq => ?_)
    obtain ⟨rfl, hg1⟩ := hq
    rw [hg1]
    refine r_istore_n (pc := 24) (ls2 := [_, _, _, _, _]) h dX3_rusted_24 (Nat.le_of_ble_eq_true rfl) rfl ?_
    refine r_iload_n (pc := 25) h dX3_rusted_25 rfl ?_
    refine r_bipush (pc := 26) h dX3_rusted_26 cb_m9 ?_
    refine r_icmp_eq (pc := 28) (tgt := 45) h dX3_rusted_28 (by decide) (fun c28 => ?_) (fun c28 => ?_)
    · have hwr := (wr_9 hn5).mp c28
      have e : rusV c s = -9 := by unfold rusV; rw [hwr]
      refine r_bipush (pc := 45) h dX3_rusted_45 cb_m9 ?_
      refine r_ri t (pc := 47) dX3_rusted_47 rfl ?_
      exact x_ok hR hX frm.rf hw (by rw [es, e])
    · obtain ⟨i, hwr⟩ : ∃ i, wr c s = some i := Option.ne_none_iff_exists'.mp (fun q => c28 ((wr_9 hn5).mpr q))
      have hi : i < c 7 1 := (wr_lt hwr).1
      have h56 := (ho.2.2.2 i hi).2.2.1
      rw [show oI (wr c s) = nI i by rw [hwr]; rfl]
      refine r_aload_n (pc := 31) h dX3_rusted_31 rfl ?_
      refine r_getR (pc := 32) h dX3_rusted_32 f_X3_10 sh_0 rfl ?_
      refine r_getR (pc := 35) h dX3_rusted_35 f_X3_140 sh_1 rfl ?_
      refine r_iload_n (pc := 38) h dX3_rusted_38 rfl ?_
      refine r_ialoadE (pc := 39) h dX3_rusted_39 sh_7 (hR.sa hi) ?_
      refine r_bipush (pc := 40) h dX3_rusted_40 cb_6 ?_
      refine r_icmp_lt (pc := 42) (tgt := 48) h dX3_rusted_42 (by decide) (fun c42 => ?_) (fun c42 => ?_)
      · have h5 : c 5 i < 6 := (nI_ltI (by omega) (by decide)).mp c42
        rw [show sufW c (nI s) = nI 0 from hw]
        refine r_iconst (pc := 48) h dX3_rusted_48 ci_0 ?_
        refine r_istore (pc := 49) (ls2 := [_, _, _, _, _]) h dX3_rusted_49 (Nat.le_of_ble_eq_true rfl) rfl ?_
        exact loop s hs hw rfl i hi hwr h5 10 0 rfl (by unfold rusV; rw [hwr]; exact if_neg (by omega))
      · have h5 : ¬ c 5 i < 6 := fun q => c42 (nI_lt q (by decide))
        have e : rusV c s = -9 := by unfold rusV; rw [hwr]; exact if_pos (by omega)
        refine r_bipush (pc := 45) h dX3_rusted_45 cb_m9 ?_
        refine r_ri t (pc := 47) dX3_rusted_47 rfl ?_
        exact x_ok hR hX frm.rf hw (by rw [es, e])
  · have hw : ¬ sufW c x = 0 := c7
    refine r_aload_n (pc := 10) h dX3_rusted_10 rfl ?_
    refine r_iload_n (pc := 11) h dX3_rusted_11 rfl ?_
    refine r_callVi (pc := 12) (As := [_]) h dX3_rusted_12 k_X3_67 gc_0 rfl ⟨Nat.le_of_ble_eq_true rfl, Nat.le_of_ble_eq_true rfl, Nat.le_of_ble_eq_true rfl⟩ (c_X3_refuse (okw_in (okw_suf c x) hw).1) (fun x_12 g1 hq => ?_)
    obtain ⟨rfl, rfl⟩ := hq
    refine r_ri t (pc := 15) dX3_rusted_15 rfl ?_
    exact x_ref hR hX (okw_suf c x) hw
end TX
