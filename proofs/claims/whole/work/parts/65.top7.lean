section TX
variable {g : gG} {c ck : gCt} {hk : Bool} {lt : Nat → Nat} {nl : Nat} {rv : Nat → Nat} {nr : Nat} {rf : Nat → Int32}
set_option maxRecDepth 100000 in
set_option maxHeartbeats 4000000 in
theorem x_two (hR : Rx1 g c) (hX : XSr g ck hk lt nl rv nr rf) (ho : gok c) (hd : c 7 3 ≤ 999) (x y v : Int32) : gCi mX3_two [.ref 0, .int x, .int y, .int v] g (fun r g1 => r = ansI (twW c x y v) (twV c x.toNatClampNeg y.toNatClampNeg v.toNatClampNeg) ∧ Rx1 g1 (c) ∧ XSr g1 ck hk lt nl rv nr (rfI rf (twW c x y v)) ∧ frm 0 35 g g1) := by
  refine gCi_of (own := RX3) (ls0 := [.ref 0, .int x, .int y, .int v, .null, .null]) ⟨rfl, pl_X3⟩ rfl (Nat.le_of_ble_eq_true rfl) (fun G (h : gR RX3 cX3_two 6 240 G) (t : gTi cX3_two .int _ G) => ?_)
  have hn5 := hR.n5
  have hn6 := hR.n6
  have loop : ∀ a b n, a < c 7 1 → b < c 7 1 → n ≤ 30 → twW c (nI a) (nI b) (nI n) = 0 → x = nI a → y = nI b → v = nI n → ∀ (a4 : Int32) m k (g2 : gG), k + m = 4 → Rx1 g2 c → XSr g2 ck hk lt nl rv nr rf → frm 0 35 g g2 → (∀ j, j < k → g2 33 j = tw1 c a b n j ∧ g2 34 j = tw2 c a b n j) → G 67 [.ref 0, .int (nI a), .int (nI b), .int (nI n), .int a4, .int (nI k)] [] g2 := by
    intro a b n ha hb hn hw hx hy hv a4 m
    subst hx; subst hy; subst hv
    have ea : (nI a).toNatClampNeg = a := nI_clamp (by omega)
    have eb : (nI b).toNatClampNeg = b := nI_clamp (by omega)
    have en : (nI n).toNatClampNeg = n := nI_clamp (by omega)
    have loop2 : ∀ (g2 : gG), Rx1 g2 c → XSr g2 ck hk lt nl rv nr rf → frm 0 35 g g2 → (∀ j, j < 4 → vp_in (nI j) 4 ∧ g2 33 (nI j).toNatClampNeg = tw1 c a b n j) → (∀ j, j < 4 → vp_in (nI j) 4 ∧ g2 34 (nI j).toNatClampNeg = tw2 c a b n j) → ∀ m k, k + m = 4 → gfind (twP c a b n) m k = gfind (twP c a b n) 4 0 → G 117 [.ref 0, .int (nI a), .int (nI b), .int (nI n), .int a4, .int (nI k)] [] g2 := by
      intro g2 hR hX hF hA1 hA2 m
      induction m with
      | zero =>
        intro k hk hz
        refine r_iload (pc := 117) h dX3_two_117 rfl ?_
        refine r_iconst (pc := 119) h dX3_two_119 ci_4 ?_
        refine r_icmp_ge (pc := 120) (tgt := 180) h dX3_two_120 (by decide) (fun c120 => ?_) (fun c120 => absurd (nI_le (by omega) (by omega)) c120)
        refine r_bipush (pc := 180) h dX3_two_180 cb_m9 ?_
        refine r_ri t (pc := 182) dX3_two_182 rfl ?_
        exact x_ok hR hX hF hw (by rw [ea, eb, en]; unfold twV; rw [← hz]; rfl)
      | succ m ih =>
        intro k hk hz
        have hk4 : k < 4 := by omega
        refine r_iload (pc := 117) h dX3_two_117 rfl ?_
        refine r_iconst (pc := 119) h dX3_two_119 ci_4 ?_
        refine r_icmp_ge (pc := 120) (tgt := 180) h dX3_two_120 (by decide) (fun c120 => absurd c120 (nI_ge hk4 (by decide))) (fun c120 => ?_)
        refine r_aload_n (pc := 123) h dX3_two_123 rfl ?_
        refine r_getR (pc := 124) h dX3_two_124 f_X3_54 sh_0 rfl ?_
        refine r_iload (pc := 127) h dX3_two_127 rfl ?_
        refine r_ialoadE (pc := 129) h dX3_two_129 sh_33 (hA1 k hk4) ?_
        refine r_aload_n (pc := 130) h dX3_two_130 rfl ?_
        refine r_getR (pc := 131) h dX3_two_131 f_X3_54 sh_0 rfl ?_
        refine r_iload (pc := 134) h dX3_two_134 rfl ?_
        refine r_iconst (pc := 136) h dX3_two_136 ci_2 ?_
        refine r_ixor (pc := 137) h dX3_two_137 ?_
        refine r_top (y := nI (k ^^^ 2)) h (k4_x2 k hk4).1 ?_
        refine r_ialoadE (pc := 138) h dX3_two_138 sh_33 (hA1 (k ^^^ 2) (k4_x2 k hk4).2) ?_
        refine r_icmp_lt (pc := 139) (tgt := 174) h dX3_two_139 (by decide) (fun c139 => ?_) (fun c139 => ?_)
        · refine r_iinc (pc := 174) (ls2 := [_, _, _, _, _, _]) h dX3_two_174 rfl (ic1 _) rfl ?_
          refine r_goto (pc := 177) (tgt := 117) h dX3_two_177 (by decide) ?_
          exact ih (k + 1) (by omega) (by rw [← hz, gfind, if_neg (by unfold twP; rw [decide_eq_true c139, Bool.not_true, Bool.false_and]; decide)])
        · refine r_aload_n (pc := 142) h dX3_two_142 rfl ?_
          refine r_getR (pc := 143) h dX3_two_143 f_X3_57 sh_0 rfl ?_
          refine r_iload (pc := 146) h dX3_two_146 rfl ?_
          refine r_ialoadE (pc := 148) h dX3_two_148 sh_34 (hA2 k hk4) ?_
          refine r_aload_n (pc := 149) h dX3_two_149 rfl ?_
          refine r_getR (pc := 150) h dX3_two_150 f_X3_57 sh_0 rfl ?_
          refine r_iload (pc := 153) h dX3_two_153 rfl ?_
          refine r_iconst (pc := 155) h dX3_two_155 ci_1 ?_
          refine r_ixor (pc := 156) h dX3_two_156 ?_
          refine r_top (y := nI (k ^^^ 1)) h (k4_x1 k hk4).1 ?_
          refine r_ialoadE (pc := 157) h dX3_two_157 sh_34 (hA2 (k ^^^ 1) (k4_x1 k hk4).2) ?_
          refine r_icmp_lt (pc := 158) (tgt := 174) h dX3_two_158 (by decide) (fun c158 => ?_) (fun c158 => ?_)
          · refine r_iinc (pc := 174) (ls2 := [_, _, _, _, _, _]) h dX3_two_174 rfl (ic1 _) rfl ?_
            refine r_goto (pc := 177) (tgt := 117) h dX3_two_177 (by decide) ?_
            exact ih (k + 1) (by omega) (by rw [← hz, gfind, if_neg (by unfold twP; rw [decide_eq_true c158, Bool.not_true, Bool.and_false]; decide)])
          · refine r_bipush (pc := 161) h dX3_two_161 cb_10 ?_
            refine r_iload (pc := 163) h dX3_two_163 rfl ?_
            refine r_iconst (pc := 165) h dX3_two_165 ci_1 ?_
            refine r_ishr (pc := 166) h dX3_two_166 ?_
            refine r_imul (pc := 167) h dX3_two_167 ?_
            refine r_iload (pc := 168) h dX3_two_168 rfl ?_
            refine r_iconst (pc := 170) h dX3_two_170 ci_1 ?_
            refine r_iand (pc := 171) h dX3_two_171 ?_
            refine r_iadd (pc := 172) h dX3_two_172 ?_
            refine r_ri t (pc := 173) dX3_two_173 rfl ?_
            exact x_ok hR hX hF hw (by rw [ea, eb, en]; unfold twV; rw [← hz, gfind, if_pos (by unfold twP; rw [decide_eq_false c139, decide_eq_false c158]; rfl)]; exact k4_v k hk4)
    induction m with
    | zero =>
      intro k g2 hk hR hX hF hA
      refine r_iload (pc := 67) h dX3_two_67 rfl ?_
      refine r_iconst (pc := 69) h dX3_two_69 ci_4 ?_
      refine r_icmp_ge (pc := 70) (tgt := 114) h dX3_two_70 (by decide) (fun c70 => ?_) (fun c70 => absurd (nI_le (by omega) (by omega)) c70)
      refine r_iconst (pc := 114) h dX3_two_114 ci_0 ?_
      refine r_istore (pc := 115) (ls2 := [_, _, _, _, _, _]) h dX3_two_115 (Nat.le_of_ble_eq_true rfl) rfl ?_
      exact loop2 g2 hR hX hF (fun j hj => ⟨vp_in_nI hj (by decide), by rw [nI_clamp (by omega)]; exact (hA j (by omega)).1⟩) (fun j hj => ⟨vp_in_nI hj (by decide), by rw [nI_clamp (by omega)]; exact (hA j (by omega)).2⟩) 4 0 rfl rfl
    | succ m ih =>
      intro k g2 hk hR hX hF hA
      have hk4 : k < 4 := by omega
      have ek : (nI k).toNatClampNeg = k := nI_clamp (by omega)
      have hok := twK_ok ho a b k
      have hD := daysC_ok hok.1 n (by rw [hok.2.2.1]; omega)
      have ha9 : a < daysC n (twK c a b k) 7 1 := by rw [hD.2.1, hok.2.1]; exact ha
      have hb9 : b < daysC n (twK c a b k) 7 1 := by rw [hD.2.1, hok.2.1]; exact hb
      refine r_iload (pc := 67) h dX3_two_67 rfl ?_
      refine r_iconst (pc := 69) h dX3_two_69 ci_4 ?_
      refine r_icmp_ge (pc := 70) (tgt := 114) h dX3_two_70 (by decide) (fun c70 => absurd c70 (nI_ge hk4 (by decide))) (fun c70 => ?_)
      refine r_aload_n (pc := 73) h dX3_two_73 rfl ?_
      refine r_iload_n (pc := 74) h dX3_two_74 rfl ?_
      refine r_iload_n (pc := 75) h dX3_two_75 rfl ?_
      refine r_iload (pc := 76) h dX3_two_76 rfl ?_
      refine r_iload_n (pc := 78) h dX3_two_78 rfl ?_
      refine r_callVv (pc := 79) (As := [_, _, _, _]) h dX3_two_79 k_X3_204 gc_0 rfl ⟨Nat.le_of_ble_eq_true rfl, Nat.le_of_ble_eq_true rfl, Nat.le_of_ble_eq_true rfl⟩ (c_X3_thinkPair hR ho hd ha hb hk4 hn) (fun g2 hq => ?_)
      obtain ⟨hT, hF1⟩ := hq
      have hR := hR.f9 hF1
      have hX := hX.f9 hF1
      have hF := hF.tr (hF1.wide (by decide) (by decide))
      have hA : ∀ j, j < k → g2 33 j = tw1 c a b n j ∧ g2 34 j = tw2 c a b n j := fun j hj => by rw [hF1 33 (by decide), hF1 34 (by decide)]; exact hA j hj
      clear hF1
      refine r_aload_n (pc := 82) h dX3_two_82 rfl ?_
      refine r_getR (pc := 83) h dX3_two_83 f_X3_54 sh_0 rfl ?_
      refine r_iload (pc := 86) h dX3_two_86 rfl ?_
      refine r_aload_n (pc := 88) h dX3_two_88 rfl ?_
      refine r_iload_n (pc := 89) h dX3_two_89 rfl ?_
      refine r_iload_n (pc := 90) h dX3_two_90 rfl ?_
      refine r_callVi (pc := 91) (As := [_, _]) h dX3_two_91 k_X3_208 gc_0 rfl ⟨Nat.le_of_ble_eq_true rfl, Nat.le_of_ble_eq_true rfl, Nat.le_of_ble_eq_true rfl⟩ (c_X3_wish hT hD.2.2.2 ha9 hb9) (fun x_91 g2 hq => ?_)
      obtain ⟨rfl, rfl⟩ := hq
      refine r_iastore (pc := 94) h dX3_two_94 sh_33 (vp_in_nI hk4 (by decide)) ?_
      obtain ⟨g3, hg3⟩ : ∃ g3, g3 = gup g2 33 k (wsh (daysC n (twK c a b k)) a b) := ⟨_, rfl⟩
      rw [ek, ← hg3]
      have hf3 : frm 32 35 g2 g3 := by rw [hg3]; exact frm.rf.up (by decide)
      have hR := hR.f32 hf3
      have hX := hX.f32 hf3
      have hT := hT.f32 hf3
      have hF := hF.tr (hf3.wide (by decide) (by decide))
      have hB : g3 33 k = wsh (daysC n (twK c a b k)) a b := by rw [hg3]; exact gup_s
      
      have hA : ∀ j, j < k → g3 33 j = tw1 c a b n j ∧ g3 34 j = tw2 c a b n j := fun j hj => by rw [hg3, gup_o (by omega), gup_o (by omega)]; exact hA j hj
      clear hg3 hf3
      revert g3
      intro g2 hR hX hT hF hB  hA
      refine r_aload_n (pc := 95) h dX3_two_95 rfl ?_
      refine r_getR (pc := 96) h dX3_two_96 f_X3_57 sh_0 rfl ?_
      refine r_iload (pc := 99) h dX3_two_99 rfl ?_
      refine r_aload_n (pc := 101) h dX3_two_101 rfl ?_
      refine r_iload_n (pc := 102) h dX3_two_102 rfl ?_
      refine r_iload_n (pc := 103) h dX3_two_103 rfl ?_
      refine r_callVi (pc := 104) (As := [_, _]) h dX3_two_104 k_X3_208 gc_0 rfl ⟨Nat.le_of_ble_eq_true rfl, Nat.le_of_ble_eq_true rfl, Nat.le_of_ble_eq_true rfl⟩ (c_X3_wish hT hD.2.2.2 hb9 ha9) (fun x_104 g2 hq => ?_)
      obtain ⟨rfl, rfl⟩ := hq
      refine r_iastore (pc := 107) h dX3_two_107 sh_34 (vp_in_nI hk4 (by decide)) ?_
      obtain ⟨g3, hg3⟩ : ∃ g3, g3 = gup g2 34 k (wsh (daysC n (twK c a b k)) b a) := ⟨_, rfl⟩
      rw [ek, ← hg3]
      have hf3 : frm 32 35 g2 g3 := by rw [hg3]; exact frm.rf.up (by decide)
      have hR := hR.f32 hf3
      have hX := hX.f32 hf3
      have hT := hT.f32 hf3
      have hF := hF.tr (hf3.wide (by decide) (by decide))
      have hC : g3 34 k = wsh (daysC n (twK c a b k)) b a := by rw [hg3]; exact gup_s
      have hB : g3 33 k = wsh (daysC n (twK c a b k)) a b := by rw [hg3, gup_o (by omega)]; exact hB
      have hA : ∀ j, j < k → g3 33 j = tw1 c a b n j ∧ g3 34 j = tw2 c a b n j := fun j hj => by rw [hg3, gup_o (by omega), gup_o (by omega)]; exact hA j hj
      clear hg3 hf3
      revert g3
      intro g2 hR hX hT hF hC hB hA
      refine r_iinc (pc := 108) (ls2 := [_, _, _, _, _, _]) h dX3_two_108 rfl (ic1 _) rfl ?_
      refine r_goto (pc := 111) (tgt := 67) h dX3_two_111 (by decide) ?_
      exact ih (k + 1) g2 (by omega) hR hX hF (fun j hj => by
        by_cases e : j = k
        · rw [e]; exact ⟨hB, hC⟩
        · exact hA j (by omega))
  suffices H : ∀ g2 : gG, Rx1 g2 c → XSr g2 ck hk lt nl rv nr rf → frm 0 35 g g2 → G 0 [.ref 0, .int x, .int y, .int v, .null, .null] [] g2 from H g hR hX frm.rf
  intro g2 hR hX hF
  refine r_aload_n (pc := 0) h dX3_two_0 rfl ?_
  refine r_iload_n (pc := 1) h dX3_two_1 rfl ?_
  refine r_callVi (pc := 2) (As := [_]) h dX3_two_2 k_X3_131 gc_0 rfl ⟨Nat.le_of_ble_eq_true rfl, Nat.le_of_ble_eq_true rfl, Nat.le_of_ble_eq_true rfl⟩ (c_X3_anyCaller hR x) (fun x_2 g2 hq => ?_)
  obtain ⟨rfl, rfl⟩ := hq
  refine r_aload_n (pc := 5) h dX3_two_5 rfl ?_
  refine r_iload_n (pc := 6) h dX3_two_6 rfl ?_
  refine r_callVi (pc := 7) (As := [_]) h dX3_two_7 k_X3_131 gc_0 rfl ⟨Nat.le_of_ble_eq_true rfl, Nat.le_of_ble_eq_true rfl, Nat.le_of_ble_eq_true rfl⟩ (c_X3_anyCaller hR y) (fun x_7 g2 hq => ?_)
  obtain ⟨rfl, rfl⟩ := hq
  refine r_iload_n (pc := 10) h dX3_two_10 rfl ?_
  refine r_iload_n (pc := 11) h dX3_two_11 rfl ?_
  refine r_icmp_ne (pc := 12) (tgt := 19) h dX3_two_12 (by decide) (fun c12 => ?_) (fun c12 => ?_)
  · have hxy : ¬ x = y := c12
    refine r_iconst (pc := 19) h dX3_two_19 ci_0 ?_
    refine r_callSi (pc := 20) (As := [_, _, _]) h dX3_two_20 k_X3_104 rfl ⟨Nat.le_of_ble_eq_true rfl, Nat.le_of_ble_eq_true rfl, Nat.le_of_ble_eq_true rfl⟩ (c_X3_firstOf _ _ _) (fun x_20 g2 hq => ?_)
    obtain ⟨rfl, rfl⟩ := hq
    refine r_istore (pc := 23) (ls2 := [_, _, _, _, _, _]) h dX3_two_23 (Nat.le_of_ble_eq_true rfl) rfl ?_
    refine r_iload (pc := 25) h dX3_two_25 rfl ?_
    refine r_if_ne (pc := 27) (tgt := 52) h dX3_two_27 (by decide) (fun c27 => ?_) (fun c27 => ?_)
    · have hw1 : ¬ fstI (calW c x) (calW c y) (nI 0) = 0 := c27
      have hw := hw1
      have hok : okw (fstI (calW c x) (calW c y) (nI 0)) := okw_f (okw_cal c x) (okw_cal c y) okw_0
      have ew : twW c x y v = fstI (calW c x) (calW c y) (nI 0) := by unfold twW; rw [if_neg hxy, if_neg hw]
      refine r_iload (pc := 52) h dX3_two_52 rfl ?_
      refine r_if_eq (pc := 54) (tgt := 64) h dX3_two_54 (by decide) (fun c54 => absurd c54 (hw1)) (fun c54 => ?_)
      refine r_aload_n (pc := 57) h dX3_two_57 rfl ?_
      refine r_iload (pc := 58) h dX3_two_58 rfl ?_
      refine r_callVi (pc := 60) (As := [_]) h dX3_two_60 k_X3_67 gc_0 rfl ⟨Nat.le_of_ble_eq_true rfl, Nat.le_of_ble_eq_true rfl, Nat.le_of_ble_eq_true rfl⟩ (c_X3_refuse (okw_in hok hw).1) (fun x_60 g2 hq => ?_)
      obtain ⟨rfl, rfl⟩ := hq
      refine r_ri t (pc := 63) dX3_two_63 rfl ?_
      rw [ew]
      have hq := x_ref hR hX hok hw (v := twV c x.toNatClampNeg y.toNatClampNeg v.toNatClampNeg)
      exact ⟨hq.1, hq.2.1, hq.2.2.1, hF.tr hq.2.2.2⟩
    · have hw1 : fstI (calW c x) (calW c y) (nI 0) = 0 := c27
      have ew : twW c x y v = fstI (bndI v (nI 0) (nI 30)) (insW c x) (insW c y) := by unfold twW; rw [if_neg hxy, if_pos hw1]
      refine r_iload_n (pc := 30) h dX3_two_30 rfl ?_
      refine r_iconst (pc := 31) h dX3_two_31 ci_0 ?_
      refine r_bipush (pc := 32) h dX3_two_32 cb_30 ?_
      refine r_callSi (pc := 34) (As := [_, _, _]) h dX3_two_34 k_X3_60 rfl ⟨Nat.le_of_ble_eq_true rfl, Nat.le_of_ble_eq_true rfl, Nat.le_of_ble_eq_true rfl⟩ (c_X3_range _ _ _) (fun x_34 g2 hq => ?_)
      obtain ⟨rfl, rfl⟩ := hq
      refine r_aload_n (pc := 37) h dX3_two_37 rfl ?_
      refine r_iload_n (pc := 38) h dX3_two_38 rfl ?_
      refine r_callVi (pc := 39) (As := [_]) h dX3_two_39 k_X3_161 gc_0 rfl ⟨Nat.le_of_ble_eq_true rfl, Nat.le_of_ble_eq_true rfl, Nat.le_of_ble_eq_true rfl⟩ (c_X3_inSuit hR ho x) (fun x_39 g2 hq => ?_)
      obtain ⟨rfl, rfl⟩ := hq
      refine r_aload_n (pc := 42) h dX3_two_42 rfl ?_
      refine r_iload_n (pc := 43) h dX3_two_43 rfl ?_
      refine r_callVi (pc := 44) (As := [_]) h dX3_two_44 k_X3_161 gc_0 rfl ⟨Nat.le_of_ble_eq_true rfl, Nat.le_of_ble_eq_true rfl, Nat.le_of_ble_eq_true rfl⟩ (c_X3_inSuit hR ho y) (fun x_44 g2 hq => ?_)
      obtain ⟨rfl, rfl⟩ := hq
      refine r_callSi (pc := 47) (As := [_, _, _]) h dX3_two_47 k_X3_104 rfl ⟨Nat.le_of_ble_eq_true rfl, Nat.le_of_ble_eq_true rfl, Nat.le_of_ble_eq_true rfl⟩ (c_X3_firstOf _ _ _) (fun x_47 g2 hq => ?_)
      obtain ⟨rfl, rfl⟩ := hq
      refine r_istore (pc := 50) (ls2 := [_, _, _, _, _, _]) h dX3_two_50 (Nat.le_of_ble_eq_true rfl) rfl ?_
      refine r_iload (pc := 52) h dX3_two_52 rfl ?_
      refine r_if_eq (pc := 54) (tgt := 64) h dX3_two_54 (by decide) (fun c54 => ?_) (fun c54 => ?_)
      · have hw : twW c x y v = 0 := ew.trans c54
        obtain ⟨w1, w2, -⟩ := fst_0.mp hw1
        obtain ⟨w3, -, -⟩ := fst_0.mp c54
        obtain ⟨a, ha, hxa⟩ := cal_0 w1 hn5
        obtain ⟨b, hb, hyb⟩ := cal_0 w2 hn5
        obtain ⟨n, -, hn, hvn⟩ := bnd_nat (by decide) (by decide) w3
        subst hxa; subst hyb; subst hvn
        refine r_iconst (pc := 64) h dX3_two_64 ci_0 ?_
        refine r_istore (pc := 65) (ls2 := [_, _, _, _, _, _]) h dX3_two_65 (Nat.le_of_ble_eq_true rfl) rfl ?_
        exact loop a b n ha hb hn hw rfl rfl rfl _ 4 0 g2 rfl hR hX hF (fun j hj => absurd hj (by omega))
      · have hw : ¬ fstI (bndI v (nI 0) (nI 30)) (insW c x) (insW c y) = 0 := c54
        have hok : okw (fstI (bndI v (nI 0) (nI 30)) (insW c x) (insW c y)) := okw_f okw_n (okw_ins c x) (okw_ins c y)
        refine r_aload_n (pc := 57) h dX3_two_57 rfl ?_
        refine r_iload (pc := 58) h dX3_two_58 rfl ?_
        refine r_callVi (pc := 60) (As := [_]) h dX3_two_60 k_X3_67 gc_0 rfl ⟨Nat.le_of_ble_eq_true rfl, Nat.le_of_ble_eq_true rfl, Nat.le_of_ble_eq_true rfl⟩ (c_X3_refuse (okw_in hok hw).1) (fun x_60 g2 hq => ?_)
        obtain ⟨rfl, rfl⟩ := hq
        refine r_ri t (pc := 63) dX3_two_63 rfl ?_
        rw [ew]
        have hq := x_ref hR hX hok hw (v := twV c x.toNatClampNeg y.toNatClampNeg v.toNatClampNeg)
        exact ⟨hq.1, hq.2.1, hq.2.2.1, hF.tr hq.2.2.2⟩
  · have hxy : x = y := c12
    have hw : ¬ fstI (calW c x) (calW c y) (-1) = 0 := fun q => absurd (fst_0.mp q).2.2 (by decide)
    have hok : okw (fstI (calW c x) (calW c y) (-1)) := okw_f (okw_cal c x) (okw_cal c y) okw_1
    have ew : twW c x y v = fstI (calW c x) (calW c y) (-1) := by unfold twW; rw [if_pos hxy, if_neg hw]
    refine r_iconst (pc := 15) h dX3_two_15 ci_m1 ?_
    refine r_goto (pc := 16) (tgt := 20) h dX3_two_16 (by decide) ?_
    refine r_callSi (pc := 20) (As := [_, _, _]) h dX3_two_20 k_X3_104 rfl ⟨Nat.le_of_ble_eq_true rfl, Nat.le_of_ble_eq_true rfl, Nat.le_of_ble_eq_true rfl⟩ (c_X3_firstOf _ _ _) (fun x_20 g2 hq => ?_)
    obtain ⟨rfl, rfl⟩ := hq
    refine r_istore (pc := 23) (ls2 := [_, _, _, _, _, _]) h dX3_two_23 (Nat.le_of_ble_eq_true rfl) rfl ?_
    refine r_iload (pc := 25) h dX3_two_25 rfl ?_
    refine r_if_ne (pc := 27) (tgt := 52) h dX3_two_27 (by decide) (fun c27 => ?_) (fun c27 => absurd c27 (fun q => absurd (fst_0.mp q).2.2 (by decide)))
    refine r_iload (pc := 52) h dX3_two_52 rfl ?_
    refine r_if_eq (pc := 54) (tgt := 64) h dX3_two_54 (by decide) (fun c54 => absurd c54 (fun q => absurd (fst_0.mp q).2.2 (by decide))) (fun c54 => ?_)
    refine r_aload_n (pc := 57) h dX3_two_57 rfl ?_
    refine r_iload (pc := 58) h dX3_two_58 rfl ?_
    refine r_callVi (pc := 60) (As := [_]) h dX3_two_60 k_X3_67 gc_0 rfl ⟨Nat.le_of_ble_eq_true rfl, Nat.le_of_ble_eq_true rfl, Nat.le_of_ble_eq_true rfl⟩ (c_X3_refuse (okw_in hok hw).1) (fun x_60 g2 hq => ?_)
    obtain ⟨rfl, rfl⟩ := hq
    refine r_ri t (pc := 63) dX3_two_63 rfl ?_
    rw [ew]
    have hq := x_ref hR hX hok hw (v := twV c x.toNatClampNeg y.toNatClampNeg v.toNatClampNeg)
    exact ⟨hq.1, hq.2.1, hq.2.2.1, hF.tr hq.2.2.2⟩
end TX
