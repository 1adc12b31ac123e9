section TX
variable {g : gG} {c ck : gCt} {hk : Bool} {lt : Nat → Nat} {nl : Nat} {rv : Nat → Nat} {nr : Nat} {rf : Nat → Int32}
set_option maxRecDepth 100000 in
set_option maxHeartbeats 4000000 in
theorem c_X4_worthIn_s {g : gG} {c : gCt} (hR : Rm g c) (ho : gok c) {i : Nat} {s : Nat} (hi : i < c 7 1) (hs : s < c 7 0) : gCi mX4_worthIn [.ref 35, .int (nI i), .int (nI s)] g (fun y g1 => y = nI (cn c i s) ∧ g1 = g) := by
  refine gCi_of (own := RX4) (ls0 := [.ref 35, .int (nI i), .int (nI s)]) ⟨rfl, pl_X4⟩ rfl (Nat.le_of_ble_eq_true rfl) (fun G (h : gR RX4 cX4_worthIn 2 80 G) (t : gTi cX4_worthIn .int _ G) => ?_)
  have hn5 := hR.n5
  have hn6 := hR.n6
  refine r_aload_n (pc := 0) h dX4_worthIn_0 rfl ?_
  refine r_iload_n (pc := 1) h dX4_worthIn_1 rfl ?_
  refine r_iload_n (pc := 2) h dX4_worthIn_2 rfl ?_
  refine r_if_ge (pc := 3) (tgt := 10) h dX4_worthIn_3 (by decide) (fun c3 => ?_) (fun c3 => absurd (show (0 : Int32) ≤ nI s from Int32.not_lt.mp (show ¬ nI s < nI 0 from nI_nlt (Nat.zero_le _) (by omega))) c3)
  refine r_aload_n (pc := 10) h dX4_worthIn_10 rfl ?_
  refine r_iload_n (pc := 11) h dX4_worthIn_11 rfl ?_
  refine r_callVi (pc := 12) (As := [_]) h dX4_worthIn_12 k_X4_172 gc_35 rfl ⟨Nat.le_of_ble_eq_true rfl, Nat.le_of_ble_eq_true rfl, Nat.le_of_ble_eq_true rfl⟩ (c_X4_covers hR ho hs) (fun x_12 g2 hq => ?_)
  obtain ⟨rfl, rfl⟩ := hq
  refine r_callVi (pc := 15) (As := [_, _]) h dX4_worthIn_15 k_X4_179 gc_35 rfl ⟨Nat.le_of_ble_eq_true rfl, Nat.le_of_ble_eq_true rfl, Nat.le_of_ble_eq_true rfl⟩ (c_X4_isEnough hR ho hi (covN_le (ho.2.2.1 s hs).2.1 _)) (fun x_15 g2 hq => ?_)
  obtain ⟨rfl, rfl⟩ := hq
  refine r_if_eq (pc := 18) (tgt := 25) h dX4_worthIn_18 (by decide) (fun c18 => ?_) (fun c18 => ?_)
  · have hb : canB c i (cvr c s) = false := (bI_0 (canB c i (cvr c s))).mp c18
    refine r_iconst (pc := 25) h dX4_worthIn_25 ci_0 ?_
    refine r_ri t (pc := 26) dX4_worthIn_26 rfl ?_
    exact ⟨by unfold cn; rw [if_pos hs, if_neg (by rw [hb]; decide)], rfl⟩
  · have hb : canB c i (cvr c s) = true := by simpa using mt (bI_0 (canB c i (cvr c s))).mpr c18
    refine r_iconst (pc := 21) h dX4_worthIn_21 ci_1 ?_
    refine r_goto (pc := 22) (tgt := 26) h dX4_worthIn_22 (by decide) ?_
    refine r_ri t (pc := 26) dX4_worthIn_26 rfl ?_
    exact ⟨by unfold cn; rw [if_pos hs, if_pos hb], rfl⟩
set_option maxRecDepth 100000 in
set_option maxHeartbeats 4000000 in
theorem c_X4_worthIn_n {g : gG} {c : gCt} (hR : Rm g c) (ho : gok c) {i : Nat} (hi : i < c 7 1) : gCi mX4_worthIn [.ref 35, .int (nI i), .int (-9)] g (fun y g1 => y = nI (cn c i (c 7 0)) ∧ g1 = g) := by
  refine gCi_of (own := RX4) (ls0 := [.ref 35, .int (nI i), .int (-9)]) ⟨rfl, pl_X4⟩ rfl (Nat.le_of_ble_eq_true rfl) (fun G (h : gR RX4 cX4_worthIn 2 80 G) (t : gTi cX4_worthIn .int _ G) => ?_)
  have hn5 := hR.n5
  have hn6 := hR.n6
  refine r_aload_n (pc := 0) h dX4_worthIn_0 rfl ?_
  refine r_iload_n (pc := 1) h dX4_worthIn_1 rfl ?_
  refine r_iload_n (pc := 2) h dX4_worthIn_2 rfl ?_
  refine r_if_ge (pc := 3) (tgt := 10) h dX4_worthIn_3 (by decide) (fun c3 => absurd c3 (by decide)) (fun c3 => ?_)
  refine r_iconst (pc := 6) h dX4_worthIn_6 ci_0 ?_
  refine r_goto (pc := 7) (tgt := 15) h dX4_worthIn_7 (by decide) ?_
  refine r_callVi (pc := 15) (As := [_, _]) h dX4_worthIn_15 k_X4_179 gc_35 rfl ⟨Nat.le_of_ble_eq_true rfl, Nat.le_of_ble_eq_true rfl, Nat.le_of_ble_eq_true rfl⟩ (c_X4_isEnough hR ho hi (Nat.zero_le _)) (fun x_15 g2 hq => ?_)
  obtain ⟨rfl, rfl⟩ := hq
  refine r_if_eq (pc := 18) (tgt := 25) h dX4_worthIn_18 (by decide) (fun c18 => ?_) (fun c18 => ?_)
  · have hb : canB c i (0) = false := (bI_0 (canB c i (0))).mp c18
    refine r_iconst (pc := 25) h dX4_worthIn_25 ci_0 ?_
    refine r_ri t (pc := 26) dX4_worthIn_26 rfl ?_
    exact ⟨by unfold cn; rw [if_neg (Nat.lt_irrefl _), if_neg (by rw [hb]; decide)], rfl⟩
  · have hb : canB c i (0) = true := by simpa using mt (bI_0 (canB c i (0))).mpr c18
    refine r_iconst (pc := 21) h dX4_worthIn_21 ci_1 ?_
    refine r_goto (pc := 22) (tgt := 26) h dX4_worthIn_22 (by decide) ?_
    refine r_ri t (pc := 26) dX4_worthIn_26 rfl ?_
    exact ⟨by unfold cn; rw [if_neg (Nat.lt_irrefl _), if_pos hb], rfl⟩
set_option maxRecDepth 100000 in
set_option maxHeartbeats 4000000 in
theorem c_X4_findDressed {g : gG} {c : gCt} (hR : Rm g c) (ho : gok c) : gCv mX4_findDressed [.ref 35] g (fun g1 => Rm g1 c ∧ FT g1 c 0 ∧ tfX g g1) := by
  refine gCv_of (own := RX4) (ls0 := [.ref 35, .null, .null, .null, .null, .null]) ⟨rfl, pl_X4⟩ rfl (Nat.le_of_ble_eq_true rfl) (fun G (h : gR RX4 cX4_findDressed 3 120 G) (t : gTv cX4_findDressed _ G) => ?_)
  have hn5 := hR.n5
  have hn6 := hR.n6
  have loop2 : ∀ k (g2 : gG) (v2 v3 v4 v5 : Value), k ≤ c 7 1 → Rm g2 c → tfX g g2 → FT g2 c k → G 33 [.ref 35, .int (nI k - nI 1), v2, v3, v4, v5] [] g2 := by
    intro k
    induction k with
    | zero =>
      intro g2 v2 v3 v4 v5 hk hR hF hT
      refine r_iload_n (pc := 33) h dX4_findDressed_33 rfl ?_
      refine r_if_lt (pc := 34) (tgt := 156) h dX4_findDressed_34 (by decide) (fun c34 => ?_) (fun c34 => absurd (by decide) c34)
      refine r_rv t (pc := 156) dX4_findDressed_156 ?_
      exact ⟨hR, hT, hF⟩
    | succ i ih =>
      intro g2 v2 v3 v4 v5 hk hR hF hT
      have hi : i < c 7 1 := by omega
      have en : c 7 1 - i = c 7 1 - (i + 1) + 1 := by omega
      rw [nI_sub (show 1 ≤ i + 1 by omega), Nat.add_sub_cancel]
      have inner : ∀ m f (g2 : gG) (v3 v4 v5 : Value), f + m = 64 → Rm g2 c → tfX g g2 → FT g2 c (i + 1) → (∀ v, v < f → g2 (50 + i) v = nI (dFree c (c 7 1 - i) i v)) → G 39 [.ref 35, .int (nI i), .int (nI f), v3, v4, v5] [] g2 := by
        intro m
        induction m with
        | zero =>
          intro f g2 v3 v4 v5 hf0 hR hF hT hU
          refine r_iload_n (pc := 39) h dX4_findDressed_39 rfl ?_
          refine r_bipush (pc := 40) h dX4_findDressed_40 cb_64 ?_
          refine r_icmp_ge (pc := 42) (tgt := 150) h dX4_findDressed_42 (by decide) (fun c42 => ?_) (fun c42 => absurd (nI_le (by omega) (by omega)) c42)
          refine r_iinc (pc := 150) (ls2 := [_, _, _, _, _, _]) h dX4_findDressed_150 rfl (nI_m1 i) rfl ?_
          refine r_goto (pc := 153) (tgt := 33) h dX4_findDressed_153 (by decide) ?_
          refine ih g2 _ _ _ _ (by omega) hR hF (fun j h1 h2 v hv => ?_)
          by_cases e : j = i
          · rw [e]; exact hU v (by omega)
          · exact hT j (by omega) h2 v hv
        | succ m ih2 =>
          intro f g2 v3 v4 v5 hf0 hR hF hT hU
          have hf : f < 64 := by omega
          have w1 := cn_le c i (c 7 0)
          have w2 := dFree_le c (c 7 1 - (i + 1)) (i + 1) f
          have sl : ∀ r s a (v5 : Value), s + r = c 7 0 → a ≤ 5 → gfold (fS c (dFree c (c 7 1 - (i + 1)) (i + 1)) i f) r s a = dFree c (c 7 1 - i) i f → G 67 [.ref 35, .int (nI i), .int (nI f), .int (nI a), .int (nI s), v5] [] g2 := by
            intro r
            induction r with
            | zero =>
              intro s a v5 hs0 hal hz
              have hz : a = dFree c (c 7 1 - i) i f := hz
              refine r_iload (pc := 67) h dX4_findDressed_67 rfl ?_
              refine r_aload_n (pc := 69) h dX4_findDressed_69 rfl ?_
              refine r_getE (pc := 70) h dX4_findDressed_70 f_X4_60 sh_35 rfl (hR.ns) ?_
              refine r_icmp_ge (pc := 73) (tgt := 135) h dX4_findDressed_73 (by decide) (fun c73 => ?_) (fun c73 => absurd (nI_le (by omega) (by omega)) c73)
              refine r_aload_n (pc := 135) h dX4_findDressed_135 rfl ?_
              refine r_getR (pc := 136) h dX4_findDressed_136 f_X4_51 sh_35 rfl ?_
              refine r_iload_n (pc := 139) h dX4_findDressed_139 rfl ?_
              refine r_aaload (pc := 140) h dX4_findDressed_140 sh_49 (vp_in_nI (show i < 6 by omega) (by decide)) ?_
              rw [aix (by omega)]
              refine r_iload_n (pc := 141) h dX4_findDressed_141 rfl ?_
              refine r_iload_n (pc := 142) h dX4_findDressed_142 rfl ?_
              refine r_iastore (pc := 143) h dX4_findDressed_143 (shr (show i < 6 by omega)) (vp_in_nI hf (by decide)) ?_
              generalize hg3 : gup g2 (50 + i) _ _ = g3
              rw [nI_clamp (show f < 2147483648 by omega)] at hg3
              have hR : Rm g3 c := by rw [← hg3]; exact hR.up (by omega) (by omega)
              have hF : tfX g g3 := by rw [← hg3]; exact hF.up (by omega)
              have hT : FT g3 c (i + 1) := fun j h1 h2 v hv => by rw [← hg3, gup_o (by omega)]; exact hT j h1 h2 v hv
              have hU : ∀ v, v < f + 1 → g3 (50 + i) v = nI (dFree c (c 7 1 - i) i v) := fun v hv => by
                rw [← hg3]
                by_cases e : v = f
                · rw [e, ← hz]; exact gup_s
                · rw [gup_o (by omega)]; exact hU v (by omega)
              clear hg3
              revert g3
              intro g2 hR hF hT hU
              refine r_iinc (pc := 144) (ls2 := [_, _, _, _, _, _]) h dX4_findDressed_144 rfl (ic1 _) rfl ?_
              refine r_goto (pc := 147) (tgt := 39) h dX4_findDressed_147 (by decide) ?_
              exact ih2 (f + 1) g2 _ _ _ (by omega) hR hF hT hU
            | succ r ih3 =>
              intro s a v5 hs0 hal hz
              have hs : s < c 7 0 := by omega
              have hc6 := (clr_I s (by omega) f hf).2
              have w3 := cn_le c i s
              have w4 := dFree_le c (c 7 1 - (i + 1)) (i + 1) (clr f s)
              refine r_iload (pc := 67) h dX4_findDressed_67 rfl ?_
              refine r_aload_n (pc := 69) h dX4_findDressed_69 rfl ?_
              refine r_getE (pc := 70) h dX4_findDressed_70 f_X4_60 sh_35 rfl (hR.ns) ?_
              refine r_icmp_ge (pc := 73) (tgt := 135) h dX4_findDressed_73 (by decide) (fun c73 => absurd c73 (nI_ge hs (by omega))) (fun c73 => ?_)
              refine r_iload_n (pc := 76) h dX4_findDressed_76 rfl ?_
              refine r_iload (pc := 77) h dX4_findDressed_77 rfl ?_
              refine r_callSi (pc := 79) (As := [_, _]) h dX4_findDressed_79 k_X4_237 rfl ⟨Nat.le_of_ble_eq_true rfl, Nat.le_of_ble_eq_true rfl, Nat.le_of_ble_eq_true rfl⟩ (c_X4_has _ _) (fun x_79 g2 hq => ?_)
              rw [has_bt (by omega) (by omega)] at hq
              obtain ⟨rfl, rfl⟩ := hq
              refine r_if_eq (pc := 82) (tgt := 113) h dX4_findDressed_82 (by decide) (fun c82 => ?_) (fun c82 => ?_)
              · have hb : bt f s = false := (bI_0 (bt f s)).mp c82
                refine r_iconst (pc := 113) h dX4_findDressed_113 ci_0 ?_
                refine r_istore (pc := 114) (ls2 := [_, _, _, _, _, _]) h dX4_findDressed_114 (Nat.le_of_ble_eq_true rfl) rfl ?_
                refine r_iload (pc := 116) h dX4_findDressed_116 rfl ?_
                refine r_iload_n (pc := 118) h dX4_findDressed_118 rfl ?_
                refine r_icmp_le (pc := 119) (tgt := 127) h dX4_findDressed_119 (by decide) (fun c119 => ?_) (fun c119 => absurd (nI_le (Nat.zero_le _) (by omega)) c119)
                refine r_iload_n (pc := 127) h dX4_findDressed_127 rfl ?_
                refine r_istore_n (pc := 128) (ls2 := [_, _, _, _, _, _]) h dX4_findDressed_128 (Nat.le_of_ble_eq_true rfl) rfl ?_
                refine r_iinc (pc := 129) (ls2 := [_, _, _, _, _, _]) h dX4_findDressed_129 rfl (ic1 _) rfl ?_
                refine r_goto (pc := 132) (tgt := 67) h dX4_findDressed_132 (by decide) ?_
                exact ih3 (s + 1) a _ (by omega) hal (by rw [← hz, gfold_st]; unfold fS; rw [if_neg (by rw [hb]; decide)])
              · have hb : bt f s = true := by simpa using mt (bI_0 (bt f s)).mpr c82
                refine r_aload_n (pc := 85) h dX4_findDressed_85 rfl ?_
                refine r_iload_n (pc := 86) h dX4_findDressed_86 rfl ?_
                refine r_iload (pc := 87) h dX4_findDressed_87 rfl ?_
                refine r_callVi (pc := 89) (As := [_, _]) h dX4_findDressed_89 k_X4_234 gc_35 rfl ⟨Nat.le_of_ble_eq_true rfl, Nat.le_of_ble_eq_true rfl, Nat.le_of_ble_eq_true rfl⟩ (c_X4_worthIn_s hR ho hi hs) (fun x_89 g2 hq => ?_)
                obtain ⟨rfl, rfl⟩ := hq
                refine r_aload_n (pc := 92) h dX4_findDressed_92 rfl ?_
                refine r_getR (pc := 93) h dX4_findDressed_93 f_X4_51 sh_35 rfl ?_
                refine r_iload_n (pc := 96) h dX4_findDressed_96 rfl ?_
                refine r_iconst (pc := 97) h dX4_findDressed_97 ci_1 ?_
                refine r_iadd (pc := 98) h dX4_findDressed_98 ?_
                refine r_top (y := nI (i + 1)) h (nI_add _ _) ?_
                refine r_aaload (pc := 99) h dX4_findDressed_99 sh_49 (vp_in_nI (show i + 1 < 6 by omega) (by decide)) ?_
                rw [aix (by omega)]
                refine r_iload_n (pc := 100) h dX4_findDressed_100 rfl ?_
                refine r_iconst (pc := 101) h dX4_findDressed_101 ci_1 ?_
                refine r_iload (pc := 102) h dX4_findDressed_102 rfl ?_
                refine r_ishl (pc := 104) h dX4_findDressed_104 ?_
                refine r_iconst (pc := 105) h dX4_findDressed_105 ci_m1 ?_
                refine r_ixor (pc := 106) h dX4_findDressed_106 ?_
                refine r_iand (pc := 107) h dX4_findDressed_107 ?_
                refine r_top (y := nI (clr f s)) h (clr_I s (by omega) f hf).1 ?_
                refine r_ialoadE (pc := 108) h dX4_findDressed_108 (shr (show i + 1 < 6 by omega)) (ixe (show clr f s < 64 by omega) (by decide) (hT (i + 1) (Nat.le_refl _) (by omega) _ hc6)) ?_
                refine r_iadd (pc := 109) h dX4_findDressed_109 ?_
                refine r_top h (nI_add _ _) ?_
                refine r_goto (pc := 110) (tgt := 114) h dX4_findDressed_110 (by decide) ?_
                refine r_istore (pc := 114) (ls2 := [_, _, _, _, _, _]) h dX4_findDressed_114 (Nat.le_of_ble_eq_true rfl) rfl ?_
                refine r_iload (pc := 116) h dX4_findDressed_116 rfl ?_
                refine r_iload_n (pc := 118) h dX4_findDressed_118 rfl ?_
                refine r_icmp_le (pc := 119) (tgt := 127) h dX4_findDressed_119 (by decide) (fun c119 => ?_) (fun c119 => ?_)
                · refine r_iload_n (pc := 127) h dX4_findDressed_127 rfl ?_
                  refine r_istore_n (pc := 128) (ls2 := [_, _, _, _, _, _]) h dX4_findDressed_128 (Nat.le_of_ble_eq_true rfl) rfl ?_
                  refine r_iinc (pc := 129) (ls2 := [_, _, _, _, _, _]) h dX4_findDressed_129 rfl (ic1 _) rfl ?_
                  refine r_goto (pc := 132) (tgt := 67) h dX4_findDressed_132 (by decide) ?_
                  exact ih3 (s + 1) a _ (by omega) hal (by rw [← hz, gfold_st]; unfold fS mxN; rw [if_pos hb, if_neg (Nat.not_lt_of_le ((nI_leI (by omega) (by omega)).mp c119))])
                · refine r_iload (pc := 122) h dX4_findDressed_122 rfl ?_
                  refine r_goto (pc := 124) (tgt := 128) h dX4_findDressed_124 (by decide) ?_
                  refine r_istore_n (pc := 128) (ls2 := [_, _, _, _, _, _]) h dX4_findDressed_128 (Nat.le_of_ble_eq_true rfl) rfl ?_
                  refine r_iinc (pc := 129) (ls2 := [_, _, _, _, _, _]) h dX4_findDressed_129 rfl (ic1 _) rfl ?_
                  refine r_goto (pc := 132) (tgt := 67) h dX4_findDressed_132 (by decide) ?_
                  exact ih3 (s + 1) (cn c i s + dFree c (c 7 1 - (i + 1)) (i + 1) (clr f s)) _ (by omega) (by omega) (by rw [← hz, gfold_st]; unfold fS mxN; rw [if_pos hb, if_pos (Nat.lt_of_not_le (fun z => c119 (nI_le z (by omega))))])
          refine r_iload_n (pc := 39) h dX4_findDressed_39 rfl ?_
          refine r_bipush (pc := 40) h dX4_findDressed_40 cb_64 ?_
          refine r_icmp_ge (pc := 42) (tgt := 150) h dX4_findDressed_42 (by decide) (fun c42 => absurd c42 (nI_ge hf (by decide))) (fun c42 => ?_)
          refine r_aload_n (pc := 45) h dX4_findDressed_45 rfl ?_
          refine r_iload_n (pc := 46) h dX4_findDressed_46 rfl ?_
          refine r_bipush (pc := 47) h dX4_findDressed_47 cb_m9 ?_
          refine r_callVi (pc := 49) (As := [_, _]) h dX4_findDressed_49 k_X4_234 gc_35 rfl ⟨Nat.le_of_ble_eq_true rfl, Nat.le_of_ble_eq_true rfl, Nat.le_of_ble_eq_true rfl⟩ (c_X4_worthIn_n hR ho hi) (fun x_49 g2 hq => ?_)
          obtain ⟨rfl, rfl⟩ := hq
          refine r_aload_n (pc := 52) h dX4_findDressed_52 rfl ?_
          refine r_getR (pc := 53) h dX4_findDressed_53 f_X4_51 sh_35 rfl ?_
          refine r_iload_n (pc := 56) h dX4_findDressed_56 rfl ?_
          refine r_iconst (pc := 57) h dX4_findDressed_57 ci_1 ?_
          refine r_iadd (pc := 58) h dX4_findDressed_58 ?_
          refine r_top (y := nI (i + 1)) h (nI_add _ _) ?_
          refine r_aaload (pc := 59) h dX4_findDressed_59 sh_49 (vp_in_nI (show i + 1 < 6 by omega) (by decide)) ?_
          rw [aix (by omega)]
          refine r_iload_n (pc := 60) h dX4_findDressed_60 rfl ?_
          refine r_ialoadE (pc := 61) h dX4_findDressed_61 (shr (show i + 1 < 6 by omega)) (ixe (show f < 64 by omega) (by decide) (hT (i + 1) (Nat.le_refl _) (by omega) _ hf)) ?_
          refine r_iadd (pc := 62) h dX4_findDressed_62 ?_
          refine r_top h (nI_add _ _) ?_
          refine r_istore_n (pc := 63) (ls2 := [_, _, _, _, _, _]) h dX4_findDressed_63 (Nat.le_of_ble_eq_true rfl) rfl ?_
          refine r_iconst (pc := 64) h dX4_findDressed_64 ci_0 ?_
          refine r_istore (pc := 65) (ls2 := [_, _, _, _, _, _]) h dX4_findDressed_65 (Nat.le_of_ble_eq_true rfl) rfl ?_
          exact sl (c 7 0) 0 _ _ (by omega) (by omega) (by rw [en, dFree])
      refine r_iload_n (pc := 33) h dX4_findDressed_33 rfl ?_
      refine r_if_lt (pc := 34) (tgt := 156) h dX4_findDressed_34 (by decide) (fun c34 => absurd c34 (show ¬ nI i < nI 0 from nI_nlt (Nat.zero_le _) (by omega))) (fun c34 => ?_)
      refine r_iconst (pc := 37) h dX4_findDressed_37 ci_0 ?_
      refine r_istore_n (pc := 38) (ls2 := [_, _, _, _, _, _]) h dX4_findDressed_38 (Nat.le_of_ble_eq_true rfl) rfl ?_
      exact inner 64 0 g2 _ _ _ (by omega) hR hF hT (fun v hv => absurd hv (by omega))
  have loop1 : ∀ m f (g2 : gG), f + m = 64 → Rm g2 c → tfX g g2 → (∀ v, v < f → g2 (50 + c 7 1) v = nI 0) → G 2 [.ref 35, .int (nI f), .null, .null, .null, .null] [] g2 := by
    intro m
    induction m with
    | zero =>
      intro f g2 hf0 hR hF hZ
      refine r_iload_n (pc := 2) h dX4_findDressed_2 rfl ?_
      refine r_bipush (pc := 3) h dX4_findDressed_3 cb_64 ?_
      refine r_icmp_ge (pc := 5) (tgt := 26) h dX4_findDressed_5 (by decide) (fun c5 => ?_) (fun c5 => absurd (nI_le (by omega) (by omega)) c5)
      refine r_aload_n (pc := 26) h dX4_findDressed_26 rfl ?_
      refine r_getE (pc := 27) h dX4_findDressed_27 f_X4_67 sh_35 rfl (hR.nc) ?_
      refine r_iconst (pc := 30) h dX4_findDressed_30 ci_1 ?_
      refine r_isub (pc := 31) h dX4_findDressed_31 ?_
      refine r_istore_n (pc := 32) (ls2 := [_, _, _, _, _, _]) h dX4_findDressed_32 (Nat.le_of_ble_eq_true rfl) rfl ?_
      exact loop2 (c 7 1) g2 _ _ _ _ (Nat.le_refl _) hR hF (fun i h1 h2 v hv => by rw [show i = c 7 1 by omega, Nat.sub_self]; exact hZ v (by omega))
    | succ m ih =>
      intro f g2 hf0 hR hF hZ
      have hf : f < 64 := by omega
      refine r_iload_n (pc := 2) h dX4_findDressed_2 rfl ?_
      refine r_bipush (pc := 3) h dX4_findDressed_3 cb_64 ?_
      refine r_icmp_ge (pc := 5) (tgt := 26) h dX4_findDressed_5 (by decide) (fun c5 => absurd c5 (nI_ge hf (by decide))) (fun c5 => ?_)
      refine r_aload_n (pc := 8) h dX4_findDressed_8 rfl ?_
      refine r_getR (pc := 9) h dX4_findDressed_9 f_X4_51 sh_35 rfl ?_
      refine r_aload_n (pc := 12) h dX4_findDressed_12 rfl ?_
      refine r_getE (pc := 13) h dX4_findDressed_13 f_X4_67 sh_35 rfl (hR.nc) ?_
      refine r_aaload (pc := 16) h dX4_findDressed_16 sh_49 (vp_in_nI (show c 7 1 < 6 by omega) (by decide)) ?_
      rw [aix (by omega)]
      refine r_iload_n (pc := 17) h dX4_findDressed_17 rfl ?_
      refine r_iconst (pc := 18) h dX4_findDressed_18 ci_0 ?_
      refine r_iastore (pc := 19) h dX4_findDressed_19 (shr (show c 7 1 < 6 by omega)) (vp_in_nI hf (by decide)) ?_
      generalize hg3 : gup g2 (50 + c 7 1) _ _ = g3
      rw [nI_clamp (show f < 2147483648 by omega)] at hg3
      have hR : Rm g3 c := by rw [← hg3]; exact hR.up (by omega) (by omega)
      have hF : tfX g g3 := by rw [← hg3]; exact hF.up (by omega)
      have hZ : ∀ v, v < f + 1 → g3 (50 + c 7 1) v = nI 0 := fun v hv => by
        rw [← hg3]
        by_cases e : v = f
        · rw [e]; exact gup_s
        · rw [gup_o (by omega)]; exact hZ v (by omega)
      clear hg3
      revert g3
      intro g2 hR hF hZ
      refine r_iinc (pc := 20) (ls2 := [_, _, _, _, _, _]) h dX4_findDressed_20 rfl (ic1 _) rfl ?_
      refine r_goto (pc := 23) (tgt := 2) h dX4_findDressed_23 (by decide) ?_
      exact ih (f + 1) g2 (by omega) hR hF hZ
  refine r_iconst (pc := 0) h dX4_findDressed_0 ci_0 ?_
  refine r_istore_n (pc := 1) (ls2 := [_, _, _, _, _, _]) h dX4_findDressed_1 (Nat.le_of_ble_eq_true rfl) rfl ?_
  exact loop1 64 0 g rfl hR tfX.rf (fun v hv => absurd hv (by omega))
end TX
