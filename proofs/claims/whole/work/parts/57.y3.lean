section TX
variable {g : gG} {c ck : gCt} {hk : Bool} {lt : Nat → Nat} {nl : Nat} {rv : Nat → Nat} {nr : Nat} {rf : Nat → Int32}
set_option maxRecDepth 100000 in
set_option maxHeartbeats 4000000 in
theorem y_boldest (hR : Rm g c) (hX : MSr g ck hk lt nl rv nr rf) (ho : gok c) (hd : c 7 3 ≤ 999) (w : Int32) : gCi mX4_boldest [.ref 35, .int w] g (fun y g1 => y = ansI (whyB (inB w 2) (-2)) (oI (bstV (bldf c w.toNatClampNeg) (c 7 1))) ∧ Rm g1 (c) ∧ MSr g1 ck hk lt nl rv nr (rfI rf (whyB (inB w 2) (-2))) ∧ frm 35 58 g g1) := by
  refine gCi_of (own := RX4) (ls0 := [.ref 35, .int w, .null, .null]) ⟨rfl, pl_X4⟩ rfl (Nat.le_of_ble_eq_true rfl) (fun G (h : gR RX4 cX4_boldest 2 80 G) (t : gTi cX4_boldest .int _ G) => ?_)
  have hn5 := hR.n5
  have loop : ∀ k, k < 2 → whyB (inB (nI k) 2) (-2) = 0 → w = nI k → ∀ n i (ob : Int32), i + n = c 7 1 → ∀ b : Option Nat, ob = oI b → (∀ j, b = some j → j < i) → gfold (bstF (bldf c k)) n i b = bstV (bldf c k) (c 7 1) → G 21 [.ref 35, .int (nI k), .int ob, .int (nI i)] [] g := by
    intro k hk2 hw hwk n
    subst hwk
    have ek : (nI k).toNatClampNeg = k := nI_clamp (by omega)
    induction n with
    | zero =>
      intro i ob hi b eb hbk hw2
      have hz : b = bstV (bldf c k) (c 7 1) := hw2
      refine r_iload_n (pc := 21) h dX4_boldest_21 rfl ?_
      refine r_aload_n (pc := 22) h dX4_boldest_22 rfl ?_
      refine r_getE (pc := 23) h dX4_boldest_23 f_X4_67 sh_35 rfl (hR.nc) ?_
      refine r_icmp_ge (pc := 26) (tgt := 76) h dX4_boldest_26 (by decide) (fun c26 => ?_) (fun c26 => absurd (nI_le (by omega) (by omega)) c26)
      refine r_iload_n (pc := 76) h dX4_boldest_76 rfl ?_
      refine r_ri t (pc := 77) dX4_boldest_77 rfl ?_
      rw [ek]
      exact y_ok hR hX frm.rf hw (by rw [eb, hz])
    | succ n ih =>
      intro i ob hin b eb hbk hw2
      have hi : i < c 7 1 := by omega
      have hbi : ∀ j, b = some j → j < 2147483648 := fun j hj => by have := hbk j hj; omega
      subst eb
      refine r_iload_n (pc := 21) h dX4_boldest_21 rfl ?_
      refine r_aload_n (pc := 22) h dX4_boldest_22 rfl ?_
      refine r_getE (pc := 23) h dX4_boldest_23 f_X4_67 sh_35 rfl (hR.nc) ?_
      refine r_icmp_ge (pc := 26) (tgt := 76) h dX4_boldest_26 (by decide) (fun c26 => absurd c26 (nI_ge hi (by omega))) (fun c26 => ?_)
      refine r_iload_n (pc := 29) h dX4_boldest_29 rfl ?_
      refine r_if_lt (pc := 30) (tgt := 68) h dX4_boldest_30 (by decide) (fun c30 => ?_) (fun c30 => ?_)
      · have hb : b = none := (oI_neg hbi).mp c30
        have e : bstF (bldf c k) i b = some i := by rw [hb]; rfl
        refine r_iload_n (pc := 68) h dX4_boldest_68 rfl ?_
        refine r_istore_n (pc := 69) (ls2 := [_, _, _, _]) h dX4_boldest_69 (Nat.le_of_ble_eq_true rfl) rfl ?_
        refine r_iinc (pc := 70) (ls2 := [_, _, _, _]) h dX4_boldest_70 rfl (ic1 _) rfl ?_
        refine r_goto (pc := 73) (tgt := 21) h dX4_boldest_73 (by decide) ?_
        exact ih (i + 1) _ (by omega) (bstF (bldf c k) i b) (by rw [e]; first | rfl | rw [hb]) (fun z hz => by rw [e] at hz; cases hz; first | omega | exact Nat.lt_succ_of_lt (hbk _ hb)) hw2
      · obtain ⟨j, hb⟩ : ∃ j, b = some j := Option.ne_none_iff_exists'.mp (fun q => c30 ((oI_neg hbi).mpr q))
        have hj : j < c 7 1 := by have := hbk j hb; omega
        have hfj : ∀ q, bldf c q j = if q = 0 then brI c j (covOf c j) else nI (c 4 j) := fun q => rfl
        rw [show oI b = nI j by rw [hb]; rfl]
        refine r_iload_n (pc := 33) h dX4_boldest_33 rfl ?_
        refine r_if_ne (pc := 34) (tgt := 53) h dX4_boldest_34 (by decide) (fun c34 => ?_) (fun c34 => ?_)
        · have k0 : ¬ k = 0 := fun q => c34 (by rw [q]; rfl)
          refine r_aload_n (pc := 53) h dX4_boldest_53 rfl ?_
          refine r_getR (pc := 54) h dX4_boldest_54 f_X4_25 sh_35 rfl ?_
          refine r_iload_n (pc := 57) h dX4_boldest_57 rfl ?_
          refine r_ialoadE (pc := 58) h dX4_boldest_58 sh_41 (hR.so hi) ?_
          refine r_aload_n (pc := 59) h dX4_boldest_59 rfl ?_
          refine r_getR (pc := 60) h dX4_boldest_60 f_X4_25 sh_35 rfl ?_
          refine r_iload_n (pc := 63) h dX4_boldest_63 rfl ?_
          refine r_ialoadE (pc := 64) h dX4_boldest_64 sh_41 (hR.so hj) ?_
          refine r_icmp_le (pc := 65) (tgt := 70) h dX4_boldest_65 (by decide) (fun c65 => ?_) (fun c65 => ?_)
          · have e : bstF (bldf c k) i b = some j := by rw [hb]; exact if_neg (by unfold bldf; rw [if_neg k0, if_neg k0]; exact Int32.not_lt.mpr c65)
            refine r_iinc (pc := 70) (ls2 := [_, _, _, _]) h dX4_boldest_70 rfl (ic1 _) rfl ?_
            refine r_goto (pc := 73) (tgt := 21) h dX4_boldest_73 (by decide) ?_
            exact ih (i + 1) _ (by omega) (bstF (bldf c k) i b) (by rw [e]; first | rfl | rw [hb]) (fun z hz => by rw [e] at hz; cases hz; first | omega | exact Nat.lt_succ_of_lt (hbk _ hb)) hw2
          · have e : bstF (bldf c k) i b = some i := by rw [hb]; exact if_pos (by unfold bldf; rw [if_neg k0, if_neg k0]; exact Int32.not_le.mp c65)
            refine r_iload_n (pc := 68) h dX4_boldest_68 rfl ?_
            refine r_istore_n (pc := 69) (ls2 := [_, _, _, _]) h dX4_boldest_69 (Nat.le_of_ble_eq_true rfl) rfl ?_
            refine r_iinc (pc := 70) (ls2 := [_, _, _, _]) h dX4_boldest_70 rfl (ic1 _) rfl ?_
            refine r_goto (pc := 73) (tgt := 21) h dX4_boldest_73 (by decide) ?_
            exact ih (i + 1) _ (by omega) (bstF (bldf c k) i b) (by rw [e]; first | rfl | rw [hb]) (fun z hz => by rw [e] at hz; cases hz; first | omega | exact Nat.lt_succ_of_lt (hbk _ hb)) hw2
        · have k0 : k = 0 := (nI_eq0 (by omega)).mp c34
          refine r_aload_n (pc := 37) h dX4_boldest_37 rfl ?_
          refine r_iload_n (pc := 38) h dX4_boldest_38 rfl ?_
          refine r_callVi (pc := 39) (As := [_]) h dX4_boldest_39 k_X4_185 gc_35 rfl ⟨Nat.le_of_ble_eq_true rfl, Nat.le_of_ble_eq_true rfl, Nat.le_of_ble_eq_true rfl⟩ (c_X4_courageOf hR ho hi) (fun x_39 g1 hq => ?_)
          obtain ⟨rfl, hg1⟩ := hq
          rw [hg1]
          refine r_aload_n (pc := 42) h dX4_boldest_42 rfl ?_
          refine r_iload_n (pc := 43) h dX4_boldest_43 rfl ?_
          refine r_callVi (pc := 44) (As := [_]) h dX4_boldest_44 k_X4_185 gc_35 rfl ⟨Nat.le_of_ble_eq_true rfl, Nat.le_of_ble_eq_true rfl, Nat.le_of_ble_eq_true rfl⟩ (c_X4_courageOf hR ho hj) (fun x_44 g1 hq => ?_)
          obtain ⟨rfl, hg1⟩ := hq
          rw [hg1]
          refine r_icmp_le (pc := 47) (tgt := 70) h dX4_boldest_47 (by decide) (fun c47 => ?_) (fun c47 => ?_)
          · have e : bstF (bldf c k) i b = some j := by rw [hb]; exact if_neg (by unfold bldf; rw [if_pos k0, if_pos k0]; exact Int32.not_lt.mpr c47)
            refine r_iinc (pc := 70) (ls2 := [_, _, _, _]) h dX4_boldest_70 rfl (ic1 _) rfl ?_
            refine r_goto (pc := 73) (tgt := 21) h dX4_boldest_73 (by decide) ?_
            exact ih (i + 1) _ (by omega) (bstF (bldf c k) i b) (by rw [e]; first | rfl | rw [hb]) (fun z hz => by rw [e] at hz; cases hz; first | omega | exact Nat.lt_succ_of_lt (hbk _ hb)) hw2
          · have e : bstF (bldf c k) i b = some i := by rw [hb]; exact if_pos (by unfold bldf; rw [if_pos k0, if_pos k0]; exact Int32.not_le.mp c47)
            refine r_goto (pc := 50) (tgt := 68) h dX4_boldest_50 (by decide) ?_
            refine r_iload_n (pc := 68) h dX4_boldest_68 rfl ?_
            refine r_istore_n (pc := 69) (ls2 := [_, _, _, _]) h dX4_boldest_69 (Nat.le_of_ble_eq_true rfl) rfl ?_
            refine r_iinc (pc := 70) (ls2 := [_, _, _, _]) h dX4_boldest_70 rfl (ic1 _) rfl ?_
            refine r_goto (pc := 73) (tgt := 21) h dX4_boldest_73 (by decide) ?_
            exact ih (i + 1) _ (by omega) (bstF (bldf c k) i b) (by rw [e]; first | rfl | rw [hb]) (fun z hz => by rw [e] at hz; cases hz; first | omega | exact Nat.lt_succ_of_lt (hbk _ hb)) hw2
  refine r_iload_n (pc := 0) h dX4_boldest_0 rfl ?_
  refine r_iconst (pc := 1) h dX4_boldest_1 ci_0 ?_
  refine r_iconst (pc := 2) h dX4_boldest_2 ci_1 ?_
  refine r_callSi (pc := 3) (As := [_, _, _]) h dX4_boldest_3 k_X4_88 rfl ⟨Nat.le_of_ble_eq_true rfl, Nat.le_of_ble_eq_true rfl, Nat.le_of_ble_eq_true rfl⟩ (c_X4_isIn _ _ _) (fun x_3 g1 hq => ?_)
  rw [isIn_inB (by decide)] at hq
  obtain ⟨rfl, hg1⟩ := hq
  rw [hg1]
  refine r_if_ne (pc := 6) (tgt := 16) h dX4_boldest_6 (by decide) (fun c6 => ?_) (fun c6 => ?_)
  · have hb : inB w (1 + 1) = true := by simpa using mt (bI_0 (inB w (1 + 1))).mpr c6
    obtain ⟨k, hk2, hwk⟩ := (inB_iff (x := w) (n := 2) (by decide)).mp hb
    subst hwk
    refine r_bipush (pc := 16) h dX4_boldest_16 cb_m9 ?_
    refine r_istore_n (pc := 18) (ls2 := [_, _, _, _]) h dX4_boldest_18 (Nat.le_of_ble_eq_true rfl) rfl ?_
    refine r_iconst (pc := 19) h dX4_boldest_19 ci_0 ?_
    refine r_istore_n (pc := 20) (ls2 := [_, _, _, _]) h dX4_boldest_20 (Nat.le_of_ble_eq_true rfl) rfl ?_
    exact loop k hk2 (by rw [inB_nI hk2 (by decide)]; rfl) rfl (c 7 1) 0 _ (by omega) none rfl (fun j hj => by cases hj) rfl
  · have hb : inB w (1 + 1) = false := (bI_0 (inB w (1 + 1))).mp c6
    refine r_aload_n (pc := 9) h dX4_boldest_9 rfl ?_
    refine r_bipush (pc := 10) h dX4_boldest_10 cb_m2 ?_
    refine r_callVi (pc := 12) (As := [_]) h dX4_boldest_12 k_X4_77 gc_35 rfl ⟨Nat.le_of_ble_eq_true rfl, Nat.le_of_ble_eq_true rfl, Nat.le_of_ble_eq_true rfl⟩ (c_X4_no (okw_in okw_2 (by decide)).1) (fun x_12 g1 hq => ?_)
    obtain ⟨rfl, rfl⟩ := hq
    refine r_ri t (pc := 15) dX4_boldest_15 rfl ?_
    rw [show whyB (inB w 2) (-2) = -2 by rw [show inB w 2 = false from hb]; rfl]
    exact y_ref hR hX okw_2 (by decide)
set_option maxRecDepth 100000 in
set_option maxHeartbeats 4000000 in
theorem y_rusted (hR : Rm g c) (hX : MSr g ck hk lt nl rv nr rf) (ho : gok c) (hd : c 7 3 ≤ 999) (x : Int32) : gCi mX4_rusted [.ref 35, .int x] g (fun y g1 => y = ansI (sufW c x) (rusV c x.toNatClampNeg) ∧ Rm g1 (c) ∧ MSr g1 ck hk lt nl rv nr (rfI rf (sufW c x)) ∧ frm 35 58 g g1) := by
  refine gCi_of (own := RX4) (ls0 := [.ref 35, .int x, .null, .null, .null, .null]) ⟨rfl, pl_X4⟩ rfl (Nat.le_of_ble_eq_true rfl) (fun G (h : gR RX4 cX4_rusted 3 120 G) (t : gTi cX4_rusted .int _ G) => ?_)
  have hn5 := hR.n5
  have hn6 := hR.n6
  have main : ∀ s, s < c 7 0 → sufW c (nI s) = 0 → x = nI s → ∀ i, i < c 7 1 → wr c s = some i → c 5 i < 6 → ∀ v5 : Value, G 52 [.ref 35, .int (nI s), .int (nI i), .int (nI (c 2 s)), .int (-9), .int (nI 0)] [] g := by
    intro s hs hw hx i hi hwr h5 v5
    subst hx
    have es : (nI s).toNatClampNeg = s := nI_clamp (by omega)
    have hk_s := ho.2.2.1 s hs
    have e6 := (wr_lt hwr).2
    have fin : ∀ (fv : Int32) (v5 : Value) q (g2 : gG), Rm g2 (cup c 2 s q) → MSr g2 ck hk lt nl rv nr rf → frm 35 58 g g2 → fv = rusV c s → G 95 [.ref 35, .int (nI s), .int (nI i), .int (nI (c 2 s)), .int fv, v5] [] g2 := by
      intro fv v5 q g2 hR hX hF hv
      refine r_aload_n (pc := 95) h dX4_rusted_95 rfl ?_
      refine r_getR (pc := 96) h dX4_rusted_96 f_X4_19 sh_35 rfl ?_
      refine r_iload_n (pc := 99) h dX4_rusted_99 rfl ?_
      refine r_iload_n (pc := 100) h dX4_rusted_100 rfl ?_
      refine r_iastore (pc := 101) h dX4_rusted_101 sh_39 (hR.si hs) ?_
      obtain ⟨hR, hX, hF⟩ := Rm.wrM hF hX (hR.u_ru hs _) (by decide) (by unfold mscell; omega)
      generalize gup g2 39 _ _ = g2 at hR hX hF ⊢
      refine r_iload (pc := 102) h dX4_rusted_102 rfl ?_
      refine r_ri t (pc := 104) dX4_rusted_104 rfl ?_
      rw [cup_twice, cup_id] at hR
      exact y_ok hR hX hF hw (by rw [es]; exact hv)
    have loop : ∀ n r q (g2 : gG), r + n = 10 → Rm g2 (cup c 2 s q) → MSr g2 ck hk lt nl rv nr rf → frm 35 58 g g2 → rusV c s = oI (gfind (fun r => !canB c i (covN (c 0 s) (c 1 s) r)) n r) → G 52 [.ref 35, .int (nI s), .int (nI i), .int (nI (c 2 s)), .int (-9), .int (nI r)] [] g2 := by
      intro n
      induction n with
      | zero =>
        intro r q g2 hr hR hX hF hq
        refine r_iload (pc := 52) h dX4_rusted_52 rfl ?_
        refine r_bipush (pc := 54) h dX4_rusted_54 cb_10 ?_
        refine r_icmp_ge (pc := 56) (tgt := 95) h dX4_rusted_56 (by decide) (fun c56 => ?_) (fun c56 => absurd (nI_le (by omega) (by omega)) c56)
        exact fin _ _ _ _ hR hX hF (by rw [hq]; rfl)
      | succ n ih =>
        intro r q g2 hr hR hX hF hq
        refine r_iload (pc := 52) h dX4_rusted_52 rfl ?_
        refine r_bipush (pc := 54) h dX4_rusted_54 cb_10 ?_
        refine r_icmp_ge (pc := 56) (tgt := 95) h dX4_rusted_56 (by decide) (fun c56 => absurd c56 (nI_ge (show r < 10 by omega) (by decide))) (fun c56 => ?_)
        refine r_iload (pc := 59) h dX4_rusted_59 rfl ?_
        refine r_if_ge (pc := 61) (tgt := 95) h dX4_rusted_61 (by decide) (fun c61 => absurd c61 (by decide)) (fun c61 => ?_)
        refine r_aload_n (pc := 64) h dX4_rusted_64 rfl ?_
        refine r_getR (pc := 65) h dX4_rusted_65 f_X4_19 sh_35 rfl ?_
        refine r_iload_n (pc := 68) h dX4_rusted_68 rfl ?_
        refine r_iload (pc := 69) h dX4_rusted_69 rfl ?_
        refine r_iastore (pc := 71) h dX4_rusted_71 sh_39 (hR.si hs) ?_
        obtain ⟨hR, hX, hF⟩ := Rm.wrM hF hX (hR.u_ru hs r) (by decide) (by unfold mscell; omega)
        generalize gup g2 39 _ _ = g2 at hR hX hF ⊢
        rw [cup_twice] at hR
        refine r_aload_n (pc := 72) h dX4_rusted_72 rfl ?_
        refine r_iload_n (pc := 73) h dX4_rusted_73 rfl ?_
        refine r_callVi (pc := 74) (As := [_]) h dX4_rusted_74 k_X4_182 gc_35 rfl ⟨Nat.le_of_ble_eq_true rfl, Nat.le_of_ble_eq_true rfl, Nat.le_of_ble_eq_true rfl⟩ (c_X4_canSay hR (gok_2 ho (by omega)) hi) (fun x_74 g1 hq1 => ?_)
        rw [covOf_up e6] at hq1
        obtain ⟨rfl, hg1⟩ := hq1
        rw [hg1]
        refine r_if_eq (pc := 77) (tgt := 85) h dX4_rusted_77 (by decide) (fun c77 => ?_) (fun c77 => ?_)
        · have hc : canB c i (covN (c 0 s) (c 1 s) r) = false := (bI_0 (canB c i (covN (c 0 s) (c 1 s) r))).mp c77
          refine r_iload (pc := 85) h dX4_rusted_85 rfl ?_
          refine r_istore (pc := 87) (ls2 := [_, _, _, _, _, _]) h dX4_rusted_87 (Nat.le_of_ble_eq_true rfl) rfl ?_
          refine r_iinc (pc := 89) (ls2 := [_, _, _, _, _, _]) h dX4_rusted_89 rfl (ic1 _) rfl ?_
          refine r_goto (pc := 92) (tgt := 52) h dX4_rusted_92 (by decide) ?_
          have hv : nI r = rusV c s := by rw [hq, gfind, if_pos (by rw [hc]; rfl)]; rfl
          refine r_iload (pc := 52) h dX4_rusted_52 rfl ?_
          refine r_bipush (pc := 54) h dX4_rusted_54 cb_10 ?_
          refine r_icmp_ge (pc := 56) (tgt := 95) h dX4_rusted_56 (by decide) (fun c56 => ?_) (fun c56 => ?_)
          · exact fin _ _ _ _ hR hX hF hv
          · refine r_iload (pc := 59) h dX4_rusted_59 rfl ?_
            refine r_if_ge (pc := 61) (tgt := 95) h dX4_rusted_61 (by decide) (fun c61 => ?_) (fun c61 => absurd (nI_pos' (by omega)) c61)
            exact fin _ _ _ _ hR hX hF hv
        · have hc : canB c i (covN (c 0 s) (c 1 s) r) = true := by simpa using mt (bI_0 (canB c i (covN (c 0 s) (c 1 s) r))).mpr c77
          refine r_bipush (pc := 80) h dX4_rusted_80 cb_m9 ?_
          refine r_goto (pc := 82) (tgt := 87) h dX4_rusted_82 (by decide) ?_
          refine r_istore (pc := 87) (ls2 := [_, _, _, _, _, _]) h dX4_rusted_87 (Nat.le_of_ble_eq_true rfl) rfl ?_
          refine r_iinc (pc := 89) (ls2 := [_, _, _, _, _, _]) h dX4_rusted_89 rfl (ic1 _) rfl ?_
          refine r_goto (pc := 92) (tgt := 52) h dX4_rusted_92 (by decide) ?_
          exact ih (r + 1) r g2 (by omega) hR hX hF (by rw [hq, gfind, if_neg (by rw [hc]; decide)])
    exact loop 10 0 (c 2 s) g rfl (by rw [cup_id]; exact hR) hX frm.rf (by unfold rusV; rw [hwr]; exact if_neg (by omega))
  refine r_aload_n (pc := 0) h dX4_rusted_0 rfl ?_
  refine r_iload_n (pc := 1) h dX4_rusted_1 rfl ?_
  refine r_callVi (pc := 2) (As := [_]) h dX4_rusted_2 k_X4_109 gc_35 rfl ⟨Nat.le_of_ble_eq_true rfl, Nat.le_of_ble_eq_true rfl, Nat.le_of_ble_eq_true rfl⟩ (c_X4_isSuit hR x) (fun x_2 g1 hq => ?_)
  obtain ⟨rfl, hg1⟩ := hq
  rw [hg1]
  refine r_if_ne (pc := 5) (tgt := 14) h dX4_rusted_5 (by decide) (fun c5 => ?_) (fun c5 => ?_)
  · have hb : inB x (c 7 0) = true := by simpa using mt (bI_0 (inB x (c 7 0))).mpr c5
    obtain ⟨s, hs, rfl⟩ := (inB_iff (by omega)).mp hb
    have es : (nI s).toNatClampNeg = s := nI_clamp (by omega)
    have hw : sufW c (nI s) = 0 := by unfold sufW whyB; rw [hb]; rfl
    refine r_aload_n (pc := 14) h dX4_rusted_14 rfl ?_
    refine r_iload_n (pc := 15) h dX4_rusted_15 rfl ?_
    refine r_callVi (pc := 16) (As := [_]) h dX4_rusted_16 k_X4_169 gc_35 rfl ⟨Nat.le_of_ble_eq_true rfl, Nat.le_of_ble_eq_true rfl, Nat.le_of_ble_eq_true rfl⟩ (c_X4_wearerOf hR ho (by omega)) (fun x_16 g1 hq => ?_)
    obtain ⟨rfl, hg1⟩ := hq
    rw [hg1]
    refine r_istore_n (pc := 19) (ls2 := [_, _, _, _, _, _]) h dX4_rusted_19 (Nat.le_of_ble_eq_true rfl) rfl ?_
    refine r_iload_n (pc := 20) h dX4_rusted_20 rfl ?_
    refine r_if_lt (pc := 21) (tgt := 35) h dX4_rusted_21 (by decide) (fun c21 => ?_) (fun c21 => ?_)
    · have hwr := (wr_neg hn5).mp c21
      have e : rusV c s = -9 := by unfold rusV; rw [hwr]
      refine r_bipush (pc := 35) h dX4_rusted_35 cb_m9 ?_
      refine r_ri t (pc := 37) dX4_rusted_37 rfl ?_
      exact y_ok hR hX frm.rf hw (by rw [es, e])
    · obtain ⟨i, hwr⟩ : ∃ i, wr c s = some i := Option.ne_none_iff_exists'.mp (fun q => c21 ((wr_neg hn5).mpr q))
      have hi : i < c 7 1 := (wr_lt hwr).1
      have h56 := (ho.2.2.2 i hi).2.2.1
      rw [show oI (wr c s) = nI i by rw [hwr]; rfl]
      refine r_aload_n (pc := 24) h dX4_rusted_24 rfl ?_
      refine r_getR (pc := 25) h dX4_rusted_25 f_X4_28 sh_35 rfl ?_
      refine r_iload_n (pc := 28) h dX4_rusted_28 rfl ?_
      refine r_ialoadE (pc := 29) h dX4_rusted_29 sh_42 (hR.sa hi) ?_
      refine r_bipush (pc := 30) h dX4_rusted_30 cb_6 ?_
      refine r_icmp_ne (pc := 32) (tgt := 38) h dX4_rusted_32 (by decide) (fun c32 => ?_) (fun c32 => ?_)
      · have h5 : c 5 i < 6 := by have : ¬ c 5 i = 6 := fun q => c32 (by rw [q]); omega
        refine r_aload_n (pc := 38) h dX4_rusted_38 rfl ?_
        refine r_getR (pc := 39) h dX4_rusted_39 f_X4_19 sh_35 rfl ?_
        refine r_iload_n (pc := 42) h dX4_rusted_42 rfl ?_
        refine r_ialoadE (pc := 43) h dX4_rusted_43 sh_39 (hR.ru hs) ?_
        refine r_istore_n (pc := 44) (ls2 := [_, _, _, _, _, _]) h dX4_rusted_44 (Nat.le_of_ble_eq_true rfl) rfl ?_
        refine r_bipush (pc := 45) h dX4_rusted_45 cb_m9 ?_
        refine r_istore (pc := 47) (ls2 := [_, _, _, _, _, _]) h dX4_rusted_47 (Nat.le_of_ble_eq_true rfl) rfl ?_
        refine r_iconst (pc := 49) h dX4_rusted_49 ci_0 ?_
        refine r_istore (pc := 50) (ls2 := [_, _, _, _, _, _]) h dX4_rusted_50 (Nat.le_of_ble_eq_true rfl) rfl ?_
        exact main s hs hw rfl i hi hwr h5 .null
      · have h5 : c 5 i = 6 := (nI_eq (by omega) (by decide)).mp c32
        have e : rusV c s = -9 := by unfold rusV; rw [hwr]; exact if_pos (by omega)
        refine r_bipush (pc := 35) h dX4_rusted_35 cb_m9 ?_
        refine r_ri t (pc := 37) dX4_rusted_37 rfl ?_
        exact y_ok hR hX frm.rf hw (by rw [es, e])
  · have hb : inB x (c 7 0) = false := (bI_0 (inB x (c 7 0))).mp c5
    have hw : sufW c x = -1 := by unfold sufW whyB; rw [hb]; rfl
    refine r_aload_n (pc := 8) h dX4_rusted_8 rfl ?_
    refine r_iconst (pc := 9) h dX4_rusted_9 ci_m1 ?_
    refine r_callVi (pc := 10) (As := [_]) h dX4_rusted_10 k_X4_77 gc_35 rfl ⟨Nat.le_of_ble_eq_true rfl, Nat.le_of_ble_eq_true rfl, Nat.le_of_ble_eq_true rfl⟩ (c_X4_no (okw_in okw_1 (by decide)).1) (fun x_10 g1 hq => ?_)
    obtain ⟨rfl, rfl⟩ := hq
    refine r_ri t (pc := 13) dX4_rusted_13 rfl ?_
    rw [hw]
    exact y_ref hR hX okw_1 (by decide)
end TX
