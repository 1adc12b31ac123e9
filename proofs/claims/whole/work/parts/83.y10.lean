section TX
variable {g : gG} {c ck : gCt} {hk : Bool} {lt : Nat → Nat} {nl : Nat} {rv : Nat → Nat} {nr : Nat} {rf : Nat → Int32}
set_option maxRecDepth 100000 in
set_option maxHeartbeats 4000000 in
theorem c_X4_dressedOnes {g : gG} {c : gCt} (hR : Rm g c) (ho : gok c) : gCi mX4_dressedOnes [.ref 35] g (fun y g1 => y = nI (drO c) ∧ g1 = g) := by
  refine gCi_of (own := RX4) (ls0 := [.ref 35, .null, .null]) ⟨rfl, pl_X4⟩ rfl (Nat.le_of_ble_eq_true rfl) (fun G (h : gR RX4 cX4_dressedOnes 0 0 G) (t : gTi cX4_dressedOnes .int _ G) => ?_)
  have hn5 := hR.n5
  have hn6 := hR.n6
  have loop : ∀ m i a, i + m = c 7 1 → gfold (fun i a => if c 6 i = 0 then a else a ||| 1 <<< i) m i a = drO c → G 4 [.ref 35, .int (nI a), .int (nI i)] [] g := by
    intro m
    induction m with
    | zero =>
      intro i a hi0 hz
      refine r_iload_n (pc := 4) h dX4_dressedOnes_4 rfl ?_
      refine r_aload_n (pc := 5) h dX4_dressedOnes_5 rfl ?_
      refine r_getE (pc := 6) h dX4_dressedOnes_6 f_X4_67 sh_35 rfl (hR.nc) ?_
      refine r_icmp_ge (pc := 9) (tgt := 37) h dX4_dressedOnes_9 (by decide) (fun c9 => ?_) (fun c9 => absurd (nI_le (by omega) (by omega)) c9)
      refine r_iload_n (pc := 37) h dX4_dressedOnes_37 rfl ?_
      refine r_ri t (pc := 38) dX4_dressedOnes_38 rfl ?_
      exact ⟨by rw [← hz]; rfl, rfl⟩
    | succ m ih =>
      intro i a hi0 hz
      have hi : i < c 7 1 := by omega
      have h6 := (ho.2.2.2 i hi).2.2.2
      refine r_iload_n (pc := 4) h dX4_dressedOnes_4 rfl ?_
      refine r_aload_n (pc := 5) h dX4_dressedOnes_5 rfl ?_
      refine r_getE (pc := 6) h dX4_dressedOnes_6 f_X4_67 sh_35 rfl (hR.nc) ?_
      refine r_icmp_ge (pc := 9) (tgt := 37) h dX4_dressedOnes_9 (by decide) (fun c9 => absurd c9 (nI_ge hi (by omega))) (fun c9 => ?_)
      refine r_iload_n (pc := 12) h dX4_dressedOnes_12 rfl ?_
      refine r_aload_n (pc := 13) h dX4_dressedOnes_13 rfl ?_
      refine r_getR (pc := 14) h dX4_dressedOnes_14 f_X4_31 sh_35 rfl ?_
      refine r_iload_n (pc := 17) h dX4_dressedOnes_17 rfl ?_
      refine r_ialoadE (pc := 18) h dX4_dressedOnes_18 sh_43 (hR.wo hi) ?_
      refine r_if_ne (pc := 19) (tgt := 26) h dX4_dressedOnes_19 (by decide) (fun c19 => ?_) (fun c19 => ?_)
      · have q : ¬ c 6 i = 0 := fun q => c19 (by rw [q]; rfl)
        have e : (fun i a => if c 6 i = 0 then a else a ||| 1 <<< i) i a = a ||| 1 <<< i := if_neg q
        have ez : nI a ||| nI 1 <<< (nI i &&& 31) = nI (a ||| 1 <<< i) := or_10 (by omega)
        refine r_iconst (pc := 26) h dX4_dressedOnes_26 ci_1 ?_
        refine r_iload_n (pc := 27) h dX4_dressedOnes_27 rfl ?_
        refine r_ishl (pc := 28) h dX4_dressedOnes_28 ?_
        refine r_ior (pc := 29) h dX4_dressedOnes_29 ?_
        refine r_top h ez ?_
        refine r_istore_n (pc := 30) (ls2 := [_, _, _]) h dX4_dressedOnes_30 (Nat.le_of_ble_eq_true rfl) rfl ?_
        refine r_iinc (pc := 31) (ls2 := [_, _, _]) h dX4_dressedOnes_31 rfl (ic1 _) rfl ?_
        refine r_goto (pc := 34) (tgt := 4) h dX4_dressedOnes_34 (by decide) ?_
        exact ih (i + 1) _ (by omega) (by rw [← e]; exact hz)
      · have q : c 6 i = 0 := (nI_eq0 (by omega)).mp c19
        have e : (fun i a => if c 6 i = 0 then a else a ||| 1 <<< i) i a = a := if_pos q
        have ez : nI a ||| nI 0 = nI a := by rw [nI00]; exact Int32.or_zero
        refine r_iconst (pc := 22) h dX4_dressedOnes_22 ci_0 ?_
        refine r_goto (pc := 23) (tgt := 29) h dX4_dressedOnes_23 (by decide) ?_
        refine r_ior (pc := 29) h dX4_dressedOnes_29 ?_
        refine r_top h ez ?_
        refine r_istore_n (pc := 30) (ls2 := [_, _, _]) h dX4_dressedOnes_30 (Nat.le_of_ble_eq_true rfl) rfl ?_
        refine r_iinc (pc := 31) (ls2 := [_, _, _]) h dX4_dressedOnes_31 rfl (ic1 _) rfl ?_
        refine r_goto (pc := 34) (tgt := 4) h dX4_dressedOnes_34 (by decide) ?_
        exact ih (i + 1) _ (by omega) (by rw [← e]; exact hz)
  refine r_iconst (pc := 0) h dX4_dressedOnes_0 ci_0 ?_
  refine r_istore_n (pc := 1) (ls2 := [_, _, _]) h dX4_dressedOnes_1 (Nat.le_of_ble_eq_true rfl) rfl ?_
  refine r_iconst (pc := 2) h dX4_dressedOnes_2 ci_0 ?_
  refine r_istore_n (pc := 3) (ls2 := [_, _, _]) h dX4_dressedOnes_3 (Nat.le_of_ble_eq_true rfl) rfl ?_
  exact loop (c 7 1) 0 0 (by omega) rfl
set_option maxRecDepth 100000 in
set_option maxHeartbeats 4000000 in
theorem c_X4_proposedBy {g : gG} {c : gCt} (hR : Rm g c) (ho : gok c) (hd : c 7 3 ≤ 999) {S n : Nat} (hS : S < 128) (hn : n ≤ 30) : gCi mX4_proposedBy [.ref 35, .int (nI S), .int (nI n)] g (fun y g1 => y = nI (pby c S n) ∧ Rm g1 c ∧ tfX g g1) := by
  refine gCi_of (own := RX4) (ls0 := [.ref 35, .int (nI S), .int (nI n), .null, .null]) ⟨rfl, pl_X4⟩ rfl (Nat.le_of_ble_eq_true rfl) (fun G (h : gR RX4 cX4_proposedBy 6 240 G) (t : gTi cX4_proposedBy .int _ G) => ?_)
  have hn5 := hR.n5
  have hn6 := hR.n6
  have ok0 := wrn_ok ho S (c 7 1)
  have hD := daysC_ok ok0.2.2.2 n (by rw [ok0.2.2.1]; omega)
  have hD1 : daysC n (wrn c S (c 7 1)) 7 1 = c 7 1 := by rw [hD.2.1, ok0.2.1]
  have loop2 : ∀ (g2 : gG), Rm g2 (daysC n (wrn c S (c 7 1))) → tfX g g2 → Rk g2 84 c → ∀ m i a, i + m = c 7 1 → a ≤ i → gfold (fun i a => if daysC n (wrn c S (c 7 1)) 5 i = 6 then a + 1 else a) m i a = pby c S n → G 54 [.ref 35, .int (nI S), .int (nI n), .int (nI a), .int (nI i)] [] g2 := by
    intro g2 hR hF hK m
    induction m with
    | zero =>
      intro i a hi0 ha hz
      refine r_iload (pc := 54) h dX4_proposedBy_54 rfl ?_
      refine r_aload_n (pc := 56) h dX4_proposedBy_56 rfl ?_
      refine r_getE (pc := 57) h dX4_proposedBy_57 f_X4_67 sh_35 rfl (hR.nc) ?_
      refine r_icmp_ge (pc := 60) (tgt := 89) h dX4_proposedBy_60 (by decide) (fun c60 => ?_) (fun c60 => absurd (nI_le (by omega) (by omega)) c60)
      refine r_aload_n (pc := 89) h dX4_proposedBy_89 rfl ?_
      refine r_callVv (pc := 90) (As := []) h dX4_proposedBy_90 k_X4_222 gc_35 rfl ⟨Nat.le_of_ble_eq_true rfl, Nat.le_of_ble_eq_true rfl, Nat.le_of_ble_eq_true rfl⟩ (c_X4_forgets hK) (fun g2 hq => ?_)
      obtain ⟨hR, hF1⟩ := hq
      have hF1 := hF1.tf
      have hF := hF.tr hF1.tx
      refine r_iload_n (pc := 93) h dX4_proposedBy_93 rfl ?_
      refine r_ri t (pc := 94) dX4_proposedBy_94 rfl ?_
      exact ⟨by rw [← hz]; rfl, hR, hF⟩
    | succ m ih =>
      intro i a hi0 ha hz
      have hi9 : i < daysC n (wrn c S (c 7 1)) 7 1 := by omega
      have h5 := (hD.2.2.2.2.2.2 i hi9).2.2.1
      refine r_iload (pc := 54) h dX4_proposedBy_54 rfl ?_
      refine r_aload_n (pc := 56) h dX4_proposedBy_56 rfl ?_
      refine r_getE (pc := 57) h dX4_proposedBy_57 f_X4_67 sh_35 rfl (hR.nc) ?_
      refine r_icmp_ge (pc := 60) (tgt := 89) h dX4_proposedBy_60 (by decide) (fun c60 => absurd c60 (nI_ge hi9 (by omega))) (fun c60 => ?_)
      refine r_iload_n (pc := 63) h dX4_proposedBy_63 rfl ?_
      refine r_aload_n (pc := 64) h dX4_proposedBy_64 rfl ?_
      refine r_getR (pc := 65) h dX4_proposedBy_65 f_X4_28 sh_35 rfl ?_
      refine r_iload (pc := 68) h dX4_proposedBy_68 rfl ?_
      refine r_ialoadE (pc := 70) h dX4_proposedBy_70 sh_42 (hR.sa hi9) ?_
      refine r_bipush (pc := 71) h dX4_proposedBy_71 cb_6 ?_
      refine r_icmp_ne (pc := 73) (tgt := 80) h dX4_proposedBy_73 (by decide) (fun c73 => ?_) (fun c73 => ?_)
      · have q : ¬ daysC n (wrn c S (c 7 1)) 5 i = 6 := fun z => c73 (by rw [z])
        have e : (fun i a => if daysC n (wrn c S (c 7 1)) 5 i = 6 then a + 1 else a) i a = a + 0 := if_neg q
        refine r_iconst (pc := 80) h dX4_proposedBy_80 ci_0 ?_
        refine r_iadd (pc := 81) h dX4_proposedBy_81 ?_
        refine r_top h (nI_add _ _) ?_
        refine r_istore_n (pc := 82) (ls2 := [_, _, _, _, _]) h dX4_proposedBy_82 (Nat.le_of_ble_eq_true rfl) rfl ?_
        refine r_iinc (pc := 83) (ls2 := [_, _, _, _, _]) h dX4_proposedBy_83 rfl (ic1 _) rfl ?_
        refine r_goto (pc := 86) (tgt := 54) h dX4_proposedBy_86 (by decide) ?_
        exact ih (i + 1) _ (by omega) (by omega) (by rw [← e]; exact hz)
      · have q : daysC n (wrn c S (c 7 1)) 5 i = 6 := (nI_eq (by omega) (by decide)).mp c73
        have e : (fun i a => if daysC n (wrn c S (c 7 1)) 5 i = 6 then a + 1 else a) i a = a + 1 := if_pos q
        refine r_iconst (pc := 76) h dX4_proposedBy_76 ci_1 ?_
        refine r_goto (pc := 77) (tgt := 81) h dX4_proposedBy_77 (by decide) ?_
        refine r_iadd (pc := 81) h dX4_proposedBy_81 ?_
        refine r_top h (nI_add _ _) ?_
        refine r_istore_n (pc := 82) (ls2 := [_, _, _, _, _]) h dX4_proposedBy_82 (Nat.le_of_ble_eq_true rfl) rfl ?_
        refine r_iinc (pc := 83) (ls2 := [_, _, _, _, _]) h dX4_proposedBy_83 rfl (ic1 _) rfl ?_
        refine r_goto (pc := 86) (tgt := 54) h dX4_proposedBy_86 (by decide) ?_
        exact ih (i + 1) _ (by omega) (by omega) (by rw [← e]; exact hz)
  have loop1 : ∀ m i (g2 : gG), i + m = c 7 1 → Rm g2 (wrn c S i) → tfX g g2 → Rk g2 84 c → G 6 [.ref 35, .int (nI S), .int (nI n), .int (nI i), .null] [] g2 := by
    intro m
    induction m with
    | zero =>
      intro i g2 hi0 hR hF hK
      have ok := wrn_ok ho S i
      have ok1 := ok.2.1
      refine r_iload_n (pc := 6) h dX4_proposedBy_6 rfl ?_
      refine r_aload_n (pc := 7) h dX4_proposedBy_7 rfl ?_
      refine r_getE (pc := 8) h dX4_proposedBy_8 f_X4_67 sh_35 rfl (hR.nc) ?_
      refine r_icmp_ge (pc := 11) (tgt := 44) h dX4_proposedBy_11 (by decide) (fun c11 => ?_) (fun c11 => absurd (nI_le (by omega) (by omega)) c11)
      refine r_aload_n (pc := 44) h dX4_proposedBy_44 rfl ?_
      refine r_iload_n (pc := 45) h dX4_proposedBy_45 rfl ?_
      refine r_callVv (pc := 46) (As := [_]) h dX4_proposedBy_46 k_X4_122 gc_35 rfl ⟨Nat.le_of_ble_eq_true rfl, Nat.le_of_ble_eq_true rfl, Nat.le_of_ble_eq_true rfl⟩ (c_X4_goes hR ok.2.2.2 (by rw [ok.2.2.1]; omega)) (fun g2 hq => ?_)
      obtain ⟨hR, hF1⟩ := hq
      have hK := hK.fm hF1
      have hF1 := hF1.tf
      have hF := hF.tr hF1.tx
      refine r_iconst (pc := 49) h dX4_proposedBy_49 ci_0 ?_
      refine r_istore_n (pc := 50) (ls2 := [_, _, _, _, _]) h dX4_proposedBy_50 (Nat.le_of_ble_eq_true rfl) rfl ?_
      refine r_iconst (pc := 51) h dX4_proposedBy_51 ci_0 ?_
      refine r_istore (pc := 52) (ls2 := [_, _, _, _, _]) h dX4_proposedBy_52 (Nat.le_of_ble_eq_true rfl) rfl ?_
      have ein : i = c 7 1 := by omega
      rw [ein] at hR
      exact loop2 g2 hR hF hK (c 7 1) 0 0 (by omega) (by omega) rfl
    | succ m ih =>
      intro i g2 hi0 hR hF hK
      have ok := wrn_ok ho S i
      have ok1 := ok.2.1
      have hi9 : i < wrn c S i 7 1 := by omega
      have nxt : ∀ g2 : gG, Rm g2 (wrn c S (i + 1)) → tfX g g2 → Rk g2 84 c → G 38 [.ref 35, .int (nI S), .int (nI n), .int (nI i), .null] [] g2 := by
        intro g2 hR hF hK
        refine r_iinc (pc := 38) (ls2 := [_, _, _, _, _]) h dX4_proposedBy_38 rfl (ic1 _) rfl ?_
        refine r_goto (pc := 41) (tgt := 6) h dX4_proposedBy_41 (by decide) ?_
        exact ih (i + 1) g2 (by omega) hR hF hK
      refine r_iload_n (pc := 6) h dX4_proposedBy_6 rfl ?_
      refine r_aload_n (pc := 7) h dX4_proposedBy_7 rfl ?_
      refine r_getE (pc := 8) h dX4_proposedBy_8 f_X4_67 sh_35 rfl (hR.nc) ?_
      refine r_icmp_ge (pc := 11) (tgt := 44) h dX4_proposedBy_11 (by decide) (fun c11 => absurd c11 (nI_ge hi9 (by omega))) (fun c11 => ?_)
      refine r_aload_n (pc := 14) h dX4_proposedBy_14 rfl ?_
      refine r_getR (pc := 15) h dX4_proposedBy_15 f_X4_31 sh_35 rfl ?_
      refine r_iload_n (pc := 18) h dX4_proposedBy_18 rfl ?_
      refine r_iload_n (pc := 19) h dX4_proposedBy_19 rfl ?_
      refine r_iload_n (pc := 20) h dX4_proposedBy_20 rfl ?_
      refine r_callSi (pc := 21) (As := [_, _]) h dX4_proposedBy_21 k_X4_237 rfl ⟨Nat.le_of_ble_eq_true rfl, Nat.le_of_ble_eq_true rfl, Nat.le_of_ble_eq_true rfl⟩ (c_X4_has _ _) (fun x_21 g2 hq => ?_)
      rw [has_bt (by omega) (by omega)] at hq
      obtain ⟨rfl, rfl⟩ := hq
      refine r_if_eq (pc := 24) (tgt := 36) h dX4_proposedBy_24 (by decide) (fun c24 => ?_) (fun c24 => ?_)
      · have hb : bt S i = false := (bI_0 (bt S i)).mp c24
        refine r_iconst (pc := 36) h dX4_proposedBy_36 ci_0 ?_
        refine r_iastore (pc := 37) h dX4_proposedBy_37 sh_43 (hR.ci hi9) ?_
        generalize hg3 : gup g2 43 _ _ = g3
        have hR2 := Rm.wrX hF (hR.u_wo hi9 (0)) (by decide)
        rw [hg3] at hR2
        obtain ⟨hR, hF⟩ := hR2
        have hK : Rk g3 84 c := by rw [← hg3]; exact hK.up (by decide)
        clear hg3
        revert g3
        intro g2 hR hF hK
        have e := wrn_s c S i
        rw [if_neg (by rw [hb]; decide)] at e
        rw [← e] at hR
        exact nxt g2 hR hF hK
      · have hb : bt S i = true := by simpa using mt (bI_0 (bt S i)).mpr c24
        refine r_aload_n (pc := 27) h dX4_proposedBy_27 rfl ?_
        refine r_getR (pc := 28) h dX4_proposedBy_28 f_X4_31 sh_35 rfl ?_
        refine r_iload_n (pc := 31) h dX4_proposedBy_31 rfl ?_
        refine r_ialoadE (pc := 32) h dX4_proposedBy_32 sh_43 (hR.wo hi9) ?_
        refine r_goto (pc := 33) (tgt := 37) h dX4_proposedBy_33 (by decide) ?_
        refine r_iastore (pc := 37) h dX4_proposedBy_37 sh_43 (hR.ci hi9) ?_
        generalize hg3 : gup g2 43 _ _ = g3
        have hR2 := Rm.wrX hF (hR.u_wo hi9 (wrn c S i 6 i)) (by decide)
        rw [hg3, cup_id] at hR2
        obtain ⟨hR, hF⟩ := hR2
        have hK : Rk g3 84 c := by rw [← hg3]; exact hK.up (by decide)
        clear hg3
        revert g3
        intro g2 hR hF hK
        have e := wrn_s c S i
        rw [if_pos hb] at e
        rw [← e] at hR
        exact nxt g2 hR hF hK
  have hF : tfX g g := tfX.rf
  refine r_aload_n (pc := 0) h dX4_proposedBy_0 rfl ?_
  refine r_callVv (pc := 1) (As := []) h dX4_proposedBy_1 k_X4_219 gc_35 rfl ⟨Nat.le_of_ble_eq_true rfl, Nat.le_of_ble_eq_true rfl, Nat.le_of_ble_eq_true rfl⟩ (c_X4_thinks hR) (fun g2 hq => ?_)
  obtain ⟨hK, hF1⟩ := hq
  have hR := hR.kf hF1
  have hF1 := hF1.tf
  have hF := hF.tr hF1.tx
  refine r_iconst (pc := 4) h dX4_proposedBy_4 ci_0 ?_
  refine r_istore_n (pc := 5) (ls2 := [_, _, _, _, _]) h dX4_proposedBy_5 (Nat.le_of_ble_eq_true rfl) rfl ?_
  exact loop1 (c 7 1) 0 g2 (by omega) hR hF hK
end TX
