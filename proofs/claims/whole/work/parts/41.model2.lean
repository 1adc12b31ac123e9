set_option maxRecDepth 100000 in
set_option maxHeartbeats 4000000 in
theorem c_X4_goesDay {g : gG} {c : gCt} (hR : Rm g c) (ho : gok c) (hd : c 7 3 + 1 ≤ 2000) : gCv mX4_goesDay [.ref 35] g (fun g1 => Rm g1 (dayC c) ∧ fmC g g1) := by
  refine gCv_of (own := RX4) (ls0 := [.ref 35, .null]) ⟨rfl, pl_X4⟩ rfl (Nat.le_of_ble_eq_true rfl) (fun G (h : gR RX4 cX4_goesDay 4 160 G) (t : gTv cX4_goesDay _ G) => ?_)
  have e0 : dayC c = if gfold (fun i c => live c i) (c 7 1) 0 (cup c 7 3 (c 7 3 + 1)) 7 3 % 5 = 0 then rstU (gfold (fun i c => live c i) (c 7 1) 0 (cup c 7 3 (c 7 3 + 1))) else gfold (fun i c => live c i) (c 7 1) 0 (cup c 7 3 (c 7 3 + 1)) := rfl
  have loop2 : ∀ n i (b d : gCt) (g2 : gG), i + n = d 7 0 → d 7 3 % 5 = 0 → Rm g2 d → gok d → fmC g g2 → dayC c = gfold rstF n i d → G 33 [.ref 35, .int (nI i)] [] g2 := by
    intro n
    induction n with
    | zero =>
      intro i b d g2 hi h5 hR ho hF hw
      have hn6 := hR.n6
      refine r_iload_n (pc := 33) h dX4_goesDay_33 rfl ?_
      refine r_aload_n (pc := 34) h dX4_goesDay_34 rfl ?_
      refine r_getE (pc := 35) h dX4_goesDay_35 f_X4_60 sh_35 rfl (hR.ns) ?_
      refine r_icmp_ge (pc := 38) (tgt := 83) h dX4_goesDay_38 (by decide) (fun c38 => ?_) (fun c38 => absurd (nI_le (by omega) (by omega)) c38)
      refine r_rv t (pc := 83) dX4_goesDay_83 ?_
      exact ⟨by rw [hw]; exact hR, hF⟩
    | succ n ih =>
      intro i b d g2 hin h5 hR ho hF hw
      have hn6 := hR.n6
      have hn5 := hR.n5
      have hi : i < d 7 0 := by omega
      have hk := ho.2.2.1 i hi
      have h7 := rstF_7 d i
      have hdy := ho.2.1
      refine r_iload_n (pc := 33) h dX4_goesDay_33 rfl ?_
      refine r_aload_n (pc := 34) h dX4_goesDay_34 rfl ?_
      refine r_getE (pc := 35) h dX4_goesDay_35 f_X4_60 sh_35 rfl (hR.ns) ?_
      refine r_icmp_ge (pc := 38) (tgt := 83) h dX4_goesDay_38 (by decide) (fun c38 => absurd c38 (nI_ge hi (by omega))) (fun c38 => ?_)
      refine r_aload_n (pc := 41) h dX4_goesDay_41 rfl ?_
      refine r_getE (pc := 42) h dX4_goesDay_42 f_X4_119 sh_35 rfl (hR.dy) ?_
      refine r_iconst (pc := 45) h dX4_goesDay_45 ci_5 ?_
      refine r_irem (pc := 46) h dX4_goesDay_46 (by decide) ?_
      refine r_top (y := nI (d 7 3 % 5)) h (pk_rem (by omega) (by decide) (by decide)) ?_
      refine r_if_ne (pc := 47) (tgt := 77) h dX4_goesDay_47 (by decide) (fun c47 => absurd (by rw [h5]; rfl) c47) (fun c47 => ?_)
      refine r_aload_n (pc := 50) h dX4_goesDay_50 rfl ?_
      refine r_iload_n (pc := 51) h dX4_goesDay_51 rfl ?_
      refine r_callVi (pc := 52) (As := [_]) h dX4_goesDay_52 k_X4_169 gc_35 rfl ⟨Nat.le_of_ble_eq_true rfl, Nat.le_of_ble_eq_true rfl, Nat.le_of_ble_eq_true rfl⟩ (c_X4_wearerOf hR ho (by omega)) (fun x_52 g1 hq => ?_)
      obtain ⟨rfl, hg1⟩ := hq
      rw [hg1]
      refine r_if_ge (pc := 55) (tgt := 77) h dX4_goesDay_55 (by decide) (fun c55 => ?_) (fun c55 => ?_)
      · have e : rstF i d = d := by unfold rstF; exact if_neg (fun q => absurd ((wr_neg hn5).mpr q) (Int32.not_lt.mpr c55))
        refine r_iinc (pc := 77) (ls2 := [_, _]) h dX4_goesDay_77 rfl (ic1 _) rfl ?_
        refine r_goto (pc := 80) (tgt := 33) h dX4_goesDay_80 (by decide) ?_
        exact ih (i + 1) b (rstF i d) _ (by rw [h7.1]; omega) (by rw [h7.2.2]; exact h5) (by rw [e]; exact hR) (rstF_gok ho i) hF hw
      · have e : rstF i d = cup d 2 i (cap (d 2 i + 1) 9) := by unfold rstF; exact if_pos ((wr_neg hn5).mp (Int32.not_le.mp c55))
        refine r_aload_n (pc := 58) h dX4_goesDay_58 rfl ?_
        refine r_getR (pc := 59) h dX4_goesDay_59 f_X4_19 sh_35 rfl ?_
        refine r_iload_n (pc := 62) h dX4_goesDay_62 rfl ?_
        refine r_aload_n (pc := 63) h dX4_goesDay_63 rfl ?_
        refine r_getR (pc := 64) h dX4_goesDay_64 f_X4_19 sh_35 rfl ?_
        refine r_iload_n (pc := 67) h dX4_goesDay_67 rfl ?_
        refine r_ialoadE (pc := 68) h dX4_goesDay_68 sh_39 (hR.ru hi) ?_
        refine r_iconst (pc := 69) h dX4_goesDay_69 ci_1 ?_
        refine r_iadd (pc := 70) h dX4_goesDay_70 ?_
        refine r_bipush (pc := 71) h dX4_goesDay_71 cb_9 ?_
        refine r_callSi (pc := 73) (As := [_, _]) h dX4_goesDay_73 k_X4_188 rfl ⟨Nat.le_of_ble_eq_true rfl, Nat.le_of_ble_eq_true rfl, Nat.le_of_ble_eq_true rfl⟩ (c_X4_held _ _) (fun x_73 g1 hq => ?_)
        obtain ⟨rfl, hg1⟩ := hq
        rw [hg1]
        refine r_top (y := nI (cap (d 2 i + 1) 9)) h (by rw [nI_add]; exact hld_add (by omega) (by decide)) ?_
        refine r_iastore (pc := 76) h dX4_goesDay_76 sh_39 (hR.si hi) ?_
        obtain ⟨hR, hF⟩ := Rm.wrC hF (hR.u_ru hi _) (by omega)
        generalize gup g2 39 _ _ = g2 at hR hF ⊢
        refine r_iinc (pc := 77) (ls2 := [_, _]) h dX4_goesDay_77 rfl (ic1 _) rfl ?_
        refine r_goto (pc := 80) (tgt := 33) h dX4_goesDay_80 (by decide) ?_
        exact ih (i + 1) b (rstF i d) _ (by rw [h7.1]; omega) (by rw [h7.2.2]; exact h5) (by rw [e]; exact hR) (rstF_gok ho i) hF hw
  have loop3 : ∀ n i (d : gCt) (g2 : gG), i + n = d 7 0 → ¬ d 7 3 % 5 = 0 → Rm g2 d → gok d → fmC g g2 → dayC c = d → G 33 [.ref 35, .int (nI i)] [] g2 := by
    intro n
    induction n with
    | zero =>
      intro i d g2 hi h5 hR ho hF hw
      have hn6 := hR.n6
      refine r_iload_n (pc := 33) h dX4_goesDay_33 rfl ?_
      refine r_aload_n (pc := 34) h dX4_goesDay_34 rfl ?_
      refine r_getE (pc := 35) h dX4_goesDay_35 f_X4_60 sh_35 rfl (hR.ns) ?_
      refine r_icmp_ge (pc := 38) (tgt := 83) h dX4_goesDay_38 (by decide) (fun c38 => ?_) (fun c38 => absurd (nI_le (by omega) (by omega)) c38)
      refine r_rv t (pc := 83) dX4_goesDay_83 ?_
      exact ⟨by rw [hw]; exact hR, hF⟩
    | succ n ih =>
      intro i d g2 hin h5 hR ho hF hw
      have hn6 := hR.n6
      have hi : i < d 7 0 := by omega
      have hdy := ho.2.1
      refine r_iload_n (pc := 33) h dX4_goesDay_33 rfl ?_
      refine r_aload_n (pc := 34) h dX4_goesDay_34 rfl ?_
      refine r_getE (pc := 35) h dX4_goesDay_35 f_X4_60 sh_35 rfl (hR.ns) ?_
      refine r_icmp_ge (pc := 38) (tgt := 83) h dX4_goesDay_38 (by decide) (fun c38 => absurd c38 (nI_ge hi (by omega))) (fun c38 => ?_)
      refine r_aload_n (pc := 41) h dX4_goesDay_41 rfl ?_
      refine r_getE (pc := 42) h dX4_goesDay_42 f_X4_119 sh_35 rfl (hR.dy) ?_
      refine r_iconst (pc := 45) h dX4_goesDay_45 ci_5 ?_
      refine r_irem (pc := 46) h dX4_goesDay_46 (by decide) ?_
      refine r_top (y := nI (d 7 3 % 5)) h (pk_rem (by omega) (by decide) (by decide)) ?_
      refine r_if_ne (pc := 47) (tgt := 77) h dX4_goesDay_47 (by decide) (fun c47 => ?_) (fun c47 => absurd c47 (fun q => h5 ((nI_eq0 (by omega)).mp q)))
      refine r_iinc (pc := 77) (ls2 := [_, _]) h dX4_goesDay_77 rfl (ic1 _) rfl ?_
      refine r_goto (pc := 80) (tgt := 33) h dX4_goesDay_80 (by decide) ?_
      exact ih (i + 1) d _ (by omega) h5 hR ho hF hw
  have loop1 : ∀ q i (b : gCt) (g2 : gG), i + q = b 7 1 → Rm g2 b → gok b → fmC g g2 → gfold (fun i c => live c i) q i b = gfold (fun i c => live c i) (c 7 1) 0 (cup c 7 3 (c 7 3 + 1)) → G 12 [.ref 35, .int (nI i)] [] g2 := by
    intro q
    induction q with
    | zero =>
      intro i b g2 hi hR ho2 hF hw2
      have hn5 := hR.n5
      have hb : b = gfold (fun i c => live c i) (c 7 1) 0 (cup c 7 3 (c 7 3 + 1)) := hw2
      rw [← hb] at e0
      refine r_iload_n (pc := 12) h dX4_goesDay_12 rfl ?_
      refine r_aload_n (pc := 13) h dX4_goesDay_13 rfl ?_
      refine r_getE (pc := 14) h dX4_goesDay_14 f_X4_67 sh_35 rfl (hR.nc) ?_
      refine r_icmp_ge (pc := 17) (tgt := 31) h dX4_goesDay_17 (by decide) (fun c17 => ?_) (fun c17 => absurd (nI_le (by omega) (by omega)) c17)
      refine r_iconst (pc := 31) h dX4_goesDay_31 ci_0 ?_
      refine r_istore_n (pc := 32) (ls2 := [_, _]) h dX4_goesDay_32 (Nat.le_of_ble_eq_true rfl) rfl ?_
      by_cases h5 : b 7 3 % 5 = 0
      · exact loop2 (b 7 0) 0 b b _ (by omega) h5 hR ho2 hF (by rw [e0, if_pos h5]; rfl)
      · exact loop3 (b 7 0) 0 b _ (by omega) h5 hR ho2 hF (by rw [e0, if_neg h5])
    | succ q ih =>
      intro i b g2 hin hR ho2 hF hw2
      have hn5 := hR.n5
      have hi : i < b 7 1 := by omega
      refine r_iload_n (pc := 12) h dX4_goesDay_12 rfl ?_
      refine r_aload_n (pc := 13) h dX4_goesDay_13 rfl ?_
      refine r_getE (pc := 14) h dX4_goesDay_14 f_X4_67 sh_35 rfl (hR.nc) ?_
      refine r_icmp_ge (pc := 17) (tgt := 31) h dX4_goesDay_17 (by decide) (fun c17 => absurd c17 (nI_ge hi (by omega))) (fun c17 => ?_)
      refine r_aload_n (pc := 20) h dX4_goesDay_20 rfl ?_
      refine r_iload_n (pc := 21) h dX4_goesDay_21 rfl ?_
      refine r_callVv (pc := 22) (As := [_]) h dX4_goesDay_22 k_X4_197 gc_35 rfl ⟨Nat.le_of_ble_eq_true rfl, Nat.le_of_ble_eq_true rfl, Nat.le_of_ble_eq_true rfl⟩ (c_X4_goesCaller hR ho2 hi) (fun g1 hq => ?_)
      obtain ⟨hR, hF1⟩ := hq
      have hF := hF.tr hF1
      refine r_iinc (pc := 25) (ls2 := [_, _]) h dX4_goesDay_25 rfl (ic1 _) rfl ?_
      refine r_goto (pc := 28) (tgt := 12) h dX4_goesDay_28 (by decide) ?_
      exact ih (i + 1) (live b i) _ (by rw [(live_7 b i).2.1]; omega) hR (live_gok ho2 hi) hF hw2
  suffices H : ∀ g2 : gG, Rm g2 c → fmC g g2 → G 0 [.ref 35, .null] [] g2 from H g hR fmC.rf
  intro g2 hR hF
  refine r_aload_n (pc := 0) h dX4_goesDay_0 rfl ?_
  refine r_dup (pc := 1) h dX4_goesDay_1 rfl ?_
  refine r_getE (pc := 2) h dX4_goesDay_2 f_X4_119 sh_35 rfl (hR.dy) ?_
  refine r_iconst (pc := 5) h dX4_goesDay_5 ci_1 ?_
  refine r_iadd (pc := 6) h dX4_goesDay_6 ?_
  refine r_top (y := nI (c 7 3 + 1)) h (nI_add _ _) ?_
  refine r_putI (pc := 7) h dX4_goesDay_7 fw_X4_119 sh_35 rfl rfl rfl ?_
  obtain ⟨hR, hF⟩ := Rm.wrC hF (hR.u_dy _) (by omega)
  generalize gup g2 35 _ _ = g2 at hR hF ⊢
  refine r_iconst (pc := 10) h dX4_goesDay_10 ci_0 ?_
  refine r_istore_n (pc := 11) (ls2 := [_, _]) h dX4_goesDay_11 (Nat.le_of_ble_eq_true rfl) rfl ?_
  exact loop1 (c 7 1) 0 _ _ (by simp [cup]) hR (gok_73 ho hd) hF rfl
set_option maxRecDepth 100000 in
set_option maxHeartbeats 4000000 in
theorem c_X4_goes {g : gG} {c : gCt} (hR : Rm g c) (ho : gok c) {n : Nat} (hd : c 7 3 + n ≤ 2000) : gCv mX4_goes [.ref 35, .int (nI n)] g (fun g1 => Rm g1 (daysC n c) ∧ fmC g g1) := by
  refine gCv_of (own := RX4) (ls0 := [.ref 35, .int (nI n), .null]) ⟨rfl, pl_X4⟩ rfl (Nat.le_of_ble_eq_true rfl) (fun G (h : gR RX4 cX4_goes 5 200 G) (t : gTv cX4_goes _ G) => ?_)
  have loop : ∀ m k (d : gCt) (g2 : gG), k + m = n → Rm g2 d → gok d → d 7 3 + m ≤ 2000 → fmC g g2 → gfold (fun _ c => dayC c) m k d = daysC n c → G 2 [.ref 35, .int (nI n), .int (nI k)] [] g2 := by
    intro m
    induction m with
    | zero =>
      intro k d g2 hk hR ho hd2 hF hw
      refine r_iload_n (pc := 2) h dX4_goes_2 rfl ?_
      refine r_iload_n (pc := 3) h dX4_goes_3 rfl ?_
      refine r_icmp_ge (pc := 4) (tgt := 17) h dX4_goes_4 (by decide) (fun c4 => ?_) (fun c4 => absurd (nI_le (by omega) (by omega)) c4)
      refine r_rv t (pc := 17) dX4_goes_17 ?_
      exact ⟨by rw [← hw]; exact hR, hF⟩
    | succ m ih =>
      intro k d g2 hk hR ho hd2 hF hw
      have hd7 := dayC_ok ho (by omega)
      refine r_iload_n (pc := 2) h dX4_goes_2 rfl ?_
      refine r_iload_n (pc := 3) h dX4_goes_3 rfl ?_
      refine r_icmp_ge (pc := 4) (tgt := 17) h dX4_goes_4 (by decide) (fun c4 => absurd c4 (nI_ge (show k < n by omega) (by omega))) (fun c4 => ?_)
      refine r_aload_n (pc := 7) h dX4_goes_7 rfl ?_
      refine r_callVv (pc := 8) (As := []) h dX4_goes_8 k_X4_200 gc_35 rfl ⟨Nat.le_of_ble_eq_true rfl, Nat.le_of_ble_eq_true rfl, Nat.le_of_ble_eq_true rfl⟩ (c_X4_goesDay hR ho (by omega)) (fun g1 hq => ?_)
      obtain ⟨hR, hF1⟩ := hq
      have hF := hF.tr hF1
      refine r_iinc (pc := 11) (ls2 := [_, _, _]) h dX4_goes_11 rfl (ic1 _) rfl ?_
      refine r_goto (pc := 14) (tgt := 2) h dX4_goes_14 (by decide) ?_
      exact ih (k + 1) (dayC d) _ (by omega) hR hd7.2.2.2 (by omega) hF hw
  refine r_iconst (pc := 0) h dX4_goes_0 ci_0 ?_
  refine r_istore_n (pc := 1) (ls2 := [_, _, _]) h dX4_goes_1 (Nat.le_of_ble_eq_true rfl) rfl ?_
  exact loop n 0 c g (by omega) hR ho hd fmC.rf rfl
set_option maxRecDepth 100000 in
set_option maxHeartbeats 4000000 in
theorem c_X4_allOf_42 {g : gG} {c : gCt} (hR : Rm g c) : gCi mX4_allOf [.ref 35, .ref 42] g (fun x g1 => x = nI (sumN (c 5) (c 7 1)) ∧ g1 = g) := by
  refine gCi_of (own := RX4) (ls0 := [.ref 35, .ref 42, .null, .null]) ⟨rfl, pl_X4⟩ rfl (Nat.le_of_ble_eq_true rfl) (fun G (h : gR RX4 cX4_allOf 0 0 G) (t : gTi cX4_allOf .int _ G) => ?_)
  have hn5 := hR.n5
  have loop : ∀ n i a, i + n = c 7 1 → gfold (fun i a => a + c 5 i) n i a = sumN (c 5) (c 7 1) → G 4 [.ref 35, .ref 42, .int (nI a), .int (nI i)] [] g := by
    intro n
    induction n with
    | zero =>
      intro i a hi hw
      refine r_iload_n (pc := 4) h dX4_allOf_4 rfl ?_
      refine r_aload_n (pc := 5) h dX4_allOf_5 rfl ?_
      refine r_getE (pc := 6) h dX4_allOf_6 f_X4_67 sh_35 rfl (hR.nc) ?_
      refine r_icmp_ge (pc := 9) (tgt := 24) h dX4_allOf_9 (by decide) (fun c9 => ?_) (fun c9 => absurd (nI_le (by omega) (by omega)) c9)
      refine r_iload_n (pc := 24) h dX4_allOf_24 rfl ?_
      refine r_ri t (pc := 25) dX4_allOf_25 rfl ?_
      exact ⟨by rw [← hw]; rfl, rfl⟩
    | succ n ih =>
      intro i a hin hw
      have hi : i < c 7 1 := by omega
      refine r_iload_n (pc := 4) h dX4_allOf_4 rfl ?_
      refine r_aload_n (pc := 5) h dX4_allOf_5 rfl ?_
      refine r_getE (pc := 6) h dX4_allOf_6 f_X4_67 sh_35 rfl (hR.nc) ?_
      refine r_icmp_ge (pc := 9) (tgt := 24) h dX4_allOf_9 (by decide) (fun c9 => absurd c9 (nI_ge hi (by omega))) (fun c9 => ?_)
      refine r_iload_n (pc := 12) h dX4_allOf_12 rfl ?_
      refine r_aload_n (pc := 13) h dX4_allOf_13 rfl ?_
      refine r_iload_n (pc := 14) h dX4_allOf_14 rfl ?_
      refine r_ialoadE (pc := 15) h dX4_allOf_15 sh_42 (hR.sa hi) ?_
      refine r_iadd (pc := 16) h dX4_allOf_16 ?_
      refine r_top h (nI_add _ _) ?_
      refine r_istore_n (pc := 17) (ls2 := [_, _, _, _]) h dX4_allOf_17 (Nat.le_of_ble_eq_true rfl) rfl ?_
      refine r_iinc (pc := 18) (ls2 := [_, _, _, _]) h dX4_allOf_18 rfl (ic1 _) rfl ?_
      refine r_goto (pc := 21) (tgt := 4) h dX4_allOf_21 (by decide) ?_
      exact ih (i + 1) _ (by omega) hw
  refine r_iconst (pc := 0) h dX4_allOf_0 ci_0 ?_
  refine r_istore_n (pc := 1) (ls2 := [_, _, _, _]) h dX4_allOf_1 (Nat.le_of_ble_eq_true rfl) rfl ?_
  refine r_iconst (pc := 2) h dX4_allOf_2 ci_0 ?_
  refine r_istore_n (pc := 3) (ls2 := [_, _, _, _]) h dX4_allOf_3 (Nat.le_of_ble_eq_true rfl) rfl ?_
  exact loop (c 7 1) 0 0 (by omega) rfl
set_option maxRecDepth 100000 in
set_option maxHeartbeats 4000000 in
theorem c_X4_allOf_40 {g : gG} {c : gCt} (hR : Rm g c) : gCi mX4_allOf [.ref 35, .ref 40] g (fun x g1 => x = nI (sumN (c 3) (c 7 1)) ∧ g1 = g) := by
  refine gCi_of (own := RX4) (ls0 := [.ref 35, .ref 40, .null, .null]) ⟨rfl, pl_X4⟩ rfl (Nat.le_of_ble_eq_true rfl) (fun G (h : gR RX4 cX4_allOf 0 0 G) (t : gTi cX4_allOf .int _ G) => ?_)
  have hn5 := hR.n5
  have loop : ∀ n i a, i + n = c 7 1 → gfold (fun i a => a + c 3 i) n i a = sumN (c 3) (c 7 1) → G 4 [.ref 35, .ref 40, .int (nI a), .int (nI i)] [] g := by
    intro n
    induction n with
    | zero =>
      intro i a hi hw
      refine r_iload_n (pc := 4) h dX4_allOf_4 rfl ?_
      refine r_aload_n (pc := 5) h dX4_allOf_5 rfl ?_
      refine r_getE (pc := 6) h dX4_allOf_6 f_X4_67 sh_35 rfl (hR.nc) ?_
      refine r_icmp_ge (pc := 9) (tgt := 24) h dX4_allOf_9 (by decide) (fun c9 => ?_) (fun c9 => absurd (nI_le (by omega) (by omega)) c9)
      refine r_iload_n (pc := 24) h dX4_allOf_24 rfl ?_
      refine r_ri t (pc := 25) dX4_allOf_25 rfl ?_
      exact ⟨by rw [← hw]; rfl, rfl⟩
    | succ n ih =>
      intro i a hin hw
      have hi : i < c 7 1 := by omega
      refine r_iload_n (pc := 4) h dX4_allOf_4 rfl ?_
      refine r_aload_n (pc := 5) h dX4_allOf_5 rfl ?_
      refine r_getE (pc := 6) h dX4_allOf_6 f_X4_67 sh_35 rfl (hR.nc) ?_
      refine r_icmp_ge (pc := 9) (tgt := 24) h dX4_allOf_9 (by decide) (fun c9 => absurd c9 (nI_ge hi (by omega))) (fun c9 => ?_)
      refine r_iload_n (pc := 12) h dX4_allOf_12 rfl ?_
      refine r_aload_n (pc := 13) h dX4_allOf_13 rfl ?_
      refine r_iload_n (pc := 14) h dX4_allOf_14 rfl ?_
      refine r_ialoadE (pc := 15) h dX4_allOf_15 sh_40 (hR.fe hi) ?_
      refine r_iadd (pc := 16) h dX4_allOf_16 ?_
      refine r_top h (nI_add _ _) ?_
      refine r_istore_n (pc := 17) (ls2 := [_, _, _, _]) h dX4_allOf_17 (Nat.le_of_ble_eq_true rfl) rfl ?_
      refine r_iinc (pc := 18) (ls2 := [_, _, _, _]) h dX4_allOf_18 rfl (ic1 _) rfl ?_
      refine r_goto (pc := 21) (tgt := 4) h dX4_allOf_21 (by decide) ?_
      exact ih (i + 1) _ (by omega) hw
  refine r_iconst (pc := 0) h dX4_allOf_0 ci_0 ?_
  refine r_istore_n (pc := 1) (ls2 := [_, _, _, _]) h dX4_allOf_1 (Nat.le_of_ble_eq_true rfl) rfl ?_
  refine r_iconst (pc := 2) h dX4_allOf_2 ci_0 ?_
  refine r_istore_n (pc := 3) (ls2 := [_, _, _, _]) h dX4_allOf_3 (Nat.le_of_ble_eq_true rfl) rfl ?_
  exact loop (c 7 1) 0 0 (by omega) rfl
set_option maxRecDepth 100000 in
set_option maxHeartbeats 4000000 in
theorem c_X4_rains {g : gG} {c : gCt} (hR : Rm g c) (ho : gok c) : gCv mX4_rains [.ref 35] g (fun g1 => Rm g1 (rainC c) ∧ fmC g g1) := by
  refine gCv_of (own := RX4) (ls0 := [.ref 35, .null]) ⟨rfl, pl_X4⟩ rfl (Nat.le_of_ble_eq_true rfl) (fun G (h : gR RX4 cX4_rains 1 40 G) (t : gTv cX4_rains _ G) => ?_)
  have loop : ∀ n i (d : gCt) (g2 : gG), i + n = d 7 0 → Rm g2 d → gok d → fmC g g2 → gfold (fun s c => cup c 2 s (cap (c 2 s + 1) 9)) n i d = rainC c → G 2 [.ref 35, .int (nI i)] [] g2 := by
    intro n
    induction n with
    | zero =>
      intro i d g2 hi hR ho hF hw
      have hn6 := hR.n6
      refine r_iload_n (pc := 2) h dX4_rains_2 rfl ?_
      refine r_aload_n (pc := 3) h dX4_rains_3 rfl ?_
      refine r_getE (pc := 4) h dX4_rains_4 f_X4_60 sh_35 rfl (hR.ns) ?_
      refine r_icmp_ge (pc := 7) (tgt := 35) h dX4_rains_7 (by decide) (fun c7 => ?_) (fun c7 => absurd (nI_le (by omega) (by omega)) c7)
      refine r_rv t (pc := 35) dX4_rains_35 ?_
      exact ⟨by rw [← hw]; exact hR, hF⟩
    | succ n ih =>
      intro i d g2 hin hR ho hF hw
      have hn6 := hR.n6
      have hi : i < d 7 0 := by omega
      have hk := ho.2.2.1 i hi
      refine r_iload_n (pc := 2) h dX4_rains_2 rfl ?_
      refine r_aload_n (pc := 3) h dX4_rains_3 rfl ?_
      refine r_getE (pc := 4) h dX4_rains_4 f_X4_60 sh_35 rfl (hR.ns) ?_
      refine r_icmp_ge (pc := 7) (tgt := 35) h dX4_rains_7 (by decide) (fun c7 => absurd c7 (nI_ge hi (by omega))) (fun c7 => ?_)
      refine r_aload_n (pc := 10) h dX4_rains_10 rfl ?_
      refine r_getR (pc := 11) h dX4_rains_11 f_X4_19 sh_35 rfl ?_
      refine r_iload_n (pc := 14) h dX4_rains_14 rfl ?_
      refine r_aload_n (pc := 15) h dX4_rains_15 rfl ?_
      refine r_getR (pc := 16) h dX4_rains_16 f_X4_19 sh_35 rfl ?_
      refine r_iload_n (pc := 19) h dX4_rains_19 rfl ?_
      refine r_ialoadE (pc := 20) h dX4_rains_20 sh_39 (hR.ru hi) ?_
      refine r_iconst (pc := 21) h dX4_rains_21 ci_1 ?_
      refine r_iadd (pc := 22) h dX4_rains_22 ?_
      refine r_bipush (pc := 23) h dX4_rains_23 cb_9 ?_
      refine r_callSi (pc := 25) (As := [_, _]) h dX4_rains_25 k_X4_188 rfl ⟨Nat.le_of_ble_eq_true rfl, Nat.le_of_ble_eq_true rfl, Nat.le_of_ble_eq_true rfl⟩ (c_X4_held _ _) (fun x_25 g1 hq => ?_)
      obtain ⟨rfl, hg1⟩ := hq
      rw [hg1]
      refine r_top (y := nI (cap (d 2 i + 1) 9)) h (by rw [nI_add]; exact hld_add (by omega) (by decide)) ?_
      refine r_iastore (pc := 28) h dX4_rains_28 sh_39 (hR.si hi) ?_
      obtain ⟨hR, hF⟩ := Rm.wrC hF (hR.u_ru hi _) (by omega)
      generalize gup g2 39 _ _ = g2 at hR hF ⊢
      refine r_iinc (pc := 29) (ls2 := [_, _]) h dX4_rains_29 rfl (ic1 _) rfl ?_
      refine r_goto (pc := 32) (tgt := 2) h dX4_rains_32 (by decide) ?_
      exact ih (i + 1) _ _ (by simp [cup]; omega) hR (gok_2 ho (cap_le _ _)) hF hw
  refine r_iconst (pc := 0) h dX4_rains_0 ci_0 ?_
  refine r_istore_n (pc := 1) (ls2 := [_, _]) h dX4_rains_1 (Nat.le_of_ble_eq_true rfl) rfl ?_
  exact loop (c 7 0) 0 c g (by omega) hR ho fmC.rf rfl
set_option maxRecDepth 100000 in
set_option maxHeartbeats 4000000 in
theorem c_X4_draw {g : gG} : gCi mX4_draw [.ref 35, .int (nI 21)] g (fun x g1 => x = nI (drN (sdI (g 35 31))) ∧ g1 = gup g 35 31 (sdI (g 35 31))) := by
  refine gCi_of (own := RX4) (ls0 := [.ref 35, .int (nI 21)]) ⟨rfl, pl_X4⟩ rfl (Nat.le_of_ble_eq_true rfl) (fun G (h : gR RX4 cX4_draw 0 0 G) (t : gTi cX4_draw .int _ G) => ?_)
  refine r_aload_n (pc := 0) h dX4_draw_0 rfl ?_
  refine r_aload_n (pc := 1) h dX4_draw_1 rfl ?_
  refine r_getI (pc := 2) h dX4_draw_2 f_X4_305 sh_35 rfl ?_
  refine r_ldc_w (pc := 5) h dX4_draw_5 kc_X4_308 ?_
  refine r_imul (pc := 8) h dX4_draw_8 ?_
  refine r_ldc_w (pc := 9) h dX4_draw_9 kc_X4_309 ?_
  refine r_iadd (pc := 12) h dX4_draw_12 ?_
  refine r_putI (pc := 13) h dX4_draw_13 fw_X4_305 sh_35 rfl rfl rfl ?_
  refine r_aload_n (pc := 16) h dX4_draw_16 rfl ?_
  refine r_getI (pc := 17) h dX4_draw_17 f_X4_305 sh_35 rfl ?_
  refine r_ldc_w (pc := 20) h dX4_draw_20 kc_X4_310 ?_
  refine r_iand (pc := 23) h dX4_draw_23 ?_
  refine r_sipush (pc := 24) h dX4_draw_24 cs_256 ?_
  refine r_idiv (pc := 27) h dX4_draw_27 (by decide) ?_
  refine r_iload_n (pc := 28) h dX4_draw_28 rfl ?_
  refine r_irem (pc := 29) h dX4_draw_29 (by decide) ?_
  refine r_ri t (pc := 30) dX4_draw_30 rfl ?_
  refine ⟨?_, rfl⟩
  have e : gup g 35 31 (g 35 31 * 1664525 + 1013904223) 35 31 = sdI (g 35 31) := by simp [gup, sdI]
  rw [e, ← drI_eq]
  rfl
