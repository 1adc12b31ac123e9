set_option maxRecDepth 100000 in
set_option maxHeartbeats 4000000 in
theorem c_X0_copyFrom_9_1 {g : gG} {c : gCt} (hR : Rx1 g c) : gCv mX0_copyFrom [.ref 9, .ref 1] g (fun g1 => Rx9 g1 c ∧ frm 9 17 g g1) := by
  refine gCv_of (own := RX0) (ls0 := [.ref 9, .ref 1]) ⟨rfl, pl_X0⟩ rfl (Nat.le_of_ble_eq_true rfl) (fun G (h : gR RX0 cX0_copyFrom 1 40 G) (t : gTv cX0_copyFrom _ G) => ?_)
  have e6 : (nI 6).toNatClampNeg = 6 := by decide
  have e5 : (nI 5).toNatClampNeg = 5 := by decide
  refine r_aload_n (pc := 0) h dX0_copyFrom_0 rfl ?_
  refine r_getR (pc := 1) h dX0_copyFrom_1 f_X0_9 sh_1 rfl ?_
  refine r_iconst (pc := 4) h dX0_copyFrom_4 ci_0 ?_
  refine r_aload_n (pc := 5) h dX0_copyFrom_5 rfl ?_
  refine r_getR (pc := 6) h dX0_copyFrom_6 f_X0_9 sh_9 rfl ?_
  refine r_iconst (pc := 9) h dX0_copyFrom_9 ci_0 ?_
  refine r_bipush (pc := 10) h dX0_copyFrom_10 cb_6 ?_
  refine r_acopy (pc := 12) h dX0_copyFrom_12 k_X0_46 sh_2 sh_10 (by decide) ⟨Nat.le_of_ble_eq_true rfl, Nat.le_of_ble_eq_true rfl⟩ ?_
  refine r_aload_n (pc := 15) h dX0_copyFrom_15 rfl ?_
  refine r_getR (pc := 16) h dX0_copyFrom_16 f_X0_15 sh_1 rfl ?_
  refine r_iconst (pc := 19) h dX0_copyFrom_19 ci_0 ?_
  refine r_aload_n (pc := 20) h dX0_copyFrom_20 rfl ?_
  refine r_getR (pc := 21) h dX0_copyFrom_21 f_X0_15 sh_9 rfl ?_
  refine r_iconst (pc := 24) h dX0_copyFrom_24 ci_0 ?_
  refine r_bipush (pc := 25) h dX0_copyFrom_25 cb_6 ?_
  refine r_acopy (pc := 27) h dX0_copyFrom_27 k_X0_46 sh_3 sh_11 (by decide) ⟨Nat.le_of_ble_eq_true rfl, Nat.le_of_ble_eq_true rfl⟩ ?_
  refine r_aload_n (pc := 30) h dX0_copyFrom_30 rfl ?_
  refine r_getR (pc := 31) h dX0_copyFrom_31 f_X0_18 sh_1 rfl ?_
  refine r_iconst (pc := 34) h dX0_copyFrom_34 ci_0 ?_
  refine r_aload_n (pc := 35) h dX0_copyFrom_35 rfl ?_
  refine r_getR (pc := 36) h dX0_copyFrom_36 f_X0_18 sh_9 rfl ?_
  refine r_iconst (pc := 39) h dX0_copyFrom_39 ci_0 ?_
  refine r_bipush (pc := 40) h dX0_copyFrom_40 cb_6 ?_
  refine r_acopy (pc := 42) h dX0_copyFrom_42 k_X0_46 sh_4 sh_12 (by decide) ⟨Nat.le_of_ble_eq_true rfl, Nat.le_of_ble_eq_true rfl⟩ ?_
  refine r_aload_n (pc := 45) h dX0_copyFrom_45 rfl ?_
  refine r_getR (pc := 46) h dX0_copyFrom_46 f_X0_21 sh_1 rfl ?_
  refine r_iconst (pc := 49) h dX0_copyFrom_49 ci_0 ?_
  refine r_aload_n (pc := 50) h dX0_copyFrom_50 rfl ?_
  refine r_getR (pc := 51) h dX0_copyFrom_51 f_X0_21 sh_9 rfl ?_
  refine r_iconst (pc := 54) h dX0_copyFrom_54 ci_0 ?_
  refine r_iconst (pc := 55) h dX0_copyFrom_55 ci_5 ?_
  refine r_acopy (pc := 56) h dX0_copyFrom_56 k_X0_46 sh_5 sh_13 (by decide) ⟨Nat.le_of_ble_eq_true rfl, Nat.le_of_ble_eq_true rfl⟩ ?_
  refine r_aload_n (pc := 59) h dX0_copyFrom_59 rfl ?_
  refine r_getR (pc := 60) h dX0_copyFrom_60 f_X0_24 sh_1 rfl ?_
  refine r_iconst (pc := 63) h dX0_copyFrom_63 ci_0 ?_
  refine r_aload_n (pc := 64) h dX0_copyFrom_64 rfl ?_
  refine r_getR (pc := 65) h dX0_copyFrom_65 f_X0_24 sh_9 rfl ?_
  refine r_iconst (pc := 68) h dX0_copyFrom_68 ci_0 ?_
  refine r_iconst (pc := 69) h dX0_copyFrom_69 ci_5 ?_
  refine r_acopy (pc := 70) h dX0_copyFrom_70 k_X0_46 sh_6 sh_14 (by decide) ⟨Nat.le_of_ble_eq_true rfl, Nat.le_of_ble_eq_true rfl⟩ ?_
  refine r_aload_n (pc := 73) h dX0_copyFrom_73 rfl ?_
  refine r_getR (pc := 74) h dX0_copyFrom_74 f_X0_27 sh_1 rfl ?_
  refine r_iconst (pc := 77) h dX0_copyFrom_77 ci_0 ?_
  refine r_aload_n (pc := 78) h dX0_copyFrom_78 rfl ?_
  refine r_getR (pc := 79) h dX0_copyFrom_79 f_X0_27 sh_9 rfl ?_
  refine r_iconst (pc := 82) h dX0_copyFrom_82 ci_0 ?_
  refine r_iconst (pc := 83) h dX0_copyFrom_83 ci_5 ?_
  refine r_acopy (pc := 84) h dX0_copyFrom_84 k_X0_46 sh_7 sh_15 (by decide) ⟨Nat.le_of_ble_eq_true rfl, Nat.le_of_ble_eq_true rfl⟩ ?_
  refine r_aload_n (pc := 87) h dX0_copyFrom_87 rfl ?_
  refine r_getR (pc := 88) h dX0_copyFrom_88 f_X0_30 sh_1 rfl ?_
  refine r_iconst (pc := 91) h dX0_copyFrom_91 ci_0 ?_
  refine r_aload_n (pc := 92) h dX0_copyFrom_92 rfl ?_
  refine r_getR (pc := 93) h dX0_copyFrom_93 f_X0_30 sh_9 rfl ?_
  refine r_iconst (pc := 96) h dX0_copyFrom_96 ci_0 ?_
  refine r_iconst (pc := 97) h dX0_copyFrom_97 ci_5 ?_
  refine r_acopy (pc := 98) h dX0_copyFrom_98 k_X0_46 sh_8 sh_16 (by decide) ⟨Nat.le_of_ble_eq_true rfl, Nat.le_of_ble_eq_true rfl⟩ ?_
  refine r_aload_n (pc := 101) h dX0_copyFrom_101 rfl ?_
  refine r_aload_n (pc := 102) h dX0_copyFrom_102 rfl ?_
  refine r_getI (pc := 103) h dX0_copyFrom_103 f_X0_33 sh_1 rfl ?_
  refine r_putI (pc := 106) h dX0_copyFrom_106 fw_X0_33 sh_9 rfl rfl rfl ?_
  refine r_aload_n (pc := 109) h dX0_copyFrom_109 rfl ?_
  refine r_aload_n (pc := 110) h dX0_copyFrom_110 rfl ?_
  refine r_getI (pc := 111) h dX0_copyFrom_111 f_X0_37 sh_1 rfl ?_
  refine r_putI (pc := 114) h dX0_copyFrom_114 fw_X0_37 sh_9 rfl rfl rfl ?_
  refine r_aload_n (pc := 117) h dX0_copyFrom_117 rfl ?_
  refine r_aload_n (pc := 118) h dX0_copyFrom_118 rfl ?_
  refine r_getI (pc := 119) h dX0_copyFrom_119 f_X0_40 sh_1 rfl ?_
  refine r_putI (pc := 122) h dX0_copyFrom_122 fw_X0_40 sh_9 rfl rfl rfl ?_
  refine r_aload_n (pc := 125) h dX0_copyFrom_125 rfl ?_
  refine r_aload_n (pc := 126) h dX0_copyFrom_126 rfl ?_
  refine r_getI (pc := 127) h dX0_copyFrom_127 f_X0_43 sh_1 rfl ?_
  refine r_putI (pc := 130) h dX0_copyFrom_130 fw_X0_43 sh_9 rfl rfl rfl ?_
  refine r_rv t (pc := 133) dX0_copyFrom_133 ?_
  obtain ⟨⟨h1, h2, h3, h4⟩, h5, h6, h7⟩ := hR
  refine ⟨⟨⟨?_, ?_, ?_, ?_⟩, h5, fun j hj => ?_, fun j hj => ?_⟩, fun k hk => ?_⟩
  · simp [gup, gcp, h1]
  · simp [gup, gcp, h2]
  · simp [gup, gcp, h3]
  · simp [gup, gcp, h4]
  · obtain ⟨a, b, e⟩ := h6 j hj
    have hj6 : j < 6 := by have := h5.1; omega
    simp [gup, gcp, a, b, e, e6, hj6]
  · obtain ⟨a, b, e, f⟩ := h7 j hj
    have hj5 : j < 5 := by have := h5.2; omega
    simp [gup, gcp, a, b, e, f, e5, hj5]
  · funext j
    have n0 : ∀ q, 9 ≤ q → q < 17 → k ≠ q := fun q _ _ => by omega
    simp [gup, gcp, n0]
set_option maxRecDepth 100000 in
set_option maxHeartbeats 4000000 in
theorem c_X0_copyFrom_1_9 {g : gG} {c : gCt} (hR : Rx9 g c) : gCv mX0_copyFrom [.ref 1, .ref 9] g (fun g1 => Rx1 g1 c ∧ frm 1 9 g g1) := by
  refine gCv_of (own := RX0) (ls0 := [.ref 1, .ref 9]) ⟨rfl, pl_X0⟩ rfl (Nat.le_of_ble_eq_true rfl) (fun G (h : gR RX0 cX0_copyFrom 1 40 G) (t : gTv cX0_copyFrom _ G) => ?_)
  have e6 : (nI 6).toNatClampNeg = 6 := by decide
  have e5 : (nI 5).toNatClampNeg = 5 := by decide
  refine r_aload_n (pc := 0) h dX0_copyFrom_0 rfl ?_
  refine r_getR (pc := 1) h dX0_copyFrom_1 f_X0_9 sh_9 rfl ?_
  refine r_iconst (pc := 4) h dX0_copyFrom_4 ci_0 ?_
  refine r_aload_n (pc := 5) h dX0_copyFrom_5 rfl ?_
  refine r_getR (pc := 6) h dX0_copyFrom_6 f_X0_9 sh_1 rfl ?_
  refine r_iconst (pc := 9) h dX0_copyFrom_9 ci_0 ?_
  refine r_bipush (pc := 10) h dX0_copyFrom_10 cb_6 ?_
  refine r_acopy (pc := 12) h dX0_copyFrom_12 k_X0_46 sh_10 sh_2 (by decide) ⟨Nat.le_of_ble_eq_true rfl, Nat.le_of_ble_eq_true rfl⟩ ?_
  refine r_aload_n (pc := 15) h dX0_copyFrom_15 rfl ?_
  refine r_getR (pc := 16) h dX0_copyFrom_16 f_X0_15 sh_9 rfl ?_
  refine r_iconst (pc := 19) h dX0_copyFrom_19 ci_0 ?_
  refine r_aload_n (pc := 20) h dX0_copyFrom_20 rfl ?_
  refine r_getR (pc := 21) h dX0_copyFrom_21 f_X0_15 sh_1 rfl ?_
  refine r_iconst (pc := 24) h dX0_copyFrom_24 ci_0 ?_
  refine r_bipush (pc := 25) h dX0_copyFrom_25 cb_6 ?_
  refine r_acopy (pc := 27) h dX0_copyFrom_27 k_X0_46 sh_11 sh_3 (by decide) ⟨Nat.le_of_ble_eq_true rfl, Nat.le_of_ble_eq_true rfl⟩ ?_
  refine r_aload_n (pc := 30) h dX0_copyFrom_30 rfl ?_
  refine r_getR (pc := 31) h dX0_copyFrom_31 f_X0_18 sh_9 rfl ?_
  refine r_iconst (pc := 34) h dX0_copyFrom_34 ci_0 ?_
  refine r_aload_n (pc := 35) h dX0_copyFrom_35 rfl ?_
  refine r_getR (pc := 36) h dX0_copyFrom_36 f_X0_18 sh_1 rfl ?_
  refine r_iconst (pc := 39) h dX0_copyFrom_39 ci_0 ?_
  refine r_bipush (pc := 40) h dX0_copyFrom_40 cb_6 ?_
  refine r_acopy (pc := 42) h dX0_copyFrom_42 k_X0_46 sh_12 sh_4 (by decide) ⟨Nat.le_of_ble_eq_true rfl, Nat.le_of_ble_eq_true rfl⟩ ?_
  refine r_aload_n (pc := 45) h dX0_copyFrom_45 rfl ?_
  refine r_getR (pc := 46) h dX0_copyFrom_46 f_X0_21 sh_9 rfl ?_
  refine r_iconst (pc := 49) h dX0_copyFrom_49 ci_0 ?_
  refine r_aload_n (pc := 50) h dX0_copyFrom_50 rfl ?_
  refine r_getR (pc := 51) h dX0_copyFrom_51 f_X0_21 sh_1 rfl ?_
  refine r_iconst (pc := 54) h dX0_copyFrom_54 ci_0 ?_
  refine r_iconst (pc := 55) h dX0_copyFrom_55 ci_5 ?_
  refine r_acopy (pc := 56) h dX0_copyFrom_56 k_X0_46 sh_13 sh_5 (by decide) ⟨Nat.le_of_ble_eq_true rfl, Nat.le_of_ble_eq_true rfl⟩ ?_
  refine r_aload_n (pc := 59) h dX0_copyFrom_59 rfl ?_
  refine r_getR (pc := 60) h dX0_copyFrom_60 f_X0_24 sh_9 rfl ?_
  refine r_iconst (pc := 63) h dX0_copyFrom_63 ci_0 ?_
  refine r_aload_n (pc := 64) h dX0_copyFrom_64 rfl ?_
  refine r_getR (pc := 65) h dX0_copyFrom_65 f_X0_24 sh_1 rfl ?_
  refine r_iconst (pc := 68) h dX0_copyFrom_68 ci_0 ?_
  refine r_iconst (pc := 69) h dX0_copyFrom_69 ci_5 ?_
  refine r_acopy (pc := 70) h dX0_copyFrom_70 k_X0_46 sh_14 sh_6 (by decide) ⟨Nat.le_of_ble_eq_true rfl, Nat.le_of_ble_eq_true rfl⟩ ?_
  refine r_aload_n (pc := 73) h dX0_copyFrom_73 rfl ?_
  refine r_getR (pc := 74) h dX0_copyFrom_74 f_X0_27 sh_9 rfl ?_
  refine r_iconst (pc := 77) h dX0_copyFrom_77 ci_0 ?_
  refine r_aload_n (pc := 78) h dX0_copyFrom_78 rfl ?_
  refine r_getR (pc := 79) h dX0_copyFrom_79 f_X0_27 sh_1 rfl ?_
  refine r_iconst (pc := 82) h dX0_copyFrom_82 ci_0 ?_
  refine r_iconst (pc := 83) h dX0_copyFrom_83 ci_5 ?_
  refine r_acopy (pc := 84) h dX0_copyFrom_84 k_X0_46 sh_15 sh_7 (by decide) ⟨Nat.le_of_ble_eq_true rfl, Nat.le_of_ble_eq_true rfl⟩ ?_
  refine r_aload_n (pc := 87) h dX0_copyFrom_87 rfl ?_
  refine r_getR (pc := 88) h dX0_copyFrom_88 f_X0_30 sh_9 rfl ?_
  refine r_iconst (pc := 91) h dX0_copyFrom_91 ci_0 ?_
  refine r_aload_n (pc := 92) h dX0_copyFrom_92 rfl ?_
  refine r_getR (pc := 93) h dX0_copyFrom_93 f_X0_30 sh_1 rfl ?_
  refine r_iconst (pc := 96) h dX0_copyFrom_96 ci_0 ?_
  refine r_iconst (pc := 97) h dX0_copyFrom_97 ci_5 ?_
  refine r_acopy (pc := 98) h dX0_copyFrom_98 k_X0_46 sh_16 sh_8 (by decide) ⟨Nat.le_of_ble_eq_true rfl, Nat.le_of_ble_eq_true rfl⟩ ?_
  refine r_aload_n (pc := 101) h dX0_copyFrom_101 rfl ?_
  refine r_aload_n (pc := 102) h dX0_copyFrom_102 rfl ?_
  refine r_getI (pc := 103) h dX0_copyFrom_103 f_X0_33 sh_9 rfl ?_
  refine r_putI (pc := 106) h dX0_copyFrom_106 fw_X0_33 sh_1 rfl rfl rfl ?_
  refine r_aload_n (pc := 109) h dX0_copyFrom_109 rfl ?_
  refine r_aload_n (pc := 110) h dX0_copyFrom_110 rfl ?_
  refine r_getI (pc := 111) h dX0_copyFrom_111 f_X0_37 sh_9 rfl ?_
  refine r_putI (pc := 114) h dX0_copyFrom_114 fw_X0_37 sh_1 rfl rfl rfl ?_
  refine r_aload_n (pc := 117) h dX0_copyFrom_117 rfl ?_
  refine r_aload_n (pc := 118) h dX0_copyFrom_118 rfl ?_
  refine r_getI (pc := 119) h dX0_copyFrom_119 f_X0_40 sh_9 rfl ?_
  refine r_putI (pc := 122) h dX0_copyFrom_122 fw_X0_40 sh_1 rfl rfl rfl ?_
  refine r_aload_n (pc := 125) h dX0_copyFrom_125 rfl ?_
  refine r_aload_n (pc := 126) h dX0_copyFrom_126 rfl ?_
  refine r_getI (pc := 127) h dX0_copyFrom_127 f_X0_43 sh_9 rfl ?_
  refine r_putI (pc := 130) h dX0_copyFrom_130 fw_X0_43 sh_1 rfl rfl rfl ?_
  refine r_rv t (pc := 133) dX0_copyFrom_133 ?_
  obtain ⟨⟨h1, h2, h3, h4⟩, h5, h6, h7⟩ := hR
  refine ⟨⟨⟨?_, ?_, ?_, ?_⟩, h5, fun j hj => ?_, fun j hj => ?_⟩, fun k hk => ?_⟩
  · simp [gup, gcp, h1]
  · simp [gup, gcp, h2]
  · simp [gup, gcp, h3]
  · simp [gup, gcp, h4]
  · obtain ⟨a, b, e⟩ := h6 j hj
    have hj6 : j < 6 := by have := h5.1; omega
    simp [gup, gcp, a, b, e, e6, hj6]
  · obtain ⟨a, b, e, f⟩ := h7 j hj
    have hj5 : j < 5 := by have := h5.2; omega
    simp [gup, gcp, a, b, e, f, e5, hj5]
  · funext j
    have n0 : ∀ q, 1 ≤ q → q < 9 → k ≠ q := fun q _ _ => by omega
    simp [gup, gcp, n0]
set_option maxRecDepth 100000 in
set_option maxHeartbeats 4000000 in
theorem c_X0_copyFrom_17_1 {g : gG} {c : gCt} (hR : Rx1 g c) : gCv mX0_copyFrom [.ref 17, .ref 1] g (fun g1 => Rx17 g1 c ∧ frm 17 25 g g1) := by
  refine gCv_of (own := RX0) (ls0 := [.ref 17, .ref 1]) ⟨rfl, pl_X0⟩ rfl (Nat.le_of_ble_eq_true rfl) (fun G (h : gR RX0 cX0_copyFrom 1 40 G) (t : gTv cX0_copyFrom _ G) => ?_)
  have e6 : (nI 6).toNatClampNeg = 6 := by decide
  have e5 : (nI 5).toNatClampNeg = 5 := by decide
  refine r_aload_n (pc := 0) h dX0_copyFrom_0 rfl ?_
  refine r_getR (pc := 1) h dX0_copyFrom_1 f_X0_9 sh_1 rfl ?_
  refine r_iconst (pc := 4) h dX0_copyFrom_4 ci_0 ?_
  refine r_aload_n (pc := 5) h dX0_copyFrom_5 rfl ?_
  refine r_getR (pc := 6) h dX0_copyFrom_6 f_X0_9 sh_17 rfl ?_
  refine r_iconst (pc := 9) h dX0_copyFrom_9 ci_0 ?_
  refine r_bipush (pc := 10) h dX0_copyFrom_10 cb_6 ?_
  refine r_acopy (pc := 12) h dX0_copyFrom_12 k_X0_46 sh_2 sh_18 (by decide) ⟨Nat.le_of_ble_eq_true rfl, Nat.le_of_ble_eq_true rfl⟩ ?_
  refine r_aload_n (pc := 15) h dX0_copyFrom_15 rfl ?_
  refine r_getR (pc := 16) h dX0_copyFrom_16 f_X0_15 sh_1 rfl ?_
  refine r_iconst (pc := 19) h dX0_copyFrom_19 ci_0 ?_
  refine r_aload_n (pc := 20) h dX0_copyFrom_20 rfl ?_
  refine r_getR (pc := 21) h dX0_copyFrom_21 f_X0_15 sh_17 rfl ?_
  refine r_iconst (pc := 24) h dX0_copyFrom_24 ci_0 ?_
  refine r_bipush (pc := 25) h dX0_copyFrom_25 cb_6 ?_
  refine r_acopy (pc := 27) h dX0_copyFrom_27 k_X0_46 sh_3 sh_19 (by decide) ⟨Nat.le_of_ble_eq_true rfl, Nat.le_of_ble_eq_true rfl⟩ ?_
  refine r_aload_n (pc := 30) h dX0_copyFrom_30 rfl ?_
  refine r_getR (pc := 31) h dX0_copyFrom_31 f_X0_18 sh_1 rfl ?_
  refine r_iconst (pc := 34) h dX0_copyFrom_34 ci_0 ?_
  refine r_aload_n (pc := 35) h dX0_copyFrom_35 rfl ?_
  refine r_getR (pc := 36) h dX0_copyFrom_36 f_X0_18 sh_17 rfl ?_
  refine r_iconst (pc := 39) h dX0_copyFrom_39 ci_0 ?_
  refine r_bipush (pc := 40) h dX0_copyFrom_40 cb_6 ?_
  refine r_acopy (pc := 42) h dX0_copyFrom_42 k_X0_46 sh_4 sh_20 (by decide) ⟨Nat.le_of_ble_eq_true rfl, Nat.le_of_ble_eq_true rfl⟩ ?_
  refine r_aload_n (pc := 45) h dX0_copyFrom_45 rfl ?_
  refine r_getR (pc := 46) h dX0_copyFrom_46 f_X0_21 sh_1 rfl ?_
  refine r_iconst (pc := 49) h dX0_copyFrom_49 ci_0 ?_
  refine r_aload_n (pc := 50) h dX0_copyFrom_50 rfl ?_
  refine r_getR (pc := 51) h dX0_copyFrom_51 f_X0_21 sh_17 rfl ?_
  refine r_iconst (pc := 54) h dX0_copyFrom_54 ci_0 ?_
  refine r_iconst (pc := 55) h dX0_copyFrom_55 ci_5 ?_
  refine r_acopy (pc := 56) h dX0_copyFrom_56 k_X0_46 sh_5 sh_21 (by decide) ⟨Nat.le_of_ble_eq_true rfl, Nat.le_of_ble_eq_true rfl⟩ ?_
  refine r_aload_n (pc := 59) h dX0_copyFrom_59 rfl ?_
  refine r_getR (pc := 60) h dX0_copyFrom_60 f_X0_24 sh_1 rfl ?_
  refine r_iconst (pc := 63) h dX0_copyFrom_63 ci_0 ?_
  refine r_aload_n (pc := 64) h dX0_copyFrom_64 rfl ?_
  refine r_getR (pc := 65) h dX0_copyFrom_65 f_X0_24 sh_17 rfl ?_
  refine r_iconst (pc := 68) h dX0_copyFrom_68 ci_0 ?_
  refine r_iconst (pc := 69) h dX0_copyFrom_69 ci_5 ?_
  refine r_acopy (pc := 70) h dX0_copyFrom_70 k_X0_46 sh_6 sh_22 (by decide) ⟨Nat.le_of_ble_eq_true rfl, Nat.le_of_ble_eq_true rfl⟩ ?_
  refine r_aload_n (pc := 73) h dX0_copyFrom_73 rfl ?_
  refine r_getR (pc := 74) h dX0_copyFrom_74 f_X0_27 sh_1 rfl ?_
  refine r_iconst (pc := 77) h dX0_copyFrom_77 ci_0 ?_
  refine r_aload_n (pc := 78) h dX0_copyFrom_78 rfl ?_
  refine r_getR (pc := 79) h dX0_copyFrom_79 f_X0_27 sh_17 rfl ?_
  refine r_iconst (pc := 82) h dX0_copyFrom_82 ci_0 ?_
  refine r_iconst (pc := 83) h dX0_copyFrom_83 ci_5 ?_
  refine r_acopy (pc := 84) h dX0_copyFrom_84 k_X0_46 sh_7 sh_23 (by decide) ⟨Nat.le_of_ble_eq_true rfl, Nat.le_of_ble_eq_true rfl⟩ ?_
  refine r_aload_n (pc := 87) h dX0_copyFrom_87 rfl ?_
  refine r_getR (pc := 88) h dX0_copyFrom_88 f_X0_30 sh_1 rfl ?_
  refine r_iconst (pc := 91) h dX0_copyFrom_91 ci_0 ?_
  refine r_aload_n (pc := 92) h dX0_copyFrom_92 rfl ?_
  refine r_getR (pc := 93) h dX0_copyFrom_93 f_X0_30 sh_17 rfl ?_
  refine r_iconst (pc := 96) h dX0_copyFrom_96 ci_0 ?_
  refine r_iconst (pc := 97) h dX0_copyFrom_97 ci_5 ?_
  refine r_acopy (pc := 98) h dX0_copyFrom_98 k_X0_46 sh_8 sh_24 (by decide) ⟨Nat.le_of_ble_eq_true rfl, Nat.le_of_ble_eq_true rfl⟩ ?_
  refine r_aload_n (pc := 101) h dX0_copyFrom_101 rfl ?_
  refine r_aload_n (pc := 102) h dX0_copyFrom_102 rfl ?_
  refine r_getI (pc := 103) h dX0_copyFrom_103 f_X0_33 sh_1 rfl ?_
  refine r_putI (pc := 106) h dX0_copyFrom_106 fw_X0_33 sh_17 rfl rfl rfl ?_
  refine r_aload_n (pc := 109) h dX0_copyFrom_109 rfl ?_
  refine r_aload_n (pc := 110) h dX0_copyFrom_110 rfl ?_
  refine r_getI (pc := 111) h dX0_copyFrom_111 f_X0_37 sh_1 rfl ?_
  refine r_putI (pc := 114) h dX0_copyFrom_114 fw_X0_37 sh_17 rfl rfl rfl ?_
  refine r_aload_n (pc := 117) h dX0_copyFrom_117 rfl ?_
  refine r_aload_n (pc := 118) h dX0_copyFrom_118 rfl ?_
  refine r_getI (pc := 119) h dX0_copyFrom_119 f_X0_40 sh_1 rfl ?_
  refine r_putI (pc := 122) h dX0_copyFrom_122 fw_X0_40 sh_17 rfl rfl rfl ?_
  refine r_aload_n (pc := 125) h dX0_copyFrom_125 rfl ?_
  refine r_aload_n (pc := 126) h dX0_copyFrom_126 rfl ?_
  refine r_getI (pc := 127) h dX0_copyFrom_127 f_X0_43 sh_1 rfl ?_
  refine r_putI (pc := 130) h dX0_copyFrom_130 fw_X0_43 sh_17 rfl rfl rfl ?_
  refine r_rv t (pc := 133) dX0_copyFrom_133 ?_
  obtain ⟨⟨h1, h2, h3, h4⟩, h5, h6, h7⟩ := hR
  refine ⟨⟨⟨?_, ?_, ?_, ?_⟩, h5, fun j hj => ?_, fun j hj => ?_⟩, fun k hk => ?_⟩
  · simp [gup, gcp, h1]
  · simp [gup, gcp, h2]
  · simp [gup, gcp, h3]
  · simp [gup, gcp, h4]
  · obtain ⟨a, b, e⟩ := h6 j hj
    have hj6 : j < 6 := by have := h5.1; omega
    simp [gup, gcp, a, b, e, e6, hj6]
  · obtain ⟨a, b, e, f⟩ := h7 j hj
    have hj5 : j < 5 := by have := h5.2; omega
    simp [gup, gcp, a, b, e, f, e5, hj5]
  · funext j
    have n0 : ∀ q, 17 ≤ q → q < 25 → k ≠ q := fun q _ _ => by omega
    simp [gup, gcp, n0]
set_option maxRecDepth 100000 in
set_option maxHeartbeats 4000000 in
theorem c_X0_copyFrom_1_17 {g : gG} {c : gCt} (hR : Rx17 g c) : gCv mX0_copyFrom [.ref 1, .ref 17] g (fun g1 => Rx1 g1 c ∧ frm 1 9 g g1) := by
  refine gCv_of (own := RX0) (ls0 := [.ref 1, .ref 17]) ⟨rfl, pl_X0⟩ rfl (Nat.le_of_ble_eq_true rfl) (fun G (h : gR RX0 cX0_copyFrom 1 40 G) (t : gTv cX0_copyFrom _ G) => ?_)
  have e6 : (nI 6).toNatClampNeg = 6 := by decide
  have e5 : (nI 5).toNatClampNeg = 5 := by decide
  refine r_aload_n (pc := 0) h dX0_copyFrom_0 rfl ?_
  refine r_getR (pc := 1) h dX0_copyFrom_1 f_X0_9 sh_17 rfl ?_
  refine r_iconst (pc := 4) h dX0_copyFrom_4 ci_0 ?_
  refine r_aload_n (pc := 5) h dX0_copyFrom_5 rfl ?_
  refine r_getR (pc := 6) h dX0_copyFrom_6 f_X0_9 sh_1 rfl ?_
  refine r_iconst (pc := 9) h dX0_copyFrom_9 ci_0 ?_
  refine r_bipush (pc := 10) h dX0_copyFrom_10 cb_6 ?_
  refine r_acopy (pc := 12) h dX0_copyFrom_12 k_X0_46 sh_18 sh_2 (by decide) ⟨Nat.le_of_ble_eq_true rfl, Nat.le_of_ble_eq_true rfl⟩ ?_
  refine r_aload_n (pc := 15) h dX0_copyFrom_15 rfl ?_
  refine r_getR (pc := 16) h dX0_copyFrom_16 f_X0_15 sh_17 rfl ?_
  refine r_iconst (pc := 19) h dX0_copyFrom_19 ci_0 ?_
  refine r_aload_n (pc := 20) h dX0_copyFrom_20 rfl ?_
  refine r_getR (pc := 21) h dX0_copyFrom_21 f_X0_15 sh_1 rfl ?_
  refine r_iconst (pc := 24) h dX0_copyFrom_24 ci_0 ?_
  refine r_bipush (pc := 25) h dX0_copyFrom_25 cb_6 ?_
  refine r_acopy (pc := 27) h dX0_copyFrom_27 k_X0_46 sh_19 sh_3 (by decide) ⟨Nat.le_of_ble_eq_true rfl, Nat.le_of_ble_eq_true rfl⟩ ?_
  refine r_aload_n (pc := 30) h dX0_copyFrom_30 rfl ?_
  refine r_getR (pc := 31) h dX0_copyFrom_31 f_X0_18 sh_17 rfl ?_
  refine r_iconst (pc := 34) h dX0_copyFrom_34 ci_0 ?_
  refine r_aload_n (pc := 35) h dX0_copyFrom_35 rfl ?_
  refine r_getR (pc := 36) h dX0_copyFrom_36 f_X0_18 sh_1 rfl ?_
  refine r_iconst (pc := 39) h dX0_copyFrom_39 ci_0 ?_
  refine r_bipush (pc := 40) h dX0_copyFrom_40 cb_6 ?_
  refine r_acopy (pc := 42) h dX0_copyFrom_42 k_X0_46 sh_20 sh_4 (by decide) ⟨Nat.le_of_ble_eq_true rfl, Nat.le_of_ble_eq_true rfl⟩ ?_
  refine r_aload_n (pc := 45) h dX0_copyFrom_45 rfl ?_
  refine r_getR (pc := 46) h dX0_copyFrom_46 f_X0_21 sh_17 rfl ?_
  refine r_iconst (pc := 49) h dX0_copyFrom_49 ci_0 ?_
  refine r_aload_n (pc := 50) h dX0_copyFrom_50 rfl ?_
  refine r_getR (pc := 51) h dX0_copyFrom_51 f_X0_21 sh_1 rfl ?_
  refine r_iconst (pc := 54) h dX0_copyFrom_54 ci_0 ?_
  refine r_iconst (pc := 55) h dX0_copyFrom_55 ci_5 ?_
  refine r_acopy (pc := 56) h dX0_copyFrom_56 k_X0_46 sh_21 sh_5 (by decide) ⟨Nat.le_of_ble_eq_true rfl, Nat.le_of_ble_eq_true rfl⟩ ?_
  refine r_aload_n (pc := 59) h dX0_copyFrom_59 rfl ?_
  refine r_getR (pc := 60) h dX0_copyFrom_60 f_X0_24 sh_17 rfl ?_
  refine r_iconst (pc := 63) h dX0_copyFrom_63 ci_0 ?_
  refine r_aload_n (pc := 64) h dX0_copyFrom_64 rfl ?_
  refine r_getR (pc := 65) h dX0_copyFrom_65 f_X0_24 sh_1 rfl ?_
  refine r_iconst (pc := 68) h dX0_copyFrom_68 ci_0 ?_
  refine r_iconst (pc := 69) h dX0_copyFrom_69 ci_5 ?_
  refine r_acopy (pc := 70) h dX0_copyFrom_70 k_X0_46 sh_22 sh_6 (by decide) ⟨Nat.le_of_ble_eq_true rfl, Nat.le_of_ble_eq_true rfl⟩ ?_
  refine r_aload_n (pc := 73) h dX0_copyFrom_73 rfl ?_
  refine r_getR (pc := 74) h dX0_copyFrom_74 f_X0_27 sh_17 rfl ?_
  refine r_iconst (pc := 77) h dX0_copyFrom_77 ci_0 ?_
  refine r_aload_n (pc := 78) h dX0_copyFrom_78 rfl ?_
  refine r_getR (pc := 79) h dX0_copyFrom_79 f_X0_27 sh_1 rfl ?_
  refine r_iconst (pc := 82) h dX0_copyFrom_82 ci_0 ?_
  refine r_iconst (pc := 83) h dX0_copyFrom_83 ci_5 ?_
  refine r_acopy (pc := 84) h dX0_copyFrom_84 k_X0_46 sh_23 sh_7 (by decide) ⟨Nat.le_of_ble_eq_true rfl, Nat.le_of_ble_eq_true rfl⟩ ?_
  refine r_aload_n (pc := 87) h dX0_copyFrom_87 rfl ?_
  refine r_getR (pc := 88) h dX0_copyFrom_88 f_X0_30 sh_17 rfl ?_
  refine r_iconst (pc := 91) h dX0_copyFrom_91 ci_0 ?_
  refine r_aload_n (pc := 92) h dX0_copyFrom_92 rfl ?_
  refine r_getR (pc := 93) h dX0_copyFrom_93 f_X0_30 sh_1 rfl ?_
  refine r_iconst (pc := 96) h dX0_copyFrom_96 ci_0 ?_
  refine r_iconst (pc := 97) h dX0_copyFrom_97 ci_5 ?_
  refine r_acopy (pc := 98) h dX0_copyFrom_98 k_X0_46 sh_24 sh_8 (by decide) ⟨Nat.le_of_ble_eq_true rfl, Nat.le_of_ble_eq_true rfl⟩ ?_
  refine r_aload_n (pc := 101) h dX0_copyFrom_101 rfl ?_
  refine r_aload_n (pc := 102) h dX0_copyFrom_102 rfl ?_
  refine r_getI (pc := 103) h dX0_copyFrom_103 f_X0_33 sh_17 rfl ?_
  refine r_putI (pc := 106) h dX0_copyFrom_106 fw_X0_33 sh_1 rfl rfl rfl ?_
  refine r_aload_n (pc := 109) h dX0_copyFrom_109 rfl ?_
  refine r_aload_n (pc := 110) h dX0_copyFrom_110 rfl ?_
  refine r_getI (pc := 111) h dX0_copyFrom_111 f_X0_37 sh_17 rfl ?_
  refine r_putI (pc := 114) h dX0_copyFrom_114 fw_X0_37 sh_1 rfl rfl rfl ?_
  refine r_aload_n (pc := 117) h dX0_copyFrom_117 rfl ?_
  refine r_aload_n (pc := 118) h dX0_copyFrom_118 rfl ?_
  refine r_getI (pc := 119) h dX0_copyFrom_119 f_X0_40 sh_17 rfl ?_
  refine r_putI (pc := 122) h dX0_copyFrom_122 fw_X0_40 sh_1 rfl rfl rfl ?_
  refine r_aload_n (pc := 125) h dX0_copyFrom_125 rfl ?_
  refine r_aload_n (pc := 126) h dX0_copyFrom_126 rfl ?_
  refine r_getI (pc := 127) h dX0_copyFrom_127 f_X0_43 sh_17 rfl ?_
  refine r_putI (pc := 130) h dX0_copyFrom_130 fw_X0_43 sh_1 rfl rfl rfl ?_
  refine r_rv t (pc := 133) dX0_copyFrom_133 ?_
  obtain ⟨⟨h1, h2, h3, h4⟩, h5, h6, h7⟩ := hR
  refine ⟨⟨⟨?_, ?_, ?_, ?_⟩, h5, fun j hj => ?_, fun j hj => ?_⟩, fun k hk => ?_⟩
  · simp [gup, gcp, h1]
  · simp [gup, gcp, h2]
  · simp [gup, gcp, h3]
  · simp [gup, gcp, h4]
  · obtain ⟨a, b, e⟩ := h6 j hj
    have hj6 : j < 6 := by have := h5.1; omega
    simp [gup, gcp, a, b, e, e6, hj6]
  · obtain ⟨a, b, e, f⟩ := h7 j hj
    have hj5 : j < 5 := by have := h5.2; omega
    simp [gup, gcp, a, b, e, f, e5, hj5]
  · funext j
    have n0 : ∀ q, 1 ≤ q → q < 9 → k ≠ q := fun q _ _ => by omega
    simp [gup, gcp, n0]
set_option maxRecDepth 100000 in
set_option maxHeartbeats 4000000 in
theorem c_X0_wearer_1 {g : gG} {c : gCt} (hR : Rx1 g c) (ho : gok c) {s : Nat} (hs : s < 2147483648) : gCi mX0_wearer [.ref 1, .int (nI s)] g (fun x g1 => x = oI (wr c s) ∧ g1 = g) := by
  refine gCi_of (own := RX0) (ls0 := [.ref 1, .int (nI s), .null]) ⟨rfl, pl_X0⟩ rfl (Nat.le_of_ble_eq_true rfl) (fun G (h : gR RX0 cX0_wearer 0 0 G) (t : gTi cX0_wearer .int _ G) => ?_)
  have hn5 := hR.n5
  have hn6 := hR.n6
  have loop : ∀ n i, i + n = c 7 1 → wr c s = gfind (fun i => c 6 i == s + 1) n i → G 2 [.ref 1, .int (nI s), .int (nI i)] [] g := by
    intro n
    induction n with
    | zero =>
      intro i hi hw
      refine r_iload_n (pc := 2) h dX0_wearer_2 rfl ?_
      refine r_aload_n (pc := 3) h dX0_wearer_3 rfl ?_
      refine r_getE (pc := 4) h dX0_wearer_4 f_X0_37 sh_1 rfl (hR.nc) ?_
      refine r_icmp_ge (pc := 7) (tgt := 28) h dX0_wearer_7 (by decide) (fun c7 => ?_) (fun c7 => absurd (nI_le (by omega) (by omega)) c7)
      refine r_bipush (pc := 28) h dX0_wearer_28 cb_m9 ?_
      refine r_ri t (pc := 30) dX0_wearer_30 rfl ?_
      exact ⟨by rw [hw]; rfl, rfl⟩
    | succ n ih =>
      intro i hin hw
      have hi : i < c 7 1 := by omega
      have hw6 : c 6 i < 2147483648 := by have := (ho.2.2.2 i hi).2.2.2; omega
      refine r_iload_n (pc := 2) h dX0_wearer_2 rfl ?_
      refine r_aload_n (pc := 3) h dX0_wearer_3 rfl ?_
      refine r_getE (pc := 4) h dX0_wearer_4 f_X0_37 sh_1 rfl (hR.nc) ?_
      refine r_icmp_ge (pc := 7) (tgt := 28) h dX0_wearer_7 (by decide) (fun c7 => absurd c7 (nI_ge hi (by omega))) (fun c7 => ?_)
      refine r_aload_n (pc := 10) h dX0_wearer_10 rfl ?_
      refine r_getR (pc := 11) h dX0_wearer_11 f_X0_30 sh_1 rfl ?_
      refine r_iload_n (pc := 14) h dX0_wearer_14 rfl ?_
      refine r_ialoadE (pc := 15) h dX0_wearer_15 sh_8 (hR.wo hi) ?_
      refine r_iload_n (pc := 16) h dX0_wearer_16 rfl ?_
      refine r_icmp_ne (pc := 17) (tgt := 22) h dX0_wearer_17 (by decide) (fun c17 => ?_) (fun c17 => ?_)
      · refine r_iinc (pc := 22) (ls2 := [_, _, _]) h dX0_wearer_22 rfl (ic1 _) rfl ?_
        refine r_goto (pc := 25) (tgt := 2) h dX0_wearer_25 (by decide) ?_
        exact ih (i + 1) (by omega) (by rw [hw, gfind, if_neg (by simpa using fun q => c17 ((wz_eq hw6 hs).mpr q))])
      · refine r_iload_n (pc := 20) h dX0_wearer_20 rfl ?_
        refine r_ri t (pc := 21) dX0_wearer_21 rfl ?_
        exact ⟨by rw [hw, gfind, if_pos (by simpa using (wz_eq hw6 hs).mp c17)]; rfl, rfl⟩
  refine r_iconst (pc := 0) h dX0_wearer_0 ci_0 ?_
  refine r_istore_n (pc := 1) (ls2 := [_, _, _]) h dX0_wearer_1 (Nat.le_of_ble_eq_true rfl) rfl ?_
  exact loop (c 7 1) 0 (by omega) rfl
set_option maxRecDepth 100000 in
set_option maxHeartbeats 4000000 in
theorem c_X0_coversWith_1 {g : gG} {c : gCt} (hR : Rx1 g c) (ho : gok c) {s r : Nat} (hs : s < c 7 0) (hr : r ≤ 9) : gCi mX0_coversWith [.ref 1, .int (nI s), .int (nI r)] g (fun x g1 => x = nI (covN (c 0 s) (c 1 s) r) ∧ g1 = g) := by
  refine gCi_of (own := RX0) (ls0 := [.ref 1, .int (nI s), .int (nI r), .null, .null]) ⟨rfl, pl_X0⟩ rfl (Nat.le_of_ble_eq_true rfl) (fun G (h : gR RX0 cX0_coversWith 0 0 G) (t : gTi cX0_coversWith .int _ G) => ?_)
  have hk := ho.2.2.1 s hs
  refine r_aload_n (pc := 0) h dX0_coversWith_0 rfl ?_
  refine r_getR (pc := 1) h dX0_coversWith_1 f_X0_15 sh_1 rfl ?_
  refine r_iload_n (pc := 4) h dX0_coversWith_4 rfl ?_
  refine r_ialoadE (pc := 5) h dX0_coversWith_5 sh_3 (hR.fg hs) ?_
  refine r_iconst (pc := 6) h dX0_coversWith_6 ci_4 ?_
  refine r_iadd (pc := 7) h dX0_coversWith_7 ?_
  refine r_iload_n (pc := 8) h dX0_coversWith_8 rfl ?_
  refine r_isub (pc := 9) h dX0_coversWith_9 ?_
  refine r_istore_n (pc := 10) (ls2 := [_, _, _, _, _]) h dX0_coversWith_10 (Nat.le_of_ble_eq_true rfl) rfl ?_
  refine r_iload_n (pc := 11) h dX0_coversWith_11 rfl ?_
  refine r_if_ge (pc := 12) (tgt := 17) h dX0_coversWith_12 (by decide) (fun c12 => ?_) (fun c12 => ?_)
  · refine r_iload_n (pc := 17) h dX0_coversWith_17 rfl ?_
    refine r_gets (q := 101) (pc := 18) h dX0_coversWith_18 (by decide) (Or.inl ⟨rfl, rfl⟩) ?_
    refine r_aload_n (pc := 21) h dX0_coversWith_21 rfl ?_
    refine r_getR (pc := 22) h dX0_coversWith_22 f_X0_9 sh_1 rfl ?_
    refine r_iload_n (pc := 25) h dX0_coversWith_25 rfl ?_
    refine r_ialoadE (pc := 26) h dX0_coversWith_26 sh_2 (hR.kd hs) ?_
    refine r_tabldE (pc := 27) h dX0_coversWith_27 (by decide) (tabE hk.1) ?_
    refine r_imul (pc := 28) h dX0_coversWith_28 ?_
    refine r_iconst (pc := 29) h dX0_coversWith_29 ci_2 ?_
    refine r_idiv (pc := 30) h dX0_coversWith_30 (by decide) ?_
    refine r_gets (q := 102) (pc := 31) h dX0_coversWith_31 (by decide) (Or.inl ⟨rfl, rfl⟩) ?_
    refine r_aload_n (pc := 34) h dX0_coversWith_34 rfl ?_
    refine r_getR (pc := 35) h dX0_coversWith_35 f_X0_9 sh_1 rfl ?_
    refine r_iload_n (pc := 38) h dX0_coversWith_38 rfl ?_
    refine r_ialoadE (pc := 39) h dX0_coversWith_39 sh_2 (hR.kd hs) ?_
    refine r_tabldE (pc := 40) h dX0_coversWith_40 (by decide) (tabE hk.1) ?_
    refine r_iadd (pc := 41) h dX0_coversWith_41 ?_
    refine r_istore (pc := 42) (ls2 := [_, _, _, _, _]) h dX0_coversWith_42 (Nat.le_of_ble_eq_true rfl) rfl ?_
    refine r_iload (pc := 44) h dX0_coversWith_44 rfl ?_
    refine r_if_ge (pc := 46) (tgt := 53) h dX0_coversWith_46 (by decide) (fun c46 => ?_) (fun c46 => ?_)
    · refine r_iload (pc := 53) h dX0_coversWith_53 rfl ?_
      refine r_ri t (pc := 55) dX0_coversWith_55 rfl ?_
      have e := covL _ hk.1 (c 1 s) (by omega) r (by omega)
      first
        | (rw [if_pos c12, if_pos c46] at e; exact ⟨e, rfl⟩)
        | (rw [if_pos c12, if_neg c46] at e; exact ⟨e, rfl⟩)
        | (rw [if_neg c12, if_pos c46] at e; exact ⟨e, rfl⟩)
        | (rw [if_neg c12, if_neg c46] at e; exact ⟨e, rfl⟩)
    · refine r_iconst (pc := 49) h dX0_coversWith_49 ci_0 ?_
      refine r_goto (pc := 50) (tgt := 55) h dX0_coversWith_50 (by decide) ?_
      refine r_ri t (pc := 55) dX0_coversWith_55 rfl ?_
      have e := covL _ hk.1 (c 1 s) (by omega) r (by omega)
      first
        | (rw [if_pos c12, if_pos c46] at e; exact ⟨e, rfl⟩)
        | (rw [if_pos c12, if_neg c46] at e; exact ⟨e, rfl⟩)
        | (rw [if_neg c12, if_pos c46] at e; exact ⟨e, rfl⟩)
        | (rw [if_neg c12, if_neg c46] at e; exact ⟨e, rfl⟩)
  · refine r_iconst (pc := 15) h dX0_coversWith_15 ci_0 ?_
    refine r_istore_n (pc := 16) (ls2 := [_, _, _, _, _]) h dX0_coversWith_16 (Nat.le_of_ble_eq_true rfl) rfl ?_
    refine r_iload_n (pc := 17) h dX0_coversWith_17 rfl ?_
    refine r_gets (q := 101) (pc := 18) h dX0_coversWith_18 (by decide) (Or.inl ⟨rfl, rfl⟩) ?_
    refine r_aload_n (pc := 21) h dX0_coversWith_21 rfl ?_
    refine r_getR (pc := 22) h dX0_coversWith_22 f_X0_9 sh_1 rfl ?_
    refine r_iload_n (pc := 25) h dX0_coversWith_25 rfl ?_
    refine r_ialoadE (pc := 26) h dX0_coversWith_26 sh_2 (hR.kd hs) ?_
    refine r_tabldE (pc := 27) h dX0_coversWith_27 (by decide) (tabE hk.1) ?_
    refine r_imul (pc := 28) h dX0_coversWith_28 ?_
    refine r_iconst (pc := 29) h dX0_coversWith_29 ci_2 ?_
    refine r_idiv (pc := 30) h dX0_coversWith_30 (by decide) ?_
    refine r_gets (q := 102) (pc := 31) h dX0_coversWith_31 (by decide) (Or.inl ⟨rfl, rfl⟩) ?_
    refine r_aload_n (pc := 34) h dX0_coversWith_34 rfl ?_
    refine r_getR (pc := 35) h dX0_coversWith_35 f_X0_9 sh_1 rfl ?_
    refine r_iload_n (pc := 38) h dX0_coversWith_38 rfl ?_
    refine r_ialoadE (pc := 39) h dX0_coversWith_39 sh_2 (hR.kd hs) ?_
    refine r_tabldE (pc := 40) h dX0_coversWith_40 (by decide) (tabE hk.1) ?_
    refine r_iadd (pc := 41) h dX0_coversWith_41 ?_
    refine r_istore (pc := 42) (ls2 := [_, _, _, _, _]) h dX0_coversWith_42 (Nat.le_of_ble_eq_true rfl) rfl ?_
    refine r_iload (pc := 44) h dX0_coversWith_44 rfl ?_
    refine r_if_ge (pc := 46) (tgt := 53) h dX0_coversWith_46 (by decide) (fun c46 => ?_) (fun c46 => ?_)
    · refine r_iload (pc := 53) h dX0_coversWith_53 rfl ?_
      refine r_ri t (pc := 55) dX0_coversWith_55 rfl ?_
      have e := covL _ hk.1 (c 1 s) (by omega) r (by omega)
      first
        | (rw [if_pos c12, if_pos c46] at e; exact ⟨e, rfl⟩)
        | (rw [if_pos c12, if_neg c46] at e; exact ⟨e, rfl⟩)
        | (rw [if_neg c12, if_pos c46] at e; exact ⟨e, rfl⟩)
        | (rw [if_neg c12, if_neg c46] at e; exact ⟨e, rfl⟩)
    · refine r_iconst (pc := 49) h dX0_coversWith_49 ci_0 ?_
      refine r_goto (pc := 50) (tgt := 55) h dX0_coversWith_50 (by decide) ?_
      refine r_ri t (pc := 55) dX0_coversWith_55 rfl ?_
      have e := covL _ hk.1 (c 1 s) (by omega) r (by omega)
      first
        | (rw [if_pos c12, if_pos c46] at e; exact ⟨e, rfl⟩)
        | (rw [if_pos c12, if_neg c46] at e; exact ⟨e, rfl⟩)
        | (rw [if_neg c12, if_pos c46] at e; exact ⟨e, rfl⟩)
        | (rw [if_neg c12, if_neg c46] at e; exact ⟨e, rfl⟩)
set_option maxRecDepth 100000 in
set_option maxHeartbeats 4000000 in
theorem c_X0_covers_1 {g : gG} {c : gCt} (hR : Rx1 g c) (ho : gok c) {s : Nat} (hs : s < c 7 0) : gCi mX0_covers [.ref 1, .int (nI s)] g (fun x g1 => x = nI (cvr c s) ∧ g1 = g) := by
  refine gCi_of (own := RX0) (ls0 := [.ref 1, .int (nI s)]) ⟨rfl, pl_X0⟩ rfl (Nat.le_of_ble_eq_true rfl) (fun G (h : gR RX0 cX0_covers 1 40 G) (t : gTi cX0_covers .int _ G) => ?_)
  refine r_aload_n (pc := 0) h dX0_covers_0 rfl ?_
  refine r_iload_n (pc := 1) h dX0_covers_1 rfl ?_
  refine r_aload_n (pc := 2) h dX0_covers_2 rfl ?_
  refine r_getR (pc := 3) h dX0_covers_3 f_X0_18 sh_1 rfl ?_
  refine r_iload_n (pc := 6) h dX0_covers_6 rfl ?_
  refine r_ialoadE (pc := 7) h dX0_covers_7 sh_4 (hR.ru hs) ?_
  refine r_callVi (pc := 8) (As := [_, _]) h dX0_covers_8 k_X0_56 gc_1 rfl ⟨Nat.le_of_ble_eq_true rfl, Nat.le_of_ble_eq_true rfl, Nat.le_of_ble_eq_true rfl⟩ (c_X0_coversWith_1 hR ho hs (ho.2.2.1 s hs).2.2) (fun x_8 g1 hq => ?_)
  obtain ⟨rfl, rfl⟩ := hq
  refine r_ri t (pc := 11) dX0_covers_11 rfl ?_
  exact ⟨rfl, rfl⟩
set_option maxRecDepth 100000 in
set_option maxHeartbeats 4000000 in
theorem c_X0_chafe_1 {g : gG} {c : gCt} (hR : Rx1 g c) (ho : gok c) {s d : Nat} (hs : s < c 7 0) (hd : d < 2147483648) : gCi mX0_chafe [.ref 1, .int (nI s), .int (nI d)] g (fun x g1 => x = nI (chaN (c 0 s) (c 2 s) d) ∧ g1 = g) := by
  refine gCi_of (own := RX0) (ls0 := [.ref 1, .int (nI s), .int (nI d), .null]) ⟨rfl, pl_X0⟩ rfl (Nat.le_of_ble_eq_true rfl) (fun G (h : gR RX0 cX0_chafe 0 0 G) (t : gTi cX0_chafe .int _ G) => ?_)
  have hk := ho.2.2.1 s hs
  refine r_gets (q := 103) (pc := 0) h dX0_chafe_0 (by decide) (Or.inl ⟨rfl, rfl⟩) ?_
  refine r_aload_n (pc := 3) h dX0_chafe_3 rfl ?_
  refine r_getR (pc := 4) h dX0_chafe_4 f_X0_9 sh_1 rfl ?_
  refine r_iload_n (pc := 7) h dX0_chafe_7 rfl ?_
  refine r_ialoadE (pc := 8) h dX0_chafe_8 sh_2 (hR.kd hs) ?_
  refine r_tabldE (pc := 9) h dX0_chafe_9 (by decide) (tabE hk.1) ?_
  refine r_istore_n (pc := 10) (ls2 := [_, _, _, _]) h dX0_chafe_10 (Nat.le_of_ble_eq_true rfl) rfl ?_
  refine r_aload_n (pc := 11) h dX0_chafe_11 rfl ?_
  refine r_getR (pc := 12) h dX0_chafe_12 f_X0_9 sh_1 rfl ?_
  refine r_iload_n (pc := 15) h dX0_chafe_15 rfl ?_
  refine r_ialoadE (pc := 16) h dX0_chafe_16 sh_2 (hR.kd hs) ?_
  refine r_iconst (pc := 17) h dX0_chafe_17 ci_4 ?_
  refine r_icmp_ne (pc := 18) (tgt := 32) h dX0_chafe_18 (by decide) (fun c18 => ?_) (fun c18 => ?_)
  · refine r_aload_n (pc := 32) h dX0_chafe_32 rfl ?_
    refine r_getR (pc := 33) h dX0_chafe_33 f_X0_9 sh_1 rfl ?_
    refine r_iload_n (pc := 36) h dX0_chafe_36 rfl ?_
    refine r_ialoadE (pc := 37) h dX0_chafe_37 sh_2 (hR.kd hs) ?_
    refine r_iconst (pc := 38) h dX0_chafe_38 ci_5 ?_
    refine r_icmp_ne (pc := 39) (tgt := 50) h dX0_chafe_39 (by decide) (fun c39 => ?_) (fun c39 => ?_)
    · refine r_iload_n (pc := 50) h dX0_chafe_50 rfl ?_
      refine r_ri t (pc := 51) dX0_chafe_51 rfl ?_
      have n4 : ¬ c 0 s = 4 := fun q => c18 (by rw [q])
      first
        | (have e5 : c 0 s = 5 := (nI_eq (by omega) (by decide)).mp c39
           have e := (chaL _ hk.1).2.1 e5
           refine ⟨?_, rfl⟩
           rw [e, pk_rem (by omega) (by decide) (by decide), nI_add, e5]
           rfl)
        | (have n5 : ¬ c 0 s = 5 := fun q => c39 (by rw [q])
           have e := (chaL _ hk.1).2.2 n4 n5 (c 2 s) (by omega) 0 (by decide)
           refine ⟨?_, rfl⟩
           rw [e]
           unfold chaN
           simp only [n4, if_false]
           have := hk.1
           repeat' split
           all_goals first | rfl | omega)
    · refine r_iload_n (pc := 42) h dX0_chafe_42 rfl ?_
      refine r_iload_n (pc := 43) h dX0_chafe_43 rfl ?_
      refine r_iconst (pc := 44) h dX0_chafe_44 ci_2 ?_
      refine r_irem (pc := 45) h dX0_chafe_45 (by decide) ?_
      refine r_iadd (pc := 46) h dX0_chafe_46 ?_
      refine r_goto (pc := 47) (tgt := 51) h dX0_chafe_47 (by decide) ?_
      refine r_ri t (pc := 51) dX0_chafe_51 rfl ?_
      have n4 : ¬ c 0 s = 4 := fun q => c18 (by rw [q])
      first
        | (have e5 : c 0 s = 5 := (nI_eq (by omega) (by decide)).mp c39
           have e := (chaL _ hk.1).2.1 e5
           refine ⟨?_, rfl⟩
           rw [e, pk_rem (by omega) (by decide) (by decide), nI_add, e5]
           rfl)
        | (have n5 : ¬ c 0 s = 5 := fun q => c39 (by rw [q])
           have e := (chaL _ hk.1).2.2 n4 n5 (c 2 s) (by omega) 0 (by decide)
           refine ⟨?_, rfl⟩
           rw [e]
           unfold chaN
           simp only [n4, if_false]
           have := hk.1
           repeat' split
           all_goals first | rfl | omega)
  · refine r_iload_n (pc := 21) h dX0_chafe_21 rfl ?_
    refine r_aload_n (pc := 22) h dX0_chafe_22 rfl ?_
    refine r_getR (pc := 23) h dX0_chafe_23 f_X0_18 sh_1 rfl ?_
    refine r_iload_n (pc := 26) h dX0_chafe_26 rfl ?_
    refine r_ialoadE (pc := 27) h dX0_chafe_27 sh_4 (hR.ru hs) ?_
    refine r_iconst (pc := 28) h dX0_chafe_28 ci_3 ?_
    refine r_idiv (pc := 29) h dX0_chafe_29 (by decide) ?_
    refine r_iadd (pc := 30) h dX0_chafe_30 ?_
    refine r_ri t (pc := 31) dX0_chafe_31 rfl ?_
    have e4 : c 0 s = 4 := (nI_eq (by omega) (by decide)).mp c18
    have e := (chaL _ hk.1).1 e4
    refine ⟨?_, rfl⟩
    rw [e, pk_div (by omega) (by decide) (by decide), nI_add, e4]
    rfl
set_option maxRecDepth 100000 in
set_option maxHeartbeats 4000000 in
theorem c_X0_braveryCovered_1 {g : gG} {c : gCt} (hR : Rx1 g c) (ho : gok c) {i cov : Nat} (hi : i < c 7 1) : gCi mX0_braveryCovered [.ref 1, .int (nI i), .int (nI cov)] g (fun x g1 => x = brI c i cov ∧ g1 = g) := by
  refine gCi_of (own := RX0) (ls0 := [.ref 1, .int (nI i), .int (nI cov)]) ⟨rfl, pl_X0⟩ rfl (Nat.le_of_ble_eq_true rfl) (fun G (h : gR RX0 cX0_braveryCovered 0 0 G) (t : gTi cX0_braveryCovered .int _ G) => ?_)
  have hk := ho.2.2.2 i hi
  refine r_iload_n (pc := 0) h dX0_braveryCovered_0 rfl ?_
  refine r_aload_n (pc := 1) h dX0_braveryCovered_1 rfl ?_
  refine r_getR (pc := 2) h dX0_braveryCovered_2 f_X0_27 sh_1 rfl ?_
  refine r_iload_n (pc := 5) h dX0_braveryCovered_5 rfl ?_
  refine r_ialoadE (pc := 6) h dX0_braveryCovered_6 sh_7 (hR.sa hi) ?_
  refine r_iadd (pc := 7) h dX0_braveryCovered_7 ?_
  refine r_aload_n (pc := 8) h dX0_braveryCovered_8 rfl ?_
  refine r_getR (pc := 9) h dX0_braveryCovered_9 f_X0_21 sh_1 rfl ?_
  refine r_iload_n (pc := 12) h dX0_braveryCovered_12 rfl ?_
  refine r_ialoadE (pc := 13) h dX0_braveryCovered_13 sh_5 (hR.fe hi) ?_
  refine r_isub (pc := 14) h dX0_braveryCovered_14 ?_
  refine r_aload_n (pc := 15) h dX0_braveryCovered_15 rfl ?_
  refine r_getR (pc := 16) h dX0_braveryCovered_16 f_X0_24 sh_1 rfl ?_
  refine r_iload_n (pc := 19) h dX0_braveryCovered_19 rfl ?_
  refine r_ialoadE (pc := 20) h dX0_braveryCovered_20 sh_6 (hR.so hi) ?_
  refine r_iconst (pc := 21) h dX0_braveryCovered_21 ci_3 ?_
  refine r_idiv (pc := 22) h dX0_braveryCovered_22 (by decide) ?_
  refine r_isub (pc := 23) h dX0_braveryCovered_23 ?_
  refine r_ri t (pc := 24) dX0_braveryCovered_24 rfl ?_
  exact ⟨by rw [pk_div (by omega) (by decide) (by decide)]; rfl, rfl⟩
set_option maxRecDepth 100000 in
set_option maxHeartbeats 4000000 in
theorem c_X0_bravery_1 {g : gG} {c : gCt} (hR : Rx1 g c) (ho : gok c) {i : Nat} (hi : i < c 7 1) : gCi mX0_bravery [.ref 1, .int (nI i)] g (fun x g1 => x = brI c i (covOf c i) ∧ g1 = g) := by
  refine gCi_of (own := RX0) (ls0 := [.ref 1, .int (nI i), .null]) ⟨rfl, pl_X0⟩ rfl (Nat.le_of_ble_eq_true rfl) (fun G (h : gR RX0 cX0_bravery 1 40 G) (t : gTi cX0_bravery .int _ G) => ?_)
  have hk := ho.2.2.2 i hi
  have hn6 := hR.n6
  refine r_aload_n (pc := 0) h dX0_bravery_0 rfl ?_
  refine r_getR (pc := 1) h dX0_bravery_1 f_X0_30 sh_1 rfl ?_
  refine r_iload_n (pc := 4) h dX0_bravery_4 rfl ?_
  refine r_ialoadE (pc := 5) h dX0_bravery_5 sh_8 (hR.wo hi) ?_
  refine r_istore_n (pc := 6) (ls2 := [_, _, _]) h dX0_bravery_6 (Nat.le_of_ble_eq_true rfl) rfl ?_
  refine r_aload_n (pc := 7) h dX0_bravery_7 rfl ?_
  refine r_iload_n (pc := 8) h dX0_bravery_8 rfl ?_
  refine r_iload_n (pc := 9) h dX0_bravery_9 rfl ?_
  refine r_bipush (pc := 10) h dX0_bravery_10 cb_m9 ?_
  refine r_icmp_ne (pc := 12) (tgt := 19) h dX0_bravery_12 (by decide) (fun c12 => ?_) (fun c12 => ?_)
  · obtain ⟨s, e6⟩ : ∃ s, c 6 i = s + 1 := ⟨c 6 i - 1, by have n0 : ¬ c 6 i = 0 := fun q => c12 ((wz_none (by omega)).mpr q); omega⟩
    have hs : s < c 7 0 := by omega
    rw [show wz (c 6 i) = nI s by rw [e6]; exact wz_s s]
    refine r_aload_n (pc := 19) h dX0_bravery_19 rfl ?_
    refine r_iload_n (pc := 20) h dX0_bravery_20 rfl ?_
    refine r_aload_n (pc := 21) h dX0_bravery_21 rfl ?_
    refine r_getR (pc := 22) h dX0_bravery_22 f_X0_18 sh_1 rfl ?_
    refine r_iload_n (pc := 25) h dX0_bravery_25 rfl ?_
    refine r_ialoadE (pc := 26) h dX0_bravery_26 sh_4 (hR.ru hs) ?_
    refine r_callVi (pc := 27) (As := [_, _]) h dX0_bravery_27 k_X0_56 gc_1 rfl ⟨Nat.le_of_ble_eq_true rfl, Nat.le_of_ble_eq_true rfl, Nat.le_of_ble_eq_true rfl⟩ (c_X0_coversWith_1 hR ho hs (ho.2.2.1 s hs).2.2) (fun x_27 g1 hq => ?_)
    obtain ⟨rfl, rfl⟩ := hq
    refine r_callVi (pc := 30) (As := [_, _]) h dX0_bravery_30 k_X0_69 gc_1 rfl ⟨Nat.le_of_ble_eq_true rfl, Nat.le_of_ble_eq_true rfl, Nat.le_of_ble_eq_true rfl⟩ (c_X0_braveryCovered_1 hR ho hi) (fun x_30 g1 hq => ?_)
    obtain ⟨rfl, rfl⟩ := hq
    refine r_ri t (pc := 33) dX0_bravery_33 rfl ?_
    exact ⟨by simp [covOf, cvr, e6], rfl⟩
  · have e6 : c 6 i = 0 := (wz_none (by omega)).mp c12
    refine r_iconst (pc := 15) h dX0_bravery_15 ci_0 ?_
    refine r_goto (pc := 16) (tgt := 30) h dX0_bravery_16 (by decide) ?_
    refine r_callVi (pc := 30) (As := [_, _]) h dX0_bravery_30 k_X0_69 gc_1 rfl ⟨Nat.le_of_ble_eq_true rfl, Nat.le_of_ble_eq_true rfl, Nat.le_of_ble_eq_true rfl⟩ (c_X0_braveryCovered_1 hR ho hi) (fun x_30 g1 hq => ?_)
    obtain ⟨rfl, rfl⟩ := hq
    refine r_ri t (pc := 33) dX0_bravery_33 rfl ?_
    exact ⟨by simp [covOf, cvr, e6], rfl⟩
set_option maxRecDepth 100000 in
set_option maxHeartbeats 4000000 in
theorem c_X0_needs_1 {g : gG} {c : gCt} (hR : Rx1 g c) {i : Nat} (hi : i < c 7 1) : gCi mX0_needs [.ref 1, .int (nI i)] g (fun x g1 => x = neI c i ∧ g1 = g) := by
  refine gCi_of (own := RX0) (ls0 := [.ref 1, .int (nI i)]) ⟨rfl, pl_X0⟩ rfl (Nat.le_of_ble_eq_true rfl) (fun G (h : gR RX0 cX0_needs 0 0 G) (t : gTi cX0_needs .int _ G) => ?_)
  refine r_iconst (pc := 0) h dX0_needs_0 ci_2 ?_
  refine r_aload_n (pc := 1) h dX0_needs_1 rfl ?_
  refine r_getR (pc := 2) h dX0_needs_2 f_X0_27 sh_1 rfl ?_
  refine r_iload_n (pc := 5) h dX0_needs_5 rfl ?_
  refine r_ialoadE (pc := 6) h dX0_needs_6 sh_7 (hR.sa hi) ?_
  refine r_imul (pc := 7) h dX0_needs_7 ?_
  refine r_iconst (pc := 8) h dX0_needs_8 ci_2 ?_
  refine r_iadd (pc := 9) h dX0_needs_9 ?_
  refine r_bipush (pc := 10) h dX0_needs_10 cb_6 ?_
  refine r_isub (pc := 12) h dX0_needs_12 ?_
  refine r_ri t (pc := 13) dX0_needs_13 rfl ?_
  exact ⟨rfl, rfl⟩
set_option maxRecDepth 100000 in
set_option maxHeartbeats 4000000 in
theorem c_X0_can_1 {g : gG} {c : gCt} (hR : Rx1 g c) (ho : gok c) {i : Nat} (hi : i < c 7 1) : gCi mX0_can [.ref 1, .int (nI i)] g (fun x g1 => x = bI (canB c i (covOf c i)) ∧ g1 = g) := by
  refine gCi_of (own := RX0) (ls0 := [.ref 1, .int (nI i)]) ⟨rfl, pl_X0⟩ rfl (Nat.le_of_ble_eq_true rfl) (fun G (h : gR RX0 cX0_can 2 80 G) (t : gTi cX0_can .boolean _ G) => ?_)
  have hk := ho.2.2.2 i hi
  refine r_aload_n (pc := 0) h dX0_can_0 rfl ?_
  refine r_getR (pc := 1) h dX0_can_1 f_X0_27 sh_1 rfl ?_
  refine r_iload_n (pc := 4) h dX0_can_4 rfl ?_
  refine r_ialoadE (pc := 5) h dX0_can_5 sh_7 (hR.sa hi) ?_
  refine r_bipush (pc := 6) h dX0_can_6 cb_6 ?_
  refine r_icmp_ge (pc := 8) (tgt := 28) h dX0_can_8 (by decide) (fun c8 => ?_) (fun c8 => ?_)
  · refine r_iconst (pc := 28) h dX0_can_28 ci_0 ?_
    refine r_ri t (pc := 29) dX0_can_29 (by decide) ?_
    first
      | (have q6 : c 5 i < 6 := Nat.lt_of_not_le fun q => c8 (nI_le q (by omega))
         have q := (canB_lt q6 hk.1 hk.2.1 (covOf_le ho hi)).mp c21
         exact ⟨by rw [q]; rfl, rfl⟩)
      | (have q6 : c 5 i < 6 := Nat.lt_of_not_le fun q => c8 (nI_le q (by omega))
         have q := mt (canB_lt q6 hk.1 hk.2.1 (covOf_le ho hi)).mpr c21
         have q2 : canB c i (covOf c i) = true := by simpa using q
         exact ⟨by rw [q2]; rfl, rfl⟩)
      | (have q6 : 6 ≤ c 5 i := (nI_leI (by decide) (by omega)).mp c8
         exact ⟨by rw [show canB c i (covOf c i) = false by simp [canB]; omega]; rfl, rfl⟩)
  · refine r_aload_n (pc := 11) h dX0_can_11 rfl ?_
    refine r_iload_n (pc := 12) h dX0_can_12 rfl ?_
    refine r_callVi (pc := 13) (As := [_]) h dX0_can_13 k_X0_72 gc_1 rfl ⟨Nat.le_of_ble_eq_true rfl, Nat.le_of_ble_eq_true rfl, Nat.le_of_ble_eq_true rfl⟩ (c_X0_bravery_1 hR ho hi) (fun x_13 g1 hq => ?_)
    obtain ⟨rfl, rfl⟩ := hq
    refine r_aload_n (pc := 16) h dX0_can_16 rfl ?_
    refine r_iload_n (pc := 17) h dX0_can_17 rfl ?_
    refine r_callVi (pc := 18) (As := [_]) h dX0_can_18 k_X0_75 gc_1 rfl ⟨Nat.le_of_ble_eq_true rfl, Nat.le_of_ble_eq_true rfl, Nat.le_of_ble_eq_true rfl⟩ (c_X0_needs_1 hR hi) (fun x_18 g1 hq => ?_)
    obtain ⟨rfl, rfl⟩ := hq
    refine r_icmp_lt (pc := 21) (tgt := 28) h dX0_can_21 (by decide) (fun c21 => ?_) (fun c21 => ?_)
    · refine r_iconst (pc := 28) h dX0_can_28 ci_0 ?_
      refine r_ri t (pc := 29) dX0_can_29 (by decide) ?_
      first
        | (have q6 : c 5 i < 6 := Nat.lt_of_not_le fun q => c8 (nI_le q (by omega))
           have q := (canB_lt q6 hk.1 hk.2.1 (covOf_le ho hi)).mp c21
           exact ⟨by rw [q]; rfl, rfl⟩)
        | (have q6 : c 5 i < 6 := Nat.lt_of_not_le fun q => c8 (nI_le q (by omega))
           have q := mt (canB_lt q6 hk.1 hk.2.1 (covOf_le ho hi)).mpr c21
           have q2 : canB c i (covOf c i) = true := by simpa using q
           exact ⟨by rw [q2]; rfl, rfl⟩)
        | (have q6 : 6 ≤ c 5 i := (nI_leI (by decide) (by omega)).mp c8
           exact ⟨by rw [show canB c i (covOf c i) = false by simp [canB]; omega]; rfl, rfl⟩)
    · refine r_iconst (pc := 24) h dX0_can_24 ci_1 ?_
      refine r_goto (pc := 25) (tgt := 29) h dX0_can_25 (by decide) ?_
      refine r_ri t (pc := 29) dX0_can_29 (by decide) ?_
      first
        | (have q6 : c 5 i < 6 := Nat.lt_of_not_le fun q => c8 (nI_le q (by omega))
           have q := (canB_lt q6 hk.1 hk.2.1 (covOf_le ho hi)).mp c21
           exact ⟨by rw [q]; rfl, rfl⟩)
        | (have q6 : c 5 i < 6 := Nat.lt_of_not_le fun q => c8 (nI_le q (by omega))
           have q := mt (canB_lt q6 hk.1 hk.2.1 (covOf_le ho hi)).mpr c21
           have q2 : canB c i (covOf c i) = true := by simpa using q
           exact ⟨by rw [q2]; rfl, rfl⟩)
        | (have q6 : 6 ≤ c 5 i := (nI_leI (by decide) (by omega)).mp c8
           exact ⟨by rw [show canB c i (covOf c i) = false by simp [canB]; omega]; rfl, rfl⟩)
set_option maxRecDepth 100000 in
set_option maxHeartbeats 4000000 in
theorem c_X0_canCovered_1 {g : gG} {c : gCt} (hR : Rx1 g c) (ho : gok c) {i cov : Nat} (hi : i < c 7 1) (hcov : cov ≤ 31) : gCi mX0_canCovered [.ref 1, .int (nI i), .int (nI cov)] g (fun x g1 => x = bI (canB c i cov) ∧ g1 = g) := by
  refine gCi_of (own := RX0) (ls0 := [.ref 1, .int (nI i), .int (nI cov)]) ⟨rfl, pl_X0⟩ rfl (Nat.le_of_ble_eq_true rfl) (fun G (h : gR RX0 cX0_canCovered 1 40 G) (t : gTi cX0_canCovered .boolean _ G) => ?_)
  have hk := ho.2.2.2 i hi
  refine r_aload_n (pc := 0) h dX0_canCovered_0 rfl ?_
  refine r_getR (pc := 1) h dX0_canCovered_1 f_X0_27 sh_1 rfl ?_
  refine r_iload_n (pc := 4) h dX0_canCovered_4 rfl ?_
  refine r_ialoadE (pc := 5) h dX0_canCovered_5 sh_7 (hR.sa hi) ?_
  refine r_bipush (pc := 6) h dX0_canCovered_6 cb_6 ?_
  refine r_icmp_ge (pc := 8) (tgt := 29) h dX0_canCovered_8 (by decide) (fun c8 => ?_) (fun c8 => ?_)
  · refine r_iconst (pc := 29) h dX0_canCovered_29 ci_0 ?_
    refine r_ri t (pc := 30) dX0_canCovered_30 (by decide) ?_
    first
      | (have q6 : c 5 i < 6 := Nat.lt_of_not_le fun q => c8 (nI_le q (by omega))
         have q := (canB_lt q6 hk.1 hk.2.1 hcov).mp c22
         exact ⟨by rw [q]; rfl, rfl⟩)
      | (have q6 : c 5 i < 6 := Nat.lt_of_not_le fun q => c8 (nI_le q (by omega))
         have q := mt (canB_lt q6 hk.1 hk.2.1 hcov).mpr c22
         have q2 : canB c i cov = true := by simpa using q
         exact ⟨by rw [q2]; rfl, rfl⟩)
      | (have q6 : 6 ≤ c 5 i := (nI_leI (by decide) (by omega)).mp c8
         exact ⟨by rw [show canB c i cov = false by simp [canB]; omega]; rfl, rfl⟩)
  · refine r_aload_n (pc := 11) h dX0_canCovered_11 rfl ?_
    refine r_iload_n (pc := 12) h dX0_canCovered_12 rfl ?_
    refine r_iload_n (pc := 13) h dX0_canCovered_13 rfl ?_
    refine r_callVi (pc := 14) (As := [_, _]) h dX0_canCovered_14 k_X0_69 gc_1 rfl ⟨Nat.le_of_ble_eq_true rfl, Nat.le_of_ble_eq_true rfl, Nat.le_of_ble_eq_true rfl⟩ (c_X0_braveryCovered_1 hR ho hi) (fun x_14 g1 hq => ?_)
    obtain ⟨rfl, rfl⟩ := hq
    refine r_aload_n (pc := 17) h dX0_canCovered_17 rfl ?_
    refine r_iload_n (pc := 18) h dX0_canCovered_18 rfl ?_
    refine r_callVi (pc := 19) (As := [_]) h dX0_canCovered_19 k_X0_75 gc_1 rfl ⟨Nat.le_of_ble_eq_true rfl, Nat.le_of_ble_eq_true rfl, Nat.le_of_ble_eq_true rfl⟩ (c_X0_needs_1 hR hi) (fun x_19 g1 hq => ?_)
    obtain ⟨rfl, rfl⟩ := hq
    refine r_icmp_lt (pc := 22) (tgt := 29) h dX0_canCovered_22 (by decide) (fun c22 => ?_) (fun c22 => ?_)
    · refine r_iconst (pc := 29) h dX0_canCovered_29 ci_0 ?_
      refine r_ri t (pc := 30) dX0_canCovered_30 (by decide) ?_
      first
        | (have q6 : c 5 i < 6 := Nat.lt_of_not_le fun q => c8 (nI_le q (by omega))
           have q := (canB_lt q6 hk.1 hk.2.1 hcov).mp c22
           exact ⟨by rw [q]; rfl, rfl⟩)
        | (have q6 : c 5 i < 6 := Nat.lt_of_not_le fun q => c8 (nI_le q (by omega))
           have q := mt (canB_lt q6 hk.1 hk.2.1 hcov).mpr c22
           have q2 : canB c i cov = true := by simpa using q
           exact ⟨by rw [q2]; rfl, rfl⟩)
        | (have q6 : 6 ≤ c 5 i := (nI_leI (by decide) (by omega)).mp c8
           exact ⟨by rw [show canB c i cov = false by simp [canB]; omega]; rfl, rfl⟩)
    · refine r_iconst (pc := 25) h dX0_canCovered_25 ci_1 ?_
      refine r_goto (pc := 26) (tgt := 30) h dX0_canCovered_26 (by decide) ?_
      refine r_ri t (pc := 30) dX0_canCovered_30 (by decide) ?_
      first
        | (have q6 : c 5 i < 6 := Nat.lt_of_not_le fun q => c8 (nI_le q (by omega))
           have q := (canB_lt q6 hk.1 hk.2.1 hcov).mp c22
           exact ⟨by rw [q]; rfl, rfl⟩)
        | (have q6 : c 5 i < 6 := Nat.lt_of_not_le fun q => c8 (nI_le q (by omega))
           have q := mt (canB_lt q6 hk.1 hk.2.1 hcov).mpr c22
           have q2 : canB c i cov = true := by simpa using q
           exact ⟨by rw [q2]; rfl, rfl⟩)
        | (have q6 : 6 ≤ c 5 i := (nI_leI (by decide) (by omega)).mp c8
           exact ⟨by rw [show canB c i cov = false by simp [canB]; omega]; rfl, rfl⟩)
set_option maxRecDepth 100000 in
set_option maxHeartbeats 4000000 in
theorem c_X0_lacks_1 {g : gG} {c : gCt} (hR : Rx1 g c) (ho : gok c) {i : Nat} (hi : i < c 7 1) : gCi mX0_lacks [.ref 1, .int (nI i)] g (fun x g1 => x = nI (lkN c i) ∧ g1 = g) := by
  refine gCi_of (own := RX0) (ls0 := [.ref 1, .int (nI i)]) ⟨rfl, pl_X0⟩ rfl (Nat.le_of_ble_eq_true rfl) (fun G (h : gR RX0 cX0_lacks 2 80 G) (t : gTi cX0_lacks .int _ G) => ?_)
  have hk := ho.2.2.2 i hi
  refine r_aload_n (pc := 0) h dX0_lacks_0 rfl ?_
  refine r_getR (pc := 1) h dX0_lacks_1 f_X0_27 sh_1 rfl ?_
  refine r_iload_n (pc := 4) h dX0_lacks_4 rfl ?_
  refine r_ialoadE (pc := 5) h dX0_lacks_5 sh_7 (hR.sa hi) ?_
  refine r_bipush (pc := 6) h dX0_lacks_6 cb_6 ?_
  refine r_icmp_lt (pc := 8) (tgt := 15) h dX0_lacks_8 (by decide) (fun c8 => ?_) (fun c8 => ?_)
  · refine r_aload_n (pc := 15) h dX0_lacks_15 rfl ?_
    refine r_iload_n (pc := 16) h dX0_lacks_16 rfl ?_
    refine r_callVi (pc := 17) (As := [_]) h dX0_lacks_17 k_X0_75 gc_1 rfl ⟨Nat.le_of_ble_eq_true rfl, Nat.le_of_ble_eq_true rfl, Nat.le_of_ble_eq_true rfl⟩ (c_X0_needs_1 hR hi) (fun x_17 g1 hq => ?_)
    obtain ⟨rfl, rfl⟩ := hq
    refine r_aload_n (pc := 20) h dX0_lacks_20 rfl ?_
    refine r_iload_n (pc := 21) h dX0_lacks_21 rfl ?_
    refine r_callVi (pc := 22) (As := [_]) h dX0_lacks_22 k_X0_72 gc_1 rfl ⟨Nat.le_of_ble_eq_true rfl, Nat.le_of_ble_eq_true rfl, Nat.le_of_ble_eq_true rfl⟩ (c_X0_bravery_1 hR ho hi) (fun x_22 g1 hq => ?_)
    obtain ⟨rfl, rfl⟩ := hq
    refine r_isub (pc := 25) h dX0_lacks_25 ?_
    refine r_iconst (pc := 26) h dX0_lacks_26 ci_0 ?_
    refine r_mmax (pc := 27) h dX0_lacks_27 k_X0_78 ⟨Nat.le_of_ble_eq_true rfl, Nat.le_of_ble_eq_true rfl⟩ ?_
    refine r_ri t (pc := 30) dX0_lacks_30 rfl ?_
    first
      | (have q6 : c 5 i < 6 := (nI_ltI (by omega) (by decide)).mp c8
         exact ⟨lkN_eq q6 hk.1 hk.2.1 (covOf_le ho hi), rfl⟩)
      | (have q6 : ¬ c 5 i < 6 := fun q => c8 (nI_lt q (by decide))
         exact ⟨by rw [lkN, if_pos (by omega)], rfl⟩)
  · refine r_iconst (pc := 11) h dX0_lacks_11 ci_0 ?_
    refine r_goto (pc := 12) (tgt := 30) h dX0_lacks_12 (by decide) ?_
    refine r_ri t (pc := 30) dX0_lacks_30 rfl ?_
    first
      | (have q6 : c 5 i < 6 := (nI_ltI (by omega) (by decide)).mp c8
         exact ⟨lkN_eq q6 hk.1 hk.2.1 (covOf_le ho hi), rfl⟩)
      | (have q6 : ¬ c 5 i < 6 := fun q => c8 (nI_lt q (by decide))
         exact ⟨by rw [lkN, if_pos (by omega)], rfl⟩)
set_option maxRecDepth 100000 in
set_option maxHeartbeats 4000000 in
theorem c_X0_allSaid_1 {g : gG} {c : gCt} (hR : Rx1 g c) : gCi mX0_allSaid [.ref 1] g (fun x g1 => x = nI (sumN (c 5) (c 7 1)) ∧ g1 = g) := by
  refine gCi_of (own := RX0) (ls0 := [.ref 1, .null, .null]) ⟨rfl, pl_X0⟩ rfl (Nat.le_of_ble_eq_true rfl) (fun G (h : gR RX0 cX0_allSaid 0 0 G) (t : gTi cX0_allSaid .int _ G) => ?_)
  have hn5 := hR.n5
  have loop : ∀ n i a, i + n = c 7 1 → gfold (fun i a => a + c 5 i) n i a = sumN (c 5) (c 7 1) → G 4 [.ref 1, .int (nI a), .int (nI i)] [] g := by
    intro n
    induction n with
    | zero =>
      intro i a hi hw
      refine r_iload_n (pc := 4) h dX0_allSaid_4 rfl ?_
      refine r_aload_n (pc := 5) h dX0_allSaid_5 rfl ?_
      refine r_getE (pc := 6) h dX0_allSaid_6 f_X0_37 sh_1 rfl (hR.nc) ?_
      refine r_icmp_ge (pc := 9) (tgt := 27) h dX0_allSaid_9 (by decide) (fun c9 => ?_) (fun c9 => absurd (nI_le (by omega) (by omega)) c9)
      refine r_iload_n (pc := 27) h dX0_allSaid_27 rfl ?_
      refine r_ri t (pc := 28) dX0_allSaid_28 rfl ?_
      exact ⟨by rw [← hw]; rfl, rfl⟩
    | succ n ih =>
      intro i a hin hw
      have hi : i < c 7 1 := by omega
      refine r_iload_n (pc := 4) h dX0_allSaid_4 rfl ?_
      refine r_aload_n (pc := 5) h dX0_allSaid_5 rfl ?_
      refine r_getE (pc := 6) h dX0_allSaid_6 f_X0_37 sh_1 rfl (hR.nc) ?_
      refine r_icmp_ge (pc := 9) (tgt := 27) h dX0_allSaid_9 (by decide) (fun c9 => absurd c9 (nI_ge hi (by omega))) (fun c9 => ?_)
      refine r_iload_n (pc := 12) h dX0_allSaid_12 rfl ?_
      refine r_aload_n (pc := 13) h dX0_allSaid_13 rfl ?_
      refine r_getR (pc := 14) h dX0_allSaid_14 f_X0_27 sh_1 rfl ?_
      refine r_iload_n (pc := 17) h dX0_allSaid_17 rfl ?_
      refine r_ialoadE (pc := 18) h dX0_allSaid_18 sh_7 (hR.sa hi) ?_
      refine r_iadd (pc := 19) h dX0_allSaid_19 ?_
      refine r_top h (nI_add _ _) ?_
      refine r_istore_n (pc := 20) (ls2 := [_, _, _]) h dX0_allSaid_20 (Nat.le_of_ble_eq_true rfl) rfl ?_
      refine r_iinc (pc := 21) (ls2 := [_, _, _]) h dX0_allSaid_21 rfl (ic1 _) rfl ?_
      refine r_goto (pc := 24) (tgt := 4) h dX0_allSaid_24 (by decide) ?_
      exact ih (i + 1) _ (by omega) hw
  refine r_iconst (pc := 0) h dX0_allSaid_0 ci_0 ?_
  refine r_istore_n (pc := 1) (ls2 := [_, _, _]) h dX0_allSaid_1 (Nat.le_of_ble_eq_true rfl) rfl ?_
  refine r_iconst (pc := 2) h dX0_allSaid_2 ci_0 ?_
  refine r_istore_n (pc := 3) (ls2 := [_, _, _]) h dX0_allSaid_3 (Nat.le_of_ble_eq_true rfl) rfl ?_
  exact loop (c 7 1) 0 0 (by omega) rfl
set_option maxRecDepth 100000 in
set_option maxHeartbeats 4000000 in
theorem c_X0_allFear_1 {g : gG} {c : gCt} (hR : Rx1 g c) : gCi mX0_allFear [.ref 1] g (fun x g1 => x = nI (sumN (c 3) (c 7 1)) ∧ g1 = g) := by
  refine gCi_of (own := RX0) (ls0 := [.ref 1, .null, .null]) ⟨rfl, pl_X0⟩ rfl (Nat.le_of_ble_eq_true rfl) (fun G (h : gR RX0 cX0_allFear 0 0 G) (t : gTi cX0_allFear .int _ G) => ?_)
  have hn5 := hR.n5
  have loop : ∀ n i a, i + n = c 7 1 → gfold (fun i a => a + c 3 i) n i a = sumN (c 3) (c 7 1) → G 4 [.ref 1, .int (nI a), .int (nI i)] [] g := by
    intro n
    induction n with
    | zero =>
      intro i a hi hw
      refine r_iload_n (pc := 4) h dX0_allFear_4 rfl ?_
      refine r_aload_n (pc := 5) h dX0_allFear_5 rfl ?_
      refine r_getE (pc := 6) h dX0_allFear_6 f_X0_37 sh_1 rfl (hR.nc) ?_
      refine r_icmp_ge (pc := 9) (tgt := 27) h dX0_allFear_9 (by decide) (fun c9 => ?_) (fun c9 => absurd (nI_le (by omega) (by omega)) c9)
      refine r_iload_n (pc := 27) h dX0_allFear_27 rfl ?_
      refine r_ri t (pc := 28) dX0_allFear_28 rfl ?_
      exact ⟨by rw [← hw]; rfl, rfl⟩
    | succ n ih =>
      intro i a hin hw
      have hi : i < c 7 1 := by omega
      refine r_iload_n (pc := 4) h dX0_allFear_4 rfl ?_
      refine r_aload_n (pc := 5) h dX0_allFear_5 rfl ?_
      refine r_getE (pc := 6) h dX0_allFear_6 f_X0_37 sh_1 rfl (hR.nc) ?_
      refine r_icmp_ge (pc := 9) (tgt := 27) h dX0_allFear_9 (by decide) (fun c9 => absurd c9 (nI_ge hi (by omega))) (fun c9 => ?_)
      refine r_iload_n (pc := 12) h dX0_allFear_12 rfl ?_
      refine r_aload_n (pc := 13) h dX0_allFear_13 rfl ?_
      refine r_getR (pc := 14) h dX0_allFear_14 f_X0_21 sh_1 rfl ?_
      refine r_iload_n (pc := 17) h dX0_allFear_17 rfl ?_
      refine r_ialoadE (pc := 18) h dX0_allFear_18 sh_5 (hR.fe hi) ?_
      refine r_iadd (pc := 19) h dX0_allFear_19 ?_
      refine r_top h (nI_add _ _) ?_
      refine r_istore_n (pc := 20) (ls2 := [_, _, _]) h dX0_allFear_20 (Nat.le_of_ble_eq_true rfl) rfl ?_
      refine r_iinc (pc := 21) (ls2 := [_, _, _]) h dX0_allFear_21 rfl (ic1 _) rfl ?_
      refine r_goto (pc := 24) (tgt := 4) h dX0_allFear_24 (by decide) ?_
      exact ih (i + 1) _ (by omega) hw
  refine r_iconst (pc := 0) h dX0_allFear_0 ci_0 ?_
  refine r_istore_n (pc := 1) (ls2 := [_, _, _]) h dX0_allFear_1 (Nat.le_of_ble_eq_true rfl) rfl ?_
  refine r_iconst (pc := 2) h dX0_allFear_2 ci_0 ?_
  refine r_istore_n (pc := 3) (ls2 := [_, _, _]) h dX0_allFear_3 (Nat.le_of_ble_eq_true rfl) rfl ?_
  exact loop (c 7 1) 0 0 (by omega) rfl
set_option maxRecDepth 100000 in
set_option maxHeartbeats 4000000 in
theorem c_X0_wearer_9 {g : gG} {c : gCt} (hR : Rx9 g c) (ho : gok c) {s : Nat} (hs : s < 2147483648) : gCi mX0_wearer [.ref 9, .int (nI s)] g (fun x g1 => x = oI (wr c s) ∧ g1 = g) := by
  refine gCi_of (own := RX0) (ls0 := [.ref 9, .int (nI s), .null]) ⟨rfl, pl_X0⟩ rfl (Nat.le_of_ble_eq_true rfl) (fun G (h : gR RX0 cX0_wearer 0 0 G) (t : gTi cX0_wearer .int _ G) => ?_)
  have hn5 := hR.n5
  have hn6 := hR.n6
  have loop : ∀ n i, i + n = c 7 1 → wr c s = gfind (fun i => c 6 i == s + 1) n i → G 2 [.ref 9, .int (nI s), .int (nI i)] [] g := by
    intro n
    induction n with
    | zero =>
      intro i hi hw
      refine r_iload_n (pc := 2) h dX0_wearer_2 rfl ?_
      refine r_aload_n (pc := 3) h dX0_wearer_3 rfl ?_
      refine r_getE (pc := 4) h dX0_wearer_4 f_X0_37 sh_9 rfl (hR.nc) ?_
      refine r_icmp_ge (pc := 7) (tgt := 28) h dX0_wearer_7 (by decide) (fun c7 => ?_) (fun c7 => absurd (nI_le (by omega) (by omega)) c7)
      refine r_bipush (pc := 28) h dX0_wearer_28 cb_m9 ?_
      refine r_ri t (pc := 30) dX0_wearer_30 rfl ?_
      exact ⟨by rw [hw]; rfl, rfl⟩
    | succ n ih =>
      intro i hin hw
      have hi : i < c 7 1 := by omega
      have hw6 : c 6 i < 2147483648 := by have := (ho.2.2.2 i hi).2.2.2; omega
      refine r_iload_n (pc := 2) h dX0_wearer_2 rfl ?_
      refine r_aload_n (pc := 3) h dX0_wearer_3 rfl ?_
      refine r_getE (pc := 4) h dX0_wearer_4 f_X0_37 sh_9 rfl (hR.nc) ?_
      refine r_icmp_ge (pc := 7) (tgt := 28) h dX0_wearer_7 (by decide) (fun c7 => absurd c7 (nI_ge hi (by omega))) (fun c7 => ?_)
      refine r_aload_n (pc := 10) h dX0_wearer_10 rfl ?_
      refine r_getR (pc := 11) h dX0_wearer_11 f_X0_30 sh_9 rfl ?_
      refine r_iload_n (pc := 14) h dX0_wearer_14 rfl ?_
      refine r_ialoadE (pc := 15) h dX0_wearer_15 sh_16 (hR.wo hi) ?_
      refine r_iload_n (pc := 16) h dX0_wearer_16 rfl ?_
      refine r_icmp_ne (pc := 17) (tgt := 22) h dX0_wearer_17 (by decide) (fun c17 => ?_) (fun c17 => ?_)
      · refine r_iinc (pc := 22) (ls2 := [_, _, _]) h dX0_wearer_22 rfl (ic1 _) rfl ?_
        refine r_goto (pc := 25) (tgt := 2) h dX0_wearer_25 (by decide) ?_
        exact ih (i + 1) (by omega) (by rw [hw, gfind, if_neg (by simpa using fun q => c17 ((wz_eq hw6 hs).mpr q))])
      · refine r_iload_n (pc := 20) h dX0_wearer_20 rfl ?_
        refine r_ri t (pc := 21) dX0_wearer_21 rfl ?_
        exact ⟨by rw [hw, gfind, if_pos (by simpa using (wz_eq hw6 hs).mp c17)]; rfl, rfl⟩
  refine r_iconst (pc := 0) h dX0_wearer_0 ci_0 ?_
  refine r_istore_n (pc := 1) (ls2 := [_, _, _]) h dX0_wearer_1 (Nat.le_of_ble_eq_true rfl) rfl ?_
  exact loop (c 7 1) 0 (by omega) rfl
set_option maxRecDepth 100000 in
set_option maxHeartbeats 4000000 in
theorem c_X0_coversWith_9 {g : gG} {c : gCt} (hR : Rx9 g c) (ho : gok c) {s r : Nat} (hs : s < c 7 0) (hr : r ≤ 9) : gCi mX0_coversWith [.ref 9, .int (nI s), .int (nI r)] g (fun x g1 => x = nI (covN (c 0 s) (c 1 s) r) ∧ g1 = g) := by
  refine gCi_of (own := RX0) (ls0 := [.ref 9, .int (nI s), .int (nI r), .null, .null]) ⟨rfl, pl_X0⟩ rfl (Nat.le_of_ble_eq_true rfl) (fun G (h : gR RX0 cX0_coversWith 0 0 G) (t : gTi cX0_coversWith .int _ G) => ?_)
  have hk := ho.2.2.1 s hs
  refine r_aload_n (pc := 0) h dX0_coversWith_0 rfl ?_
  refine r_getR (pc := 1) h dX0_coversWith_1 f_X0_15 sh_9 rfl ?_
  refine r_iload_n (pc := 4) h dX0_coversWith_4 rfl ?_
  refine r_ialoadE (pc := 5) h dX0_coversWith_5 sh_11 (hR.fg hs) ?_
  refine r_iconst (pc := 6) h dX0_coversWith_6 ci_4 ?_
  refine r_iadd (pc := 7) h dX0_coversWith_7 ?_
  refine r_iload_n (pc := 8) h dX0_coversWith_8 rfl ?_
  refine r_isub (pc := 9) h dX0_coversWith_9 ?_
  refine r_istore_n (pc := 10) (ls2 := [_, _, _, _, _]) h dX0_coversWith_10 (Nat.le_of_ble_eq_true rfl) rfl ?_
  refine r_iload_n (pc := 11) h dX0_coversWith_11 rfl ?_
  refine r_if_ge (pc := 12) (tgt := 17) h dX0_coversWith_12 (by decide) (fun c12 => ?_) (fun c12 => ?_)
  · refine r_iload_n (pc := 17) h dX0_coversWith_17 rfl ?_
    refine r_gets (q := 101) (pc := 18) h dX0_coversWith_18 (by decide) (Or.inl ⟨rfl, rfl⟩) ?_
    refine r_aload_n (pc := 21) h dX0_coversWith_21 rfl ?_
    refine r_getR (pc := 22) h dX0_coversWith_22 f_X0_9 sh_9 rfl ?_
    refine r_iload_n (pc := 25) h dX0_coversWith_25 rfl ?_
    refine r_ialoadE (pc := 26) h dX0_coversWith_26 sh_10 (hR.kd hs) ?_
    refine r_tabldE (pc := 27) h dX0_coversWith_27 (by decide) (tabE hk.1) ?_
    refine r_imul (pc := 28) h dX0_coversWith_28 ?_
    refine r_iconst (pc := 29) h dX0_coversWith_29 ci_2 ?_
    refine r_idiv (pc := 30) h dX0_coversWith_30 (by decide) ?_
    refine r_gets (q := 102) (pc := 31) h dX0_coversWith_31 (by decide) (Or.inl ⟨rfl, rfl⟩) ?_
    refine r_aload_n (pc := 34) h dX0_coversWith_34 rfl ?_
    refine r_getR (pc := 35) h dX0_coversWith_35 f_X0_9 sh_9 rfl ?_
    refine r_iload_n (pc := 38) h dX0_coversWith_38 rfl ?_
    refine r_ialoadE (pc := 39) h dX0_coversWith_39 sh_10 (hR.kd hs) ?_
    refine r_tabldE (pc := 40) h dX0_coversWith_40 (by decide) (tabE hk.1) ?_
    refine r_iadd (pc := 41) h dX0_coversWith_41 ?_
    refine r_istore (pc := 42) (ls2 := [_, _, _, _, _]) h dX0_coversWith_42 (Nat.le_of_ble_eq_true rfl) rfl ?_
    refine r_iload (pc := 44) h dX0_coversWith_44 rfl ?_
    refine r_if_ge (pc := 46) (tgt := 53) h dX0_coversWith_46 (by decide) (fun c46 => ?_) (fun c46 => ?_)
    · refine r_iload (pc := 53) h dX0_coversWith_53 rfl ?_
      refine r_ri t (pc := 55) dX0_coversWith_55 rfl ?_
      have e := covL _ hk.1 (c 1 s) (by omega) r (by omega)
      first
        | (rw [if_pos c12, if_pos c46] at e; exact ⟨e, rfl⟩)
        | (rw [if_pos c12, if_neg c46] at e; exact ⟨e, rfl⟩)
        | (rw [if_neg c12, if_pos c46] at e; exact ⟨e, rfl⟩)
        | (rw [if_neg c12, if_neg c46] at e; exact ⟨e, rfl⟩)
    · refine r_iconst (pc := 49) h dX0_coversWith_49 ci_0 ?_
      refine r_goto (pc := 50) (tgt := 55) h dX0_coversWith_50 (by decide) ?_
      refine r_ri t (pc := 55) dX0_coversWith_55 rfl ?_
      have e := covL _ hk.1 (c 1 s) (by omega) r (by omega)
      first
        | (rw [if_pos c12, if_pos c46] at e; exact ⟨e, rfl⟩)
        | (rw [if_pos c12, if_neg c46] at e; exact ⟨e, rfl⟩)
        | (rw [if_neg c12, if_pos c46] at e; exact ⟨e, rfl⟩)
        | (rw [if_neg c12, if_neg c46] at e; exact ⟨e, rfl⟩)
  · refine r_iconst (pc := 15) h dX0_coversWith_15 ci_0 ?_
    refine r_istore_n (pc := 16) (ls2 := [_, _, _, _, _]) h dX0_coversWith_16 (Nat.le_of_ble_eq_true rfl) rfl ?_
    refine r_iload_n (pc := 17) h dX0_coversWith_17 rfl ?_
    refine r_gets (q := 101) (pc := 18) h dX0_coversWith_18 (by decide) (Or.inl ⟨rfl, rfl⟩) ?_
    refine r_aload_n (pc := 21) h dX0_coversWith_21 rfl ?_
    refine r_getR (pc := 22) h dX0_coversWith_22 f_X0_9 sh_9 rfl ?_
    refine r_iload_n (pc := 25) h dX0_coversWith_25 rfl ?_
    refine r_ialoadE (pc := 26) h dX0_coversWith_26 sh_10 (hR.kd hs) ?_
    refine r_tabldE (pc := 27) h dX0_coversWith_27 (by decide) (tabE hk.1) ?_
    refine r_imul (pc := 28) h dX0_coversWith_28 ?_
    refine r_iconst (pc := 29) h dX0_coversWith_29 ci_2 ?_
    refine r_idiv (pc := 30) h dX0_coversWith_30 (by decide) ?_
    refine r_gets (q := 102) (pc := 31) h dX0_coversWith_31 (by decide) (Or.inl ⟨rfl, rfl⟩) ?_
    refine r_aload_n (pc := 34) h dX0_coversWith_34 rfl ?_
    refine r_getR (pc := 35) h dX0_coversWith_35 f_X0_9 sh_9 rfl ?_
    refine r_iload_n (pc := 38) h dX0_coversWith_38 rfl ?_
    refine r_ialoadE (pc := 39) h dX0_coversWith_39 sh_10 (hR.kd hs) ?_
    refine r_tabldE (pc := 40) h dX0_coversWith_40 (by decide) (tabE hk.1) ?_
    refine r_iadd (pc := 41) h dX0_coversWith_41 ?_
    refine r_istore (pc := 42) (ls2 := [_, _, _, _, _]) h dX0_coversWith_42 (Nat.le_of_ble_eq_true rfl) rfl ?_
    refine r_iload (pc := 44) h dX0_coversWith_44 rfl ?_
    refine r_if_ge (pc := 46) (tgt := 53) h dX0_coversWith_46 (by decide) (fun c46 => ?_) (fun c46 => ?_)
    · refine r_iload (pc := 53) h dX0_coversWith_53 rfl ?_
      refine r_ri t (pc := 55) dX0_coversWith_55 rfl ?_
      have e := covL _ hk.1 (c 1 s) (by omega) r (by omega)
      first
        | (rw [if_pos c12, if_pos c46] at e; exact ⟨e, rfl⟩)
        | (rw [if_pos c12, if_neg c46] at e; exact ⟨e, rfl⟩)
        | (rw [if_neg c12, if_pos c46] at e; exact ⟨e, rfl⟩)
        | (rw [if_neg c12, if_neg c46] at e; exact ⟨e, rfl⟩)
    · refine r_iconst (pc := 49) h dX0_coversWith_49 ci_0 ?_
      refine r_goto (pc := 50) (tgt := 55) h dX0_coversWith_50 (by decide) ?_
      refine r_ri t (pc := 55) dX0_coversWith_55 rfl ?_
      have e := covL _ hk.1 (c 1 s) (by omega) r (by omega)
      first
        | (rw [if_pos c12, if_pos c46] at e; exact ⟨e, rfl⟩)
        | (rw [if_pos c12, if_neg c46] at e; exact ⟨e, rfl⟩)
        | (rw [if_neg c12, if_pos c46] at e; exact ⟨e, rfl⟩)
        | (rw [if_neg c12, if_neg c46] at e; exact ⟨e, rfl⟩)
set_option maxRecDepth 100000 in
set_option maxHeartbeats 4000000 in
theorem c_X0_covers_9 {g : gG} {c : gCt} (hR : Rx9 g c) (ho : gok c) {s : Nat} (hs : s < c 7 0) : gCi mX0_covers [.ref 9, .int (nI s)] g (fun x g1 => x = nI (cvr c s) ∧ g1 = g) := by
  refine gCi_of (own := RX0) (ls0 := [.ref 9, .int (nI s)]) ⟨rfl, pl_X0⟩ rfl (Nat.le_of_ble_eq_true rfl) (fun G (h : gR RX0 cX0_covers 1 40 G) (t : gTi cX0_covers .int _ G) => ?_)
  refine r_aload_n (pc := 0) h dX0_covers_0 rfl ?_
  refine r_iload_n (pc := 1) h dX0_covers_1 rfl ?_
  refine r_aload_n (pc := 2) h dX0_covers_2 rfl ?_
  refine r_getR (pc := 3) h dX0_covers_3 f_X0_18 sh_9 rfl ?_
  refine r_iload_n (pc := 6) h dX0_covers_6 rfl ?_
  refine r_ialoadE (pc := 7) h dX0_covers_7 sh_12 (hR.ru hs) ?_
  refine r_callVi (pc := 8) (As := [_, _]) h dX0_covers_8 k_X0_56 gc_9 rfl ⟨Nat.le_of_ble_eq_true rfl, Nat.le_of_ble_eq_true rfl, Nat.le_of_ble_eq_true rfl⟩ (c_X0_coversWith_9 hR ho hs (ho.2.2.1 s hs).2.2) (fun x_8 g1 hq => ?_)
  obtain ⟨rfl, rfl⟩ := hq
  refine r_ri t (pc := 11) dX0_covers_11 rfl ?_
  exact ⟨rfl, rfl⟩
set_option maxRecDepth 100000 in
set_option maxHeartbeats 4000000 in
theorem c_X0_chafe_9 {g : gG} {c : gCt} (hR : Rx9 g c) (ho : gok c) {s d : Nat} (hs : s < c 7 0) (hd : d < 2147483648) : gCi mX0_chafe [.ref 9, .int (nI s), .int (nI d)] g (fun x g1 => x = nI (chaN (c 0 s) (c 2 s) d) ∧ g1 = g) := by
  refine gCi_of (own := RX0) (ls0 := [.ref 9, .int (nI s), .int (nI d), .null]) ⟨rfl, pl_X0⟩ rfl (Nat.le_of_ble_eq_true rfl) (fun G (h : gR RX0 cX0_chafe 0 0 G) (t : gTi cX0_chafe .int _ G) => ?_)
  have hk := ho.2.2.1 s hs
  refine r_gets (q := 103) (pc := 0) h dX0_chafe_0 (by decide) (Or.inl ⟨rfl, rfl⟩) ?_
  refine r_aload_n (pc := 3) h dX0_chafe_3 rfl ?_
  refine r_getR (pc := 4) h dX0_chafe_4 f_X0_9 sh_9 rfl ?_
  refine r_iload_n (pc := 7) h dX0_chafe_7 rfl ?_
  refine r_ialoadE (pc := 8) h dX0_chafe_8 sh_10 (hR.kd hs) ?_
  refine r_tabldE (pc := 9) h dX0_chafe_9 (by decide) (tabE hk.1) ?_
  refine r_istore_n (pc := 10) (ls2 := [_, _, _, _]) h dX0_chafe_10 (Nat.le_of_ble_eq_true rfl) rfl ?_
  refine r_aload_n (pc := 11) h dX0_chafe_11 rfl ?_
  refine r_getR (pc := 12) h dX0_chafe_12 f_X0_9 sh_9 rfl ?_
  refine r_iload_n (pc := 15) h dX0_chafe_15 rfl ?_
  refine r_ialoadE (pc := 16) h dX0_chafe_16 sh_10 (hR.kd hs) ?_
  refine r_iconst (pc := 17) h dX0_chafe_17 ci_4 ?_
  refine r_icmp_ne (pc := 18) (tgt := 32) h dX0_chafe_18 (by decide) (fun c18 => ?_) (fun c18 => ?_)
  · refine r_aload_n (pc := 32) h dX0_chafe_32 rfl ?_
    refine r_getR (pc := 33) h dX0_chafe_33 f_X0_9 sh_9 rfl ?_
    refine r_iload_n (pc := 36) h dX0_chafe_36 rfl ?_
    refine r_ialoadE (pc := 37) h dX0_chafe_37 sh_10 (hR.kd hs) ?_
    refine r_iconst (pc := 38) h dX0_chafe_38 ci_5 ?_
    refine r_icmp_ne (pc := 39) (tgt := 50) h dX0_chafe_39 (by decide) (fun c39 => ?_) (fun c39 => ?_)
    · refine r_iload_n (pc := 50) h dX0_chafe_50 rfl ?_
      refine r_ri t (pc := 51) dX0_chafe_51 rfl ?_
      have n4 : ¬ c 0 s = 4 := fun q => c18 (by rw [q])
      first
        | (have e5 : c 0 s = 5 := (nI_eq (by omega) (by decide)).mp c39
           have e := (chaL _ hk.1).2.1 e5
           refine ⟨?_, rfl⟩
           rw [e, pk_rem (by omega) (by decide) (by decide), nI_add, e5]
           rfl)
        | (have n5 : ¬ c 0 s = 5 := fun q => c39 (by rw [q])
           have e := (chaL _ hk.1).2.2 n4 n5 (c 2 s) (by omega) 0 (by decide)
           refine ⟨?_, rfl⟩
           rw [e]
           unfold chaN
           simp only [n4, if_false]
           have := hk.1
           repeat' split
           all_goals first | rfl | omega)
    · refine r_iload_n (pc := 42) h dX0_chafe_42 rfl ?_
      refine r_iload_n (pc := 43) h dX0_chafe_43 rfl ?_
      refine r_iconst (pc := 44) h dX0_chafe_44 ci_2 ?_
      refine r_irem (pc := 45) h dX0_chafe_45 (by decide) ?_
      refine r_iadd (pc := 46) h dX0_chafe_46 ?_
      refine r_goto (pc := 47) (tgt := 51) h dX0_chafe_47 (by decide) ?_
      refine r_ri t (pc := 51) dX0_chafe_51 rfl ?_
      have n4 : ¬ c 0 s = 4 := fun q => c18 (by rw [q])
      first
        | (have e5 : c 0 s = 5 := (nI_eq (by omega) (by decide)).mp c39
           have e := (chaL _ hk.1).2.1 e5
           refine ⟨?_, rfl⟩
           rw [e, pk_rem (by omega) (by decide) (by decide), nI_add, e5]
           rfl)
        | (have n5 : ¬ c 0 s = 5 := fun q => c39 (by rw [q])
           have e := (chaL _ hk.1).2.2 n4 n5 (c 2 s) (by omega) 0 (by decide)
           refine ⟨?_, rfl⟩
           rw [e]
           unfold chaN
           simp only [n4, if_false]
           have := hk.1
           repeat' split
           all_goals first | rfl | omega)
  · refine r_iload_n (pc := 21) h dX0_chafe_21 rfl ?_
    refine r_aload_n (pc := 22) h dX0_chafe_22 rfl ?_
    refine r_getR (pc := 23) h dX0_chafe_23 f_X0_18 sh_9 rfl ?_
    refine r_iload_n (pc := 26) h dX0_chafe_26 rfl ?_
    refine r_ialoadE (pc := 27) h dX0_chafe_27 sh_12 (hR.ru hs) ?_
    refine r_iconst (pc := 28) h dX0_chafe_28 ci_3 ?_
    refine r_idiv (pc := 29) h dX0_chafe_29 (by decide) ?_
    refine r_iadd (pc := 30) h dX0_chafe_30 ?_
    refine r_ri t (pc := 31) dX0_chafe_31 rfl ?_
    have e4 : c 0 s = 4 := (nI_eq (by omega) (by decide)).mp c18
    have e := (chaL _ hk.1).1 e4
    refine ⟨?_, rfl⟩
    rw [e, pk_div (by omega) (by decide) (by decide), nI_add, e4]
    rfl
set_option maxRecDepth 100000 in
set_option maxHeartbeats 4000000 in
theorem c_X0_braveryCovered_9 {g : gG} {c : gCt} (hR : Rx9 g c) (ho : gok c) {i cov : Nat} (hi : i < c 7 1) : gCi mX0_braveryCovered [.ref 9, .int (nI i), .int (nI cov)] g (fun x g1 => x = brI c i cov ∧ g1 = g) := by
  refine gCi_of (own := RX0) (ls0 := [.ref 9, .int (nI i), .int (nI cov)]) ⟨rfl, pl_X0⟩ rfl (Nat.le_of_ble_eq_true rfl) (fun G (h : gR RX0 cX0_braveryCovered 0 0 G) (t : gTi cX0_braveryCovered .int _ G) => ?_)
  have hk := ho.2.2.2 i hi
  refine r_iload_n (pc := 0) h dX0_braveryCovered_0 rfl ?_
  refine r_aload_n (pc := 1) h dX0_braveryCovered_1 rfl ?_
  refine r_getR (pc := 2) h dX0_braveryCovered_2 f_X0_27 sh_9 rfl ?_
  refine r_iload_n (pc := 5) h dX0_braveryCovered_5 rfl ?_
  refine r_ialoadE (pc := 6) h dX0_braveryCovered_6 sh_15 (hR.sa hi) ?_
  refine r_iadd (pc := 7) h dX0_braveryCovered_7 ?_
  refine r_aload_n (pc := 8) h dX0_braveryCovered_8 rfl ?_
  refine r_getR (pc := 9) h dX0_braveryCovered_9 f_X0_21 sh_9 rfl ?_
  refine r_iload_n (pc := 12) h dX0_braveryCovered_12 rfl ?_
  refine r_ialoadE (pc := 13) h dX0_braveryCovered_13 sh_13 (hR.fe hi) ?_
  refine r_isub (pc := 14) h dX0_braveryCovered_14 ?_
  refine r_aload_n (pc := 15) h dX0_braveryCovered_15 rfl ?_
  refine r_getR (pc := 16) h dX0_braveryCovered_16 f_X0_24 sh_9 rfl ?_
  refine r_iload_n (pc := 19) h dX0_braveryCovered_19 rfl ?_
  refine r_ialoadE (pc := 20) h dX0_braveryCovered_20 sh_14 (hR.so hi) ?_
  refine r_iconst (pc := 21) h dX0_braveryCovered_21 ci_3 ?_
  refine r_idiv (pc := 22) h dX0_braveryCovered_22 (by decide) ?_
  refine r_isub (pc := 23) h dX0_braveryCovered_23 ?_
  refine r_ri t (pc := 24) dX0_braveryCovered_24 rfl ?_
  exact ⟨by rw [pk_div (by omega) (by decide) (by decide)]; rfl, rfl⟩
set_option maxRecDepth 100000 in
set_option maxHeartbeats 4000000 in
theorem c_X0_bravery_9 {g : gG} {c : gCt} (hR : Rx9 g c) (ho : gok c) {i : Nat} (hi : i < c 7 1) : gCi mX0_bravery [.ref 9, .int (nI i)] g (fun x g1 => x = brI c i (covOf c i) ∧ g1 = g) := by
  refine gCi_of (own := RX0) (ls0 := [.ref 9, .int (nI i), .null]) ⟨rfl, pl_X0⟩ rfl (Nat.le_of_ble_eq_true rfl) (fun G (h : gR RX0 cX0_bravery 1 40 G) (t : gTi cX0_bravery .int _ G) => ?_)
  have hk := ho.2.2.2 i hi
  have hn6 := hR.n6
  refine r_aload_n (pc := 0) h dX0_bravery_0 rfl ?_
  refine r_getR (pc := 1) h dX0_bravery_1 f_X0_30 sh_9 rfl ?_
  refine r_iload_n (pc := 4) h dX0_bravery_4 rfl ?_
  refine r_ialoadE (pc := 5) h dX0_bravery_5 sh_16 (hR.wo hi) ?_
  refine r_istore_n (pc := 6) (ls2 := [_, _, _]) h dX0_bravery_6 (Nat.le_of_ble_eq_true rfl) rfl ?_
  refine r_aload_n (pc := 7) h dX0_bravery_7 rfl ?_
  refine r_iload_n (pc := 8) h dX0_bravery_8 rfl ?_
  refine r_iload_n (pc := 9) h dX0_bravery_9 rfl ?_
  refine r_bipush (pc := 10) h dX0_bravery_10 cb_m9 ?_
  refine r_icmp_ne (pc := 12) (tgt := 19) h dX0_bravery_12 (by decide) (fun c12 => ?_) (fun c12 => ?_)
  · obtain ⟨s, e6⟩ : ∃ s, c 6 i = s + 1 := ⟨c 6 i - 1, by have n0 : ¬ c 6 i = 0 := fun q => c12 ((wz_none (by omega)).mpr q); omega⟩
    have hs : s < c 7 0 := by omega
    rw [show wz (c 6 i) = nI s by rw [e6]; exact wz_s s]
    refine r_aload_n (pc := 19) h dX0_bravery_19 rfl ?_
    refine r_iload_n (pc := 20) h dX0_bravery_20 rfl ?_
    refine r_aload_n (pc := 21) h dX0_bravery_21 rfl ?_
    refine r_getR (pc := 22) h dX0_bravery_22 f_X0_18 sh_9 rfl ?_
    refine r_iload_n (pc := 25) h dX0_bravery_25 rfl ?_
    refine r_ialoadE (pc := 26) h dX0_bravery_26 sh_12 (hR.ru hs) ?_
    refine r_callVi (pc := 27) (As := [_, _]) h dX0_bravery_27 k_X0_56 gc_9 rfl ⟨Nat.le_of_ble_eq_true rfl, Nat.le_of_ble_eq_true rfl, Nat.le_of_ble_eq_true rfl⟩ (c_X0_coversWith_9 hR ho hs (ho.2.2.1 s hs).2.2) (fun x_27 g1 hq => ?_)
    obtain ⟨rfl, rfl⟩ := hq
    refine r_callVi (pc := 30) (As := [_, _]) h dX0_bravery_30 k_X0_69 gc_9 rfl ⟨Nat.le_of_ble_eq_true rfl, Nat.le_of_ble_eq_true rfl, Nat.le_of_ble_eq_true rfl⟩ (c_X0_braveryCovered_9 hR ho hi) (fun x_30 g1 hq => ?_)
    obtain ⟨rfl, rfl⟩ := hq
    refine r_ri t (pc := 33) dX0_bravery_33 rfl ?_
    exact ⟨by simp [covOf, cvr, e6], rfl⟩
  · have e6 : c 6 i = 0 := (wz_none (by omega)).mp c12
    refine r_iconst (pc := 15) h dX0_bravery_15 ci_0 ?_
    refine r_goto (pc := 16) (tgt := 30) h dX0_bravery_16 (by decide) ?_
    refine r_callVi (pc := 30) (As := [_, _]) h dX0_bravery_30 k_X0_69 gc_9 rfl ⟨Nat.le_of_ble_eq_true rfl, Nat.le_of_ble_eq_true rfl, Nat.le_of_ble_eq_true rfl⟩ (c_X0_braveryCovered_9 hR ho hi) (fun x_30 g1 hq => ?_)
    obtain ⟨rfl, rfl⟩ := hq
    refine r_ri t (pc := 33) dX0_bravery_33 rfl ?_
    exact ⟨by simp [covOf, cvr, e6], rfl⟩
set_option maxRecDepth 100000 in
set_option maxHeartbeats 4000000 in
theorem c_X0_needs_9 {g : gG} {c : gCt} (hR : Rx9 g c) {i : Nat} (hi : i < c 7 1) : gCi mX0_needs [.ref 9, .int (nI i)] g (fun x g1 => x = neI c i ∧ g1 = g) := by
  refine gCi_of (own := RX0) (ls0 := [.ref 9, .int (nI i)]) ⟨rfl, pl_X0⟩ rfl (Nat.le_of_ble_eq_true rfl) (fun G (h : gR RX0 cX0_needs 0 0 G) (t : gTi cX0_needs .int _ G) => ?_)
  refine r_iconst (pc := 0) h dX0_needs_0 ci_2 ?_
  refine r_aload_n (pc := 1) h dX0_needs_1 rfl ?_
  refine r_getR (pc := 2) h dX0_needs_2 f_X0_27 sh_9 rfl ?_
  refine r_iload_n (pc := 5) h dX0_needs_5 rfl ?_
  refine r_ialoadE (pc := 6) h dX0_needs_6 sh_15 (hR.sa hi) ?_
  refine r_imul (pc := 7) h dX0_needs_7 ?_
  refine r_iconst (pc := 8) h dX0_needs_8 ci_2 ?_
  refine r_iadd (pc := 9) h dX0_needs_9 ?_
  refine r_bipush (pc := 10) h dX0_needs_10 cb_6 ?_
  refine r_isub (pc := 12) h dX0_needs_12 ?_
  refine r_ri t (pc := 13) dX0_needs_13 rfl ?_
  exact ⟨rfl, rfl⟩
set_option maxRecDepth 100000 in
set_option maxHeartbeats 4000000 in
theorem c_X0_can_9 {g : gG} {c : gCt} (hR : Rx9 g c) (ho : gok c) {i : Nat} (hi : i < c 7 1) : gCi mX0_can [.ref 9, .int (nI i)] g (fun x g1 => x = bI (canB c i (covOf c i)) ∧ g1 = g) := by
  refine gCi_of (own := RX0) (ls0 := [.ref 9, .int (nI i)]) ⟨rfl, pl_X0⟩ rfl (Nat.le_of_ble_eq_true rfl) (fun G (h : gR RX0 cX0_can 2 80 G) (t : gTi cX0_can .boolean _ G) => ?_)
  have hk := ho.2.2.2 i hi
  refine r_aload_n (pc := 0) h dX0_can_0 rfl ?_
  refine r_getR (pc := 1) h dX0_can_1 f_X0_27 sh_9 rfl ?_
  refine r_iload_n (pc := 4) h dX0_can_4 rfl ?_
  refine r_ialoadE (pc := 5) h dX0_can_5 sh_15 (hR.sa hi) ?_
  refine r_bipush (pc := 6) h dX0_can_6 cb_6 ?_
  refine r_icmp_ge (pc := 8) (tgt := 28) h dX0_can_8 (by decide) (fun c8 => ?_) (fun c8 => ?_)
  · refine r_iconst (pc := 28) h dX0_can_28 ci_0 ?_
    refine r_ri t (pc := 29) dX0_can_29 (by decide) ?_
    first
      | (have q6 : c 5 i < 6 := Nat.lt_of_not_le fun q => c8 (nI_le q (by omega))
         have q := (canB_lt q6 hk.1 hk.2.1 (covOf_le ho hi)).mp c21
         exact ⟨by rw [q]; rfl, rfl⟩)
      | (have q6 : c 5 i < 6 := Nat.lt_of_not_le fun q => c8 (nI_le q (by omega))
         have q := mt (canB_lt q6 hk.1 hk.2.1 (covOf_le ho hi)).mpr c21
         have q2 : canB c i (covOf c i) = true := by simpa using q
         exact ⟨by rw [q2]; rfl, rfl⟩)
      | (have q6 : 6 ≤ c 5 i := (nI_leI (by decide) (by omega)).mp c8
         exact ⟨by rw [show canB c i (covOf c i) = false by simp [canB]; omega]; rfl, rfl⟩)
  · refine r_aload_n (pc := 11) h dX0_can_11 rfl ?_
    refine r_iload_n (pc := 12) h dX0_can_12 rfl ?_
    refine r_callVi (pc := 13) (As := [_]) h dX0_can_13 k_X0_72 gc_9 rfl ⟨Nat.le_of_ble_eq_true rfl, Nat.le_of_ble_eq_true rfl, Nat.le_of_ble_eq_true rfl⟩ (c_X0_bravery_9 hR ho hi) (fun x_13 g1 hq => ?_)
    obtain ⟨rfl, rfl⟩ := hq
    refine r_aload_n (pc := 16) h dX0_can_16 rfl ?_
    refine r_iload_n (pc := 17) h dX0_can_17 rfl ?_
    refine r_callVi (pc := 18) (As := [_]) h dX0_can_18 k_X0_75 gc_9 rfl ⟨Nat.le_of_ble_eq_true rfl, Nat.le_of_ble_eq_true rfl, Nat.le_of_ble_eq_true rfl⟩ (c_X0_needs_9 hR hi) (fun x_18 g1 hq => ?_)
    obtain ⟨rfl, rfl⟩ := hq
    refine r_icmp_lt (pc := 21) (tgt := 28) h dX0_can_21 (by decide) (fun c21 => ?_) (fun c21 => ?_)
    · refine r_iconst (pc := 28) h dX0_can_28 ci_0 ?_
      refine r_ri t (pc := 29) dX0_can_29 (by decide) ?_
      first
        | (have q6 : c 5 i < 6 := Nat.lt_of_not_le fun q => c8 (nI_le q (by omega))
           have q := (canB_lt q6 hk.1 hk.2.1 (covOf_le ho hi)).mp c21
           exact ⟨by rw [q]; rfl, rfl⟩)
        | (have q6 : c 5 i < 6 := Nat.lt_of_not_le fun q => c8 (nI_le q (by omega))
           have q := mt (canB_lt q6 hk.1 hk.2.1 (covOf_le ho hi)).mpr c21
           have q2 : canB c i (covOf c i) = true := by simpa using q
           exact ⟨by rw [q2]; rfl, rfl⟩)
        | (have q6 : 6 ≤ c 5 i := (nI_leI (by decide) (by omega)).mp c8
           exact ⟨by rw [show canB c i (covOf c i) = false by simp [canB]; omega]; rfl, rfl⟩)
    · refine r_iconst (pc := 24) h dX0_can_24 ci_1 ?_
      refine r_goto (pc := 25) (tgt := 29) h dX0_can_25 (by decide) ?_
      refine r_ri t (pc := 29) dX0_can_29 (by decide) ?_
      first
        | (have q6 : c 5 i < 6 := Nat.lt_of_not_le fun q => c8 (nI_le q (by omega))
           have q := (canB_lt q6 hk.1 hk.2.1 (covOf_le ho hi)).mp c21
           exact ⟨by rw [q]; rfl, rfl⟩)
        | (have q6 : c 5 i < 6 := Nat.lt_of_not_le fun q => c8 (nI_le q (by omega))
           have q := mt (canB_lt q6 hk.1 hk.2.1 (covOf_le ho hi)).mpr c21
           have q2 : canB c i (covOf c i) = true := by simpa using q
           exact ⟨by rw [q2]; rfl, rfl⟩)
        | (have q6 : 6 ≤ c 5 i := (nI_leI (by decide) (by omega)).mp c8
           exact ⟨by rw [show canB c i (covOf c i) = false by simp [canB]; omega]; rfl, rfl⟩)
set_option maxRecDepth 100000 in
set_option maxHeartbeats 4000000 in
theorem c_X0_canCovered_9 {g : gG} {c : gCt} (hR : Rx9 g c) (ho : gok c) {i cov : Nat} (hi : i < c 7 1) (hcov : cov ≤ 31) : gCi mX0_canCovered [.ref 9, .int (nI i), .int (nI cov)] g (fun x g1 => x = bI (canB c i cov) ∧ g1 = g) := by
  refine gCi_of (own := RX0) (ls0 := [.ref 9, .int (nI i), .int (nI cov)]) ⟨rfl, pl_X0⟩ rfl (Nat.le_of_ble_eq_true rfl) (fun G (h : gR RX0 cX0_canCovered 1 40 G) (t : gTi cX0_canCovered .boolean _ G) => ?_)
  have hk := ho.2.2.2 i hi
  refine r_aload_n (pc := 0) h dX0_canCovered_0 rfl ?_
  refine r_getR (pc := 1) h dX0_canCovered_1 f_X0_27 sh_9 rfl ?_
  refine r_iload_n (pc := 4) h dX0_canCovered_4 rfl ?_
  refine r_ialoadE (pc := 5) h dX0_canCovered_5 sh_15 (hR.sa hi) ?_
  refine r_bipush (pc := 6) h dX0_canCovered_6 cb_6 ?_
  refine r_icmp_ge (pc := 8) (tgt := 29) h dX0_canCovered_8 (by decide) (fun c8 => ?_) (fun c8 => ?_)
  · refine r_iconst (pc := 29) h dX0_canCovered_29 ci_0 ?_
    refine r_ri t (pc := 30) dX0_canCovered_30 (by decide) ?_
    first
      | (have q6 : c 5 i < 6 := Nat.lt_of_not_le fun q => c8 (nI_le q (by omega))
         have q := (canB_lt q6 hk.1 hk.2.1 hcov).mp c22
         exact ⟨by rw [q]; rfl, rfl⟩)
      | (have q6 : c 5 i < 6 := Nat.lt_of_not_le fun q => c8 (nI_le q (by omega))
         have q := mt (canB_lt q6 hk.1 hk.2.1 hcov).mpr c22
         have q2 : canB c i cov = true := by simpa using q
         exact ⟨by rw [q2]; rfl, rfl⟩)
      | (have q6 : 6 ≤ c 5 i := (nI_leI (by decide) (by omega)).mp c8
         exact ⟨by rw [show canB c i cov = false by simp [canB]; omega]; rfl, rfl⟩)
  · refine r_aload_n (pc := 11) h dX0_canCovered_11 rfl ?_
    refine r_iload_n (pc := 12) h dX0_canCovered_12 rfl ?_
    refine r_iload_n (pc := 13) h dX0_canCovered_13 rfl ?_
    refine r_callVi (pc := 14) (As := [_, _]) h dX0_canCovered_14 k_X0_69 gc_9 rfl ⟨Nat.le_of_ble_eq_true rfl, Nat.le_of_ble_eq_true rfl, Nat.le_of_ble_eq_true rfl⟩ (c_X0_braveryCovered_9 hR ho hi) (fun x_14 g1 hq => ?_)
    obtain ⟨rfl, rfl⟩ := hq
    refine r_aload_n (pc := 17) h dX0_canCovered_17 rfl ?_
    refine r_iload_n (pc := 18) h dX0_canCovered_18 rfl ?_
    refine r_callVi (pc := 19) (As := [_]) h dX0_canCovered_19 k_X0_75 gc_9 rfl ⟨Nat.le_of_ble_eq_true rfl, Nat.le_of_ble_eq_true rfl, Nat.le_of_ble_eq_true rfl⟩ (c_X0_needs_9 hR hi) (fun x_19 g1 hq => ?_)
    obtain ⟨rfl, rfl⟩ := hq
    refine r_icmp_lt (pc := 22) (tgt := 29) h dX0_canCovered_22 (by decide) (fun c22 => ?_) (fun c22 => ?_)
    · refine r_iconst (pc := 29) h dX0_canCovered_29 ci_0 ?_
      refine r_ri t (pc := 30) dX0_canCovered_30 (by decide) ?_
      first
        | (have q6 : c 5 i < 6 := Nat.lt_of_not_le fun q => c8 (nI_le q (by omega))
           have q := (canB_lt q6 hk.1 hk.2.1 hcov).mp c22
           exact ⟨by rw [q]; rfl, rfl⟩)
        | (have q6 : c 5 i < 6 := Nat.lt_of_not_le fun q => c8 (nI_le q (by omega))
           have q := mt (canB_lt q6 hk.1 hk.2.1 hcov).mpr c22
           have q2 : canB c i cov = true := by simpa using q
           exact ⟨by rw [q2]; rfl, rfl⟩)
        | (have q6 : 6 ≤ c 5 i := (nI_leI (by decide) (by omega)).mp c8
           exact ⟨by rw [show canB c i cov = false by simp [canB]; omega]; rfl, rfl⟩)
    · refine r_iconst (pc := 25) h dX0_canCovered_25 ci_1 ?_
      refine r_goto (pc := 26) (tgt := 30) h dX0_canCovered_26 (by decide) ?_
      refine r_ri t (pc := 30) dX0_canCovered_30 (by decide) ?_
      first
        | (have q6 : c 5 i < 6 := Nat.lt_of_not_le fun q => c8 (nI_le q (by omega))
           have q := (canB_lt q6 hk.1 hk.2.1 hcov).mp c22
           exact ⟨by rw [q]; rfl, rfl⟩)
        | (have q6 : c 5 i < 6 := Nat.lt_of_not_le fun q => c8 (nI_le q (by omega))
           have q := mt (canB_lt q6 hk.1 hk.2.1 hcov).mpr c22
           have q2 : canB c i cov = true := by simpa using q
           exact ⟨by rw [q2]; rfl, rfl⟩)
        | (have q6 : 6 ≤ c 5 i := (nI_leI (by decide) (by omega)).mp c8
           exact ⟨by rw [show canB c i cov = false by simp [canB]; omega]; rfl, rfl⟩)
set_option maxRecDepth 100000 in
set_option maxHeartbeats 4000000 in
theorem c_X0_lacks_9 {g : gG} {c : gCt} (hR : Rx9 g c) (ho : gok c) {i : Nat} (hi : i < c 7 1) : gCi mX0_lacks [.ref 9, .int (nI i)] g (fun x g1 => x = nI (lkN c i) ∧ g1 = g) := by
  refine gCi_of (own := RX0) (ls0 := [.ref 9, .int (nI i)]) ⟨rfl, pl_X0⟩ rfl (Nat.le_of_ble_eq_true rfl) (fun G (h : gR RX0 cX0_lacks 2 80 G) (t : gTi cX0_lacks .int _ G) => ?_)
  have hk := ho.2.2.2 i hi
  refine r_aload_n (pc := 0) h dX0_lacks_0 rfl ?_
  refine r_getR (pc := 1) h dX0_lacks_1 f_X0_27 sh_9 rfl ?_
  refine r_iload_n (pc := 4) h dX0_lacks_4 rfl ?_
  refine r_ialoadE (pc := 5) h dX0_lacks_5 sh_15 (hR.sa hi) ?_
  refine r_bipush (pc := 6) h dX0_lacks_6 cb_6 ?_
  refine r_icmp_lt (pc := 8) (tgt := 15) h dX0_lacks_8 (by decide) (fun c8 => ?_) (fun c8 => ?_)
  · refine r_aload_n (pc := 15) h dX0_lacks_15 rfl ?_
    refine r_iload_n (pc := 16) h dX0_lacks_16 rfl ?_
    refine r_callVi (pc := 17) (As := [_]) h dX0_lacks_17 k_X0_75 gc_9 rfl ⟨Nat.le_of_ble_eq_true rfl, Nat.le_of_ble_eq_true rfl, Nat.le_of_ble_eq_true rfl⟩ (c_X0_needs_9 hR hi) (fun x_17 g1 hq => ?_)
    obtain ⟨rfl, rfl⟩ := hq
    refine r_aload_n (pc := 20) h dX0_lacks_20 rfl ?_
    refine r_iload_n (pc := 21) h dX0_lacks_21 rfl ?_
    refine r_callVi (pc := 22) (As := [_]) h dX0_lacks_22 k_X0_72 gc_9 rfl ⟨Nat.le_of_ble_eq_true rfl, Nat.le_of_ble_eq_true rfl, Nat.le_of_ble_eq_true rfl⟩ (c_X0_bravery_9 hR ho hi) (fun x_22 g1 hq => ?_)
    obtain ⟨rfl, rfl⟩ := hq
    refine r_isub (pc := 25) h dX0_lacks_25 ?_
    refine r_iconst (pc := 26) h dX0_lacks_26 ci_0 ?_
    refine r_mmax (pc := 27) h dX0_lacks_27 k_X0_78 ⟨Nat.le_of_ble_eq_true rfl, Nat.le_of_ble_eq_true rfl⟩ ?_
    refine r_ri t (pc := 30) dX0_lacks_30 rfl ?_
    first
      | (have q6 : c 5 i < 6 := (nI_ltI (by omega) (by decide)).mp c8
         exact ⟨lkN_eq q6 hk.1 hk.2.1 (covOf_le ho hi), rfl⟩)
      | (have q6 : ¬ c 5 i < 6 := fun q => c8 (nI_lt q (by decide))
         exact ⟨by rw [lkN, if_pos (by omega)], rfl⟩)
  · refine r_iconst (pc := 11) h dX0_lacks_11 ci_0 ?_
    refine r_goto (pc := 12) (tgt := 30) h dX0_lacks_12 (by decide) ?_
    refine r_ri t (pc := 30) dX0_lacks_30 rfl ?_
    first
      | (have q6 : c 5 i < 6 := (nI_ltI (by omega) (by decide)).mp c8
         exact ⟨lkN_eq q6 hk.1 hk.2.1 (covOf_le ho hi), rfl⟩)
      | (have q6 : ¬ c 5 i < 6 := fun q => c8 (nI_lt q (by decide))
         exact ⟨by rw [lkN, if_pos (by omega)], rfl⟩)
set_option maxRecDepth 100000 in
set_option maxHeartbeats 4000000 in
theorem c_X0_allSaid_9 {g : gG} {c : gCt} (hR : Rx9 g c) : gCi mX0_allSaid [.ref 9] g (fun x g1 => x = nI (sumN (c 5) (c 7 1)) ∧ g1 = g) := by
  refine gCi_of (own := RX0) (ls0 := [.ref 9, .null, .null]) ⟨rfl, pl_X0⟩ rfl (Nat.le_of_ble_eq_true rfl) (fun G (h : gR RX0 cX0_allSaid 0 0 G) (t : gTi cX0_allSaid .int _ G) => ?_)
  have hn5 := hR.n5
  have loop : ∀ n i a, i + n = c 7 1 → gfold (fun i a => a + c 5 i) n i a = sumN (c 5) (c 7 1) → G 4 [.ref 9, .int (nI a), .int (nI i)] [] g := by
    intro n
    induction n with
    | zero =>
      intro i a hi hw
      refine r_iload_n (pc := 4) h dX0_allSaid_4 rfl ?_
      refine r_aload_n (pc := 5) h dX0_allSaid_5 rfl ?_
      refine r_getE (pc := 6) h dX0_allSaid_6 f_X0_37 sh_9 rfl (hR.nc) ?_
      refine r_icmp_ge (pc := 9) (tgt := 27) h dX0_allSaid_9 (by decide) (fun c9 => ?_) (fun c9 => absurd (nI_le (by omega) (by omega)) c9)
      refine r_iload_n (pc := 27) h dX0_allSaid_27 rfl ?_
      refine r_ri t (pc := 28) dX0_allSaid_28 rfl ?_
      exact ⟨by rw [← hw]; rfl, rfl⟩
    | succ n ih =>
      intro i a hin hw
      have hi : i < c 7 1 := by omega
      refine r_iload_n (pc := 4) h dX0_allSaid_4 rfl ?_
      refine r_aload_n (pc := 5) h dX0_allSaid_5 rfl ?_
      refine r_getE (pc := 6) h dX0_allSaid_6 f_X0_37 sh_9 rfl (hR.nc) ?_
      refine r_icmp_ge (pc := 9) (tgt := 27) h dX0_allSaid_9 (by decide) (fun c9 => absurd c9 (nI_ge hi (by omega))) (fun c9 => ?_)
      refine r_iload_n (pc := 12) h dX0_allSaid_12 rfl ?_
      refine r_aload_n (pc := 13) h dX0_allSaid_13 rfl ?_
      refine r_getR (pc := 14) h dX0_allSaid_14 f_X0_27 sh_9 rfl ?_
      refine r_iload_n (pc := 17) h dX0_allSaid_17 rfl ?_
      refine r_ialoadE (pc := 18) h dX0_allSaid_18 sh_15 (hR.sa hi) ?_
      refine r_iadd (pc := 19) h dX0_allSaid_19 ?_
      refine r_top h (nI_add _ _) ?_
      refine r_istore_n (pc := 20) (ls2 := [_, _, _]) h dX0_allSaid_20 (Nat.le_of_ble_eq_true rfl) rfl ?_
      refine r_iinc (pc := 21) (ls2 := [_, _, _]) h dX0_allSaid_21 rfl (ic1 _) rfl ?_
      refine r_goto (pc := 24) (tgt := 4) h dX0_allSaid_24 (by decide) ?_
      exact ih (i + 1) _ (by omega) hw
  refine r_iconst (pc := 0) h dX0_allSaid_0 ci_0 ?_
  refine r_istore_n (pc := 1) (ls2 := [_, _, _]) h dX0_allSaid_1 (Nat.le_of_ble_eq_true rfl) rfl ?_
  refine r_iconst (pc := 2) h dX0_allSaid_2 ci_0 ?_
  refine r_istore_n (pc := 3) (ls2 := [_, _, _]) h dX0_allSaid_3 (Nat.le_of_ble_eq_true rfl) rfl ?_
  exact loop (c 7 1) 0 0 (by omega) rfl
set_option maxRecDepth 100000 in
set_option maxHeartbeats 4000000 in
theorem c_X0_allFear_9 {g : gG} {c : gCt} (hR : Rx9 g c) : gCi mX0_allFear [.ref 9] g (fun x g1 => x = nI (sumN (c 3) (c 7 1)) ∧ g1 = g) := by
  refine gCi_of (own := RX0) (ls0 := [.ref 9, .null, .null]) ⟨rfl, pl_X0⟩ rfl (Nat.le_of_ble_eq_true rfl) (fun G (h : gR RX0 cX0_allFear 0 0 G) (t : gTi cX0_allFear .int _ G) => ?_)
  have hn5 := hR.n5
  have loop : ∀ n i a, i + n = c 7 1 → gfold (fun i a => a + c 3 i) n i a = sumN (c 3) (c 7 1) → G 4 [.ref 9, .int (nI a), .int (nI i)] [] g := by
    intro n
    induction n with
    | zero =>
      intro i a hi hw
      refine r_iload_n (pc := 4) h dX0_allFear_4 rfl ?_
      refine r_aload_n (pc := 5) h dX0_allFear_5 rfl ?_
      refine r_getE (pc := 6) h dX0_allFear_6 f_X0_37 sh_9 rfl (hR.nc) ?_
      refine r_icmp_ge (pc := 9) (tgt := 27) h dX0_allFear_9 (by decide) (fun c9 => ?_) (fun c9 => absurd (nI_le (by omega) (by omega)) c9)
      refine r_iload_n (pc := 27) h dX0_allFear_27 rfl ?_
      refine r_ri t (pc := 28) dX0_allFear_28 rfl ?_
      exact ⟨by rw [← hw]; rfl, rfl⟩
    | succ n ih =>
      intro i a hin hw
      have hi : i < c 7 1 := by omega
      refine r_iload_n (pc := 4) h dX0_allFear_4 rfl ?_
      refine r_aload_n (pc := 5) h dX0_allFear_5 rfl ?_
      refine r_getE (pc := 6) h dX0_allFear_6 f_X0_37 sh_9 rfl (hR.nc) ?_
      refine r_icmp_ge (pc := 9) (tgt := 27) h dX0_allFear_9 (by decide) (fun c9 => absurd c9 (nI_ge hi (by omega))) (fun c9 => ?_)
      refine r_iload_n (pc := 12) h dX0_allFear_12 rfl ?_
      refine r_aload_n (pc := 13) h dX0_allFear_13 rfl ?_
      refine r_getR (pc := 14) h dX0_allFear_14 f_X0_21 sh_9 rfl ?_
      refine r_iload_n (pc := 17) h dX0_allFear_17 rfl ?_
      refine r_ialoadE (pc := 18) h dX0_allFear_18 sh_13 (hR.fe hi) ?_
      refine r_iadd (pc := 19) h dX0_allFear_19 ?_
      refine r_top h (nI_add _ _) ?_
      refine r_istore_n (pc := 20) (ls2 := [_, _, _]) h dX0_allFear_20 (Nat.le_of_ble_eq_true rfl) rfl ?_
      refine r_iinc (pc := 21) (ls2 := [_, _, _]) h dX0_allFear_21 rfl (ic1 _) rfl ?_
      refine r_goto (pc := 24) (tgt := 4) h dX0_allFear_24 (by decide) ?_
      exact ih (i + 1) _ (by omega) hw
  refine r_iconst (pc := 0) h dX0_allFear_0 ci_0 ?_
  refine r_istore_n (pc := 1) (ls2 := [_, _, _]) h dX0_allFear_1 (Nat.le_of_ble_eq_true rfl) rfl ?_
  refine r_iconst (pc := 2) h dX0_allFear_2 ci_0 ?_
  refine r_istore_n (pc := 3) (ls2 := [_, _, _]) h dX0_allFear_3 (Nat.le_of_ble_eq_true rfl) rfl ?_
  exact loop (c 7 1) 0 0 (by omega) rfl
