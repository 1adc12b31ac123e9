section TX
variable {g : gG} {c ck : gCt} {hk : Bool} {lt : Nat → Nat} {nl : Nat} {rv : Nat → Nat} {nr : Nat} {rf : Nat → Int32}
set_option maxRecDepth 100000 in
set_option maxHeartbeats 4000000 in
theorem c_J0_coder : gCi mJ0_coder_7d493 [.ref 104] g (fun y g1 => y = 0 ∧ g1 = g) := by
  refine gCi_of (own := RJ0) (ls0 := [.ref 104]) ⟨rfl, pl_J0⟩ rfl (Nat.le_of_ble_eq_true rfl) (fun G (h : gR RJ0 cJ0_coder_7d493 0 0 G) (t : gTi cJ0_coder_7d493 .byte _ G) => ?_)
  refine r_getsC (pc := 0) h dJ0_coder_7d493_0 fs_J0_38 ?_
  refine r_if_eq (pc := 3) (tgt := 13) h dJ0_coder_7d493_3 (by decide) (fun c3 => absurd c3 (by decide)) (fun c3 => ?_)
  refine r_aload_n (pc := 6) h dJ0_coder_7d493_6 rfl ?_
  refine r_strC (pc := 7) h dJ0_coder_7d493_7 fs_J0_15 ?_
  refine r_goto (pc := 10) (tgt := 14) h dJ0_coder_7d493_10 (by decide) ?_
  refine r_ri t (pc := 14) dJ0_coder_7d493_14 (by decide) ?_
  exact ⟨rfl, rfl⟩
set_option maxRecDepth 100000 in
set_option maxHeartbeats 4000000 in
theorem c_J0_isLatin1 : gCi mJ0_isLatin1_aae02 [.ref 104] g (fun y g1 => y = nI 1 ∧ g1 = g) := by
  refine gCi_of (own := RJ0) (ls0 := [.ref 104]) ⟨rfl, pl_J0⟩ rfl (Nat.le_of_ble_eq_true rfl) (fun G (h : gR RJ0 cJ0_isLatin1_aae02 0 0 G) (t : gTi cJ0_isLatin1_aae02 .boolean _ G) => ?_)
  refine r_getsC (pc := 0) h dJ0_isLatin1_aae02_0 fs_J0_38 ?_
  refine r_if_eq (pc := 3) (tgt := 17) h dJ0_isLatin1_aae02_3 (by decide) (fun c3 => absurd c3 (by decide)) (fun c3 => ?_)
  refine r_aload_n (pc := 6) h dJ0_isLatin1_aae02_6 rfl ?_
  refine r_strC (pc := 7) h dJ0_isLatin1_aae02_7 fs_J0_15 ?_
  refine r_if_ne (pc := 10) (tgt := 17) h dJ0_isLatin1_aae02_10 (by decide) (fun c10 => absurd (rfl) c10) (fun c10 => ?_)
  refine r_iconst (pc := 13) h dJ0_isLatin1_aae02_13 ci_1 ?_
  refine r_goto (pc := 14) (tgt := 18) h dJ0_isLatin1_aae02_14 (by decide) ?_
  refine r_ri t (pc := 18) dJ0_isLatin1_aae02_18 (by decide) ?_
  exact ⟨rfl, rfl⟩
set_option maxRecDepth 100000 in
set_option maxHeartbeats 4000000 in
theorem c_J0_length : gCi mJ0_length_8abf5 [.ref 104] g (fun y g1 => y = nI 6 ∧ g1 = g) := by
  refine gCi_of (own := RJ0) (ls0 := [.ref 104]) ⟨rfl, pl_J0⟩ rfl (Nat.le_of_ble_eq_true rfl) (fun G (h : gR RJ0 cJ0_length_8abf5 1 40 G) (t : gTi cJ0_length_8abf5 .int _ G) => ?_)
  refine r_aload_n (pc := 0) h dJ0_length_8abf5_0 rfl ?_
  refine r_strV (pc := 1) h dJ0_length_8abf5_1 fs_J0_9 ?_
  refine r_strlen (pc := 4) h dJ0_length_8abf5_4 ?_
  refine r_aload_n (pc := 5) h dJ0_length_8abf5_5 rfl ?_
  refine r_callVi (pc := 6) (As := []) h dJ0_length_8abf5_6 k_J0_335 gc_104 rfl ⟨Nat.le_of_ble_eq_true rfl, Nat.le_of_ble_eq_true rfl, Nat.le_of_ble_eq_true rfl⟩ (c_J0_coder) (fun x_6 g1 hq => ?_)
  obtain ⟨rfl, rfl⟩ := hq
  refine r_ishr (pc := 9) h dJ0_length_8abf5_9 ?_
  refine r_ri t (pc := 10) dJ0_length_8abf5_10 rfl ?_
  exact ⟨by decide, rfl⟩
set_option maxRecDepth 100000 in
set_option maxHeartbeats 4000000 in
theorem c_J1_canEncode {k : Nat} (hk : k ≤ 255) : gCi mJ1_canEncode_9a6ad [.int (nI k)] g (fun y g1 => y = nI 1 ∧ g1 = g) := by
  refine gCi_of (own := RJ1) (ls0 := [.int (nI k)]) ⟨rfl, pl_J1⟩ rfl (Nat.le_of_ble_eq_true rfl) (fun G (h : gR RJ1 cJ1_canEncode_9a6ad 0 0 G) (t : gTi cJ1_canEncode_9a6ad .boolean _ G) => ?_)
  refine r_iload_n (pc := 0) h dJ1_canEncode_9a6ad_0 rfl ?_
  refine r_if_lt (pc := 1) (tgt := 15) h dJ1_canEncode_9a6ad_1 (by decide) (fun c1 => absurd c1 (nI_pos (by omega))) (fun c1 => ?_)
  refine r_iload_n (pc := 4) h dJ1_canEncode_9a6ad_4 rfl ?_
  refine r_sipush (pc := 5) h dJ1_canEncode_9a6ad_5 cs_255 ?_
  refine r_icmp_gt (pc := 8) (tgt := 15) h dJ1_canEncode_9a6ad_8 (by decide) (fun c8 => absurd c8 (nI_nlt hk (by decide))) (fun c8 => ?_)
  refine r_iconst (pc := 11) h dJ1_canEncode_9a6ad_11 ci_1 ?_
  refine r_goto (pc := 12) (tgt := 16) h dJ1_canEncode_9a6ad_12 (by decide) ?_
  refine r_ri t (pc := 16) dJ1_canEncode_9a6ad_16 (by decide) ?_
  exact ⟨rfl, rfl⟩
set_option maxRecDepth 100000 in
set_option maxHeartbeats 4000000 in
theorem c_J1_indexOfChar {k : Nat} (hk : k ≤ 255) : gCi mJ1_indexOfChar_4cfef [.ref 105, .int (nI k), .int (nI 0), .int (nI 6)] g (fun y g1 => y = kdI k ∧ g1 = g) := by
  refine gCi_of (own := RJ1) (ls0 := [.ref 105, .int (nI k), .int (nI 0), .int (nI 6), .null, .null]) ⟨rfl, pl_J1⟩ rfl (Nat.le_of_ble_eq_true rfl) (fun G (h : gR RJ1 cJ1_indexOfChar_4cfef 0 0 G) (t : gTi cJ1_indexOfChar_4cfef .int _ G) => ?_)
  have loop : ∀ m i, i + m = 6 → gfind (fun i => gtab 105 i == (nI k).toInt8.toInt32) m i = gfind (fun i => gtab 105 i == (nI k).toInt8.toInt32) 6 0 → G 7 [.ref 105, .int (nI k), .int (nI 0), .int (nI 6), .int (nI k).toInt8.toInt32, .int (nI i)] [] g := by
    intro m
    induction m with
    | zero =>
      intro i hi hz
      refine r_iload (pc := 7) h dJ1_indexOfChar_4cfef_7 rfl ?_
      refine r_iload_n (pc := 9) h dJ1_indexOfChar_4cfef_9 rfl ?_
      refine r_icmp_ge (pc := 10) (tgt := 31) h dJ1_indexOfChar_4cfef_10 (by decide) (fun c10 => ?_) (fun c10 => absurd (nI_le (by omega) (by omega)) c10)
      refine r_iconst (pc := 31) h dJ1_indexOfChar_4cfef_31 ci_m1 ?_
      refine r_ri t (pc := 32) dJ1_indexOfChar_4cfef_32 rfl ?_
      exact ⟨by rw [← kd_B k (by omega), ← hz]; rfl, rfl⟩
    | succ m ih =>
      intro i hi hz
      refine r_iload (pc := 7) h dJ1_indexOfChar_4cfef_7 rfl ?_
      refine r_iload_n (pc := 9) h dJ1_indexOfChar_4cfef_9 rfl ?_
      refine r_icmp_ge (pc := 10) (tgt := 31) h dJ1_indexOfChar_4cfef_10 (by decide) (fun c10 => absurd c10 (nI_ge (by omega) (by omega))) (fun c10 => ?_)
      refine r_aload_n (pc := 13) h dJ1_indexOfChar_4cfef_13 rfl ?_
      refine r_iload (pc := 14) h dJ1_indexOfChar_4cfef_14 rfl ?_
      refine r_strld (pc := 16) h dJ1_indexOfChar_4cfef_16 (vp_in_nI (show i < 6 by omega) (by decide)) ?_
      refine r_top (y := gtab 105 i) h (by rw [nI_clamp (by omega)]) ?_
      refine r_iload (pc := 17) h dJ1_indexOfChar_4cfef_17 rfl ?_
      refine r_icmp_ne (pc := 19) (tgt := 25) h dJ1_indexOfChar_4cfef_19 (by decide) (fun c19 => ?_) (fun c19 => ?_)
      · refine r_iinc (pc := 25) (ls2 := [_, _, _, _, _, _]) h dJ1_indexOfChar_4cfef_25 rfl (ic1 _) rfl ?_
        refine r_goto (pc := 28) (tgt := 7) h dJ1_indexOfChar_4cfef_28 (by decide) ?_
        exact ih (i + 1) (by omega) (by rw [← hz, gfind, if_neg (by simpa using c19)])
      · refine r_iload (pc := 22) h dJ1_indexOfChar_4cfef_22 rfl ?_
        refine r_ri t (pc := 24) dJ1_indexOfChar_4cfef_24 rfl ?_
        exact ⟨by rw [← kd_B k (by omega), ← hz, gfind, if_pos (by rw [c19]; exact beq_self_eq_true _)]; rfl, rfl⟩
  refine r_iload_n (pc := 0) h dJ1_indexOfChar_4cfef_0 rfl ?_
  refine r_i2b (pc := 1) h dJ1_indexOfChar_4cfef_1 ?_
  refine r_istore (pc := 2) (ls2 := [_, _, _, _, _, _]) h dJ1_indexOfChar_4cfef_2 (Nat.le_of_ble_eq_true rfl) rfl ?_
  refine r_iload_n (pc := 4) h dJ1_indexOfChar_4cfef_4 rfl ?_
  refine r_istore (pc := 5) (ls2 := [_, _, _, _, _, _]) h dJ1_indexOfChar_4cfef_5 (Nat.le_of_ble_eq_true rfl) rfl ?_
  exact loop 6 0 (by omega) rfl
set_option maxRecDepth 100000 in
set_option maxHeartbeats 4000000 in
theorem c_J1_indexOf {k : Nat} (hk : k ≤ 255) : gCi mJ1_indexOf_4cfef [.ref 105, .int (nI k), .int (nI 0), .int (nI 6)] g (fun y g1 => y = kdI k ∧ g1 = g) := by
  refine gCi_of (own := RJ1) (ls0 := [.ref 105, .int (nI k), .int (nI 0), .int (nI 6)]) ⟨rfl, pl_J1⟩ rfl (Nat.le_of_ble_eq_true rfl) (fun G (h : gR RJ1 cJ1_indexOf_4cfef 1 40 G) (t : gTi cJ1_indexOf_4cfef .int _ G) => ?_)
  refine r_iload_n (pc := 0) h dJ1_indexOf_4cfef_0 rfl ?_
  refine r_callSi (pc := 1) (As := [_]) h dJ1_indexOf_4cfef_1 k_J1_88 rfl ⟨Nat.le_of_ble_eq_true rfl, Nat.le_of_ble_eq_true rfl, Nat.le_of_ble_eq_true rfl⟩ (c_J1_canEncode hk) (fun x_1 g1 hq => ?_)
  obtain ⟨rfl, rfl⟩ := hq
  refine r_if_ne (pc := 4) (tgt := 9) h dJ1_indexOf_4cfef_4 (by decide) (fun c4 => ?_) (fun c4 => absurd c4 (by decide))
  refine r_iload_n (pc := 9) h dJ1_indexOf_4cfef_9 rfl ?_
  refine r_iconst (pc := 10) h dJ1_indexOf_4cfef_10 ci_0 ?_
  refine r_mmax (pc := 11) h dJ1_indexOf_4cfef_11 k_J1_92 ⟨Nat.le_of_ble_eq_true rfl, Nat.le_of_ble_eq_true rfl⟩ ?_
  refine r_top (y := nI 0) h (by decide) ?_
  refine r_istore_n (pc := 14) (ls2 := [_, _, _, _]) h dJ1_indexOf_4cfef_14 (Nat.le_of_ble_eq_true rfl) rfl ?_
  refine r_iload_n (pc := 15) h dJ1_indexOf_4cfef_15 rfl ?_
  refine r_aload_n (pc := 16) h dJ1_indexOf_4cfef_16 rfl ?_
  refine r_strlen (pc := 17) h dJ1_indexOf_4cfef_17 ?_
  refine r_mmin (pc := 18) h dJ1_indexOf_4cfef_18 k_J1_38 ⟨Nat.le_of_ble_eq_true rfl, Nat.le_of_ble_eq_true rfl⟩ ?_
  refine r_top (y := nI 6) h (by decide) ?_
  refine r_istore_n (pc := 21) (ls2 := [_, _, _, _]) h dJ1_indexOf_4cfef_21 (Nat.le_of_ble_eq_true rfl) rfl ?_
  refine r_iload_n (pc := 22) h dJ1_indexOf_4cfef_22 rfl ?_
  refine r_iload_n (pc := 23) h dJ1_indexOf_4cfef_23 rfl ?_
  refine r_icmp_lt (pc := 24) (tgt := 29) h dJ1_indexOf_4cfef_24 (by decide) (fun c24 => ?_) (fun c24 => absurd (by decide) c24)
  refine r_aload_n (pc := 29) h dJ1_indexOf_4cfef_29 rfl ?_
  refine r_iload_n (pc := 30) h dJ1_indexOf_4cfef_30 rfl ?_
  refine r_iload_n (pc := 31) h dJ1_indexOf_4cfef_31 rfl ?_
  refine r_iload_n (pc := 32) h dJ1_indexOf_4cfef_32 rfl ?_
  refine r_callSi (pc := 33) (As := [_, _, _, _]) h dJ1_indexOf_4cfef_33 k_J1_95 rfl ⟨Nat.le_of_ble_eq_true rfl, Nat.le_of_ble_eq_true rfl, Nat.le_of_ble_eq_true rfl⟩ (c_J1_indexOfChar hk) (fun x_33 g1 hq => ?_)
  obtain ⟨rfl, rfl⟩ := hq
  refine r_ri t (pc := 36) dJ1_indexOf_4cfef_36 rfl ?_
  exact ⟨rfl, rfl⟩
set_option maxRecDepth 100000 in
set_option maxHeartbeats 4000000 in
theorem c_J0_indexOf2 {k : Nat} (hk : k ≤ 255) : gCi mJ0_indexOf_7cf53 [.ref 104, .int (nI k), .int (nI 0)] g (fun y g1 => y = kdI k ∧ g1 = g) := by
  refine gCi_of (own := RJ0) (ls0 := [.ref 104, .int (nI k), .int (nI 0)]) ⟨rfl, pl_J0⟩ rfl (Nat.le_of_ble_eq_true rfl) (fun G (h : gR RJ0 cJ0_indexOf_7cf53 2 80 G) (t : gTi cJ0_indexOf_7cf53 .int _ G) => ?_)
  refine r_aload_n (pc := 0) h dJ0_indexOf_7cf53_0 rfl ?_
  refine r_callVi (pc := 1) (As := []) h dJ0_indexOf_7cf53_1 k_J0_492 gc_104 rfl ⟨Nat.le_of_ble_eq_true rfl, Nat.le_of_ble_eq_true rfl, Nat.le_of_ble_eq_true rfl⟩ (c_J0_isLatin1) (fun x_1 g1 hq => ?_)
  obtain ⟨rfl, rfl⟩ := hq
  refine r_if_eq (pc := 4) (tgt := 23) h dJ0_indexOf_7cf53_4 (by decide) (fun c4 => absurd c4 (by decide)) (fun c4 => ?_)
  refine r_aload_n (pc := 7) h dJ0_indexOf_7cf53_7 rfl ?_
  refine r_strV (pc := 8) h dJ0_indexOf_7cf53_8 fs_J0_9 ?_
  refine r_iload_n (pc := 11) h dJ0_indexOf_7cf53_11 rfl ?_
  refine r_iload_n (pc := 12) h dJ0_indexOf_7cf53_12 rfl ?_
  refine r_aload_n (pc := 13) h dJ0_indexOf_7cf53_13 rfl ?_
  refine r_callVi (pc := 14) (As := []) h dJ0_indexOf_7cf53_14 k_J0_505 gc_104 rfl ⟨Nat.le_of_ble_eq_true rfl, Nat.le_of_ble_eq_true rfl, Nat.le_of_ble_eq_true rfl⟩ (c_J0_length) (fun x_14 g1 hq => ?_)
  obtain ⟨rfl, rfl⟩ := hq
  refine r_callSi (pc := 17) (As := [_, _, _, _]) h dJ0_indexOf_7cf53_17 k_J0_637 rfl ⟨Nat.le_of_ble_eq_true rfl, Nat.le_of_ble_eq_true rfl, Nat.le_of_ble_eq_true rfl⟩ (c_J1_indexOf hk) (fun x_17 g1 hq => ?_)
  obtain ⟨rfl, rfl⟩ := hq
  refine r_goto (pc := 20) (tgt := 36) h dJ0_indexOf_7cf53_20 (by decide) ?_
  refine r_ri t (pc := 36) dJ0_indexOf_7cf53_36 rfl ?_
  exact ⟨rfl, rfl⟩
set_option maxRecDepth 100000 in
set_option maxHeartbeats 4000000 in
theorem c_J0_indexOf {k : Nat} (hk : k ≤ 255) : gCi mJ0_indexOf_0f7a4 [.ref 104, .int (nI k)] g (fun y g1 => y = kdI k ∧ g1 = g) := by
  refine gCi_of (own := RJ0) (ls0 := [.ref 104, .int (nI k)]) ⟨rfl, pl_J0⟩ rfl (Nat.le_of_ble_eq_true rfl) (fun G (h : gR RJ0 cJ0_indexOf_0f7a4 3 120 G) (t : gTi cJ0_indexOf_0f7a4 .int _ G) => ?_)
  refine r_aload_n (pc := 0) h dJ0_indexOf_0f7a4_0 rfl ?_
  refine r_iload_n (pc := 1) h dJ0_indexOf_0f7a4_1 rfl ?_
  refine r_iconst (pc := 2) h dJ0_indexOf_0f7a4_2 ci_0 ?_
  refine r_callVi (pc := 3) (As := [_, _]) h dJ0_indexOf_0f7a4_3 k_J0_633 gc_104 rfl ⟨Nat.le_of_ble_eq_true rfl, Nat.le_of_ble_eq_true rfl, Nat.le_of_ble_eq_true rfl⟩ (c_J0_indexOf2 hk) (fun x_3 g1 hq => ?_)
  obtain ⟨rfl, rfl⟩ := hq
  refine r_ri t (pc := 6) dJ0_indexOf_0f7a4_6 rfl ?_
  exact ⟨rfl, rfl⟩
set_option maxRecDepth 100000 in
set_option maxHeartbeats 4000000 in
theorem c_X2_signsBehind {k : Nat} (hk : k ≤ 255) : gCi mX2_signsBehind [.int (nI k)] g (fun y g1 => y = nI (sgn k) ∧ g1 = g) := by
  refine gCi_of (own := RX2) (ls0 := [.int (nI k)]) ⟨rfl, pl_X2⟩ rfl (Nat.le_of_ble_eq_true rfl) (fun G (h : gR RX2 cX2_signsBehind 0 0 G) (t : gTi cX2_signsBehind .int _ G) => ?_)
  refine r_iload_n (pc := 0) h dX2_signsBehind_0 rfl ?_
  by_cases hb : 99 ≤ k ∧ k ≤ 119
  · have hcase : k = 99 ∨ k = 100 ∨ k = 101 ∨ k = 102 ∨ k = 103 ∨ k = 104 ∨ k = 105 ∨ k = 106 ∨ k = 107 ∨ k = 108 ∨ k = 109 ∨ k = 110 ∨ k = 111 ∨ k = 112 ∨ k = 113 ∨ k = 114 ∨ k = 115 ∨ k = 116 ∨ k = 117 ∨ k = 118 ∨ k = 119 := by omega
    rcases hcase with rfl | rfl | rfl | rfl | rfl | rfl | rfl | rfl | rfl | rfl | rfl | rfl | rfl | rfl | rfl | rfl | rfl | rfl | rfl | rfl | rfl
    · refine r_tabIn (pc := 1) (o := 99) (tgt := 100) h dX2_signsBehind_1 (by decide) (by decide) (by decide) (by decide) ?_
      refine r_iconst (pc := 100) h dX2_signsBehind_100 ci_2 ?_
      refine r_ri t (pc := 101) dX2_signsBehind_101 rfl ?_
      exact ⟨by decide, rfl⟩
    · refine r_tabIn (pc := 1) (o := 99) (tgt := 100) h dX2_signsBehind_1 (by decide) (by decide) (by decide) (by decide) ?_
      refine r_iconst (pc := 100) h dX2_signsBehind_100 ci_2 ?_
      refine r_ri t (pc := 101) dX2_signsBehind_101 rfl ?_
      exact ⟨by decide, rfl⟩
    · refine r_tabIn (pc := 1) (o := 105) (tgt := 106) h dX2_signsBehind_1 (by decide) (by decide) (by decide) (by decide) ?_
      refine r_iconst (pc := 106) h dX2_signsBehind_106 ci_0 ?_
      refine r_ri t (pc := 107) dX2_signsBehind_107 rfl ?_
      exact ⟨by decide, rfl⟩
    · refine r_tabIn (pc := 1) (o := 103) (tgt := 104) h dX2_signsBehind_1 (by decide) (by decide) (by decide) (by decide) ?_
      refine r_iconst (pc := 104) h dX2_signsBehind_104 ci_3 ?_
      refine r_ri t (pc := 105) dX2_signsBehind_105 rfl ?_
      exact ⟨by decide, rfl⟩
    · refine r_tabIn (pc := 1) (o := 105) (tgt := 106) h dX2_signsBehind_1 (by decide) (by decide) (by decide) (by decide) ?_
      refine r_iconst (pc := 106) h dX2_signsBehind_106 ci_0 ?_
      refine r_ri t (pc := 107) dX2_signsBehind_107 rfl ?_
      exact ⟨by decide, rfl⟩
    · refine r_tabIn (pc := 1) (o := 105) (tgt := 106) h dX2_signsBehind_1 (by decide) (by decide) (by decide) (by decide) ?_
      refine r_iconst (pc := 106) h dX2_signsBehind_106 ci_0 ?_
      refine r_ri t (pc := 107) dX2_signsBehind_107 rfl ?_
      exact ⟨by decide, rfl⟩
    · refine r_tabIn (pc := 1) (o := 105) (tgt := 106) h dX2_signsBehind_1 (by decide) (by decide) (by decide) (by decide) ?_
      refine r_iconst (pc := 106) h dX2_signsBehind_106 ci_0 ?_
      refine r_ri t (pc := 107) dX2_signsBehind_107 rfl ?_
      exact ⟨by decide, rfl⟩
    · refine r_tabIn (pc := 1) (o := 105) (tgt := 106) h dX2_signsBehind_1 (by decide) (by decide) (by decide) (by decide) ?_
      refine r_iconst (pc := 106) h dX2_signsBehind_106 ci_0 ?_
      refine r_ri t (pc := 107) dX2_signsBehind_107 rfl ?_
      exact ⟨by decide, rfl⟩
    · refine r_tabIn (pc := 1) (o := 105) (tgt := 106) h dX2_signsBehind_1 (by decide) (by decide) (by decide) (by decide) ?_
      refine r_iconst (pc := 106) h dX2_signsBehind_106 ci_0 ?_
      refine r_ri t (pc := 107) dX2_signsBehind_107 rfl ?_
      exact ⟨by decide, rfl⟩
    · refine r_tabIn (pc := 1) (o := 105) (tgt := 106) h dX2_signsBehind_1 (by decide) (by decide) (by decide) (by decide) ?_
      refine r_iconst (pc := 106) h dX2_signsBehind_106 ci_0 ?_
      refine r_ri t (pc := 107) dX2_signsBehind_107 rfl ?_
      exact ⟨by decide, rfl⟩
    · refine r_tabIn (pc := 1) (o := 105) (tgt := 106) h dX2_signsBehind_1 (by decide) (by decide) (by decide) (by decide) ?_
      refine r_iconst (pc := 106) h dX2_signsBehind_106 ci_0 ?_
      refine r_ri t (pc := 107) dX2_signsBehind_107 rfl ?_
      exact ⟨by decide, rfl⟩
    · refine r_tabIn (pc := 1) (o := 105) (tgt := 106) h dX2_signsBehind_1 (by decide) (by decide) (by decide) (by decide) ?_
      refine r_iconst (pc := 106) h dX2_signsBehind_106 ci_0 ?_
      refine r_ri t (pc := 107) dX2_signsBehind_107 rfl ?_
      exact ⟨by decide, rfl⟩
    · refine r_tabIn (pc := 1) (o := 101) (tgt := 102) h dX2_signsBehind_1 (by decide) (by decide) (by decide) (by decide) ?_
      refine r_iconst (pc := 102) h dX2_signsBehind_102 ci_1 ?_
      refine r_ri t (pc := 103) dX2_signsBehind_103 rfl ?_
      exact ⟨by decide, rfl⟩
    · refine r_tabIn (pc := 1) (o := 105) (tgt := 106) h dX2_signsBehind_1 (by decide) (by decide) (by decide) (by decide) ?_
      refine r_iconst (pc := 106) h dX2_signsBehind_106 ci_0 ?_
      refine r_ri t (pc := 107) dX2_signsBehind_107 rfl ?_
      exact ⟨by decide, rfl⟩
    · refine r_tabIn (pc := 1) (o := 105) (tgt := 106) h dX2_signsBehind_1 (by decide) (by decide) (by decide) (by decide) ?_
      refine r_iconst (pc := 106) h dX2_signsBehind_106 ci_0 ?_
      refine r_ri t (pc := 107) dX2_signsBehind_107 rfl ?_
      exact ⟨by decide, rfl⟩
    · refine r_tabIn (pc := 1) (o := 99) (tgt := 100) h dX2_signsBehind_1 (by decide) (by decide) (by decide) (by decide) ?_
      refine r_iconst (pc := 100) h dX2_signsBehind_100 ci_2 ?_
      refine r_ri t (pc := 101) dX2_signsBehind_101 rfl ?_
      exact ⟨by decide, rfl⟩
    · refine r_tabIn (pc := 1) (o := 99) (tgt := 100) h dX2_signsBehind_1 (by decide) (by decide) (by decide) (by decide) ?_
      refine r_iconst (pc := 100) h dX2_signsBehind_100 ci_2 ?_
      refine r_ri t (pc := 101) dX2_signsBehind_101 rfl ?_
      exact ⟨by decide, rfl⟩
    · refine r_tabIn (pc := 1) (o := 105) (tgt := 106) h dX2_signsBehind_1 (by decide) (by decide) (by decide) (by decide) ?_
      refine r_iconst (pc := 106) h dX2_signsBehind_106 ci_0 ?_
      refine r_ri t (pc := 107) dX2_signsBehind_107 rfl ?_
      exact ⟨by decide, rfl⟩
    · refine r_tabIn (pc := 1) (o := 105) (tgt := 106) h dX2_signsBehind_1 (by decide) (by decide) (by decide) (by decide) ?_
      refine r_iconst (pc := 106) h dX2_signsBehind_106 ci_0 ?_
      refine r_ri t (pc := 107) dX2_signsBehind_107 rfl ?_
      exact ⟨by decide, rfl⟩
    · refine r_tabIn (pc := 1) (o := 105) (tgt := 106) h dX2_signsBehind_1 (by decide) (by decide) (by decide) (by decide) ?_
      refine r_iconst (pc := 106) h dX2_signsBehind_106 ci_0 ?_
      refine r_ri t (pc := 107) dX2_signsBehind_107 rfl ?_
      exact ⟨by decide, rfl⟩
    · refine r_tabIn (pc := 1) (o := 99) (tgt := 100) h dX2_signsBehind_1 (by decide) (by decide) (by decide) (by decide) ?_
      refine r_iconst (pc := 100) h dX2_signsBehind_100 ci_2 ?_
      refine r_ri t (pc := 101) dX2_signsBehind_101 rfl ?_
      exact ⟨by decide, rfl⟩
  · refine r_tabOut (pc := 1) (tgt := 106) h dX2_signsBehind_1 (by rw [nI_toInt (by omega)]; omega) (by decide) ?_
    refine r_iconst (pc := 106) h dX2_signsBehind_106 ci_0 ?_
    refine r_ri t (pc := 107) dX2_signsBehind_107 rfl ?_
    exact ⟨by rw [show sgn k = 0 by unfold sgn; rw [if_neg (by omega), if_neg (by omega), if_neg (by omega)]], rfl⟩
set_option maxRecDepth 100000 in
set_option maxHeartbeats 4000000 in
theorem c_X2_fits (hX : XSr g ck hk lt nl rv nr rf) {st i : Nat} (hs : st ≤ i) (hi : i < nl) : gCi mX2_fits [.ref 25, .int (nI st), .int (nI i)] g (fun y g1 => y = bI (fitB lt st i) ∧ g1 = g) := by
  refine gCi_of (own := RX2) (ls0 := [.ref 25, .int (nI st), .int (nI i), .null]) ⟨rfl, pl_X2⟩ rfl (Nat.le_of_ble_eq_true rfl) (fun G (h : gR RX2 cX2_fits 4 160 G) (t : gTi cX2_fits .boolean _ G) => ?_)
  have hn := hX.2.1.2.1
  have hst : st < nl := by omega
  have hl := (hX.2.1.2.2 i hi).2
  have hl0 := (hX.2.1.2.2 st hst).2
  have hsg := sgn_le (lt st)
  refine r_aload_n (pc := 0) h dX2_fits_0 rfl ?_
  refine r_getR (pc := 1) h dX2_fits_1 f_X2_9 sh_25 rfl ?_
  refine r_iload_n (pc := 4) h dX2_fits_4 rfl ?_
  refine r_caloadE (pc := 5) h dX2_fits_5 sh_26 (hX.le hst) ?_
  refine r_callSi (pc := 6) (As := [_]) h dX2_fits_6 k_X2_23 rfl ⟨Nat.le_of_ble_eq_true rfl, Nat.le_of_ble_eq_true rfl, Nat.le_of_ble_eq_true rfl⟩ (c_X2_signsBehind hl0) (fun x_6 g1 hq => ?_)
  obtain ⟨rfl, rfl⟩ := hq
  refine r_istore_n (pc := 9) (ls2 := [_, _, _, _]) h dX2_fits_9 (Nat.le_of_ble_eq_true rfl) rfl ?_
  refine r_iload_n (pc := 10) h dX2_fits_10 rfl ?_
  refine r_iload_n (pc := 11) h dX2_fits_11 rfl ?_
  refine r_icmp_ne (pc := 12) (tgt := 25) h dX2_fits_12 (by decide) (fun c12 => ?_) (fun c12 => ?_)
  · have e1 : ¬ i = st := fun q => c12 (by rw [q])
    refine r_iload_n (pc := 25) h dX2_fits_25 rfl ?_
    refine r_iload_n (pc := 26) h dX2_fits_26 rfl ?_
    refine r_isub (pc := 27) h dX2_fits_27 ?_
    refine r_top (y := nI (i - st)) h (nI_sub hs) ?_
    refine r_iload_n (pc := 28) h dX2_fits_28 rfl ?_
    refine r_icmp_le (pc := 29) (tgt := 49) h dX2_fits_29 (by decide) (fun c29 => ?_) (fun c29 => ?_)
    · have e2 : ¬ sgn (lt st) < i - st := by have := (nI_leI (by omega) (by omega)).mp c29; omega
      refine r_iload_n (pc := 49) h dX2_fits_49 rfl ?_
      refine r_iload_n (pc := 50) h dX2_fits_50 rfl ?_
      refine r_iconst (pc := 51) h dX2_fits_51 ci_1 ?_
      refine r_iadd (pc := 52) h dX2_fits_52 ?_
      refine r_top (y := nI (st + 1)) h (nI_add _ _) ?_
      refine r_icmp_ne (pc := 53) (tgt := 87) h dX2_fits_53 (by decide) (fun c53 => ?_) (fun c53 => ?_)
      · have e3 : ¬ i = st + 1 := fun q => c53 (by rw [q])
        refine r_aload_n (pc := 87) h dX2_fits_87 rfl ?_
        refine r_getR (pc := 88) h dX2_fits_88 f_X2_9 sh_25 rfl ?_
        refine r_iload_n (pc := 91) h dX2_fits_91 rfl ?_
        refine r_caloadE (pc := 92) h dX2_fits_92 sh_26 (hX.le hi) ?_
        refine r_bipush (pc := 93) h dX2_fits_93 cb_48 ?_
        refine r_icmp_lt (pc := 95) (tgt := 113) h dX2_fits_95 (by decide) (fun c95 => ?_) (fun c95 => ?_)
        · have e6 : ¬ 48 ≤ lt i := by have := (nI_ltI (by omega) (by decide)).mp c95; omega
          refine r_iconst (pc := 113) h dX2_fits_113 ci_0 ?_
          refine r_ri t (pc := 114) dX2_fits_114 (by decide) ?_
          exact ⟨by rw [fitB, if_neg e1, if_neg e2, if_neg (fun q => e3 q.1), isD, decide_eq_false (fun q => absurd q.1 e6)]; rfl, rfl⟩
        · have e6 : 48 ≤ lt i := Nat.le_of_not_lt fun q => c95 (nI_lt q (by decide))
          refine r_aload_n (pc := 98) h dX2_fits_98 rfl ?_
          refine r_getR (pc := 99) h dX2_fits_99 f_X2_9 sh_25 rfl ?_
          refine r_iload_n (pc := 102) h dX2_fits_102 rfl ?_
          refine r_caloadE (pc := 103) h dX2_fits_103 sh_26 (hX.le hi) ?_
          refine r_bipush (pc := 104) h dX2_fits_104 cb_57 ?_
          refine r_icmp_gt (pc := 106) (tgt := 113) h dX2_fits_106 (by decide) (fun c106 => ?_) (fun c106 => ?_)
          · have e7 : ¬ lt i ≤ 57 := by have := (nI_ltI (by decide) (by omega)).mp c106; omega
            refine r_iconst (pc := 113) h dX2_fits_113 ci_0 ?_
            refine r_ri t (pc := 114) dX2_fits_114 (by decide) ?_
            exact ⟨by rw [fitB, if_neg e1, if_neg e2, if_neg (fun q => e3 q.1), isD, decide_eq_false (fun q => absurd q.2 e7)]; rfl, rfl⟩
          · have e7 : lt i ≤ 57 := Nat.le_of_not_lt fun q => c106 (nI_lt q (by omega))
            refine r_iconst (pc := 109) h dX2_fits_109 ci_1 ?_
            refine r_goto (pc := 110) (tgt := 114) h dX2_fits_110 (by decide) ?_
            refine r_ri t (pc := 114) dX2_fits_114 (by decide) ?_
            exact ⟨by rw [fitB, if_neg e1, if_neg e2, if_neg (fun q => e3 q.1), isD, decide_eq_true ⟨e6, e7⟩]; rfl, rfl⟩
      · have e3 : i = st + 1 := (nI_eq (by omega) (by omega)).mp c53
        refine r_aload_n (pc := 56) h dX2_fits_56 rfl ?_
        refine r_getR (pc := 57) h dX2_fits_57 f_X2_9 sh_25 rfl ?_
        refine r_iload_n (pc := 60) h dX2_fits_60 rfl ?_
        refine r_caloadE (pc := 61) h dX2_fits_61 sh_26 (hX.le hst) ?_
        refine r_bipush (pc := 62) h dX2_fits_62 cb_115 ?_
        refine r_icmp_ne (pc := 64) (tgt := 87) h dX2_fits_64 (by decide) (fun c64 => ?_) (fun c64 => ?_)
        · have e4 : ¬ lt st = 115 := fun q => c64 (by rw [q])
          refine r_aload_n (pc := 87) h dX2_fits_87 rfl ?_
          refine r_getR (pc := 88) h dX2_fits_88 f_X2_9 sh_25 rfl ?_
          refine r_iload_n (pc := 91) h dX2_fits_91 rfl ?_
          refine r_caloadE (pc := 92) h dX2_fits_92 sh_26 (hX.le hi) ?_
          refine r_bipush (pc := 93) h dX2_fits_93 cb_48 ?_
          refine r_icmp_lt (pc := 95) (tgt := 113) h dX2_fits_95 (by decide) (fun c95 => ?_) (fun c95 => ?_)
          · have e6 : ¬ 48 ≤ lt i := by have := (nI_ltI (by omega) (by decide)).mp c95; omega
            refine r_iconst (pc := 113) h dX2_fits_113 ci_0 ?_
            refine r_ri t (pc := 114) dX2_fits_114 (by decide) ?_
            exact ⟨by rw [fitB, if_neg e1, if_neg e2, if_neg (fun q => e4 q.2), isD, decide_eq_false (fun q => absurd q.1 e6)]; rfl, rfl⟩
          · have e6 : 48 ≤ lt i := Nat.le_of_not_lt fun q => c95 (nI_lt q (by decide))
            refine r_aload_n (pc := 98) h dX2_fits_98 rfl ?_
            refine r_getR (pc := 99) h dX2_fits_99 f_X2_9 sh_25 rfl ?_
            refine r_iload_n (pc := 102) h dX2_fits_102 rfl ?_
            refine r_caloadE (pc := 103) h dX2_fits_103 sh_26 (hX.le hi) ?_
            refine r_bipush (pc := 104) h dX2_fits_104 cb_57 ?_
            refine r_icmp_gt (pc := 106) (tgt := 113) h dX2_fits_106 (by decide) (fun c106 => ?_) (fun c106 => ?_)
            · have e7 : ¬ lt i ≤ 57 := by have := (nI_ltI (by decide) (by omega)).mp c106; omega
              refine r_iconst (pc := 113) h dX2_fits_113 ci_0 ?_
              refine r_ri t (pc := 114) dX2_fits_114 (by decide) ?_
              exact ⟨by rw [fitB, if_neg e1, if_neg e2, if_neg (fun q => e4 q.2), isD, decide_eq_false (fun q => absurd q.2 e7)]; rfl, rfl⟩
            · have e7 : lt i ≤ 57 := Nat.le_of_not_lt fun q => c106 (nI_lt q (by omega))
              refine r_iconst (pc := 109) h dX2_fits_109 ci_1 ?_
              refine r_goto (pc := 110) (tgt := 114) h dX2_fits_110 (by decide) ?_
              refine r_ri t (pc := 114) dX2_fits_114 (by decide) ?_
              exact ⟨by rw [fitB, if_neg e1, if_neg e2, if_neg (fun q => e4 q.2), isD, decide_eq_true ⟨e6, e7⟩]; rfl, rfl⟩
        · have e4 : lt st = 115 := (nI_eq (by omega) (by decide)).mp c64
          refine r_ldcS (pc := 67) h dX2_fits_67 rfl ?_
          refine r_aload_n (pc := 69) h dX2_fits_69 rfl ?_
          refine r_getR (pc := 70) h dX2_fits_70 f_X2_9 sh_25 rfl ?_
          refine r_iload_n (pc := 73) h dX2_fits_73 rfl ?_
          refine r_caloadE (pc := 74) h dX2_fits_74 sh_26 (hX.le hi) ?_
          refine r_callVi (pc := 75) (As := [_]) h dX2_fits_75 k_X2_29 gc_104 rfl ⟨Nat.le_of_ble_eq_true rfl, Nat.le_of_ble_eq_true rfl, Nat.le_of_ble_eq_true rfl⟩ (c_J0_indexOf hl) (fun x_75 g1 hq => ?_)
          obtain ⟨rfl, rfl⟩ := hq
          refine r_if_lt (pc := 78) (tgt := 85) h dX2_fits_78 (by decide) (fun c78 => ?_) (fun c78 => ?_)
          · have e5 : ¬ kdx (lt i) < 6 := kdI_0.mp c78
            refine r_iconst (pc := 85) h dX2_fits_85 ci_0 ?_
            refine r_ri t (pc := 86) dX2_fits_86 (by decide) ?_
            exact ⟨by rw [fitB, if_neg e1, if_neg e2, if_pos ⟨e3, e4⟩, decide_eq_false e5]; rfl, rfl⟩
          · have e5 : kdx (lt i) < 6 := Nat.lt_of_not_le fun q => c78 (kdI_0.mpr (by omega))
            refine r_iconst (pc := 81) h dX2_fits_81 ci_1 ?_
            refine r_goto (pc := 82) (tgt := 86) h dX2_fits_82 (by decide) ?_
            refine r_ri t (pc := 86) dX2_fits_86 (by decide) ?_
            exact ⟨by rw [fitB, if_neg e1, if_neg e2, if_pos ⟨e3, e4⟩, decide_eq_true e5]; rfl, rfl⟩
    · have e2 : sgn (lt st) < i - st := Nat.lt_of_not_le fun q => c29 (nI_le q (by omega))
      refine r_aload_n (pc := 32) h dX2_fits_32 rfl ?_
      refine r_getR (pc := 33) h dX2_fits_33 f_X2_9 sh_25 rfl ?_
      refine r_iload_n (pc := 36) h dX2_fits_36 rfl ?_
      refine r_caloadE (pc := 37) h dX2_fits_37 sh_26 (hX.le hi) ?_
      refine r_bipush (pc := 38) h dX2_fits_38 cb_59 ?_
      refine r_icmp_ne (pc := 40) (tgt := 47) h dX2_fits_40 (by decide) (fun c40 => ?_) (fun c40 => ?_)
      · have e3 : ¬ lt i = 59 := fun q => c40 (by rw [q])
        refine r_iconst (pc := 47) h dX2_fits_47 ci_0 ?_
        refine r_ri t (pc := 48) dX2_fits_48 (by decide) ?_
        exact ⟨by rw [fitB, if_neg e1, if_pos e2, beq_false_of_ne e3]; rfl, rfl⟩
      · have e3 : lt i = 59 := (nI_eq (by omega) (by decide)).mp c40
        refine r_iconst (pc := 43) h dX2_fits_43 ci_1 ?_
        refine r_goto (pc := 44) (tgt := 48) h dX2_fits_44 (by decide) ?_
        refine r_ri t (pc := 48) dX2_fits_48 (by decide) ?_
        exact ⟨by rw [fitB, if_neg e1, if_pos e2, e3]; rfl, rfl⟩
  · have e1 : i = st := (nI_eq (by omega) (by omega)).mp c12
    refine r_iload_n (pc := 15) h dX2_fits_15 rfl ?_
    refine r_if_le (pc := 16) (tgt := 23) h dX2_fits_16 (by decide) (fun c16 => ?_) (fun c16 => ?_)
    · have e2 : ¬ 0 < sgn (lt st) := fun q => nI_nle q (by omega) c16
      refine r_iconst (pc := 23) h dX2_fits_23 ci_0 ?_
      refine r_ri t (pc := 24) dX2_fits_24 (by decide) ?_
      exact ⟨by rw [fitB, if_pos e1, decide_eq_false e2]; rfl, rfl⟩
    · have e2 : 0 < sgn (lt st) := Nat.pos_of_ne_zero fun q => c16 (by rw [q]; decide)
      refine r_iconst (pc := 19) h dX2_fits_19 ci_1 ?_
      refine r_goto (pc := 20) (tgt := 24) h dX2_fits_20 (by decide) ?_
      refine r_ri t (pc := 24) dX2_fits_24 (by decide) ?_
      exact ⟨by rw [fitB, if_pos e1, decide_eq_true e2]; rfl, rfl⟩
set_option maxRecDepth 100000 in
set_option maxHeartbeats 4000000 in
theorem c_X2_wrongPlace (hX : XSr g ck hk lt nl rv nr rf) : gCi mX2_wrongPlace [.ref 25] g (fun y g1 => y = oI (rdN lt nl).1 ∧ g1 = g) := by
  refine gCi_of (own := RX2) (ls0 := [.ref 25, .null, .null]) ⟨rfl, pl_X2⟩ rfl (Nat.le_of_ble_eq_true rfl) (fun G (h : gR RX2 cX2_wrongPlace 5 200 G) (t : gTi cX2_wrongPlace .int _ G) => ?_)
  have hn := hX.2.1.2.1
  have loop : ∀ m st i, i + m = nl → st ≤ i → wpK lt nl m st i = (rdN lt nl).1 → G 4 [.ref 25, .int (nI st), .int (nI i)] [] g := by
    intro m
    induction m with
    | zero =>
      intro st i hi hs hz
      refine r_iload_n (pc := 4) h dX2_wrongPlace_4 rfl ?_
      refine r_aload_n (pc := 5) h dX2_wrongPlace_5 rfl ?_
      refine r_getE (pc := 6) h dX2_wrongPlace_6 f_X2_15 sh_25 rfl (hX.2.1.1) ?_
      refine r_icmp_ge (pc := 9) (tgt := 44) h dX2_wrongPlace_9 (by decide) (fun c9 => ?_) (fun c9 => absurd (nI_le (by omega) (by omega)) c9)
      refine r_aload_n (pc := 44) h dX2_wrongPlace_44 rfl ?_
      refine r_getE (pc := 45) h dX2_wrongPlace_45 f_X2_15 sh_25 rfl (hX.2.1.1) ?_
      refine r_if_eq (pc := 48) (tgt := 59) h dX2_wrongPlace_48 (by decide) (fun c48 => ?_) (fun c48 => ?_)
      · have e : nl = 0 := (nI_eq0 (by omega)).mp c48
        refine r_aload_n (pc := 59) h dX2_wrongPlace_59 rfl ?_
        refine r_getE (pc := 60) h dX2_wrongPlace_60 f_X2_15 sh_25 rfl (hX.2.1.1) ?_
        refine r_goto (pc := 63) (tgt := 68) h dX2_wrongPlace_63 (by decide) ?_
        refine r_ri t (pc := 68) dX2_wrongPlace_68 rfl ?_
        exact ⟨by rw [← hz, wpK, if_pos (Or.inl e)]; rfl, rfl⟩
      · have e : ¬ nl = 0 := fun q => c48 (by rw [q]; rfl)
        refine r_iload_n (pc := 51) h dX2_wrongPlace_51 rfl ?_
        refine r_aload_n (pc := 52) h dX2_wrongPlace_52 rfl ?_
        refine r_getE (pc := 53) h dX2_wrongPlace_53 f_X2_15 sh_25 rfl (hX.2.1.1) ?_
        refine r_icmp_ge (pc := 56) (tgt := 66) h dX2_wrongPlace_56 (by decide) (fun c56 => ?_) (fun c56 => ?_)
        · have e2 : ¬ st < nl := fun q => nI_ge q (by omega) c56
          refine r_bipush (pc := 66) h dX2_wrongPlace_66 cb_m9 ?_
          refine r_ri t (pc := 68) dX2_wrongPlace_68 rfl ?_
          exact ⟨by rw [← hz, wpK, if_neg (by omega)]; rfl, rfl⟩
        · have e2 : st < nl := Nat.lt_of_not_le fun q => c56 (nI_le q (by omega))
          refine r_aload_n (pc := 59) h dX2_wrongPlace_59 rfl ?_
          refine r_getE (pc := 60) h dX2_wrongPlace_60 f_X2_15 sh_25 rfl (hX.2.1.1) ?_
          refine r_goto (pc := 63) (tgt := 68) h dX2_wrongPlace_63 (by decide) ?_
          refine r_ri t (pc := 68) dX2_wrongPlace_68 rfl ?_
          exact ⟨by rw [← hz, wpK, if_pos (Or.inr e2)]; rfl, rfl⟩
    | succ m ih =>
      intro st i hi0 hs hz
      have hi : i < nl := by omega
      have hl := (hX.2.1.2.2 i hi).2
      refine r_iload_n (pc := 4) h dX2_wrongPlace_4 rfl ?_
      refine r_aload_n (pc := 5) h dX2_wrongPlace_5 rfl ?_
      refine r_getE (pc := 6) h dX2_wrongPlace_6 f_X2_15 sh_25 rfl (hX.2.1.1) ?_
      refine r_icmp_ge (pc := 9) (tgt := 44) h dX2_wrongPlace_9 (by decide) (fun c9 => absurd c9 (nI_ge hi (by omega))) (fun c9 => ?_)
      refine r_aload_n (pc := 12) h dX2_wrongPlace_12 rfl ?_
      refine r_iload_n (pc := 13) h dX2_wrongPlace_13 rfl ?_
      refine r_iload_n (pc := 14) h dX2_wrongPlace_14 rfl ?_
      refine r_callVi (pc := 15) (As := [_, _]) h dX2_wrongPlace_15 k_X2_19 gc_25 rfl ⟨Nat.le_of_ble_eq_true rfl, Nat.le_of_ble_eq_true rfl, Nat.le_of_ble_eq_true rfl⟩ (c_X2_fits hX hs hi) (fun x_15 g1 hq => ?_)
      obtain ⟨rfl, rfl⟩ := hq
      refine r_if_ne (pc := 18) (tgt := 23) h dX2_wrongPlace_18 (by decide) (fun c18 => ?_) (fun c18 => ?_)
      · have hb : fitB lt st i = true := by simpa using mt (bI_0 (fitB lt st i)).mpr c18
        refine r_aload_n (pc := 23) h dX2_wrongPlace_23 rfl ?_
        refine r_getR (pc := 24) h dX2_wrongPlace_24 f_X2_9 sh_25 rfl ?_
        refine r_iload_n (pc := 27) h dX2_wrongPlace_27 rfl ?_
        refine r_caloadE (pc := 28) h dX2_wrongPlace_28 sh_26 (hX.le hi) ?_
        refine r_bipush (pc := 29) h dX2_wrongPlace_29 cb_59 ?_
        refine r_icmp_ne (pc := 31) (tgt := 38) h dX2_wrongPlace_31 (by decide) (fun c31 => ?_) (fun c31 => ?_)
        · have e : ¬ lt i = 59 := fun q => c31 (by rw [q])
          refine r_iinc (pc := 38) (ls2 := [_, _, _]) h dX2_wrongPlace_38 rfl (ic1 _) rfl ?_
          refine r_goto (pc := 41) (tgt := 4) h dX2_wrongPlace_41 (by decide) ?_
          exact ih st (i + 1) (by omega) (by omega) (by rw [← hz, wpK, if_pos hb, if_neg e])
        · have e : lt i = 59 := (nI_eq (by omega) (by decide)).mp c31
          refine r_iload_n (pc := 34) h dX2_wrongPlace_34 rfl ?_
          refine r_iconst (pc := 35) h dX2_wrongPlace_35 ci_1 ?_
          refine r_iadd (pc := 36) h dX2_wrongPlace_36 ?_
          refine r_top (y := nI (i + 1)) h (nI_add _ _) ?_
          refine r_istore_n (pc := 37) (ls2 := [_, _, _]) h dX2_wrongPlace_37 (Nat.le_of_ble_eq_true rfl) rfl ?_
          refine r_iinc (pc := 38) (ls2 := [_, _, _]) h dX2_wrongPlace_38 rfl (ic1 _) rfl ?_
          refine r_goto (pc := 41) (tgt := 4) h dX2_wrongPlace_41 (by decide) ?_
          exact ih (i + 1) (i + 1) (by omega) (by omega) (by rw [← hz, wpK, if_pos hb, if_pos e])
      · have hb : fitB lt st i = false := (bI_0 (fitB lt st i)).mp c18
        refine r_iload_n (pc := 21) h dX2_wrongPlace_21 rfl ?_
        refine r_ri t (pc := 22) dX2_wrongPlace_22 rfl ?_
        exact ⟨by rw [← hz, wpK, if_neg (by rw [hb]; decide)]; rfl, rfl⟩
  refine r_iconst (pc := 0) h dX2_wrongPlace_0 ci_0 ?_
  refine r_istore_n (pc := 1) (ls2 := [_, _, _]) h dX2_wrongPlace_1 (Nat.le_of_ble_eq_true rfl) rfl ?_
  refine r_iconst (pc := 2) h dX2_wrongPlace_2 ci_0 ?_
  refine r_istore_n (pc := 3) (ls2 := [_, _, _]) h dX2_wrongPlace_3 (Nat.le_of_ble_eq_true rfl) rfl ?_
  exact loop nl 0 0 (by omega) (Nat.le_refl _) (wp_rd lt nl)
set_option maxRecDepth 100000 in
set_option maxHeartbeats 4000000 in
theorem c_X2_lengthAt (hX : XSr g ck hk lt nl rv nr rf) {p : Nat} (hp : p < nl) : gCi mX2_lengthAt [.ref 25, .int (nI p)] g (fun y g1 => y = nI (sgn (lt p) + 2) ∧ g1 = g) := by
  refine gCi_of (own := RX2) (ls0 := [.ref 25, .int (nI p)]) ⟨rfl, pl_X2⟩ rfl (Nat.le_of_ble_eq_true rfl) (fun G (h : gR RX2 cX2_lengthAt 1 40 G) (t : gTi cX2_lengthAt .int _ G) => ?_)
  refine r_aload_n (pc := 0) h dX2_lengthAt_0 rfl ?_
  refine r_getR (pc := 1) h dX2_lengthAt_1 f_X2_9 sh_25 rfl ?_
  refine r_iload_n (pc := 4) h dX2_lengthAt_4 rfl ?_
  refine r_caloadE (pc := 5) h dX2_lengthAt_5 sh_26 (hX.le hp) ?_
  refine r_callSi (pc := 6) (As := [_]) h dX2_lengthAt_6 k_X2_23 rfl ⟨Nat.le_of_ble_eq_true rfl, Nat.le_of_ble_eq_true rfl, Nat.le_of_ble_eq_true rfl⟩ (c_X2_signsBehind (hX.2.1.2.2 p hp).2) (fun x_6 g1 hq => ?_)
  obtain ⟨rfl, rfl⟩ := hq
  refine r_iconst (pc := 9) h dX2_lengthAt_9 ci_2 ?_
  refine r_iadd (pc := 10) h dX2_lengthAt_10 ?_
  refine r_ri t (pc := 11) dX2_lengthAt_11 rfl ?_
  exact ⟨nI_add _ _, rfl⟩
set_option maxRecDepth 100000 in
set_option maxHeartbeats 4000000 in
theorem c_X2_digit (hX : XSr g ck hk lt nl rv nr rf) {p : Nat} (hp : p < nl) (h48 : 48 ≤ lt p) : gCi mX2_digit [.ref 25, .int (nI p)] g (fun y g1 => y = nI (dg lt p) ∧ g1 = g) := by
  refine gCi_of (own := RX2) (ls0 := [.ref 25, .int (nI p)]) ⟨rfl, pl_X2⟩ rfl (Nat.le_of_ble_eq_true rfl) (fun G (h : gR RX2 cX2_digit 0 0 G) (t : gTi cX2_digit .int _ G) => ?_)
  refine r_aload_n (pc := 0) h dX2_digit_0 rfl ?_
  refine r_getR (pc := 1) h dX2_digit_1 f_X2_9 sh_25 rfl ?_
  refine r_iload_n (pc := 4) h dX2_digit_4 rfl ?_
  refine r_caloadE (pc := 5) h dX2_digit_5 sh_26 (hX.le hp) ?_
  refine r_bipush (pc := 6) h dX2_digit_6 cb_48 ?_
  refine r_isub (pc := 8) h dX2_digit_8 ?_
  refine r_ri t (pc := 9) dX2_digit_9 rfl ?_
  exact ⟨nI_sub h48, rfl⟩
set_option maxRecDepth 100000 in
set_option maxHeartbeats 4000000 in
theorem c_X2_number (hX : XSr g ck hk lt nl rv nr rf) {p : Nat} (hp : p + 1 < nl) (h1 : 48 ≤ lt p) (h2 : 48 ≤ lt (p + 1)) : gCi mX2_number [.ref 25, .int (nI p)] g (fun y g1 => y = nI (nu lt p) ∧ g1 = g) := by
  refine gCi_of (own := RX2) (ls0 := [.ref 25, .int (nI p)]) ⟨rfl, pl_X2⟩ rfl (Nat.le_of_ble_eq_true rfl) (fun G (h : gR RX2 cX2_number 1 40 G) (t : gTi cX2_number .int _ G) => ?_)
  refine r_bipush (pc := 0) h dX2_number_0 cb_10 ?_
  refine r_aload_n (pc := 2) h dX2_number_2 rfl ?_
  refine r_iload_n (pc := 3) h dX2_number_3 rfl ?_
  refine r_callVi (pc := 4) (As := [_]) h dX2_number_4 k_X2_34 gc_25 rfl ⟨Nat.le_of_ble_eq_true rfl, Nat.le_of_ble_eq_true rfl, Nat.le_of_ble_eq_true rfl⟩ (c_X2_digit hX (by omega) h1) (fun x_4 g1 hq => ?_)
  obtain ⟨rfl, rfl⟩ := hq
  refine r_imul (pc := 7) h dX2_number_7 ?_
  refine r_aload_n (pc := 8) h dX2_number_8 rfl ?_
  refine r_iload_n (pc := 9) h dX2_number_9 rfl ?_
  refine r_iconst (pc := 10) h dX2_number_10 ci_1 ?_
  refine r_iadd (pc := 11) h dX2_number_11 ?_
  refine r_top (y := nI (p + 1)) h (nI_add _ _) ?_
  refine r_callVi (pc := 12) (As := [_]) h dX2_number_12 k_X2_34 gc_25 rfl ⟨Nat.le_of_ble_eq_true rfl, Nat.le_of_ble_eq_true rfl, Nat.le_of_ble_eq_true rfl⟩ (c_X2_digit hX hp h2) (fun x_12 g1 hq => ?_)
  obtain ⟨rfl, rfl⟩ := hq
  refine r_iadd (pc := 15) h dX2_number_15 ?_
  refine r_ri t (pc := 16) dX2_number_16 rfl ?_
  exact ⟨by rw [pk_mul, nI_add]; rfl, rfl⟩
set_option maxRecDepth 100000 in
set_option maxHeartbeats 4000000 in
theorem c_X2_takesWearing (hT : Rx9 g c) (ho : gok c) {a b : Nat} (ha : a < 1000) (hb : b < 1000) : gCi mX2_takesWearing [.ref 9, .int (nI a), .int (nI b)] g (fun y g1 => y = bI (decide (a < c 7 1 ∧ b < c 7 0)) ∧ (a < c 7 1 ∧ b < c 7 0 → Rx9 g1 (put c a b)) ∧ frm 9 17 g g1) := by
  refine gCi_of (own := RX2) (ls0 := [.ref 9, .int (nI a), .int (nI b)]) ⟨rfl, pl_X2⟩ rfl (Nat.le_of_ble_eq_true rfl) (fun G (h : gR RX2 cX2_takesWearing 2 80 G) (t : gTi cX2_takesWearing .boolean _ G) => ?_)
  have hn5 := hT.n5
  have hn6 := hT.n6
  refine r_iload_n (pc := 0) h dX2_takesWearing_0 rfl ?_
  refine r_aload_n (pc := 1) h dX2_takesWearing_1 rfl ?_
  refine r_getE (pc := 2) h dX2_takesWearing_2 f_X2_70 sh_9 rfl (hT.nc) ?_
  refine r_icmp_ge (pc := 5) (tgt := 16) h dX2_takesWearing_5 (by decide) (fun c5 => ?_) (fun c5 => ?_)
  · have e : ¬ (a < c 7 1 ∧ b < c 7 0) := fun q => nI_ge q.1 (by omega) c5
    refine r_iconst (pc := 16) h dX2_takesWearing_16 ci_0 ?_
    refine r_ri t (pc := 17) dX2_takesWearing_17 (by decide) ?_
    exact ⟨by rw [decide_eq_false e]; rfl, fun q => absurd q e, frm.rf⟩
  · have e1 : a < c 7 1 := Nat.lt_of_not_le fun q => c5 (nI_le q (by omega))
    refine r_iload_n (pc := 8) h dX2_takesWearing_8 rfl ?_
    refine r_aload_n (pc := 9) h dX2_takesWearing_9 rfl ?_
    refine r_getE (pc := 10) h dX2_takesWearing_10 f_X2_73 sh_9 rfl (hT.ns) ?_
    refine r_icmp_lt (pc := 13) (tgt := 18) h dX2_takesWearing_13 (by decide) (fun c13 => ?_) (fun c13 => ?_)
    · have e : a < c 7 1 ∧ b < c 7 0 := ⟨e1, (nI_ltI (by omega) (by omega)).mp c13⟩
      refine r_aload_n (pc := 18) h dX2_takesWearing_18 rfl ?_
      refine r_iload_n (pc := 19) h dX2_takesWearing_19 rfl ?_
      refine r_iload_n (pc := 20) h dX2_takesWearing_20 rfl ?_
      refine r_callVv (pc := 21) (As := [_, _]) h dX2_takesWearing_21 k_X2_76 gc_9 rfl ⟨Nat.le_of_ble_eq_true rfl, Nat.le_of_ble_eq_true rfl, Nat.le_of_ble_eq_true rfl⟩ (c_X0_putIn_9 hT ho e.1 e.2) (fun g1 hq => ?_)
      obtain ⟨hT2, hF⟩ := hq
      refine r_iconst (pc := 24) h dX2_takesWearing_24 ci_1 ?_
      refine r_ri t (pc := 25) dX2_takesWearing_25 (by decide) ?_
      exact ⟨by rw [decide_eq_true e]; rfl, fun _ => hT2, hF⟩
    · have e : ¬ (a < c 7 1 ∧ b < c 7 0) := fun q => c13 (nI_lt q.2 (by omega))
      refine r_iconst (pc := 16) h dX2_takesWearing_16 ci_0 ?_
      refine r_ri t (pc := 17) dX2_takesWearing_17 (by decide) ?_
      exact ⟨by rw [decide_eq_false e]; rfl, fun q => absurd q e, frm.rf⟩
set_option maxRecDepth 100000 in
set_option maxHeartbeats 4000000 in
theorem c_X2_takesUndressing (hT : Rx9 g c) {a : Nat} (ha : a < 1000) : gCi mX2_takesUndressing [.ref 9, .int (nI a)] g (fun y g1 => y = bI (decide (a < c 7 1)) ∧ (a < c 7 1 → Rx9 g1 (cup c 6 a 0)) ∧ frm 9 17 g g1) := by
  refine gCi_of (own := RX2) (ls0 := [.ref 9, .int (nI a)]) ⟨rfl, pl_X2⟩ rfl (Nat.le_of_ble_eq_true rfl) (fun G (h : gR RX2 cX2_takesUndressing 0 0 G) (t : gTi cX2_takesUndressing .boolean _ G) => ?_)
  have hn5 := hT.n5
  have hn6 := hT.n6
  refine r_iload_n (pc := 0) h dX2_takesUndressing_0 rfl ?_
  refine r_aload_n (pc := 1) h dX2_takesUndressing_1 rfl ?_
  refine r_getE (pc := 2) h dX2_takesUndressing_2 f_X2_70 sh_9 rfl (hT.nc) ?_
  refine r_icmp_lt (pc := 5) (tgt := 10) h dX2_takesUndressing_5 (by decide) (fun c5 => ?_) (fun c5 => ?_)
  · have e : a < c 7 1 := (nI_ltI (by omega) (by omega)).mp c5
    refine r_aload_n (pc := 10) h dX2_takesUndressing_10 rfl ?_
    refine r_getR (pc := 11) h dX2_takesUndressing_11 f_X2_80 sh_9 rfl ?_
    refine r_iload_n (pc := 14) h dX2_takesUndressing_14 rfl ?_
    refine r_bipush (pc := 15) h dX2_takesUndressing_15 cb_m9 ?_
    refine r_top (y := wz 0) h rfl ?_
    refine r_iastore (pc := 17) h dX2_takesUndressing_17 sh_16 (hT.ci e) ?_
    refine r_iconst (pc := 18) h dX2_takesUndressing_18 ci_1 ?_
    refine r_ri t (pc := 19) dX2_takesUndressing_19 (by decide) ?_
    have hq := Rx9.wr frm.rf (hT.u_wo e 0) (by decide)
    exact ⟨by rw [decide_eq_true e]; rfl, fun _ => hq.1, hq.2⟩
  · have e : ¬ a < c 7 1 := fun q => c5 (nI_lt q (by omega))
    refine r_iconst (pc := 8) h dX2_takesUndressing_8 ci_0 ?_
    refine r_ri t (pc := 9) dX2_takesUndressing_9 (by decide) ?_
    exact ⟨by rw [decide_eq_false e]; rfl, fun q => absurd q e, frm.rf⟩
set_option maxRecDepth 100000 in
set_option maxHeartbeats 4000000 in
theorem c_X2_takesFear (hT : Rx9 g c) {a b : Nat} (ha : a < 1000) (hb : b < 1000) : gCi mX2_takesFear [.ref 9, .int (nI a), .int (nI b)] g (fun y g1 => y = bI (decide (a < c 7 1 ∧ b ≤ 20)) ∧ (a < c 7 1 ∧ b ≤ 20 → Rx9 g1 (cup c 3 a b)) ∧ frm 9 17 g g1) := by
  refine gCi_of (own := RX2) (ls0 := [.ref 9, .int (nI a), .int (nI b)]) ⟨rfl, pl_X2⟩ rfl (Nat.le_of_ble_eq_true rfl) (fun G (h : gR RX2 cX2_takesFear 0 0 G) (t : gTi cX2_takesFear .boolean _ G) => ?_)
  have hn5 := hT.n5
  have hn6 := hT.n6
  refine r_iload_n (pc := 0) h dX2_takesFear_0 rfl ?_
  refine r_aload_n (pc := 1) h dX2_takesFear_1 rfl ?_
  refine r_getE (pc := 2) h dX2_takesFear_2 f_X2_70 sh_9 rfl (hT.nc) ?_
  refine r_icmp_ge (pc := 5) (tgt := 14) h dX2_takesFear_5 (by decide) (fun c5 => ?_) (fun c5 => ?_)
  · have e : ¬ (a < c 7 1 ∧ b ≤ 20) := fun q => nI_ge q.1 (by omega) c5
    refine r_iconst (pc := 14) h dX2_takesFear_14 ci_0 ?_
    refine r_ri t (pc := 15) dX2_takesFear_15 (by decide) ?_
    exact ⟨by rw [decide_eq_false e]; rfl, fun q => absurd q e, frm.rf⟩
  · have e1 : a < c 7 1 := Nat.lt_of_not_le fun q => c5 (nI_le q (by omega))
    refine r_iload_n (pc := 8) h dX2_takesFear_8 rfl ?_
    refine r_bipush (pc := 9) h dX2_takesFear_9 cb_20 ?_
    refine r_icmp_le (pc := 11) (tgt := 16) h dX2_takesFear_11 (by decide) (fun c11 => ?_) (fun c11 => ?_)
    · have e : a < c 7 1 ∧ b ≤ 20 := ⟨e1, (nI_leI (by omega) (by decide)).mp c11⟩
      refine r_aload_n (pc := 16) h dX2_takesFear_16 rfl ?_
      refine r_getR (pc := 17) h dX2_takesFear_17 f_X2_84 sh_9 rfl ?_
      refine r_iload_n (pc := 20) h dX2_takesFear_20 rfl ?_
      refine r_iload_n (pc := 21) h dX2_takesFear_21 rfl ?_
      refine r_iastore (pc := 22) h dX2_takesFear_22 sh_13 (hT.ci e1) ?_
      refine r_iconst (pc := 23) h dX2_takesFear_23 ci_1 ?_
      refine r_ri t (pc := 24) dX2_takesFear_24 (by decide) ?_
      have hq := Rx9.wr frm.rf (hT.u_fe e1 b) (by decide)
      exact ⟨by rw [decide_eq_true e]; rfl, fun _ => hq.1, hq.2⟩
    · have e : ¬ (a < c 7 1 ∧ b ≤ 20) := fun q => c11 (nI_le q.2 (by decide))
      refine r_iconst (pc := 14) h dX2_takesFear_14 ci_0 ?_
      refine r_ri t (pc := 15) dX2_takesFear_15 (by decide) ?_
      exact ⟨by rw [decide_eq_false e]; rfl, fun q => absurd q e, frm.rf⟩
set_option maxRecDepth 100000 in
set_option maxHeartbeats 4000000 in
theorem c_X2_takesRust (hT : Rx9 g c) {a : Nat} (ha : a < 1000) (b : Nat) : gCi mX2_takesRust [.ref 9, .int (nI a), .int (nI b)] g (fun y g1 => y = bI (decide (a < c 7 0)) ∧ (a < c 7 0 → Rx9 g1 (cup c 2 a b)) ∧ frm 9 17 g g1) := by
  refine gCi_of (own := RX2) (ls0 := [.ref 9, .int (nI a), .int (nI b)]) ⟨rfl, pl_X2⟩ rfl (Nat.le_of_ble_eq_true rfl) (fun G (h : gR RX2 cX2_takesRust 0 0 G) (t : gTi cX2_takesRust .boolean _ G) => ?_)
  have hn5 := hT.n5
  have hn6 := hT.n6
  refine r_iload_n (pc := 0) h dX2_takesRust_0 rfl ?_
  refine r_aload_n (pc := 1) h dX2_takesRust_1 rfl ?_
  refine r_getE (pc := 2) h dX2_takesRust_2 f_X2_73 sh_9 rfl (hT.ns) ?_
  refine r_icmp_lt (pc := 5) (tgt := 10) h dX2_takesRust_5 (by decide) (fun c5 => ?_) (fun c5 => ?_)
  · have e : a < c 7 0 := (nI_ltI (by omega) (by omega)).mp c5
    refine r_aload_n (pc := 10) h dX2_takesRust_10 rfl ?_
    refine r_getR (pc := 11) h dX2_takesRust_11 f_X2_87 sh_9 rfl ?_
    refine r_iload_n (pc := 14) h dX2_takesRust_14 rfl ?_
    refine r_iload_n (pc := 15) h dX2_takesRust_15 rfl ?_
    refine r_iastore (pc := 16) h dX2_takesRust_16 sh_12 (hT.si e) ?_
    refine r_iconst (pc := 17) h dX2_takesRust_17 ci_1 ?_
    refine r_ri t (pc := 18) dX2_takesRust_18 (by decide) ?_
    have hq := Rx9.wr frm.rf (hT.u_ru e b) (by decide)
    exact ⟨by rw [decide_eq_true e]; rfl, fun _ => hq.1, hq.2⟩
  · have e : ¬ a < c 7 0 := fun q => c5 (nI_lt q (by omega))
    refine r_iconst (pc := 8) h dX2_takesRust_8 ci_0 ?_
    refine r_ri t (pc := 9) dX2_takesRust_9 (by decide) ?_
    exact ⟨by rw [decide_eq_false e]; rfl, fun q => absurd q e, frm.rf⟩
set_option maxRecDepth 100000 in
set_option maxHeartbeats 4000000 in
theorem c_X2_takes (hT : Rx9 g c) (hX : XSr g ck hk lt nl rv nr rf) (ho : gok c) (hd : c 7 3 ≤ 999) {p : Nat} (hs : stB lt nl p = none) : gCi mX2_takes [.ref 25, .ref 9, .int (nI p)] g (fun y g1 => y = bI (tk lt c p).isSome ∧ (∀ d, tk lt c p = some d → Rx9 g1 d) ∧ frm 9 17 g g1) := by
  refine gCi_of (own := RX2) (ls0 := [.ref 25, .ref 9, .int (nI p), .null, .null, .null]) ⟨rfl, pl_X2⟩ rfl (Nat.le_of_ble_eq_true rfl) (fun G (h : gR RX2 cX2_takes 5 200 G) (t : gTi cX2_takes .boolean _ G) => ?_)
  have hn5 := hT.n5
  have hn6 := hT.n6
  have hp : p < nl := by have := (stB_none hs (j := 0) (by omega)).1; omega
  have hcase := sgn_0 (st_sg hs)
  have hnu1 : nu lt (p + 1) = 10 * (lt (p + 1) - 48) + (lt (p + 2) - 48) := rfl
  have hnu2 : nu lt (p + 2) = 10 * (lt (p + 2) - 48) + (lt (p + 3) - 48) := rfl
  refine r_aload_n (pc := 0) h dX2_takes_0 rfl ?_
  refine r_getR (pc := 1) h dX2_takes_1 f_X2_9 sh_25 rfl ?_
  refine r_iload_n (pc := 4) h dX2_takes_4 rfl ?_
  refine r_caloadE (pc := 5) h dX2_takes_5 sh_26 (hX.le hp) ?_
  refine r_istore_n (pc := 6) (ls2 := [_, _, _, _, _, _]) h dX2_takes_6 (Nat.le_of_ble_eq_true rfl) rfl ?_
  refine r_iload_n (pc := 7) h dX2_takes_7 rfl ?_
  rcases hcase with e | e | e | e | e | e | e
  · refine r_top (y := nI 115) h (by rw [e]) ?_
    refine r_lookup (pc := 8) (o := 60) (tgt := 68) h dX2_takes_8 (by decide) (by decide) (by decide) ?_
    have kk := st_k hs e
    have d2 := st_d hs (j := 2) (by decide) (by rw [e, sgn_115]; decide) (by omega)
    refine r_aload_n (pc := 68) h dX2_takes_68 rfl ?_
    refine r_ldcS (pc := 69) h dX2_takes_69 rfl ?_
    refine r_aload_n (pc := 71) h dX2_takes_71 rfl ?_
    refine r_getR (pc := 72) h dX2_takes_72 f_X2_9 sh_25 rfl ?_
    refine r_iload_n (pc := 75) h dX2_takes_75 rfl ?_
    refine r_iconst (pc := 76) h dX2_takes_76 ci_1 ?_
    refine r_iadd (pc := 77) h dX2_takes_77 ?_
    refine r_top (y := nI (p + 1)) h (nI_add _ _) ?_
    refine r_caloadE (pc := 78) h dX2_takes_78 sh_26 (hX.le kk.1) ?_
    refine r_callVi (pc := 79) (As := [_]) h dX2_takes_79 k_X2_29 gc_104 rfl ⟨Nat.le_of_ble_eq_true rfl, Nat.le_of_ble_eq_true rfl, Nat.le_of_ble_eq_true rfl⟩ (c_J0_indexOf (hX.2.1.2.2 _ kk.1).2) (fun x_79 g1 hq => ?_)
    obtain ⟨rfl, rfl⟩ := hq
    rw [show kdI (lt (p + 1)) = nI (kdx (lt (p + 1))) from if_pos kk.2]
    refine r_aload_n (pc := 82) h dX2_takes_82 rfl ?_
    refine r_iload_n (pc := 83) h dX2_takes_83 rfl ?_
    refine r_iconst (pc := 84) h dX2_takes_84 ci_2 ?_
    refine r_iadd (pc := 85) h dX2_takes_85 ?_
    refine r_top (y := nI (p + 2)) h (nI_add _ _) ?_
    refine r_callVi (pc := 86) (As := [_]) h dX2_takes_86 k_X2_34 gc_25 rfl ⟨Nat.le_of_ble_eq_true rfl, Nat.le_of_ble_eq_true rfl, Nat.le_of_ble_eq_true rfl⟩ (c_X2_digit hX d2.1 d2.2.1) (fun x_86 g1 hq => ?_)
    obtain ⟨rfl, rfl⟩ := hq
    refine r_callVi (pc := 89) (As := [_, _]) h dX2_takes_89 k_X2_37 gc_9 rfl ⟨Nat.le_of_ble_eq_true rfl, Nat.le_of_ble_eq_true rfl, Nat.le_of_ble_eq_true rfl⟩ (c_X0_addSuit_9 hT _ _) (fun x_89 g1 hq => ?_)
    obtain ⟨rfl, hc1, hF⟩ := hq
    refine r_ri t (pc := 92) dX2_takes_92 (bI_nar _) ?_
    rw [tk, if_pos e]
    exact ⟨(tkI hc1).1, (tkI hc1).2, hF⟩
  · refine r_top (y := nI 99) h (by rw [e]) ?_
    refine r_lookup (pc := 8) (o := 85) (tgt := 93) h dX2_takes_8 (by decide) (by decide) (by decide) ?_
    have d1 := st_d hs (j := 1) (by decide) (by rw [e, sgn_99]; decide) (by omega)
    have d2 := st_d hs (j := 2) (by decide) (by rw [e, sgn_99]; decide) (by omega)
    refine r_aload_n (pc := 93) h dX2_takes_93 rfl ?_
    refine r_aload_n (pc := 94) h dX2_takes_94 rfl ?_
    refine r_iload_n (pc := 95) h dX2_takes_95 rfl ?_
    refine r_iconst (pc := 96) h dX2_takes_96 ci_1 ?_
    refine r_iadd (pc := 97) h dX2_takes_97 ?_
    refine r_top (y := nI (p + 1)) h (nI_add _ _) ?_
    refine r_callVi (pc := 98) (As := [_]) h dX2_takes_98 k_X2_42 gc_25 rfl ⟨Nat.le_of_ble_eq_true rfl, Nat.le_of_ble_eq_true rfl, Nat.le_of_ble_eq_true rfl⟩ (c_X2_number hX d2.1 d1.2.1 d2.2.1) (fun x_98 g1 hq => ?_)
    obtain ⟨rfl, rfl⟩ := hq
    refine r_callVi (pc := 101) (As := [_]) h dX2_takes_101 k_X2_45 gc_9 rfl ⟨Nat.le_of_ble_eq_true rfl, Nat.le_of_ble_eq_true rfl, Nat.le_of_ble_eq_true rfl⟩ (c_X0_addCaller_9 hT (by rw [hnu1]; omega)) (fun x_101 g1 hq => ?_)
    obtain ⟨rfl, hc1, hF⟩ := hq
    refine r_ri t (pc := 104) dX2_takes_104 (bI_nar _) ?_
    rw [tk, if_neg (by rw [e]; decide), if_pos e]
    exact ⟨(tkI hc1).1, (tkI hc1).2, hF⟩
  · refine r_top (y := nI 119) h (by rw [e]) ?_
    refine r_lookup (pc := 8) (o := 97) (tgt := 105) h dX2_takes_8 (by decide) (by decide) (by decide) ?_
    have d1 := st_d hs (j := 1) (by decide) (by rw [e, sgn_119]; decide) (by omega)
    have d2 := st_d hs (j := 2) (by decide) (by rw [e, sgn_119]; decide) (by omega)
    refine r_aload_n (pc := 105) h dX2_takes_105 rfl ?_
    refine r_aload_n (pc := 106) h dX2_takes_106 rfl ?_
    refine r_iload_n (pc := 107) h dX2_takes_107 rfl ?_
    refine r_iconst (pc := 108) h dX2_takes_108 ci_1 ?_
    refine r_iadd (pc := 109) h dX2_takes_109 ?_
    refine r_top (y := nI (p + 1)) h (nI_add _ _) ?_
    refine r_callVi (pc := 110) (As := [_]) h dX2_takes_110 k_X2_34 gc_25 rfl ⟨Nat.le_of_ble_eq_true rfl, Nat.le_of_ble_eq_true rfl, Nat.le_of_ble_eq_true rfl⟩ (c_X2_digit hX d1.1 d1.2.1) (fun x_110 g1 hq => ?_)
    obtain ⟨rfl, rfl⟩ := hq
    refine r_aload_n (pc := 113) h dX2_takes_113 rfl ?_
    refine r_iload_n (pc := 114) h dX2_takes_114 rfl ?_
    refine r_iconst (pc := 115) h dX2_takes_115 ci_2 ?_
    refine r_iadd (pc := 116) h dX2_takes_116 ?_
    refine r_top (y := nI (p + 2)) h (nI_add _ _) ?_
    refine r_callVi (pc := 117) (As := [_]) h dX2_takes_117 k_X2_34 gc_25 rfl ⟨Nat.le_of_ble_eq_true rfl, Nat.le_of_ble_eq_true rfl, Nat.le_of_ble_eq_true rfl⟩ (c_X2_digit hX d2.1 d2.2.1) (fun x_117 g1 hq => ?_)
    obtain ⟨rfl, rfl⟩ := hq
    refine r_callSi (pc := 120) (As := [_, _, _]) h dX2_takes_120 k_X2_49 rfl ⟨Nat.le_of_ble_eq_true rfl, Nat.le_of_ble_eq_true rfl, Nat.le_of_ble_eq_true rfl⟩ (c_X2_takesWearing hT ho (by unfold dg; omega) (by unfold dg; omega)) (fun x_120 g1 hq => ?_)
    obtain ⟨rfl, hc1, hF⟩ := hq
    refine r_ri t (pc := 123) dX2_takes_123 (bI_nar _) ?_
    rw [tk, if_neg (by rw [e]; decide), if_neg (by rw [e]; decide), if_pos e]
    exact ⟨(tkI hc1).1, (tkI hc1).2, hF⟩
  · refine r_top (y := nI 111) h (by rw [e]) ?_
    refine r_lookup (pc := 8) (o := 116) (tgt := 124) h dX2_takes_8 (by decide) (by decide) (by decide) ?_
    have d1 := st_d hs (j := 1) (by decide) (by rw [e, sgn_111]; decide) (by omega)
    refine r_aload_n (pc := 124) h dX2_takes_124 rfl ?_
    refine r_aload_n (pc := 125) h dX2_takes_125 rfl ?_
    refine r_iload_n (pc := 126) h dX2_takes_126 rfl ?_
    refine r_iconst (pc := 127) h dX2_takes_127 ci_1 ?_
    refine r_iadd (pc := 128) h dX2_takes_128 ?_
    refine r_top (y := nI (p + 1)) h (nI_add _ _) ?_
    refine r_callVi (pc := 129) (As := [_]) h dX2_takes_129 k_X2_34 gc_25 rfl ⟨Nat.le_of_ble_eq_true rfl, Nat.le_of_ble_eq_true rfl, Nat.le_of_ble_eq_true rfl⟩ (c_X2_digit hX d1.1 d1.2.1) (fun x_129 g1 hq => ?_)
    obtain ⟨rfl, rfl⟩ := hq
    refine r_callSi (pc := 132) (As := [_, _]) h dX2_takes_132 k_X2_53 rfl ⟨Nat.le_of_ble_eq_true rfl, Nat.le_of_ble_eq_true rfl, Nat.le_of_ble_eq_true rfl⟩ (c_X2_takesUndressing hT (by unfold dg; omega)) (fun x_132 g1 hq => ?_)
    obtain ⟨rfl, hc1, hF⟩ := hq
    refine r_ri t (pc := 135) dX2_takes_135 (bI_nar _) ?_
    rw [tk, if_neg (by rw [e]; decide), if_neg (by rw [e]; decide), if_neg (by rw [e]; decide), if_pos e]
    exact ⟨(tkI hc1).1, (tkI hc1).2, hF⟩
  · refine r_top (y := nI 102) h (by rw [e]) ?_
    refine r_lookup (pc := 8) (o := 128) (tgt := 136) h dX2_takes_8 (by decide) (by decide) (by decide) ?_
    have d1 := st_d hs (j := 1) (by decide) (by rw [e, sgn_102]; decide) (by omega)
    have d2 := st_d hs (j := 2) (by decide) (by rw [e, sgn_102]; decide) (by omega)
    have d3 := st_d hs (j := 3) (by decide) (by rw [e, sgn_102]; decide) (by omega)
    refine r_aload_n (pc := 136) h dX2_takes_136 rfl ?_
    refine r_aload_n (pc := 137) h dX2_takes_137 rfl ?_
    refine r_iload_n (pc := 138) h dX2_takes_138 rfl ?_
    refine r_iconst (pc := 139) h dX2_takes_139 ci_1 ?_
    refine r_iadd (pc := 140) h dX2_takes_140 ?_
    refine r_top (y := nI (p + 1)) h (nI_add _ _) ?_
    refine r_callVi (pc := 141) (As := [_]) h dX2_takes_141 k_X2_34 gc_25 rfl ⟨Nat.le_of_ble_eq_true rfl, Nat.le_of_ble_eq_true rfl, Nat.le_of_ble_eq_true rfl⟩ (c_X2_digit hX d1.1 d1.2.1) (fun x_141 g1 hq => ?_)
    obtain ⟨rfl, rfl⟩ := hq
    refine r_aload_n (pc := 144) h dX2_takes_144 rfl ?_
    refine r_iload_n (pc := 145) h dX2_takes_145 rfl ?_
    refine r_iconst (pc := 146) h dX2_takes_146 ci_2 ?_
    refine r_iadd (pc := 147) h dX2_takes_147 ?_
    refine r_top (y := nI (p + 2)) h (nI_add _ _) ?_
    refine r_callVi (pc := 148) (As := [_]) h dX2_takes_148 k_X2_42 gc_25 rfl ⟨Nat.le_of_ble_eq_true rfl, Nat.le_of_ble_eq_true rfl, Nat.le_of_ble_eq_true rfl⟩ (c_X2_number hX d3.1 d2.2.1 d3.2.1) (fun x_148 g1 hq => ?_)
    obtain ⟨rfl, rfl⟩ := hq
    refine r_callSi (pc := 151) (As := [_, _, _]) h dX2_takes_151 k_X2_57 rfl ⟨Nat.le_of_ble_eq_true rfl, Nat.le_of_ble_eq_true rfl, Nat.le_of_ble_eq_true rfl⟩ (c_X2_takesFear hT (by unfold dg; omega) (by rw [hnu2]; omega)) (fun x_151 g1 hq => ?_)
    obtain ⟨rfl, hc1, hF⟩ := hq
    refine r_ri t (pc := 154) dX2_takes_154 (bI_nar _) ?_
    rw [tk, if_neg (by rw [e]; decide), if_neg (by rw [e]; decide), if_neg (by rw [e]; decide), if_neg (by rw [e]; decide), if_pos e]
    exact ⟨(tkI hc1).1, (tkI hc1).2, hF⟩
  · refine r_top (y := nI 114) h (by rw [e]) ?_
    refine r_lookup (pc := 8) (o := 147) (tgt := 155) h dX2_takes_8 (by decide) (by decide) (by decide) ?_
    have d1 := st_d hs (j := 1) (by decide) (by rw [e, sgn_114]; decide) (by omega)
    have d2 := st_d hs (j := 2) (by decide) (by rw [e, sgn_114]; decide) (by omega)
    refine r_aload_n (pc := 155) h dX2_takes_155 rfl ?_
    refine r_aload_n (pc := 156) h dX2_takes_156 rfl ?_
    refine r_iload_n (pc := 157) h dX2_takes_157 rfl ?_
    refine r_iconst (pc := 158) h dX2_takes_158 ci_1 ?_
    refine r_iadd (pc := 159) h dX2_takes_159 ?_
    refine r_top (y := nI (p + 1)) h (nI_add _ _) ?_
    refine r_callVi (pc := 160) (As := [_]) h dX2_takes_160 k_X2_34 gc_25 rfl ⟨Nat.le_of_ble_eq_true rfl, Nat.le_of_ble_eq_true rfl, Nat.le_of_ble_eq_true rfl⟩ (c_X2_digit hX d1.1 d1.2.1) (fun x_160 g1 hq => ?_)
    obtain ⟨rfl, rfl⟩ := hq
    refine r_aload_n (pc := 163) h dX2_takes_163 rfl ?_
    refine r_iload_n (pc := 164) h dX2_takes_164 rfl ?_
    refine r_iconst (pc := 165) h dX2_takes_165 ci_2 ?_
    refine r_iadd (pc := 166) h dX2_takes_166 ?_
    refine r_top (y := nI (p + 2)) h (nI_add _ _) ?_
    refine r_callVi (pc := 167) (As := [_]) h dX2_takes_167 k_X2_34 gc_25 rfl ⟨Nat.le_of_ble_eq_true rfl, Nat.le_of_ble_eq_true rfl, Nat.le_of_ble_eq_true rfl⟩ (c_X2_digit hX d2.1 d2.2.1) (fun x_167 g1 hq => ?_)
    obtain ⟨rfl, rfl⟩ := hq
    refine r_callSi (pc := 170) (As := [_, _, _]) h dX2_takes_170 k_X2_60 rfl ⟨Nat.le_of_ble_eq_true rfl, Nat.le_of_ble_eq_true rfl, Nat.le_of_ble_eq_true rfl⟩ (c_X2_takesRust hT (by unfold dg; omega) _) (fun x_170 g1 hq => ?_)
    obtain ⟨rfl, hc1, hF⟩ := hq
    refine r_ri t (pc := 173) dX2_takes_173 (bI_nar _) ?_
    rw [tk, if_neg (by rw [e]; decide), if_neg (by rw [e]; decide), if_neg (by rw [e]; decide), if_neg (by rw [e]; decide), if_neg (by rw [e]; decide), if_pos e]
    exact ⟨(tkI hc1).1, (tkI hc1).2, hF⟩
  · refine r_top (y := nI 100) h (by rw [e]) ?_
    refine r_lookup (pc := 8) (o := 166) (tgt := 174) h dX2_takes_8 (by decide) (by decide) (by decide) ?_
    have d1 := st_d hs (j := 1) (by decide) (by rw [e, sgn_100]; decide) (by omega)
    have d2 := st_d hs (j := 2) (by decide) (by rw [e, sgn_100]; decide) (by omega)
    refine r_aload_n (pc := 174) h dX2_takes_174 rfl ?_
    refine r_iload_n (pc := 175) h dX2_takes_175 rfl ?_
    refine r_iconst (pc := 176) h dX2_takes_176 ci_1 ?_
    refine r_iadd (pc := 177) h dX2_takes_177 ?_
    refine r_top (y := nI (p + 1)) h (nI_add _ _) ?_
    refine r_callVi (pc := 178) (As := [_]) h dX2_takes_178 k_X2_42 gc_25 rfl ⟨Nat.le_of_ble_eq_true rfl, Nat.le_of_ble_eq_true rfl, Nat.le_of_ble_eq_true rfl⟩ (c_X2_number hX d2.1 d1.2.1 d2.2.1) (fun x_178 g1 hq => ?_)
    obtain ⟨rfl, rfl⟩ := hq
    refine r_istore (pc := 181) (ls2 := [_, _, _, _, _, _]) h dX2_takes_181 (Nat.le_of_ble_eq_true rfl) rfl ?_
    refine r_iload (pc := 183) h dX2_takes_183 rfl ?_
    refine r_iconst (pc := 185) h dX2_takes_185 ci_1 ?_
    refine r_icmp_lt (pc := 186) (tgt := 213) h dX2_takes_186 (by decide) (fun c186 => ?_) (fun c186 => ?_)
    · have en : ¬ (1 ≤ nu lt (p + 1) ∧ nu lt (p + 1) ≤ 60 ∧ c 7 3 + nu lt (p + 1) ≤ 999) := fun q => nI_nlt q.1 (by omega) c186
      refine r_iconst (pc := 213) h dX2_takes_213 ci_0 ?_
      refine r_istore (pc := 214) (ls2 := [_, _, _, _, _, _]) h dX2_takes_214 (Nat.le_of_ble_eq_true rfl) rfl ?_
      refine r_aload_n (pc := 216) h dX2_takes_216 rfl ?_
      refine r_iload (pc := 217) h dX2_takes_217 rfl ?_
      refine r_if_eq (pc := 219) (tgt := 227) h dX2_takes_219 (by decide) (fun c219 => ?_) (fun c219 => absurd (rfl) c219)
      refine r_iconst (pc := 227) h dX2_takes_227 ci_0 ?_
      refine r_callVv (pc := 228) (As := [_]) h dX2_takes_228 k_X2_66 gc_9 rfl ⟨Nat.le_of_ble_eq_true rfl, Nat.le_of_ble_eq_true rfl, Nat.le_of_ble_eq_true rfl⟩ (c_X0_passDays_9 hT ho (by omega)) (fun g1 hq => ?_)
      obtain ⟨hT2, hF⟩ := hq
      refine r_iload (pc := 231) h dX2_takes_231 rfl ?_
      refine r_ri t (pc := 233) dX2_takes_233 (by decide) ?_
      rw [tk, if_neg (by rw [e]; decide), if_neg (by rw [e]; decide), if_neg (by rw [e]; decide), if_neg (by rw [e]; decide), if_neg (by rw [e]; decide), if_neg (by rw [e]; decide)]
      rw [if_neg en]
      exact ⟨rfl, fun d q => (by cases q), hF⟩
    · have e1 : 1 ≤ nu lt (p + 1) := Nat.le_of_not_lt fun q => c186 (nI_lt q (by decide))
      refine r_iload (pc := 189) h dX2_takes_189 rfl ?_
      refine r_bipush (pc := 191) h dX2_takes_191 cb_60 ?_
      refine r_icmp_gt (pc := 193) (tgt := 213) h dX2_takes_193 (by decide) (fun c193 => ?_) (fun c193 => ?_)
      · have en : ¬ (1 ≤ nu lt (p + 1) ∧ nu lt (p + 1) ≤ 60 ∧ c 7 3 + nu lt (p + 1) ≤ 999) := fun q => nI_nlt q.2.1 (by decide) c193
        refine r_iconst (pc := 213) h dX2_takes_213 ci_0 ?_
        refine r_istore (pc := 214) (ls2 := [_, _, _, _, _, _]) h dX2_takes_214 (Nat.le_of_ble_eq_true rfl) rfl ?_
        refine r_aload_n (pc := 216) h dX2_takes_216 rfl ?_
        refine r_iload (pc := 217) h dX2_takes_217 rfl ?_
        refine r_if_eq (pc := 219) (tgt := 227) h dX2_takes_219 (by decide) (fun c219 => ?_) (fun c219 => absurd (rfl) c219)
        refine r_iconst (pc := 227) h dX2_takes_227 ci_0 ?_
        refine r_callVv (pc := 228) (As := [_]) h dX2_takes_228 k_X2_66 gc_9 rfl ⟨Nat.le_of_ble_eq_true rfl, Nat.le_of_ble_eq_true rfl, Nat.le_of_ble_eq_true rfl⟩ (c_X0_passDays_9 hT ho (by omega)) (fun g1 hq => ?_)
        obtain ⟨hT2, hF⟩ := hq
        refine r_iload (pc := 231) h dX2_takes_231 rfl ?_
        refine r_ri t (pc := 233) dX2_takes_233 (by decide) ?_
        rw [tk, if_neg (by rw [e]; decide), if_neg (by rw [e]; decide), if_neg (by rw [e]; decide), if_neg (by rw [e]; decide), if_neg (by rw [e]; decide), if_neg (by rw [e]; decide)]
        rw [if_neg en]
        exact ⟨rfl, fun d q => (by cases q), hF⟩
      · have e2 : nu lt (p + 1) ≤ 60 := Nat.le_of_not_lt fun q => c193 (nI_lt q (by rw [hnu1]; omega))
        refine r_aload_n (pc := 196) h dX2_takes_196 rfl ?_
        refine r_getE (pc := 197) h dX2_takes_197 f_X2_63 sh_9 rfl (hT.dy) ?_
        refine r_iload (pc := 200) h dX2_takes_200 rfl ?_
        refine r_iadd (pc := 202) h dX2_takes_202 ?_
        refine r_top (y := nI (c 7 3 + nu lt (p + 1))) h (nI_add _ _) ?_
        refine r_sipush (pc := 203) h dX2_takes_203 cs_999 ?_
        refine r_icmp_gt (pc := 206) (tgt := 213) h dX2_takes_206 (by decide) (fun c206 => ?_) (fun c206 => ?_)
        · have en : ¬ (1 ≤ nu lt (p + 1) ∧ nu lt (p + 1) ≤ 60 ∧ c 7 3 + nu lt (p + 1) ≤ 999) := fun q => nI_nlt q.2.2 (by decide) c206
          refine r_iconst (pc := 213) h dX2_takes_213 ci_0 ?_
          refine r_istore (pc := 214) (ls2 := [_, _, _, _, _, _]) h dX2_takes_214 (Nat.le_of_ble_eq_true rfl) rfl ?_
          refine r_aload_n (pc := 216) h dX2_takes_216 rfl ?_
          refine r_iload (pc := 217) h dX2_takes_217 rfl ?_
          refine r_if_eq (pc := 219) (tgt := 227) h dX2_takes_219 (by decide) (fun c219 => ?_) (fun c219 => absurd (rfl) c219)
          refine r_iconst (pc := 227) h dX2_takes_227 ci_0 ?_
          refine r_callVv (pc := 228) (As := [_]) h dX2_takes_228 k_X2_66 gc_9 rfl ⟨Nat.le_of_ble_eq_true rfl, Nat.le_of_ble_eq_true rfl, Nat.le_of_ble_eq_true rfl⟩ (c_X0_passDays_9 hT ho (by omega)) (fun g1 hq => ?_)
          obtain ⟨hT2, hF⟩ := hq
          refine r_iload (pc := 231) h dX2_takes_231 rfl ?_
          refine r_ri t (pc := 233) dX2_takes_233 (by decide) ?_
          rw [tk, if_neg (by rw [e]; decide), if_neg (by rw [e]; decide), if_neg (by rw [e]; decide), if_neg (by rw [e]; decide), if_neg (by rw [e]; decide), if_neg (by rw [e]; decide)]
          rw [if_neg en]
          exact ⟨rfl, fun d q => (by cases q), hF⟩
        · have e3 : c 7 3 + nu lt (p + 1) ≤ 999 := Nat.le_of_not_lt fun q => c206 (nI_lt q (by omega))
          refine r_iconst (pc := 209) h dX2_takes_209 ci_1 ?_
          refine r_goto (pc := 210) (tgt := 214) h dX2_takes_210 (by decide) ?_
          refine r_istore (pc := 214) (ls2 := [_, _, _, _, _, _]) h dX2_takes_214 (Nat.le_of_ble_eq_true rfl) rfl ?_
          refine r_aload_n (pc := 216) h dX2_takes_216 rfl ?_
          refine r_iload (pc := 217) h dX2_takes_217 rfl ?_
          refine r_if_eq (pc := 219) (tgt := 227) h dX2_takes_219 (by decide) (fun c219 => absurd c219 (by decide)) (fun c219 => ?_)
          refine r_iload (pc := 222) h dX2_takes_222 rfl ?_
          refine r_goto (pc := 224) (tgt := 228) h dX2_takes_224 (by decide) ?_
          refine r_callVv (pc := 228) (As := [_]) h dX2_takes_228 k_X2_66 gc_9 rfl ⟨Nat.le_of_ble_eq_true rfl, Nat.le_of_ble_eq_true rfl, Nat.le_of_ble_eq_true rfl⟩ (c_X0_passDays_9 hT ho (by omega)) (fun g1 hq => ?_)
          obtain ⟨hT2, hF⟩ := hq
          refine r_iload (pc := 231) h dX2_takes_231 rfl ?_
          refine r_ri t (pc := 233) dX2_takes_233 (by decide) ?_
          rw [tk, if_neg (by rw [e]; decide), if_neg (by rw [e]; decide), if_neg (by rw [e]; decide), if_neg (by rw [e]; decide), if_neg (by rw [e]; decide), if_neg (by rw [e]; decide)]
          rw [if_pos ⟨e1, e2, e3⟩]
          exact ⟨rfl, fun d q => by cases q; exact hT2, hF⟩
set_option maxRecDepth 100000 in
set_option maxHeartbeats 4000000 in
theorem x_city (hR : Rx1 g c) (hX : XSr g ck hk lt nl rv nr rf) (ho : gok c) (hd : c 7 3 ≤ 999) : gCi mX3_city [.ref 0] g (fun y g1 => y = ansI (nI 0) (cityV lt nl c) ∧ Rx1 g1 (cityC lt nl c) ∧ XSr g1 ck hk lt 0 rv nr (rfI rf (nI 0)) ∧ frm 0 35 g g1) := by
  refine gCi_of (own := RX3) (ls0 := [.ref 0, .null, .null, .null]) ⟨rfl, pl_X3⟩ rfl (Nat.le_of_ble_eq_true rfl) (fun G (h : gR RX3 cX3_city 6 240 G) (t : gTi cX3_city .int _ G) => ?_)
  have hn96 := hX.2.1.2.1
  have bad : ∀ (g2 : gG) (pl a z : Int32), a < 0 → Rx1 g2 (cityC lt nl c) → XSr g2 ck hk lt nl rv nr rf → frm 0 35 g g2 → a = cityV lt nl c → G 90 [.ref 0, .int pl, .int a, .int z] [] g2 := by
    intro g2 pl a z ha hR2 hX2 hF2 hv
    refine r_iload_n (pc := 90) h dX3_city_90 rfl ?_
    refine r_if_lt (pc := 91) (tgt := 105) h dX3_city_91 (by decide) (fun c91 => ?_) (fun c91 => absurd (ha) c91)
    refine r_aload_n (pc := 105) h dX3_city_105 rfl ?_
    refine r_getR (pc := 106) h dX3_city_106 f_X3_29 sh_0 rfl ?_
    refine r_iconst (pc := 109) h dX3_city_109 ci_0 ?_
    refine r_putI (pc := 110) h dX3_city_110 fw_X3_64 sh_25 rfl rfl rfl ?_
    refine r_iload_n (pc := 113) h dX3_city_113 rfl ?_
    refine r_ri t (pc := 114) dX3_city_114 rfl ?_
    exact x_ok (hR2.of fun k _ _ => gup_ne (by omega)) hX2.cl (hF2.up (by decide)) rfl hv
  have bad30 : ∀ (g2 : gG) (pl a z : Int32), a < 0 → Rx1 g2 c → XSr g2 ck hk lt nl rv nr rf → frm 0 35 g g2 → a = cityV lt nl c → cityC lt nl c = c → G 30 [.ref 0, .int pl, .int a, .int z] [] g2 := by
    intro g2 pl a z ha hR2 hX2 hF2 hv hc
    rw [← hc] at hR2
    refine r_iload_n (pc := 30) h dX3_city_30 rfl ?_
    refine r_if_lt (pc := 31) (tgt := 90) h dX3_city_31 (by decide) (fun c31 => ?_) (fun c31 => absurd (ha) c31)
    exact bad g2 pl a z ha hR2 hX2 hF2 hv
  have good : ∀ (g2 : gG) (pl z : Int32) (k : Nat) (d : gCt), k ≤ 96 → Rx9 g2 d → Rx1 g2 c → XSr g2 ck hk lt nl rv nr rf → frm 0 35 g g2 → nI k = cityV lt nl c → cityC lt nl c = d → G 90 [.ref 0, .int pl, .int (nI k), .int z] [] g2 := by
    intro g2 pl z k d hk96 hT2 hR2 hX2 hF2 hv hc
    refine r_iload_n (pc := 90) h dX3_city_90 rfl ?_
    refine r_if_lt (pc := 91) (tgt := 105) h dX3_city_91 (by decide) (fun c91 => absurd c91 (nI_pos (by omega))) (fun c91 => ?_)
    refine r_aload_n (pc := 94) h dX3_city_94 rfl ?_
    refine r_getR (pc := 95) h dX3_city_95 f_X3_10 sh_0 rfl ?_
    refine r_aload_n (pc := 98) h dX3_city_98 rfl ?_
    refine r_getR (pc := 99) h dX3_city_99 f_X3_16 sh_0 rfl ?_
    refine r_callVv (pc := 102) (As := [_]) h dX3_city_102 k_X3_94 gc_1 rfl ⟨Nat.le_of_ble_eq_true rfl, Nat.le_of_ble_eq_true rfl, Nat.le_of_ble_eq_true rfl⟩ (c_X0_copyFrom_1_9 hT2) (fun g3 hq => ?_)
    obtain ⟨hR3, hF3⟩ := hq
    refine r_aload_n (pc := 105) h dX3_city_105 rfl ?_
    refine r_getR (pc := 106) h dX3_city_106 f_X3_29 sh_0 rfl ?_
    refine r_iconst (pc := 109) h dX3_city_109 ci_0 ?_
    refine r_putI (pc := 110) h dX3_city_110 fw_X3_64 sh_25 rfl rfl rfl ?_
    refine r_iload_n (pc := 113) h dX3_city_113 rfl ?_
    refine r_ri t (pc := 114) dX3_city_114 rfl ?_
    rw [hc]
    exact x_ok (hR3.of fun k _ _ => gup_ne (by omega)) (hX2.f1 hF3).cl ((hF2.tr (hF3.wide (by decide) (by decide))).up (by decide)) rfl hv
  have loop : ∀ n, rdN lt nl = (none, n) → ∀ m k d (g2 : gG) (pl : Int32), k + m = n → Rx9 g2 d → Rx1 g2 c → XSr g2 ck hk lt nl rv nr rf → frm 0 35 g g2 → gok d → d 7 3 ≤ 999 → runK lt m k d = runK lt n 0 c → G 30 [.ref 0, .int pl, .int (nI k), .int (nI (pos lt k))] [] g2 := by
    intro n hrd m
    have hn := rdN_n hrd
    have hn2 := pos_2 lt n
    induction m with
    | zero =>
      intro k d g2 pl hk0 hT2 hR2 hX2 hF2 ho2 hd2 hz
      refine r_iload_n (pc := 30) h dX3_city_30 rfl ?_
      refine r_if_lt (pc := 31) (tgt := 90) h dX3_city_31 (by decide) (fun c31 => absurd c31 (nI_pos (by omega))) (fun c31 => ?_)
      refine r_iload_n (pc := 34) h dX3_city_34 rfl ?_
      refine r_aload_n (pc := 35) h dX3_city_35 rfl ?_
      refine r_getR (pc := 36) h dX3_city_36 f_X3_29 sh_0 rfl ?_
      refine r_getE (pc := 39) h dX3_city_39 f_X3_64 sh_25 rfl (hX2.2.1.1) ?_
      refine r_icmp_ge (pc := 42) (tgt := 90) h dX3_city_42 (by decide) (fun c42 => ?_) (fun c42 => absurd (nI_le (by rw [show k = n by omega, hn.1]; exact Nat.le_refl _) (by rw [show k = n by omega, hn.1]; omega)) c42)
      exact good g2 pl _ k d (by omega) hT2 hR2 hX2 hF2 (by unfold cityV; rw [hrd]; dsimp only; rw [← hz]; show nI k = nI n; rw [show k = n by omega]) (by unfold cityC; rw [hrd]; dsimp only; rw [← hz]; rfl)
    | succ m ih =>
      intro k d g2 pl hkm hT2 hR2 hX2 hF2 ho2 hd2 hz
      have hsk := hn.2.2 k (by omega)
      have hpk := pos_le hsk
      refine r_iload_n (pc := 30) h dX3_city_30 rfl ?_
      refine r_if_lt (pc := 31) (tgt := 90) h dX3_city_31 (by decide) (fun c31 => absurd c31 (nI_pos (by omega))) (fun c31 => ?_)
      refine r_iload_n (pc := 34) h dX3_city_34 rfl ?_
      refine r_aload_n (pc := 35) h dX3_city_35 rfl ?_
      refine r_getR (pc := 36) h dX3_city_36 f_X3_29 sh_0 rfl ?_
      refine r_getE (pc := 39) h dX3_city_39 f_X3_64 sh_25 rfl (hX2.2.1.1) ?_
      refine r_icmp_ge (pc := 42) (tgt := 90) h dX3_city_42 (by decide) (fun c42 => absurd c42 (nI_ge hpk.2 (by omega))) (fun c42 => ?_)
      refine r_aload_n (pc := 45) h dX3_city_45 rfl ?_
      refine r_getR (pc := 46) h dX3_city_46 f_X3_29 sh_0 rfl ?_
      refine r_aload_n (pc := 49) h dX3_city_49 rfl ?_
      refine r_getR (pc := 50) h dX3_city_50 f_X3_16 sh_0 rfl ?_
      refine r_iload_n (pc := 53) h dX3_city_53 rfl ?_
      refine r_callVi (pc := 54) (As := [_, _]) h dX3_city_54 k_X3_81 gc_25 rfl ⟨Nat.le_of_ble_eq_true rfl, Nat.le_of_ble_eq_true rfl, Nat.le_of_ble_eq_true rfl⟩ (c_X2_takes hT2 hX2 ho2 hd2 hsk) (fun x_54 g3 hq => ?_)
      obtain ⟨rfl, hc1, hF1⟩ := hq
      have hX3 := hX2.f9 hF1
      have hR3 := hR2.f9 hF1
      have hF3 := hF2.tr (hF1.wide (by decide) (by decide))
      refine r_if_eq (pc := 57) (tgt := 66) h dX3_city_57 (by decide) (fun c57 => ?_) (fun c57 => ?_)
      · have hb := (bI_0 _).mp c57
        have hk0 : tk lt d (pos lt k) = none := by simpa using hb
        have hz2 : runK lt n 0 c = (none, k) := by rw [← hz, runK, hk0]
        refine r_sipush (pc := 66) h dX3_city_66 cs_m2000 ?_
        refine r_iload_n (pc := 69) h dX3_city_69 rfl ?_
        refine r_isub (pc := 70) h dX3_city_70 ?_
        refine r_istore_n (pc := 71) (ls2 := [_, _, _, _]) h dX3_city_71 (Nat.le_of_ble_eq_true rfl) rfl ?_
        refine r_iload_n (pc := 72) h dX3_city_72 rfl ?_
        refine r_aload_n (pc := 73) h dX3_city_73 rfl ?_
        refine r_getR (pc := 74) h dX3_city_74 f_X3_29 sh_0 rfl ?_
        refine r_iload_n (pc := 77) h dX3_city_77 rfl ?_
        refine r_callVi (pc := 78) (As := [_]) h dX3_city_78 k_X3_85 gc_25 rfl ⟨Nat.le_of_ble_eq_true rfl, Nat.le_of_ble_eq_true rfl, Nat.le_of_ble_eq_true rfl⟩ (c_X2_lengthAt hX3 hpk.2) (fun x_78 g3 hq => ?_)
        obtain ⟨rfl, rfl⟩ := hq
        refine r_iconst (pc := 81) h dX3_city_81 ci_1 ?_
        refine r_mmax (pc := 82) h dX3_city_82 k_X3_88 ⟨Nat.le_of_ble_eq_true rfl, Nat.le_of_ble_eq_true rfl⟩ ?_
        refine r_top (y := nI (sgn (lt (pos lt k)) + 2)) h (if_neg (nI_nlt (by omega) (by have := sgn_le (lt (pos lt k)); omega))) ?_
        refine r_iadd (pc := 85) h dX3_city_85 ?_
        refine r_top (y := nI (pos lt k + (sgn (lt (pos lt k)) + 2))) h (nI_add _ _) ?_
        refine r_istore_n (pc := 86) (ls2 := [_, _, _, _]) h dX3_city_86 (Nat.le_of_ble_eq_true rfl) rfl ?_
        refine r_goto (pc := 87) (tgt := 30) h dX3_city_87 (by decide) ?_
        exact bad30 _ pl _ _ (sub_2 (by omega)) hR3 hX3 hF3 (by unfold cityV; rw [hrd]; dsimp only; rw [hz2]) (by unfold cityC; rw [hrd]; dsimp only; rw [hz2])
      · obtain ⟨d2, hk0⟩ : ∃ d2, tk lt d (pos lt k) = some d2 := Option.ne_none_iff_exists'.mp (fun q => c57 (by rw [q]; rfl))
        have ho3 := tk_ok hsk ho2 hd2 hk0
        refine r_iload_n (pc := 60) h dX3_city_60 rfl ?_
        refine r_iconst (pc := 61) h dX3_city_61 ci_1 ?_
        refine r_iadd (pc := 62) h dX3_city_62 ?_
        refine r_top (y := nI (k + 1)) h (nI_add _ _) ?_
        refine r_goto (pc := 63) (tgt := 71) h dX3_city_63 (by decide) ?_
        refine r_istore_n (pc := 71) (ls2 := [_, _, _, _]) h dX3_city_71 (Nat.le_of_ble_eq_true rfl) rfl ?_
        refine r_iload_n (pc := 72) h dX3_city_72 rfl ?_
        refine r_aload_n (pc := 73) h dX3_city_73 rfl ?_
        refine r_getR (pc := 74) h dX3_city_74 f_X3_29 sh_0 rfl ?_
        refine r_iload_n (pc := 77) h dX3_city_77 rfl ?_
        refine r_callVi (pc := 78) (As := [_]) h dX3_city_78 k_X3_85 gc_25 rfl ⟨Nat.le_of_ble_eq_true rfl, Nat.le_of_ble_eq_true rfl, Nat.le_of_ble_eq_true rfl⟩ (c_X2_lengthAt hX3 hpk.2) (fun x_78 g3 hq => ?_)
        obtain ⟨rfl, rfl⟩ := hq
        refine r_iconst (pc := 81) h dX3_city_81 ci_1 ?_
        refine r_mmax (pc := 82) h dX3_city_82 k_X3_88 ⟨Nat.le_of_ble_eq_true rfl, Nat.le_of_ble_eq_true rfl⟩ ?_
        refine r_top (y := nI (sgn (lt (pos lt k)) + 2)) h (if_neg (nI_nlt (by omega) (by have := sgn_le (lt (pos lt k)); omega))) ?_
        refine r_iadd (pc := 85) h dX3_city_85 ?_
        refine r_top (y := nI (pos lt k + (sgn (lt (pos lt k)) + 2))) h (nI_add _ _) ?_
        refine r_istore_n (pc := 86) (ls2 := [_, _, _, _]) h dX3_city_86 (Nat.le_of_ble_eq_true rfl) rfl ?_
        refine r_goto (pc := 87) (tgt := 30) h dX3_city_87 (by decide) ?_
        exact ih (k + 1) d2 _ pl (by omega) (hc1 d2 hk0) hR3 hX3 hF3 ho3.1 ho3.2 (by rw [← hz, runK, hk0])
  refine r_aload_n (pc := 0) h dX3_city_0 rfl ?_
  refine r_getR (pc := 1) h dX3_city_1 f_X3_29 sh_0 rfl ?_
  refine r_callVi (pc := 4) (As := []) h dX3_city_4 k_X3_74 gc_25 rfl ⟨Nat.le_of_ble_eq_true rfl, Nat.le_of_ble_eq_true rfl, Nat.le_of_ble_eq_true rfl⟩ (c_X2_wrongPlace hX) (fun x_4 g2 hq => ?_)
  obtain ⟨rfl, hg2⟩ := hq
  rw [hg2]
  refine r_istore_n (pc := 7) (ls2 := [_, _, _, _]) h dX3_city_7 (Nat.le_of_ble_eq_true rfl) rfl ?_
  refine r_iload_n (pc := 8) h dX3_city_8 rfl ?_
  refine r_bipush (pc := 9) h dX3_city_9 cb_m9 ?_
  refine r_icmp_ne (pc := 11) (tgt := 18) h dX3_city_11 (by decide) (fun c11 => ?_) (fun c11 => ?_)
  · obtain ⟨q, hq1⟩ : ∃ q, (rdN lt nl).1 = some q := Option.ne_none_iff_exists'.mp (fun q => c11 (by rw [q]; rfl))
    have hrd : rdN lt nl = (some q, (rdN lt nl).2) := by rw [← hq1]
    have hql := rdN_le hrd
    rw [show oI (rdN lt nl).1 = nI q by rw [hq1]; rfl]
    refine r_sipush (pc := 18) h dX3_city_18 cs_m1000 ?_
    refine r_iload_n (pc := 21) h dX3_city_21 rfl ?_
    refine r_isub (pc := 22) h dX3_city_22 ?_
    refine r_istore_n (pc := 23) (ls2 := [_, _, _, _]) h dX3_city_23 (Nat.le_of_ble_eq_true rfl) rfl ?_
    refine r_aload_n (pc := 24) h dX3_city_24 rfl ?_
    refine r_callVv (pc := 25) (As := []) h dX3_city_25 k_X3_78 gc_0 rfl ⟨Nat.le_of_ble_eq_true rfl, Nat.le_of_ble_eq_true rfl, Nat.le_of_ble_eq_true rfl⟩ (c_X3_think hR) (fun g2 hq => ?_)
    obtain ⟨hT2, hF1⟩ := hq
    have hX2 := hX.f9 hF1
    have hR2 := hR.f9 hF1
    have hF2 : frm 0 35 g g2 := hF1.wide (by decide) (by decide)
    refine r_iconst (pc := 28) h dX3_city_28 ci_0 ?_
    refine r_istore_n (pc := 29) (ls2 := [_, _, _, _]) h dX3_city_29 (Nat.le_of_ble_eq_true rfl) rfl ?_
    exact bad30 _ _ _ _ (sub_1 (by omega)) hR2 hX2 hF2 (by unfold cityV; rw [hrd]) (by unfold cityC; rw [hrd])
  · have hq1 : (rdN lt nl).1 = none := (oI_none (fun k hk => by have := rdN_le (n := (rdN lt nl).2) (by rw [← hk]); omega)).mp c11
    have hrd : rdN lt nl = (none, (rdN lt nl).2) := by rw [← hq1]
    refine r_iconst (pc := 14) h dX3_city_14 ci_0 ?_
    refine r_goto (pc := 15) (tgt := 23) h dX3_city_15 (by decide) ?_
    refine r_istore_n (pc := 23) (ls2 := [_, _, _, _]) h dX3_city_23 (Nat.le_of_ble_eq_true rfl) rfl ?_
    refine r_aload_n (pc := 24) h dX3_city_24 rfl ?_
    refine r_callVv (pc := 25) (As := []) h dX3_city_25 k_X3_78 gc_0 rfl ⟨Nat.le_of_ble_eq_true rfl, Nat.le_of_ble_eq_true rfl, Nat.le_of_ble_eq_true rfl⟩ (c_X3_think hR) (fun g2 hq => ?_)
    obtain ⟨hT2, hF1⟩ := hq
    have hX2 := hX.f9 hF1
    have hR2 := hR.f9 hF1
    have hF2 : frm 0 35 g g2 := hF1.wide (by decide) (by decide)
    refine r_iconst (pc := 28) h dX3_city_28 ci_0 ?_
    refine r_istore_n (pc := 29) (ls2 := [_, _, _, _]) h dX3_city_29 (Nat.le_of_ble_eq_true rfl) rfl ?_
    exact loop _ hrd _ 0 c _ _ (by omega) hT2 hR2 hX2 hF2 ho hd rfl
end TX
