set_option maxRecDepth 100000 in
set_option maxHeartbeats 4000000 in
theorem c_X4_passes_k37 {g : gG} {cur : Nat} (hc : g 35 22 = nI cur) (hk : g 35 21 = nI 1) (hn : cur + 6 ≤ 126) : gCv mX4_passes [.ref 35, .ref 37] g (fun g1 => (∀ k, k < 6 → g1 48 (cur + k) = g 37 k) ∧ g1 35 22 = nI (cur + 6) ∧ g1 35 21 = nI 1 ∧ kfr cur (cur + 6) g g1) := by
  refine gCv_of (own := RX4) (ls0 := [.ref 35, .ref 37, .null]) ⟨rfl, pl_X4⟩ rfl (Nat.le_of_ble_eq_true rfl) (fun G (h : gR RX4 cX4_passes 0 0 G) (t : gTv cX4_passes _ G) => ?_)
  have loop : ∀ m i (g2 : gG), i + m = 6 → g2 35 22 = nI (cur + i) → g2 35 21 = nI 1 → (∀ k, k < i → g2 48 (cur + k) = g 37 k) → kfr cur (cur + 6) g g2 → G 2 [.ref 35, .ref 37, .int (nI i)] [] g2 := by
    intro m
    induction m with
    | zero =>
      intro i g2 hi h1 h2 h3 h4
      have ei : i = 6 := by omega
      subst ei
      refine r_iload_n (pc := 2) h dX4_passes_2 rfl ?_
      refine r_aload_n (pc := 3) h dX4_passes_3 rfl ?_
      refine r_alen (pc := 4) h dX4_passes_4 sh_37 (by decide) (by decide) ?_
      refine r_icmp_ge (pc := 5) (tgt := 58) h dX4_passes_5 (by decide) (fun c5 => ?_) (fun c5 => absurd (nI_le (by decide) (by decide)) c5)
      refine r_rv t (pc := 58) dX4_passes_58 ?_
      exact ⟨h3, h1, h2, h4⟩
    | succ m ih =>
      intro i g2 hi h1 h2 h3 h4
      have hlt : i < 6 := by omega
      have hv : g2 37 i = g 37 i := h4 _ _ (by omega) (by omega)
      have ec : (nI (cur + i)).toNatClampNeg = cur + i := nI_clamp (by omega)
      refine r_iload_n (pc := 2) h dX4_passes_2 rfl ?_
      refine r_aload_n (pc := 3) h dX4_passes_3 rfl ?_
      refine r_alen (pc := 4) h dX4_passes_4 sh_37 (by decide) (by decide) ?_
      refine r_icmp_ge (pc := 5) (tgt := 58) h dX4_passes_5 (by decide) (fun c5 => absurd c5 (nI_ge hlt (by decide))) (fun c5 => ?_)
      refine r_aload_n (pc := 8) h dX4_passes_8 rfl ?_
      refine r_getE (pc := 9) h dX4_passes_9 f_X4_149 sh_35 rfl (h2) ?_
      refine r_if_eq (pc := 12) (tgt := 30) h dX4_passes_12 (by decide) (fun c12 => absurd c12 (by decide)) (fun c12 => ?_)
      refine r_aload_n (pc := 15) h dX4_passes_15 rfl ?_
      refine r_getR (pc := 16) h dX4_passes_16 f_X4_46 sh_35 rfl ?_
      refine r_aload_n (pc := 19) h dX4_passes_19 rfl ?_
      refine r_getE (pc := 20) h dX4_passes_20 f_X4_153 sh_35 rfl (h1) ?_
      refine r_aload_n (pc := 23) h dX4_passes_23 rfl ?_
      refine r_iload_n (pc := 24) h dX4_passes_24 rfl ?_
      refine r_ialoadE (pc := 25) h dX4_passes_25 sh_37 ((⟨vp_in_nI hlt (by decide), by rw [nI_clamp (by omega)]; exact hv⟩ : vp_in (nI i) 6 ∧ g2 37 (nI i).toNatClampNeg = g 37 i)) ?_
      refine r_iastore (pc := 26) h dX4_passes_26 sh_48 (vp_in_nI (show cur + i < 126 by omega) (by decide)) ?_
      refine r_goto (pc := 27) (tgt := 42) h dX4_passes_27 (by decide) ?_
      refine r_aload_n (pc := 42) h dX4_passes_42 rfl ?_
      refine r_dup (pc := 43) h dX4_passes_43 rfl ?_
      refine r_getE (pc := 44) h dX4_passes_44 f_X4_153 sh_35 rfl (show gup g2 48 (nI (cur + i)).toNatClampNeg (g 37 i) 35 22 = nI (cur + i) by rw [gup_o (by omega)]; exact h1) ?_
      refine r_iconst (pc := 47) h dX4_passes_47 ci_1 ?_
      refine r_iadd (pc := 48) h dX4_passes_48 ?_
      refine r_top (y := nI (cur + (i + 1))) h (nI_add _ _) ?_
      refine r_putI (pc := 49) h dX4_passes_49 fw_X4_153 sh_35 rfl rfl rfl ?_
      refine r_iinc (pc := 52) (ls2 := [_, _, _]) h dX4_passes_52 rfl (ic1 _) rfl ?_
      refine r_goto (pc := 55) (tgt := 2) h dX4_passes_55 (by decide) ?_
      refine ih (i + 1) _ (by omega) gup_s (by rw [gup_o (by omega), gup_o (by omega)]; exact h2) (fun k hk => ?_) (fun a b q1 q2 => ?_)
      · rw [gup_o (by omega), ec]
        by_cases e : k = i
        · subst e; exact gup_s
        · rw [gup_o (by omega)]; exact h3 k (by omega)
      · rw [gup_o (fun z => q2 ⟨z.1, Or.inr z.2⟩), ec, gup_o (by omega)]; exact h4 a b q1 q2
  refine r_iconst (pc := 0) h dX4_passes_0 ci_0 ?_
  refine r_istore_n (pc := 1) (ls2 := [_, _, _]) h dX4_passes_1 (Nat.le_of_ble_eq_true rfl) rfl ?_
  exact loop 6 0 g rfl hc hk (fun k q => by omega) (fun a b _ _ => rfl)
set_option maxRecDepth 100000 in
set_option maxHeartbeats 4000000 in
theorem c_X4_passes_u37 {g : gG} {cur : Nat} (hc : g 35 22 = nI cur) (hk : g 35 21 = nI 0) (hn : cur + 6 ≤ 126) : gCv mX4_passes [.ref 35, .ref 37] g (fun g1 => (∀ k, k < 6 → g1 37 k = g 48 (cur + k)) ∧ g1 35 22 = nI (cur + 6) ∧ g1 35 21 = nI 0 ∧ (∀ a b, ¬ a = 37 → ¬ (a = 35 ∧ b = 22) → g1 a b = g a b)) := by
  refine gCv_of (own := RX4) (ls0 := [.ref 35, .ref 37, .null]) ⟨rfl, pl_X4⟩ rfl (Nat.le_of_ble_eq_true rfl) (fun G (h : gR RX4 cX4_passes 0 0 G) (t : gTv cX4_passes _ G) => ?_)
  have loop : ∀ m i (g2 : gG), i + m = 6 → g2 35 22 = nI (cur + i) → g2 35 21 = nI 0 → (∀ k, k < i → g2 37 k = g 48 (cur + k)) → (∀ a b, ¬ a = 37 → ¬ (a = 35 ∧ b = 22) → g2 a b = g a b) → G 2 [.ref 35, .ref 37, .int (nI i)] [] g2 := by
    intro m
    induction m with
    | zero =>
      intro i g2 hi h1 h2 h3 h4
      have ei : i = 6 := by omega
      subst ei
      refine r_iload_n (pc := 2) h dX4_passes_2 rfl ?_
      refine r_aload_n (pc := 3) h dX4_passes_3 rfl ?_
      refine r_alen (pc := 4) h dX4_passes_4 sh_37 (by decide) (by decide) ?_
      refine r_icmp_ge (pc := 5) (tgt := 58) h dX4_passes_5 (by decide) (fun c5 => ?_) (fun c5 => absurd (nI_le (by decide) (by decide)) c5)
      refine r_rv t (pc := 58) dX4_passes_58 ?_
      exact ⟨h3, h1, h2, h4⟩
    | succ m ih =>
      intro i g2 hi h1 h2 h3 h4
      have hlt : i < 6 := by omega
      have ei : (nI i).toNatClampNeg = i := nI_clamp (by omega)
      have hv : g2 48 (cur + i) = g 48 (cur + i) := h4 _ _ (by decide) (by omega)
      refine r_iload_n (pc := 2) h dX4_passes_2 rfl ?_
      refine r_aload_n (pc := 3) h dX4_passes_3 rfl ?_
      refine r_alen (pc := 4) h dX4_passes_4 sh_37 (by decide) (by decide) ?_
      refine r_icmp_ge (pc := 5) (tgt := 58) h dX4_passes_5 (by decide) (fun c5 => absurd c5 (nI_ge hlt (by decide))) (fun c5 => ?_)
      refine r_aload_n (pc := 8) h dX4_passes_8 rfl ?_
      refine r_getE (pc := 9) h dX4_passes_9 f_X4_149 sh_35 rfl (h2) ?_
      refine r_if_eq (pc := 12) (tgt := 30) h dX4_passes_12 (by decide) (fun c12 => ?_) (fun c12 => absurd (by rfl) c12)
      refine r_aload_n (pc := 30) h dX4_passes_30 rfl ?_
      refine r_iload_n (pc := 31) h dX4_passes_31 rfl ?_
      refine r_aload_n (pc := 32) h dX4_passes_32 rfl ?_
      refine r_getR (pc := 33) h dX4_passes_33 f_X4_46 sh_35 rfl ?_
      refine r_aload_n (pc := 36) h dX4_passes_36 rfl ?_
      refine r_getE (pc := 37) h dX4_passes_37 f_X4_153 sh_35 rfl (h1) ?_
      refine r_ialoadE (pc := 40) h dX4_passes_40 sh_48 ((⟨vp_in_nI (show cur + i < 126 by omega) (by decide), by rw [nI_clamp (by omega)]; exact hv⟩ : vp_in (nI (cur + i)) 126 ∧ g2 48 (nI (cur + i)).toNatClampNeg = g 48 (cur + i))) ?_
      refine r_iastore (pc := 41) h dX4_passes_41 sh_37 (vp_in_nI hlt (by decide)) ?_
      refine r_aload_n (pc := 42) h dX4_passes_42 rfl ?_
      refine r_dup (pc := 43) h dX4_passes_43 rfl ?_
      refine r_getE (pc := 44) h dX4_passes_44 f_X4_153 sh_35 rfl (show gup g2 37 (nI i).toNatClampNeg (g 48 (cur + i)) 35 22 = nI (cur + i) by rw [gup_o (by omega)]; exact h1) ?_
      refine r_iconst (pc := 47) h dX4_passes_47 ci_1 ?_
      refine r_iadd (pc := 48) h dX4_passes_48 ?_
      refine r_top (y := nI (cur + (i + 1))) h (nI_add _ _) ?_
      refine r_putI (pc := 49) h dX4_passes_49 fw_X4_153 sh_35 rfl rfl rfl ?_
      refine r_iinc (pc := 52) (ls2 := [_, _, _]) h dX4_passes_52 rfl (ic1 _) rfl ?_
      refine r_goto (pc := 55) (tgt := 2) h dX4_passes_55 (by decide) ?_
      refine ih (i + 1) _ (by omega) gup_s (by rw [gup_o (by omega), gup_o (by omega)]; exact h2) (fun k hk => ?_) (fun a b q1 q2 => ?_)
      · rw [gup_o (by omega), ei]
        by_cases e : k = i
        · subst e; exact gup_s
        · rw [gup_o (by omega)]; exact h3 k (by omega)
      · rw [gup_o (fun z => q2 z), gup_o (fun z => q1 z.1)]; exact h4 a b q1 q2
  refine r_iconst (pc := 0) h dX4_passes_0 ci_0 ?_
  refine r_istore_n (pc := 1) (ls2 := [_, _, _]) h dX4_passes_1 (Nat.le_of_ble_eq_true rfl) rfl ?_
  exact loop 6 0 g rfl hc hk (fun k q => by omega) (fun a b _ _ => rfl)
set_option maxRecDepth 100000 in
set_option maxHeartbeats 4000000 in
theorem c_X4_passes_k38 {g : gG} {cur : Nat} (hc : g 35 22 = nI cur) (hk : g 35 21 = nI 1) (hn : cur + 6 ≤ 126) : gCv mX4_passes [.ref 35, .ref 38] g (fun g1 => (∀ k, k < 6 → g1 48 (cur + k) = g 38 k) ∧ g1 35 22 = nI (cur + 6) ∧ g1 35 21 = nI 1 ∧ kfr cur (cur + 6) g g1) := by
  refine gCv_of (own := RX4) (ls0 := [.ref 35, .ref 38, .null]) ⟨rfl, pl_X4⟩ rfl (Nat.le_of_ble_eq_true rfl) (fun G (h : gR RX4 cX4_passes 0 0 G) (t : gTv cX4_passes _ G) => ?_)
  have loop : ∀ m i (g2 : gG), i + m = 6 → g2 35 22 = nI (cur + i) → g2 35 21 = nI 1 → (∀ k, k < i → g2 48 (cur + k) = g 38 k) → kfr cur (cur + 6) g g2 → G 2 [.ref 35, .ref 38, .int (nI i)] [] g2 := by
    intro m
    induction m with
    | zero =>
      intro i g2 hi h1 h2 h3 h4
      have ei : i = 6 := by omega
      subst ei
      refine r_iload_n (pc := 2) h dX4_passes_2 rfl ?_
      refine r_aload_n (pc := 3) h dX4_passes_3 rfl ?_
      refine r_alen (pc := 4) h dX4_passes_4 sh_38 (by decide) (by decide) ?_
      refine r_icmp_ge (pc := 5) (tgt := 58) h dX4_passes_5 (by decide) (fun c5 => ?_) (fun c5 => absurd (nI_le (by decide) (by decide)) c5)
      refine r_rv t (pc := 58) dX4_passes_58 ?_
      exact ⟨h3, h1, h2, h4⟩
    | succ m ih =>
      intro i g2 hi h1 h2 h3 h4
      have hlt : i < 6 := by omega
      have hv : g2 38 i = g 38 i := h4 _ _ (by omega) (by omega)
      have ec : (nI (cur + i)).toNatClampNeg = cur + i := nI_clamp (by omega)
      refine r_iload_n (pc := 2) h dX4_passes_2 rfl ?_
      refine r_aload_n (pc := 3) h dX4_passes_3 rfl ?_
      refine r_alen (pc := 4) h dX4_passes_4 sh_38 (by decide) (by decide) ?_
      refine r_icmp_ge (pc := 5) (tgt := 58) h dX4_passes_5 (by decide) (fun c5 => absurd c5 (nI_ge hlt (by decide))) (fun c5 => ?_)
      refine r_aload_n (pc := 8) h dX4_passes_8 rfl ?_
      refine r_getE (pc := 9) h dX4_passes_9 f_X4_149 sh_35 rfl (h2) ?_
      refine r_if_eq (pc := 12) (tgt := 30) h dX4_passes_12 (by decide) (fun c12 => absurd c12 (by decide)) (fun c12 => ?_)
      refine r_aload_n (pc := 15) h dX4_passes_15 rfl ?_
      refine r_getR (pc := 16) h dX4_passes_16 f_X4_46 sh_35 rfl ?_
      refine r_aload_n (pc := 19) h dX4_passes_19 rfl ?_
      refine r_getE (pc := 20) h dX4_passes_20 f_X4_153 sh_35 rfl (h1) ?_
      refine r_aload_n (pc := 23) h dX4_passes_23 rfl ?_
      refine r_iload_n (pc := 24) h dX4_passes_24 rfl ?_
      refine r_ialoadE (pc := 25) h dX4_passes_25 sh_38 ((⟨vp_in_nI hlt (by decide), by rw [nI_clamp (by omega)]; exact hv⟩ : vp_in (nI i) 6 ∧ g2 38 (nI i).toNatClampNeg = g 38 i)) ?_
      refine r_iastore (pc := 26) h dX4_passes_26 sh_48 (vp_in_nI (show cur + i < 126 by omega) (by decide)) ?_
      refine r_goto (pc := 27) (tgt := 42) h dX4_passes_27 (by decide) ?_
      refine r_aload_n (pc := 42) h dX4_passes_42 rfl ?_
      refine r_dup (pc := 43) h dX4_passes_43 rfl ?_
      refine r_getE (pc := 44) h dX4_passes_44 f_X4_153 sh_35 rfl (show gup g2 48 (nI (cur + i)).toNatClampNeg (g 38 i) 35 22 = nI (cur + i) by rw [gup_o (by omega)]; exact h1) ?_
      refine r_iconst (pc := 47) h dX4_passes_47 ci_1 ?_
      refine r_iadd (pc := 48) h dX4_passes_48 ?_
      refine r_top (y := nI (cur + (i + 1))) h (nI_add _ _) ?_
      refine r_putI (pc := 49) h dX4_passes_49 fw_X4_153 sh_35 rfl rfl rfl ?_
      refine r_iinc (pc := 52) (ls2 := [_, _, _]) h dX4_passes_52 rfl (ic1 _) rfl ?_
      refine r_goto (pc := 55) (tgt := 2) h dX4_passes_55 (by decide) ?_
      refine ih (i + 1) _ (by omega) gup_s (by rw [gup_o (by omega), gup_o (by omega)]; exact h2) (fun k hk => ?_) (fun a b q1 q2 => ?_)
      · rw [gup_o (by omega), ec]
        by_cases e : k = i
        · subst e; exact gup_s
        · rw [gup_o (by omega)]; exact h3 k (by omega)
      · rw [gup_o (fun z => q2 ⟨z.1, Or.inr z.2⟩), ec, gup_o (by omega)]; exact h4 a b q1 q2
  refine r_iconst (pc := 0) h dX4_passes_0 ci_0 ?_
  refine r_istore_n (pc := 1) (ls2 := [_, _, _]) h dX4_passes_1 (Nat.le_of_ble_eq_true rfl) rfl ?_
  exact loop 6 0 g rfl hc hk (fun k q => by omega) (fun a b _ _ => rfl)
set_option maxRecDepth 100000 in
set_option maxHeartbeats 4000000 in
theorem c_X4_passes_u38 {g : gG} {cur : Nat} (hc : g 35 22 = nI cur) (hk : g 35 21 = nI 0) (hn : cur + 6 ≤ 126) : gCv mX4_passes [.ref 35, .ref 38] g (fun g1 => (∀ k, k < 6 → g1 38 k = g 48 (cur + k)) ∧ g1 35 22 = nI (cur + 6) ∧ g1 35 21 = nI 0 ∧ (∀ a b, ¬ a = 38 → ¬ (a = 35 ∧ b = 22) → g1 a b = g a b)) := by
  refine gCv_of (own := RX4) (ls0 := [.ref 35, .ref 38, .null]) ⟨rfl, pl_X4⟩ rfl (Nat.le_of_ble_eq_true rfl) (fun G (h : gR RX4 cX4_passes 0 0 G) (t : gTv cX4_passes _ G) => ?_)
  have loop : ∀ m i (g2 : gG), i + m = 6 → g2 35 22 = nI (cur + i) → g2 35 21 = nI 0 → (∀ k, k < i → g2 38 k = g 48 (cur + k)) → (∀ a b, ¬ a = 38 → ¬ (a = 35 ∧ b = 22) → g2 a b = g a b) → G 2 [.ref 35, .ref 38, .int (nI i)] [] g2 := by
    intro m
    induction m with
    | zero =>
      intro i g2 hi h1 h2 h3 h4
      have ei : i = 6 := by omega
      subst ei
      refine r_iload_n (pc := 2) h dX4_passes_2 rfl ?_
      refine r_aload_n (pc := 3) h dX4_passes_3 rfl ?_
      refine r_alen (pc := 4) h dX4_passes_4 sh_38 (by decide) (by decide) ?_
      refine r_icmp_ge (pc := 5) (tgt := 58) h dX4_passes_5 (by decide) (fun c5 => ?_) (fun c5 => absurd (nI_le (by decide) (by decide)) c5)
      refine r_rv t (pc := 58) dX4_passes_58 ?_
      exact ⟨h3, h1, h2, h4⟩
    | succ m ih =>
      intro i g2 hi h1 h2 h3 h4
      have hlt : i < 6 := by omega
      have ei : (nI i).toNatClampNeg = i := nI_clamp (by omega)
      have hv : g2 48 (cur + i) = g 48 (cur + i) := h4 _ _ (by decide) (by omega)
      refine r_iload_n (pc := 2) h dX4_passes_2 rfl ?_
      refine r_aload_n (pc := 3) h dX4_passes_3 rfl ?_
      refine r_alen (pc := 4) h dX4_passes_4 sh_38 (by decide) (by decide) ?_
      refine r_icmp_ge (pc := 5) (tgt := 58) h dX4_passes_5 (by decide) (fun c5 => absurd c5 (nI_ge hlt (by decide))) (fun c5 => ?_)
      refine r_aload_n (pc := 8) h dX4_passes_8 rfl ?_
      refine r_getE (pc := 9) h dX4_passes_9 f_X4_149 sh_35 rfl (h2) ?_
      refine r_if_eq (pc := 12) (tgt := 30) h dX4_passes_12 (by decide) (fun c12 => ?_) (fun c12 => absurd (by rfl) c12)
      refine r_aload_n (pc := 30) h dX4_passes_30 rfl ?_
      refine r_iload_n (pc := 31) h dX4_passes_31 rfl ?_
      refine r_aload_n (pc := 32) h dX4_passes_32 rfl ?_
      refine r_getR (pc := 33) h dX4_passes_33 f_X4_46 sh_35 rfl ?_
      refine r_aload_n (pc := 36) h dX4_passes_36 rfl ?_
      refine r_getE (pc := 37) h dX4_passes_37 f_X4_153 sh_35 rfl (h1) ?_
      refine r_ialoadE (pc := 40) h dX4_passes_40 sh_48 ((⟨vp_in_nI (show cur + i < 126 by omega) (by decide), by rw [nI_clamp (by omega)]; exact hv⟩ : vp_in (nI (cur + i)) 126 ∧ g2 48 (nI (cur + i)).toNatClampNeg = g 48 (cur + i))) ?_
      refine r_iastore (pc := 41) h dX4_passes_41 sh_38 (vp_in_nI hlt (by decide)) ?_
      refine r_aload_n (pc := 42) h dX4_passes_42 rfl ?_
      refine r_dup (pc := 43) h dX4_passes_43 rfl ?_
      refine r_getE (pc := 44) h dX4_passes_44 f_X4_153 sh_35 rfl (show gup g2 38 (nI i).toNatClampNeg (g 48 (cur + i)) 35 22 = nI (cur + i) by rw [gup_o (by omega)]; exact h1) ?_
      refine r_iconst (pc := 47) h dX4_passes_47 ci_1 ?_
      refine r_iadd (pc := 48) h dX4_passes_48 ?_
      refine r_top (y := nI (cur + (i + 1))) h (nI_add _ _) ?_
      refine r_putI (pc := 49) h dX4_passes_49 fw_X4_153 sh_35 rfl rfl rfl ?_
      refine r_iinc (pc := 52) (ls2 := [_, _, _]) h dX4_passes_52 rfl (ic1 _) rfl ?_
      refine r_goto (pc := 55) (tgt := 2) h dX4_passes_55 (by decide) ?_
      refine ih (i + 1) _ (by omega) gup_s (by rw [gup_o (by omega), gup_o (by omega)]; exact h2) (fun k hk => ?_) (fun a b q1 q2 => ?_)
      · rw [gup_o (by omega), ei]
        by_cases e : k = i
        · subst e; exact gup_s
        · rw [gup_o (by omega)]; exact h3 k (by omega)
      · rw [gup_o (fun z => q2 z), gup_o (fun z => q1 z.1)]; exact h4 a b q1 q2
  refine r_iconst (pc := 0) h dX4_passes_0 ci_0 ?_
  refine r_istore_n (pc := 1) (ls2 := [_, _, _]) h dX4_passes_1 (Nat.le_of_ble_eq_true rfl) rfl ?_
  exact loop 6 0 g rfl hc hk (fun k q => by omega) (fun a b _ _ => rfl)
set_option maxRecDepth 100000 in
set_option maxHeartbeats 4000000 in
theorem c_X4_passes_k39 {g : gG} {cur : Nat} (hc : g 35 22 = nI cur) (hk : g 35 21 = nI 1) (hn : cur + 6 ≤ 126) : gCv mX4_passes [.ref 35, .ref 39] g (fun g1 => (∀ k, k < 6 → g1 48 (cur + k) = g 39 k) ∧ g1 35 22 = nI (cur + 6) ∧ g1 35 21 = nI 1 ∧ kfr cur (cur + 6) g g1) := by
  refine gCv_of (own := RX4) (ls0 := [.ref 35, .ref 39, .null]) ⟨rfl, pl_X4⟩ rfl (Nat.le_of_ble_eq_true rfl) (fun G (h : gR RX4 cX4_passes 0 0 G) (t : gTv cX4_passes _ G) => ?_)
  have loop : ∀ m i (g2 : gG), i + m = 6 → g2 35 22 = nI (cur + i) → g2 35 21 = nI 1 → (∀ k, k < i → g2 48 (cur + k) = g 39 k) → kfr cur (cur + 6) g g2 → G 2 [.ref 35, .ref 39, .int (nI i)] [] g2 := by
    intro m
    induction m with
    | zero =>
      intro i g2 hi h1 h2 h3 h4
      have ei : i = 6 := by omega
      subst ei
      refine r_iload_n (pc := 2) h dX4_passes_2 rfl ?_
      refine r_aload_n (pc := 3) h dX4_passes_3 rfl ?_
      refine r_alen (pc := 4) h dX4_passes_4 sh_39 (by decide) (by decide) ?_
      refine r_icmp_ge (pc := 5) (tgt := 58) h dX4_passes_5 (by decide) (fun c5 => ?_) (fun c5 => absurd (nI_le (by decide) (by decide)) c5)
      refine r_rv t (pc := 58) dX4_passes_58 ?_
      exact ⟨h3, h1, h2, h4⟩
    | succ m ih =>
      intro i g2 hi h1 h2 h3 h4
      have hlt : i < 6 := by omega
      have hv : g2 39 i = g 39 i := h4 _ _ (by omega) (by omega)
      have ec : (nI (cur + i)).toNatClampNeg = cur + i := nI_clamp (by omega)
      refine r_iload_n (pc := 2) h dX4_passes_2 rfl ?_
      refine r_aload_n (pc := 3) h dX4_passes_3 rfl ?_
      refine r_alen (pc := 4) h dX4_passes_4 sh_39 (by decide) (by decide) ?_
      refine r_icmp_ge (pc := 5) (tgt := 58) h dX4_passes_5 (by decide) (fun c5 => absurd c5 (nI_ge hlt (by decide))) (fun c5 => ?_)
      refine r_aload_n (pc := 8) h dX4_passes_8 rfl ?_
      refine r_getE (pc := 9) h dX4_passes_9 f_X4_149 sh_35 rfl (h2) ?_
      refine r_if_eq (pc := 12) (tgt := 30) h dX4_passes_12 (by decide) (fun c12 => absurd c12 (by decide)) (fun c12 => ?_)
      refine r_aload_n (pc := 15) h dX4_passes_15 rfl ?_
      refine r_getR (pc := 16) h dX4_passes_16 f_X4_46 sh_35 rfl ?_
      refine r_aload_n (pc := 19) h dX4_passes_19 rfl ?_
      refine r_getE (pc := 20) h dX4_passes_20 f_X4_153 sh_35 rfl (h1) ?_
      refine r_aload_n (pc := 23) h dX4_passes_23 rfl ?_
      refine r_iload_n (pc := 24) h dX4_passes_24 rfl ?_
      refine r_ialoadE (pc := 25) h dX4_passes_25 sh_39 ((⟨vp_in_nI hlt (by decide), by rw [nI_clamp (by omega)]; exact hv⟩ : vp_in (nI i) 6 ∧ g2 39 (nI i).toNatClampNeg = g 39 i)) ?_
      refine r_iastore (pc := 26) h dX4_passes_26 sh_48 (vp_in_nI (show cur + i < 126 by omega) (by decide)) ?_
      refine r_goto (pc := 27) (tgt := 42) h dX4_passes_27 (by decide) ?_
      refine r_aload_n (pc := 42) h dX4_passes_42 rfl ?_
      refine r_dup (pc := 43) h dX4_passes_43 rfl ?_
      refine r_getE (pc := 44) h dX4_passes_44 f_X4_153 sh_35 rfl (show gup g2 48 (nI (cur + i)).toNatClampNeg (g 39 i) 35 22 = nI (cur + i) by rw [gup_o (by omega)]; exact h1) ?_
      refine r_iconst (pc := 47) h dX4_passes_47 ci_1 ?_
      refine r_iadd (pc := 48) h dX4_passes_48 ?_
      refine r_top (y := nI (cur + (i + 1))) h (nI_add _ _) ?_
      refine r_putI (pc := 49) h dX4_passes_49 fw_X4_153 sh_35 rfl rfl rfl ?_
      refine r_iinc (pc := 52) (ls2 := [_, _, _]) h dX4_passes_52 rfl (ic1 _) rfl ?_
      refine r_goto (pc := 55) (tgt := 2) h dX4_passes_55 (by decide) ?_
      refine ih (i + 1) _ (by omega) gup_s (by rw [gup_o (by omega), gup_o (by omega)]; exact h2) (fun k hk => ?_) (fun a b q1 q2 => ?_)
      · rw [gup_o (by omega), ec]
        by_cases e : k = i
        · subst e; exact gup_s
        · rw [gup_o (by omega)]; exact h3 k (by omega)
      · rw [gup_o (fun z => q2 ⟨z.1, Or.inr z.2⟩), ec, gup_o (by omega)]; exact h4 a b q1 q2
  refine r_iconst (pc := 0) h dX4_passes_0 ci_0 ?_
  refine r_istore_n (pc := 1) (ls2 := [_, _, _]) h dX4_passes_1 (Nat.le_of_ble_eq_true rfl) rfl ?_
  exact loop 6 0 g rfl hc hk (fun k q => by omega) (fun a b _ _ => rfl)
set_option maxRecDepth 100000 in
set_option maxHeartbeats 4000000 in
theorem c_X4_passes_u39 {g : gG} {cur : Nat} (hc : g 35 22 = nI cur) (hk : g 35 21 = nI 0) (hn : cur + 6 ≤ 126) : gCv mX4_passes [.ref 35, .ref 39] g (fun g1 => (∀ k, k < 6 → g1 39 k = g 48 (cur + k)) ∧ g1 35 22 = nI (cur + 6) ∧ g1 35 21 = nI 0 ∧ (∀ a b, ¬ a = 39 → ¬ (a = 35 ∧ b = 22) → g1 a b = g a b)) := by
  refine gCv_of (own := RX4) (ls0 := [.ref 35, .ref 39, .null]) ⟨rfl, pl_X4⟩ rfl (Nat.le_of_ble_eq_true rfl) (fun G (h : gR RX4 cX4_passes 0 0 G) (t : gTv cX4_passes _ G) => ?_)
  have loop : ∀ m i (g2 : gG), i + m = 6 → g2 35 22 = nI (cur + i) → g2 35 21 = nI 0 → (∀ k, k < i → g2 39 k = g 48 (cur + k)) → (∀ a b, ¬ a = 39 → ¬ (a = 35 ∧ b = 22) → g2 a b = g a b) → G 2 [.ref 35, .ref 39, .int (nI i)] [] g2 := by
    intro m
    induction m with
    | zero =>
      intro i g2 hi h1 h2 h3 h4
      have ei : i = 6 := by omega
      subst ei
      refine r_iload_n (pc := 2) h dX4_passes_2 rfl ?_
      refine r_aload_n (pc := 3) h dX4_passes_3 rfl ?_
      refine r_alen (pc := 4) h dX4_passes_4 sh_39 (by decide) (by decide) ?_
      refine r_icmp_ge (pc := 5) (tgt := 58) h dX4_passes_5 (by decide) (fun c5 => ?_) (fun c5 => absurd (nI_le (by decide) (by decide)) c5)
      refine r_rv t (pc := 58) dX4_passes_58 ?_
      exact ⟨h3, h1, h2, h4⟩
    | succ m ih =>
      intro i g2 hi h1 h2 h3 h4
      have hlt : i < 6 := by omega
      have ei : (nI i).toNatClampNeg = i := nI_clamp (by omega)
      have hv : g2 48 (cur + i) = g 48 (cur + i) := h4 _ _ (by decide) (by omega)
      refine r_iload_n (pc := 2) h dX4_passes_2 rfl ?_
      refine r_aload_n (pc := 3) h dX4_passes_3 rfl ?_
      refine r_alen (pc := 4) h dX4_passes_4 sh_39 (by decide) (by decide) ?_
      refine r_icmp_ge (pc := 5) (tgt := 58) h dX4_passes_5 (by decide) (fun c5 => absurd c5 (nI_ge hlt (by decide))) (fun c5 => ?_)
      refine r_aload_n (pc := 8) h dX4_passes_8 rfl ?_
      refine r_getE (pc := 9) h dX4_passes_9 f_X4_149 sh_35 rfl (h2) ?_
      refine r_if_eq (pc := 12) (tgt := 30) h dX4_passes_12 (by decide) (fun c12 => ?_) (fun c12 => absurd (by rfl) c12)
      refine r_aload_n (pc := 30) h dX4_passes_30 rfl ?_
      refine r_iload_n (pc := 31) h dX4_passes_31 rfl ?_
      refine r_aload_n (pc := 32) h dX4_passes_32 rfl ?_
      refine r_getR (pc := 33) h dX4_passes_33 f_X4_46 sh_35 rfl ?_
      refine r_aload_n (pc := 36) h dX4_passes_36 rfl ?_
      refine r_getE (pc := 37) h dX4_passes_37 f_X4_153 sh_35 rfl (h1) ?_
      refine r_ialoadE (pc := 40) h dX4_passes_40 sh_48 ((⟨vp_in_nI (show cur + i < 126 by omega) (by decide), by rw [nI_clamp (by omega)]; exact hv⟩ : vp_in (nI (cur + i)) 126 ∧ g2 48 (nI (cur + i)).toNatClampNeg = g 48 (cur + i))) ?_
      refine r_iastore (pc := 41) h dX4_passes_41 sh_39 (vp_in_nI hlt (by decide)) ?_
      refine r_aload_n (pc := 42) h dX4_passes_42 rfl ?_
      refine r_dup (pc := 43) h dX4_passes_43 rfl ?_
      refine r_getE (pc := 44) h dX4_passes_44 f_X4_153 sh_35 rfl (show gup g2 39 (nI i).toNatClampNeg (g 48 (cur + i)) 35 22 = nI (cur + i) by rw [gup_o (by omega)]; exact h1) ?_
      refine r_iconst (pc := 47) h dX4_passes_47 ci_1 ?_
      refine r_iadd (pc := 48) h dX4_passes_48 ?_
      refine r_top (y := nI (cur + (i + 1))) h (nI_add _ _) ?_
      refine r_putI (pc := 49) h dX4_passes_49 fw_X4_153 sh_35 rfl rfl rfl ?_
      refine r_iinc (pc := 52) (ls2 := [_, _, _]) h dX4_passes_52 rfl (ic1 _) rfl ?_
      refine r_goto (pc := 55) (tgt := 2) h dX4_passes_55 (by decide) ?_
      refine ih (i + 1) _ (by omega) gup_s (by rw [gup_o (by omega), gup_o (by omega)]; exact h2) (fun k hk => ?_) (fun a b q1 q2 => ?_)
      · rw [gup_o (by omega), ei]
        by_cases e : k = i
        · subst e; exact gup_s
        · rw [gup_o (by omega)]; exact h3 k (by omega)
      · rw [gup_o (fun z => q2 z), gup_o (fun z => q1 z.1)]; exact h4 a b q1 q2
  refine r_iconst (pc := 0) h dX4_passes_0 ci_0 ?_
  refine r_istore_n (pc := 1) (ls2 := [_, _, _]) h dX4_passes_1 (Nat.le_of_ble_eq_true rfl) rfl ?_
  exact loop 6 0 g rfl hc hk (fun k q => by omega) (fun a b _ _ => rfl)
set_option maxRecDepth 100000 in
set_option maxHeartbeats 4000000 in
theorem c_X4_passes_k40 {g : gG} {cur : Nat} (hc : g 35 22 = nI cur) (hk : g 35 21 = nI 1) (hn : cur + 5 ≤ 126) : gCv mX4_passes [.ref 35, .ref 40] g (fun g1 => (∀ k, k < 5 → g1 48 (cur + k) = g 40 k) ∧ g1 35 22 = nI (cur + 5) ∧ g1 35 21 = nI 1 ∧ kfr cur (cur + 5) g g1) := by
  refine gCv_of (own := RX4) (ls0 := [.ref 35, .ref 40, .null]) ⟨rfl, pl_X4⟩ rfl (Nat.le_of_ble_eq_true rfl) (fun G (h : gR RX4 cX4_passes 0 0 G) (t : gTv cX4_passes _ G) => ?_)
  have loop : ∀ m i (g2 : gG), i + m = 5 → g2 35 22 = nI (cur + i) → g2 35 21 = nI 1 → (∀ k, k < i → g2 48 (cur + k) = g 40 k) → kfr cur (cur + 5) g g2 → G 2 [.ref 35, .ref 40, .int (nI i)] [] g2 := by
    intro m
    induction m with
    | zero =>
      intro i g2 hi h1 h2 h3 h4
      have ei : i = 5 := by omega
      subst ei
      refine r_iload_n (pc := 2) h dX4_passes_2 rfl ?_
      refine r_aload_n (pc := 3) h dX4_passes_3 rfl ?_
      refine r_alen (pc := 4) h dX4_passes_4 sh_40 (by decide) (by decide) ?_
      refine r_icmp_ge (pc := 5) (tgt := 58) h dX4_passes_5 (by decide) (fun c5 => ?_) (fun c5 => absurd (nI_le (by decide) (by decide)) c5)
      refine r_rv t (pc := 58) dX4_passes_58 ?_
      exact ⟨h3, h1, h2, h4⟩
    | succ m ih =>
      intro i g2 hi h1 h2 h3 h4
      have hlt : i < 5 := by omega
      have hv : g2 40 i = g 40 i := h4 _ _ (by omega) (by omega)
      have ec : (nI (cur + i)).toNatClampNeg = cur + i := nI_clamp (by omega)
      refine r_iload_n (pc := 2) h dX4_passes_2 rfl ?_
      refine r_aload_n (pc := 3) h dX4_passes_3 rfl ?_
      refine r_alen (pc := 4) h dX4_passes_4 sh_40 (by decide) (by decide) ?_
      refine r_icmp_ge (pc := 5) (tgt := 58) h dX4_passes_5 (by decide) (fun c5 => absurd c5 (nI_ge hlt (by decide))) (fun c5 => ?_)
      refine r_aload_n (pc := 8) h dX4_passes_8 rfl ?_
      refine r_getE (pc := 9) h dX4_passes_9 f_X4_149 sh_35 rfl (h2) ?_
      refine r_if_eq (pc := 12) (tgt := 30) h dX4_passes_12 (by decide) (fun c12 => absurd c12 (by decide)) (fun c12 => ?_)
      refine r_aload_n (pc := 15) h dX4_passes_15 rfl ?_
      refine r_getR (pc := 16) h dX4_passes_16 f_X4_46 sh_35 rfl ?_
      refine r_aload_n (pc := 19) h dX4_passes_19 rfl ?_
      refine r_getE (pc := 20) h dX4_passes_20 f_X4_153 sh_35 rfl (h1) ?_
      refine r_aload_n (pc := 23) h dX4_passes_23 rfl ?_
      refine r_iload_n (pc := 24) h dX4_passes_24 rfl ?_
      refine r_ialoadE (pc := 25) h dX4_passes_25 sh_40 ((⟨vp_in_nI hlt (by decide), by rw [nI_clamp (by omega)]; exact hv⟩ : vp_in (nI i) 5 ∧ g2 40 (nI i).toNatClampNeg = g 40 i)) ?_
      refine r_iastore (pc := 26) h dX4_passes_26 sh_48 (vp_in_nI (show cur + i < 126 by omega) (by decide)) ?_
      refine r_goto (pc := 27) (tgt := 42) h dX4_passes_27 (by decide) ?_
      refine r_aload_n (pc := 42) h dX4_passes_42 rfl ?_
      refine r_dup (pc := 43) h dX4_passes_43 rfl ?_
      refine r_getE (pc := 44) h dX4_passes_44 f_X4_153 sh_35 rfl (show gup g2 48 (nI (cur + i)).toNatClampNeg (g 40 i) 35 22 = nI (cur + i) by rw [gup_o (by omega)]; exact h1) ?_
      refine r_iconst (pc := 47) h dX4_passes_47 ci_1 ?_
      refine r_iadd (pc := 48) h dX4_passes_48 ?_
      refine r_top (y := nI (cur + (i + 1))) h (nI_add _ _) ?_
      refine r_putI (pc := 49) h dX4_passes_49 fw_X4_153 sh_35 rfl rfl rfl ?_
      refine r_iinc (pc := 52) (ls2 := [_, _, _]) h dX4_passes_52 rfl (ic1 _) rfl ?_
      refine r_goto (pc := 55) (tgt := 2) h dX4_passes_55 (by decide) ?_
      refine ih (i + 1) _ (by omega) gup_s (by rw [gup_o (by omega), gup_o (by omega)]; exact h2) (fun k hk => ?_) (fun a b q1 q2 => ?_)
      · rw [gup_o (by omega), ec]
        by_cases e : k = i
        · subst e; exact gup_s
        · rw [gup_o (by omega)]; exact h3 k (by omega)
      · rw [gup_o (fun z => q2 ⟨z.1, Or.inr z.2⟩), ec, gup_o (by omega)]; exact h4 a b q1 q2
  refine r_iconst (pc := 0) h dX4_passes_0 ci_0 ?_
  refine r_istore_n (pc := 1) (ls2 := [_, _, _]) h dX4_passes_1 (Nat.le_of_ble_eq_true rfl) rfl ?_
  exact loop 5 0 g rfl hc hk (fun k q => by omega) (fun a b _ _ => rfl)
set_option maxRecDepth 100000 in
set_option maxHeartbeats 4000000 in
theorem c_X4_passes_u40 {g : gG} {cur : Nat} (hc : g 35 22 = nI cur) (hk : g 35 21 = nI 0) (hn : cur + 5 ≤ 126) : gCv mX4_passes [.ref 35, .ref 40] g (fun g1 => (∀ k, k < 5 → g1 40 k = g 48 (cur + k)) ∧ g1 35 22 = nI (cur + 5) ∧ g1 35 21 = nI 0 ∧ (∀ a b, ¬ a = 40 → ¬ (a = 35 ∧ b = 22) → g1 a b = g a b)) := by
  refine gCv_of (own := RX4) (ls0 := [.ref 35, .ref 40, .null]) ⟨rfl, pl_X4⟩ rfl (Nat.le_of_ble_eq_true rfl) (fun G (h : gR RX4 cX4_passes 0 0 G) (t : gTv cX4_passes _ G) => ?_)
  have loop : ∀ m i (g2 : gG), i + m = 5 → g2 35 22 = nI (cur + i) → g2 35 21 = nI 0 → (∀ k, k < i → g2 40 k = g 48 (cur + k)) → (∀ a b, ¬ a = 40 → ¬ (a = 35 ∧ b = 22) → g2 a b = g a b) → G 2 [.ref 35, .ref 40, .int (nI i)] [] g2 := by
    intro m
    induction m with
    | zero =>
      intro i g2 hi h1 h2 h3 h4
      have ei : i = 5 := by omega
      subst ei
      refine r_iload_n (pc := 2) h dX4_passes_2 rfl ?_
      refine r_aload_n (pc := 3) h dX4_passes_3 rfl ?_
      refine r_alen (pc := 4) h dX4_passes_4 sh_40 (by decide) (by decide) ?_
      refine r_icmp_ge (pc := 5) (tgt := 58) h dX4_passes_5 (by decide) (fun c5 => ?_) (fun c5 => absurd (nI_le (by decide) (by decide)) c5)
      refine r_rv t (pc := 58) dX4_passes_58 ?_
      exact ⟨h3, h1, h2, h4⟩
    | succ m ih =>
      intro i g2 hi h1 h2 h3 h4
      have hlt : i < 5 := by omega
      have ei : (nI i).toNatClampNeg = i := nI_clamp (by omega)
      have hv : g2 48 (cur + i) = g 48 (cur + i) := h4 _ _ (by decide) (by omega)
      refine r_iload_n (pc := 2) h dX4_passes_2 rfl ?_
      refine r_aload_n (pc := 3) h dX4_passes_3 rfl ?_
      refine r_alen (pc := 4) h dX4_passes_4 sh_40 (by decide) (by decide) ?_
      refine r_icmp_ge (pc := 5) (tgt := 58) h dX4_passes_5 (by decide) (fun c5 => absurd c5 (nI_ge hlt (by decide))) (fun c5 => ?_)
      refine r_aload_n (pc := 8) h dX4_passes_8 rfl ?_
      refine r_getE (pc := 9) h dX4_passes_9 f_X4_149 sh_35 rfl (h2) ?_
      refine r_if_eq (pc := 12) (tgt := 30) h dX4_passes_12 (by decide) (fun c12 => ?_) (fun c12 => absurd (by rfl) c12)
      refine r_aload_n (pc := 30) h dX4_passes_30 rfl ?_
      refine r_iload_n (pc := 31) h dX4_passes_31 rfl ?_
      refine r_aload_n (pc := 32) h dX4_passes_32 rfl ?_
      refine r_getR (pc := 33) h dX4_passes_33 f_X4_46 sh_35 rfl ?_
      refine r_aload_n (pc := 36) h dX4_passes_36 rfl ?_
      refine r_getE (pc := 37) h dX4_passes_37 f_X4_153 sh_35 rfl (h1) ?_
      refine r_ialoadE (pc := 40) h dX4_passes_40 sh_48 ((⟨vp_in_nI (show cur + i < 126 by omega) (by decide), by rw [nI_clamp (by omega)]; exact hv⟩ : vp_in (nI (cur + i)) 126 ∧ g2 48 (nI (cur + i)).toNatClampNeg = g 48 (cur + i))) ?_
      refine r_iastore (pc := 41) h dX4_passes_41 sh_40 (vp_in_nI hlt (by decide)) ?_
      refine r_aload_n (pc := 42) h dX4_passes_42 rfl ?_
      refine r_dup (pc := 43) h dX4_passes_43 rfl ?_
      refine r_getE (pc := 44) h dX4_passes_44 f_X4_153 sh_35 rfl (show gup g2 40 (nI i).toNatClampNeg (g 48 (cur + i)) 35 22 = nI (cur + i) by rw [gup_o (by omega)]; exact h1) ?_
      refine r_iconst (pc := 47) h dX4_passes_47 ci_1 ?_
      refine r_iadd (pc := 48) h dX4_passes_48 ?_
      refine r_top (y := nI (cur + (i + 1))) h (nI_add _ _) ?_
      refine r_putI (pc := 49) h dX4_passes_49 fw_X4_153 sh_35 rfl rfl rfl ?_
      refine r_iinc (pc := 52) (ls2 := [_, _, _]) h dX4_passes_52 rfl (ic1 _) rfl ?_
      refine r_goto (pc := 55) (tgt := 2) h dX4_passes_55 (by decide) ?_
      refine ih (i + 1) _ (by omega) gup_s (by rw [gup_o (by omega), gup_o (by omega)]; exact h2) (fun k hk => ?_) (fun a b q1 q2 => ?_)
      · rw [gup_o (by omega), ei]
        by_cases e : k = i
        · subst e; exact gup_s
        · rw [gup_o (by omega)]; exact h3 k (by omega)
      · rw [gup_o (fun z => q2 z), gup_o (fun z => q1 z.1)]; exact h4 a b q1 q2
  refine r_iconst (pc := 0) h dX4_passes_0 ci_0 ?_
  refine r_istore_n (pc := 1) (ls2 := [_, _, _]) h dX4_passes_1 (Nat.le_of_ble_eq_true rfl) rfl ?_
  exact loop 5 0 g rfl hc hk (fun k q => by omega) (fun a b _ _ => rfl)
set_option maxRecDepth 100000 in
set_option maxHeartbeats 4000000 in
theorem c_X4_passes_k41 {g : gG} {cur : Nat} (hc : g 35 22 = nI cur) (hk : g 35 21 = nI 1) (hn : cur + 5 ≤ 126) : gCv mX4_passes [.ref 35, .ref 41] g (fun g1 => (∀ k, k < 5 → g1 48 (cur + k) = g 41 k) ∧ g1 35 22 = nI (cur + 5) ∧ g1 35 21 = nI 1 ∧ kfr cur (cur + 5) g g1) := by
  refine gCv_of (own := RX4) (ls0 := [.ref 35, .ref 41, .null]) ⟨rfl, pl_X4⟩ rfl (Nat.le_of_ble_eq_true rfl) (fun G (h : gR RX4 cX4_passes 0 0 G) (t : gTv cX4_passes _ G) => ?_)
  have loop : ∀ m i (g2 : gG), i + m = 5 → g2 35 22 = nI (cur + i) → g2 35 21 = nI 1 → (∀ k, k < i → g2 48 (cur + k) = g 41 k) → kfr cur (cur + 5) g g2 → G 2 [.ref 35, .ref 41, .int (nI i)] [] g2 := by
    intro m
    induction m with
    | zero =>
      intro i g2 hi h1 h2 h3 h4
      have ei : i = 5 := by omega
      subst ei
      refine r_iload_n (pc := 2) h dX4_passes_2 rfl ?_
      refine r_aload_n (pc := 3) h dX4_passes_3 rfl ?_
      refine r_alen (pc := 4) h dX4_passes_4 sh_41 (by decide) (by decide) ?_
      refine r_icmp_ge (pc := 5) (tgt := 58) h dX4_passes_5 (by decide) (fun c5 => ?_) (fun c5 => absurd (nI_le (by decide) (by decide)) c5)
      refine r_rv t (pc := 58) dX4_passes_58 ?_
      exact ⟨h3, h1, h2, h4⟩
    | succ m ih =>
      intro i g2 hi h1 h2 h3 h4
      have hlt : i < 5 := by omega
      have hv : g2 41 i = g 41 i := h4 _ _ (by omega) (by omega)
      have ec : (nI (cur + i)).toNatClampNeg = cur + i := nI_clamp (by omega)
      refine r_iload_n (pc := 2) h dX4_passes_2 rfl ?_
      refine r_aload_n (pc := 3) h dX4_passes_3 rfl ?_
      refine r_alen (pc := 4) h dX4_passes_4 sh_41 (by decide) (by decide) ?_
      refine r_icmp_ge (pc := 5) (tgt := 58) h dX4_passes_5 (by decide) (fun c5 => absurd c5 (nI_ge hlt (by decide))) (fun c5 => ?_)
      refine r_aload_n (pc := 8) h dX4_passes_8 rfl ?_
      refine r_getE (pc := 9) h dX4_passes_9 f_X4_149 sh_35 rfl (h2) ?_
      refine r_if_eq (pc := 12) (tgt := 30) h dX4_passes_12 (by decide) (fun c12 => absurd c12 (by decide)) (fun c12 => ?_)
      refine r_aload_n (pc := 15) h dX4_passes_15 rfl ?_
      refine r_getR (pc := 16) h dX4_passes_16 f_X4_46 sh_35 rfl ?_
      refine r_aload_n (pc := 19) h dX4_passes_19 rfl ?_
      refine r_getE (pc := 20) h dX4_passes_20 f_X4_153 sh_35 rfl (h1) ?_
      refine r_aload_n (pc := 23) h dX4_passes_23 rfl ?_
      refine r_iload_n (pc := 24) h dX4_passes_24 rfl ?_
      refine r_ialoadE (pc := 25) h dX4_passes_25 sh_41 ((⟨vp_in_nI hlt (by decide), by rw [nI_clamp (by omega)]; exact hv⟩ : vp_in (nI i) 5 ∧ g2 41 (nI i).toNatClampNeg = g 41 i)) ?_
      refine r_iastore (pc := 26) h dX4_passes_26 sh_48 (vp_in_nI (show cur + i < 126 by omega) (by decide)) ?_
      refine r_goto (pc := 27) (tgt := 42) h dX4_passes_27 (by decide) ?_
      refine r_aload_n (pc := 42) h dX4_passes_42 rfl ?_
      refine r_dup (pc := 43) h dX4_passes_43 rfl ?_
      refine r_getE (pc := 44) h dX4_passes_44 f_X4_153 sh_35 rfl (show gup g2 48 (nI (cur + i)).toNatClampNeg (g 41 i) 35 22 = nI (cur + i) by rw [gup_o (by omega)]; exact h1) ?_
      refine r_iconst (pc := 47) h dX4_passes_47 ci_1 ?_
      refine r_iadd (pc := 48) h dX4_passes_48 ?_
      refine r_top (y := nI (cur + (i + 1))) h (nI_add _ _) ?_
      refine r_putI (pc := 49) h dX4_passes_49 fw_X4_153 sh_35 rfl rfl rfl ?_
      refine r_iinc (pc := 52) (ls2 := [_, _, _]) h dX4_passes_52 rfl (ic1 _) rfl ?_
      refine r_goto (pc := 55) (tgt := 2) h dX4_passes_55 (by decide) ?_
      refine ih (i + 1) _ (by omega) gup_s (by rw [gup_o (by omega), gup_o (by omega)]; exact h2) (fun k hk => ?_) (fun a b q1 q2 => ?_)
      · rw [gup_o (by omega), ec]
        by_cases e : k = i
        · subst e; exact gup_s
        · rw [gup_o (by omega)]; exact h3 k (by omega)
      · rw [gup_o (fun z => q2 ⟨z.1, Or.inr z.2⟩), ec, gup_o (by omega)]; exact h4 a b q1 q2
  refine r_iconst (pc := 0) h dX4_passes_0 ci_0 ?_
  refine r_istore_n (pc := 1) (ls2 := [_, _, _]) h dX4_passes_1 (Nat.le_of_ble_eq_true rfl) rfl ?_
  exact loop 5 0 g rfl hc hk (fun k q => by omega) (fun a b _ _ => rfl)
set_option maxRecDepth 100000 in
set_option maxHeartbeats 4000000 in
theorem c_X4_passes_u41 {g : gG} {cur : Nat} (hc : g 35 22 = nI cur) (hk : g 35 21 = nI 0) (hn : cur + 5 ≤ 126) : gCv mX4_passes [.ref 35, .ref 41] g (fun g1 => (∀ k, k < 5 → g1 41 k = g 48 (cur + k)) ∧ g1 35 22 = nI (cur + 5) ∧ g1 35 21 = nI 0 ∧ (∀ a b, ¬ a = 41 → ¬ (a = 35 ∧ b = 22) → g1 a b = g a b)) := by
  refine gCv_of (own := RX4) (ls0 := [.ref 35, .ref 41, .null]) ⟨rfl, pl_X4⟩ rfl (Nat.le_of_ble_eq_true rfl) (fun G (h : gR RX4 cX4_passes 0 0 G) (t : gTv cX4_passes _ G) => ?_)
  have loop : ∀ m i (g2 : gG), i + m = 5 → g2 35 22 = nI (cur + i) → g2 35 21 = nI 0 → (∀ k, k < i → g2 41 k = g 48 (cur + k)) → (∀ a b, ¬ a = 41 → ¬ (a = 35 ∧ b = 22) → g2 a b = g a b) → G 2 [.ref 35, .ref 41, .int (nI i)] [] g2 := by
    intro m
    induction m with
    | zero =>
      intro i g2 hi h1 h2 h3 h4
      have ei : i = 5 := by omega
      subst ei
      refine r_iload_n (pc := 2) h dX4_passes_2 rfl ?_
      refine r_aload_n (pc := 3) h dX4_passes_3 rfl ?_
      refine r_alen (pc := 4) h dX4_passes_4 sh_41 (by decide) (by decide) ?_
      refine r_icmp_ge (pc := 5) (tgt := 58) h dX4_passes_5 (by decide) (fun c5 => ?_) (fun c5 => absurd (nI_le (by decide) (by decide)) c5)
      refine r_rv t (pc := 58) dX4_passes_58 ?_
      exact ⟨h3, h1, h2, h4⟩
    | succ m ih =>
      intro i g2 hi h1 h2 h3 h4
      have hlt : i < 5 := by omega
      have ei : (nI i).toNatClampNeg = i := nI_clamp (by omega)
      have hv : g2 48 (cur + i) = g 48 (cur + i) := h4 _ _ (by decide) (by omega)
      refine r_iload_n (pc := 2) h dX4_passes_2 rfl ?_
      refine r_aload_n (pc := 3) h dX4_passes_3 rfl ?_
      refine r_alen (pc := 4) h dX4_passes_4 sh_41 (by decide) (by decide) ?_
      refine r_icmp_ge (pc := 5) (tgt := 58) h dX4_passes_5 (by decide) (fun c5 => absurd c5 (nI_ge hlt (by decide))) (fun c5 => ?_)
      refine r_aload_n (pc := 8) h dX4_passes_8 rfl ?_
      refine r_getE (pc := 9) h dX4_passes_9 f_X4_149 sh_35 rfl (h2) ?_
      refine r_if_eq (pc := 12) (tgt := 30) h dX4_passes_12 (by decide) (fun c12 => ?_) (fun c12 => absurd (by rfl) c12)
      refine r_aload_n (pc := 30) h dX4_passes_30 rfl ?_
      refine r_iload_n (pc := 31) h dX4_passes_31 rfl ?_
      refine r_aload_n (pc := 32) h dX4_passes_32 rfl ?_
      refine r_getR (pc := 33) h dX4_passes_33 f_X4_46 sh_35 rfl ?_
      refine r_aload_n (pc := 36) h dX4_passes_36 rfl ?_
      refine r_getE (pc := 37) h dX4_passes_37 f_X4_153 sh_35 rfl (h1) ?_
      refine r_ialoadE (pc := 40) h dX4_passes_40 sh_48 ((⟨vp_in_nI (show cur + i < 126 by omega) (by decide), by rw [nI_clamp (by omega)]; exact hv⟩ : vp_in (nI (cur + i)) 126 ∧ g2 48 (nI (cur + i)).toNatClampNeg = g 48 (cur + i))) ?_
      refine r_iastore (pc := 41) h dX4_passes_41 sh_41 (vp_in_nI hlt (by decide)) ?_
      refine r_aload_n (pc := 42) h dX4_passes_42 rfl ?_
      refine r_dup (pc := 43) h dX4_passes_43 rfl ?_
      refine r_getE (pc := 44) h dX4_passes_44 f_X4_153 sh_35 rfl (show gup g2 41 (nI i).toNatClampNeg (g 48 (cur + i)) 35 22 = nI (cur + i) by rw [gup_o (by omega)]; exact h1) ?_
      refine r_iconst (pc := 47) h dX4_passes_47 ci_1 ?_
      refine r_iadd (pc := 48) h dX4_passes_48 ?_
      refine r_top (y := nI (cur + (i + 1))) h (nI_add _ _) ?_
      refine r_putI (pc := 49) h dX4_passes_49 fw_X4_153 sh_35 rfl rfl rfl ?_
      refine r_iinc (pc := 52) (ls2 := [_, _, _]) h dX4_passes_52 rfl (ic1 _) rfl ?_
      refine r_goto (pc := 55) (tgt := 2) h dX4_passes_55 (by decide) ?_
      refine ih (i + 1) _ (by omega) gup_s (by rw [gup_o (by omega), gup_o (by omega)]; exact h2) (fun k hk => ?_) (fun a b q1 q2 => ?_)
      · rw [gup_o (by omega), ei]
        by_cases e : k = i
        · subst e; exact gup_s
        · rw [gup_o (by omega)]; exact h3 k (by omega)
      · rw [gup_o (fun z => q2 z), gup_o (fun z => q1 z.1)]; exact h4 a b q1 q2
  refine r_iconst (pc := 0) h dX4_passes_0 ci_0 ?_
  refine r_istore_n (pc := 1) (ls2 := [_, _, _]) h dX4_passes_1 (Nat.le_of_ble_eq_true rfl) rfl ?_
  exact loop 5 0 g rfl hc hk (fun k q => by omega) (fun a b _ _ => rfl)
set_option maxRecDepth 100000 in
set_option maxHeartbeats 4000000 in
theorem c_X4_passes_k42 {g : gG} {cur : Nat} (hc : g 35 22 = nI cur) (hk : g 35 21 = nI 1) (hn : cur + 5 ≤ 126) : gCv mX4_passes [.ref 35, .ref 42] g (fun g1 => (∀ k, k < 5 → g1 48 (cur + k) = g 42 k) ∧ g1 35 22 = nI (cur + 5) ∧ g1 35 21 = nI 1 ∧ kfr cur (cur + 5) g g1) := by
  refine gCv_of (own := RX4) (ls0 := [.ref 35, .ref 42, .null]) ⟨rfl, pl_X4⟩ rfl (Nat.le_of_ble_eq_true rfl) (fun G (h : gR RX4 cX4_passes 0 0 G) (t : gTv cX4_passes _ G) => ?_)
  have loop : ∀ m i (g2 : gG), i + m = 5 → g2 35 22 = nI (cur + i) → g2 35 21 = nI 1 → (∀ k, k < i → g2 48 (cur + k) = g 42 k) → kfr cur (cur + 5) g g2 → G 2 [.ref 35, .ref 42, .int (nI i)] [] g2 := by
    intro m
    induction m with
    | zero =>
      intro i g2 hi h1 h2 h3 h4
      have ei : i = 5 := by omega
      subst ei
      refine r_iload_n (pc := 2) h dX4_passes_2 rfl ?_
      refine r_aload_n (pc := 3) h dX4_passes_3 rfl ?_
      refine r_alen (pc := 4) h dX4_passes_4 sh_42 (by decide) (by decide) ?_
      refine r_icmp_ge (pc := 5) (tgt := 58) h dX4_passes_5 (by decide) (fun c5 => ?_) (fun c5 => absurd (nI_le (by decide) (by decide)) c5)
      refine r_rv t (pc := 58) dX4_passes_58 ?_
      exact ⟨h3, h1, h2, h4⟩
    | succ m ih =>
      intro i g2 hi h1 h2 h3 h4
      have hlt : i < 5 := by omega
      have hv : g2 42 i = g 42 i := h4 _ _ (by omega) (by omega)
      have ec : (nI (cur + i)).toNatClampNeg = cur + i := nI_clamp (by omega)
      refine r_iload_n (pc := 2) h dX4_passes_2 rfl ?_
      refine r_aload_n (pc := 3) h dX4_passes_3 rfl ?_
      refine r_alen (pc := 4) h dX4_passes_4 sh_42 (by decide) (by decide) ?_
      refine r_icmp_ge (pc := 5) (tgt := 58) h dX4_passes_5 (by decide) (fun c5 => absurd c5 (nI_ge hlt (by decide))) (fun c5 => ?_)
      refine r_aload_n (pc := 8) h dX4_passes_8 rfl ?_
      refine r_getE (pc := 9) h dX4_passes_9 f_X4_149 sh_35 rfl (h2) ?_
      refine r_if_eq (pc := 12) (tgt := 30) h dX4_passes_12 (by decide) (fun c12 => absurd c12 (by decide)) (fun c12 => ?_)
      refine r_aload_n (pc := 15) h dX4_passes_15 rfl ?_
      refine r_getR (pc := 16) h dX4_passes_16 f_X4_46 sh_35 rfl ?_
      refine r_aload_n (pc := 19) h dX4_passes_19 rfl ?_
      refine r_getE (pc := 20) h dX4_passes_20 f_X4_153 sh_35 rfl (h1) ?_
      refine r_aload_n (pc := 23) h dX4_passes_23 rfl ?_
      refine r_iload_n (pc := 24) h dX4_passes_24 rfl ?_
      refine r_ialoadE (pc := 25) h dX4_passes_25 sh_42 ((⟨vp_in_nI hlt (by decide), by rw [nI_clamp (by omega)]; exact hv⟩ : vp_in (nI i) 5 ∧ g2 42 (nI i).toNatClampNeg = g 42 i)) ?_
      refine r_iastore (pc := 26) h dX4_passes_26 sh_48 (vp_in_nI (show cur + i < 126 by omega) (by decide)) ?_
      refine r_goto (pc := 27) (tgt := 42) h dX4_passes_27 (by decide) ?_
      refine r_aload_n (pc := 42) h dX4_passes_42 rfl ?_
      refine r_dup (pc := 43) h dX4_passes_43 rfl ?_
      refine r_getE (pc := 44) h dX4_passes_44 f_X4_153 sh_35 rfl (show gup g2 48 (nI (cur + i)).toNatClampNeg (g 42 i) 35 22 = nI (cur + i) by rw [gup_o (by omega)]; exact h1) ?_
      refine r_iconst (pc := 47) h dX4_passes_47 ci_1 ?_
      refine r_iadd (pc := 48) h dX4_passes_48 ?_
      refine r_top (y := nI (cur + (i + 1))) h (nI_add _ _) ?_
      refine r_putI (pc := 49) h dX4_passes_49 fw_X4_153 sh_35 rfl rfl rfl ?_
      refine r_iinc (pc := 52) (ls2 := [_, _, _]) h dX4_passes_52 rfl (ic1 _) rfl ?_
      refine r_goto (pc := 55) (tgt := 2) h dX4_passes_55 (by decide) ?_
      refine ih (i + 1) _ (by omega) gup_s (by rw [gup_o (by omega), gup_o (by omega)]; exact h2) (fun k hk => ?_) (fun a b q1 q2 => ?_)
      · rw [gup_o (by omega), ec]
        by_cases e : k = i
        · subst e; exact gup_s
        · rw [gup_o (by omega)]; exact h3 k (by omega)
      · rw [gup_o (fun z => q2 ⟨z.1, Or.inr z.2⟩), ec, gup_o (by omega)]; exact h4 a b q1 q2
  refine r_iconst (pc := 0) h dX4_passes_0 ci_0 ?_
  refine r_istore_n (pc := 1) (ls2 := [_, _, _]) h dX4_passes_1 (Nat.le_of_ble_eq_true rfl) rfl ?_
  exact loop 5 0 g rfl hc hk (fun k q => by omega) (fun a b _ _ => rfl)
set_option maxRecDepth 100000 in
set_option maxHeartbeats 4000000 in
theorem c_X4_passes_u42 {g : gG} {cur : Nat} (hc : g 35 22 = nI cur) (hk : g 35 21 = nI 0) (hn : cur + 5 ≤ 126) : gCv mX4_passes [.ref 35, .ref 42] g (fun g1 => (∀ k, k < 5 → g1 42 k = g 48 (cur + k)) ∧ g1 35 22 = nI (cur + 5) ∧ g1 35 21 = nI 0 ∧ (∀ a b, ¬ a = 42 → ¬ (a = 35 ∧ b = 22) → g1 a b = g a b)) := by
  refine gCv_of (own := RX4) (ls0 := [.ref 35, .ref 42, .null]) ⟨rfl, pl_X4⟩ rfl (Nat.le_of_ble_eq_true rfl) (fun G (h : gR RX4 cX4_passes 0 0 G) (t : gTv cX4_passes _ G) => ?_)
  have loop : ∀ m i (g2 : gG), i + m = 5 → g2 35 22 = nI (cur + i) → g2 35 21 = nI 0 → (∀ k, k < i → g2 42 k = g 48 (cur + k)) → (∀ a b, ¬ a = 42 → ¬ (a = 35 ∧ b = 22) → g2 a b = g a b) → G 2 [.ref 35, .ref 42, .int (nI i)] [] g2 := by
    intro m
    induction m with
    | zero =>
      intro i g2 hi h1 h2 h3 h4
      have ei : i = 5 := by omega
      subst ei
      refine r_iload_n (pc := 2) h dX4_passes_2 rfl ?_
      refine r_aload_n (pc := 3) h dX4_passes_3 rfl ?_
      refine r_alen (pc := 4) h dX4_passes_4 sh_42 (by decide) (by decide) ?_
      refine r_icmp_ge (pc := 5) (tgt := 58) h dX4_passes_5 (by decide) (fun c5 => ?_) (fun c5 => absurd (nI_le (by decide) (by decide)) c5)
      refine r_rv t (pc := 58) dX4_passes_58 ?_
      exact ⟨h3, h1, h2, h4⟩
    | succ m ih =>
      intro i g2 hi h1 h2 h3 h4
      have hlt : i < 5 := by omega
      have ei : (nI i).toNatClampNeg = i := nI_clamp (by omega)
      have hv : g2 48 (cur + i) = g 48 (cur + i) := h4 _ _ (by decide) (by omega)
      refine r_iload_n (pc := 2) h dX4_passes_2 rfl ?_
      refine r_aload_n (pc := 3) h dX4_passes_3 rfl ?_
      refine r_alen (pc := 4) h dX4_passes_4 sh_42 (by decide) (by decide) ?_
      refine r_icmp_ge (pc := 5) (tgt := 58) h dX4_passes_5 (by decide) (fun c5 => absurd c5 (nI_ge hlt (by decide))) (fun c5 => ?_)
      refine r_aload_n (pc := 8) h dX4_passes_8 rfl ?_
      refine r_getE (pc := 9) h dX4_passes_9 f_X4_149 sh_35 rfl (h2) ?_
      refine r_if_eq (pc := 12) (tgt := 30) h dX4_passes_12 (by decide) (fun c12 => ?_) (fun c12 => absurd (by rfl) c12)
      refine r_aload_n (pc := 30) h dX4_passes_30 rfl ?_
      refine r_iload_n (pc := 31) h dX4_passes_31 rfl ?_
      refine r_aload_n (pc := 32) h dX4_passes_32 rfl ?_
      refine r_getR (pc := 33) h dX4_passes_33 f_X4_46 sh_35 rfl ?_
      refine r_aload_n (pc := 36) h dX4_passes_36 rfl ?_
      refine r_getE (pc := 37) h dX4_passes_37 f_X4_153 sh_35 rfl (h1) ?_
      refine r_ialoadE (pc := 40) h dX4_passes_40 sh_48 ((⟨vp_in_nI (show cur + i < 126 by omega) (by decide), by rw [nI_clamp (by omega)]; exact hv⟩ : vp_in (nI (cur + i)) 126 ∧ g2 48 (nI (cur + i)).toNatClampNeg = g 48 (cur + i))) ?_
      refine r_iastore (pc := 41) h dX4_passes_41 sh_42 (vp_in_nI hlt (by decide)) ?_
      refine r_aload_n (pc := 42) h dX4_passes_42 rfl ?_
      refine r_dup (pc := 43) h dX4_passes_43 rfl ?_
      refine r_getE (pc := 44) h dX4_passes_44 f_X4_153 sh_35 rfl (show gup g2 42 (nI i).toNatClampNeg (g 48 (cur + i)) 35 22 = nI (cur + i) by rw [gup_o (by omega)]; exact h1) ?_
      refine r_iconst (pc := 47) h dX4_passes_47 ci_1 ?_
      refine r_iadd (pc := 48) h dX4_passes_48 ?_
      refine r_top (y := nI (cur + (i + 1))) h (nI_add _ _) ?_
      refine r_putI (pc := 49) h dX4_passes_49 fw_X4_153 sh_35 rfl rfl rfl ?_
      refine r_iinc (pc := 52) (ls2 := [_, _, _]) h dX4_passes_52 rfl (ic1 _) rfl ?_
      refine r_goto (pc := 55) (tgt := 2) h dX4_passes_55 (by decide) ?_
      refine ih (i + 1) _ (by omega) gup_s (by rw [gup_o (by omega), gup_o (by omega)]; exact h2) (fun k hk => ?_) (fun a b q1 q2 => ?_)
      · rw [gup_o (by omega), ei]
        by_cases e : k = i
        · subst e; exact gup_s
        · rw [gup_o (by omega)]; exact h3 k (by omega)
      · rw [gup_o (fun z => q2 z), gup_o (fun z => q1 z.1)]; exact h4 a b q1 q2
  refine r_iconst (pc := 0) h dX4_passes_0 ci_0 ?_
  refine r_istore_n (pc := 1) (ls2 := [_, _, _]) h dX4_passes_1 (Nat.le_of_ble_eq_true rfl) rfl ?_
  exact loop 5 0 g rfl hc hk (fun k q => by omega) (fun a b _ _ => rfl)
set_option maxRecDepth 100000 in
set_option maxHeartbeats 4000000 in
theorem c_X4_passes_k43 {g : gG} {cur : Nat} (hc : g 35 22 = nI cur) (hk : g 35 21 = nI 1) (hn : cur + 5 ≤ 126) : gCv mX4_passes [.ref 35, .ref 43] g (fun g1 => (∀ k, k < 5 → g1 48 (cur + k) = g 43 k) ∧ g1 35 22 = nI (cur + 5) ∧ g1 35 21 = nI 1 ∧ kfr cur (cur + 5) g g1) := by
  refine gCv_of (own := RX4) (ls0 := [.ref 35, .ref 43, .null]) ⟨rfl, pl_X4⟩ rfl (Nat.le_of_ble_eq_true rfl) (fun G (h : gR RX4 cX4_passes 0 0 G) (t : gTv cX4_passes _ G) => ?_)
  have loop : ∀ m i (g2 : gG), i + m = 5 → g2 35 22 = nI (cur + i) → g2 35 21 = nI 1 → (∀ k, k < i → g2 48 (cur + k) = g 43 k) → kfr cur (cur + 5) g g2 → G 2 [.ref 35, .ref 43, .int (nI i)] [] g2 := by
    intro m
    induction m with
    | zero =>
      intro i g2 hi h1 h2 h3 h4
      have ei : i = 5 := by omega
      subst ei
      refine r_iload_n (pc := 2) h dX4_passes_2 rfl ?_
      refine r_aload_n (pc := 3) h dX4_passes_3 rfl ?_
      refine r_alen (pc := 4) h dX4_passes_4 sh_43 (by decide) (by decide) ?_
      refine r_icmp_ge (pc := 5) (tgt := 58) h dX4_passes_5 (by decide) (fun c5 => ?_) (fun c5 => absurd (nI_le (by decide) (by decide)) c5)
      refine r_rv t (pc := 58) dX4_passes_58 ?_
      exact ⟨h3, h1, h2, h4⟩
    | succ m ih =>
      intro i g2 hi h1 h2 h3 h4
      have hlt : i < 5 := by omega
      have hv : g2 43 i = g 43 i := h4 _ _ (by omega) (by omega)
      have ec : (nI (cur + i)).toNatClampNeg = cur + i := nI_clamp (by omega)
      refine r_iload_n (pc := 2) h dX4_passes_2 rfl ?_
      refine r_aload_n (pc := 3) h dX4_passes_3 rfl ?_
      refine r_alen (pc := 4) h dX4_passes_4 sh_43 (by decide) (by decide) ?_
      refine r_icmp_ge (pc := 5) (tgt := 58) h dX4_passes_5 (by decide) (fun c5 => absurd c5 (nI_ge hlt (by decide))) (fun c5 => ?_)
      refine r_aload_n (pc := 8) h dX4_passes_8 rfl ?_
      refine r_getE (pc := 9) h dX4_passes_9 f_X4_149 sh_35 rfl (h2) ?_
      refine r_if_eq (pc := 12) (tgt := 30) h dX4_passes_12 (by decide) (fun c12 => absurd c12 (by decide)) (fun c12 => ?_)
      refine r_aload_n (pc := 15) h dX4_passes_15 rfl ?_
      refine r_getR (pc := 16) h dX4_passes_16 f_X4_46 sh_35 rfl ?_
      refine r_aload_n (pc := 19) h dX4_passes_19 rfl ?_
      refine r_getE (pc := 20) h dX4_passes_20 f_X4_153 sh_35 rfl (h1) ?_
      refine r_aload_n (pc := 23) h dX4_passes_23 rfl ?_
      refine r_iload_n (pc := 24) h dX4_passes_24 rfl ?_
      refine r_ialoadE (pc := 25) h dX4_passes_25 sh_43 ((⟨vp_in_nI hlt (by decide), by rw [nI_clamp (by omega)]; exact hv⟩ : vp_in (nI i) 5 ∧ g2 43 (nI i).toNatClampNeg = g 43 i)) ?_
      refine r_iastore (pc := 26) h dX4_passes_26 sh_48 (vp_in_nI (show cur + i < 126 by omega) (by decide)) ?_
      refine r_goto (pc := 27) (tgt := 42) h dX4_passes_27 (by decide) ?_
      refine r_aload_n (pc := 42) h dX4_passes_42 rfl ?_
      refine r_dup (pc := 43) h dX4_passes_43 rfl ?_
      refine r_getE (pc := 44) h dX4_passes_44 f_X4_153 sh_35 rfl (show gup g2 48 (nI (cur + i)).toNatClampNeg (g 43 i) 35 22 = nI (cur + i) by rw [gup_o (by omega)]; exact h1) ?_
      refine r_iconst (pc := 47) h dX4_passes_47 ci_1 ?_
      refine r_iadd (pc := 48) h dX4_passes_48 ?_
      refine r_top (y := nI (cur + (i + 1))) h (nI_add _ _) ?_
      refine r_putI (pc := 49) h dX4_passes_49 fw_X4_153 sh_35 rfl rfl rfl ?_
      refine r_iinc (pc := 52) (ls2 := [_, _, _]) h dX4_passes_52 rfl (ic1 _) rfl ?_
      refine r_goto (pc := 55) (tgt := 2) h dX4_passes_55 (by decide) ?_
      refine ih (i + 1) _ (by omega) gup_s (by rw [gup_o (by omega), gup_o (by omega)]; exact h2) (fun k hk => ?_) (fun a b q1 q2 => ?_)
      · rw [gup_o (by omega), ec]
        by_cases e : k = i
        · subst e; exact gup_s
        · rw [gup_o (by omega)]; exact h3 k (by omega)
      · rw [gup_o (fun z => q2 ⟨z.1, Or.inr z.2⟩), ec, gup_o (by omega)]; exact h4 a b q1 q2
  refine r_iconst (pc := 0) h dX4_passes_0 ci_0 ?_
  refine r_istore_n (pc := 1) (ls2 := [_, _, _]) h dX4_passes_1 (Nat.le_of_ble_eq_true rfl) rfl ?_
  exact loop 5 0 g rfl hc hk (fun k q => by omega) (fun a b _ _ => rfl)
set_option maxRecDepth 100000 in
set_option maxHeartbeats 4000000 in
theorem c_X4_passes_u43 {g : gG} {cur : Nat} (hc : g 35 22 = nI cur) (hk : g 35 21 = nI 0) (hn : cur + 5 ≤ 126) : gCv mX4_passes [.ref 35, .ref 43] g (fun g1 => (∀ k, k < 5 → g1 43 k = g 48 (cur + k)) ∧ g1 35 22 = nI (cur + 5) ∧ g1 35 21 = nI 0 ∧ (∀ a b, ¬ a = 43 → ¬ (a = 35 ∧ b = 22) → g1 a b = g a b)) := by
  refine gCv_of (own := RX4) (ls0 := [.ref 35, .ref 43, .null]) ⟨rfl, pl_X4⟩ rfl (Nat.le_of_ble_eq_true rfl) (fun G (h : gR RX4 cX4_passes 0 0 G) (t : gTv cX4_passes _ G) => ?_)
  have loop : ∀ m i (g2 : gG), i + m = 5 → g2 35 22 = nI (cur + i) → g2 35 21 = nI 0 → (∀ k, k < i → g2 43 k = g 48 (cur + k)) → (∀ a b, ¬ a = 43 → ¬ (a = 35 ∧ b = 22) → g2 a b = g a b) → G 2 [.ref 35, .ref 43, .int (nI i)] [] g2 := by
    intro m
    induction m with
    | zero =>
      intro i g2 hi h1 h2 h3 h4
      have ei : i = 5 := by omega
      subst ei
      refine r_iload_n (pc := 2) h dX4_passes_2 rfl ?_
      refine r_aload_n (pc := 3) h dX4_passes_3 rfl ?_
      refine r_alen (pc := 4) h dX4_passes_4 sh_43 (by decide) (by decide) ?_
      refine r_icmp_ge (pc := 5) (tgt := 58) h dX4_passes_5 (by decide) (fun c5 => ?_) (fun c5 => absurd (nI_le (by decide) (by decide)) c5)
      refine r_rv t (pc := 58) dX4_passes_58 ?_
      exact ⟨h3, h1, h2, h4⟩
    | succ m ih =>
      intro i g2 hi h1 h2 h3 h4
      have hlt : i < 5 := by omega
      have ei : (nI i).toNatClampNeg = i := nI_clamp (by omega)
      have hv : g2 48 (cur + i) = g 48 (cur + i) := h4 _ _ (by decide) (by omega)
      refine r_iload_n (pc := 2) h dX4_passes_2 rfl ?_
      refine r_aload_n (pc := 3) h dX4_passes_3 rfl ?_
      refine r_alen (pc := 4) h dX4_passes_4 sh_43 (by decide) (by decide) ?_
      refine r_icmp_ge (pc := 5) (tgt := 58) h dX4_passes_5 (by decide) (fun c5 => absurd c5 (nI_ge hlt (by decide))) (fun c5 => ?_)
      refine r_aload_n (pc := 8) h dX4_passes_8 rfl ?_
      refine r_getE (pc := 9) h dX4_passes_9 f_X4_149 sh_35 rfl (h2) ?_
      refine r_if_eq (pc := 12) (tgt := 30) h dX4_passes_12 (by decide) (fun c12 => ?_) (fun c12 => absurd (by rfl) c12)
      refine r_aload_n (pc := 30) h dX4_passes_30 rfl ?_
      refine r_iload_n (pc := 31) h dX4_passes_31 rfl ?_
      refine r_aload_n (pc := 32) h dX4_passes_32 rfl ?_
      refine r_getR (pc := 33) h dX4_passes_33 f_X4_46 sh_35 rfl ?_
      refine r_aload_n (pc := 36) h dX4_passes_36 rfl ?_
      refine r_getE (pc := 37) h dX4_passes_37 f_X4_153 sh_35 rfl (h1) ?_
      refine r_ialoadE (pc := 40) h dX4_passes_40 sh_48 ((⟨vp_in_nI (show cur + i < 126 by omega) (by decide), by rw [nI_clamp (by omega)]; exact hv⟩ : vp_in (nI (cur + i)) 126 ∧ g2 48 (nI (cur + i)).toNatClampNeg = g 48 (cur + i))) ?_
      refine r_iastore (pc := 41) h dX4_passes_41 sh_43 (vp_in_nI hlt (by decide)) ?_
      refine r_aload_n (pc := 42) h dX4_passes_42 rfl ?_
      refine r_dup (pc := 43) h dX4_passes_43 rfl ?_
      refine r_getE (pc := 44) h dX4_passes_44 f_X4_153 sh_35 rfl (show gup g2 43 (nI i).toNatClampNeg (g 48 (cur + i)) 35 22 = nI (cur + i) by rw [gup_o (by omega)]; exact h1) ?_
      refine r_iconst (pc := 47) h dX4_passes_47 ci_1 ?_
      refine r_iadd (pc := 48) h dX4_passes_48 ?_
      refine r_top (y := nI (cur + (i + 1))) h (nI_add _ _) ?_
      refine r_putI (pc := 49) h dX4_passes_49 fw_X4_153 sh_35 rfl rfl rfl ?_
      refine r_iinc (pc := 52) (ls2 := [_, _, _]) h dX4_passes_52 rfl (ic1 _) rfl ?_
      refine r_goto (pc := 55) (tgt := 2) h dX4_passes_55 (by decide) ?_
      refine ih (i + 1) _ (by omega) gup_s (by rw [gup_o (by omega), gup_o (by omega)]; exact h2) (fun k hk => ?_) (fun a b q1 q2 => ?_)
      · rw [gup_o (by omega), ei]
        by_cases e : k = i
        · subst e; exact gup_s
        · rw [gup_o (by omega)]; exact h3 k (by omega)
      · rw [gup_o (fun z => q2 z), gup_o (fun z => q1 z.1)]; exact h4 a b q1 q2
  refine r_iconst (pc := 0) h dX4_passes_0 ci_0 ?_
  refine r_istore_n (pc := 1) (ls2 := [_, _, _]) h dX4_passes_1 (Nat.le_of_ble_eq_true rfl) rfl ?_
  exact loop 5 0 g rfl hc hk (fun k q => by omega) (fun a b _ _ => rfl)
set_option maxRecDepth 100000 in
set_option maxHeartbeats 4000000 in
theorem c_X4_passOne_k {g : gG} {cur : Nat} (v : Int32) (hc : g 35 22 = nI cur) (hk : g 35 21 = nI 1) (hn : cur < 126) : gCi mX4_passOne [.ref 35, .int v] g (fun x g1 => x = v ∧ g1 = gup (gup g 48 cur v) 35 22 (nI (cur + 1))) := by
  refine gCi_of (own := RX4) (ls0 := [.ref 35, .int v, .null]) ⟨rfl, pl_X4⟩ rfl (Nat.le_of_ble_eq_true rfl) (fun G (h : gR RX4 cX4_passOne 0 0 G) (t : gTi cX4_passOne .int _ G) => ?_)
  have ec : (nI cur).toNatClampNeg = cur := nI_clamp (by omega)
  refine r_aload_n (pc := 0) h dX4_passOne_0 rfl ?_
  refine r_getE (pc := 1) h dX4_passOne_1 f_X4_149 sh_35 rfl (hk) ?_
  refine r_if_eq (pc := 4) (tgt := 11) h dX4_passOne_4 (by decide) (fun c4 => absurd c4 (by decide)) (fun c4 => ?_)
  refine r_iload_n (pc := 7) h dX4_passOne_7 rfl ?_
  refine r_goto (pc := 8) (tgt := 20) h dX4_passOne_8 (by decide) ?_
  refine r_istore_n (pc := 20) (ls2 := [_, _, _]) h dX4_passOne_20 (Nat.le_of_ble_eq_true rfl) rfl ?_
  refine r_aload_n (pc := 21) h dX4_passOne_21 rfl ?_
  refine r_getE (pc := 22) h dX4_passOne_22 f_X4_149 sh_35 rfl (hk) ?_
  refine r_if_eq (pc := 25) (tgt := 38) h dX4_passOne_25 (by decide) (fun c25 => absurd c25 (by decide)) (fun c25 => ?_)
  refine r_aload_n (pc := 28) h dX4_passOne_28 rfl ?_
  refine r_getR (pc := 29) h dX4_passOne_29 f_X4_46 sh_35 rfl ?_
  refine r_aload_n (pc := 32) h dX4_passOne_32 rfl ?_
  refine r_getE (pc := 33) h dX4_passOne_33 f_X4_153 sh_35 rfl (hc) ?_
  refine r_iload_n (pc := 36) h dX4_passOne_36 rfl ?_
  refine r_iastore (pc := 37) h dX4_passOne_37 sh_48 (vp_in_nI hn (by decide)) ?_
  refine r_aload_n (pc := 38) h dX4_passOne_38 rfl ?_
  refine r_dup (pc := 39) h dX4_passOne_39 rfl ?_
  refine r_getE (pc := 40) h dX4_passOne_40 f_X4_153 sh_35 rfl (show gup g 48 (nI cur).toNatClampNeg v 35 22 = nI cur by rw [gup_o (by omega)]; exact hc) ?_
  refine r_iconst (pc := 43) h dX4_passOne_43 ci_1 ?_
  refine r_iadd (pc := 44) h dX4_passOne_44 ?_
  refine r_top (y := nI (cur + 1)) h (nI_add _ _) ?_
  refine r_putI (pc := 45) h dX4_passOne_45 fw_X4_153 sh_35 rfl rfl rfl ?_
  refine r_iload_n (pc := 48) h dX4_passOne_48 rfl ?_
  refine r_ri t (pc := 49) dX4_passOne_49 rfl ?_
  exact ⟨rfl, by rw [ec]⟩
set_option maxRecDepth 100000 in
set_option maxHeartbeats 4000000 in
theorem c_X4_passOne_u {g : gG} {cur : Nat} (v : Int32) (hc : g 35 22 = nI cur) (hk : g 35 21 = nI 0) (hn : cur < 126) : gCi mX4_passOne [.ref 35, .int v] g (fun x g1 => x = g 48 cur ∧ g1 = gup g 35 22 (nI (cur + 1))) := by
  refine gCi_of (own := RX4) (ls0 := [.ref 35, .int v, .null]) ⟨rfl, pl_X4⟩ rfl (Nat.le_of_ble_eq_true rfl) (fun G (h : gR RX4 cX4_passOne 0 0 G) (t : gTi cX4_passOne .int _ G) => ?_)
  refine r_aload_n (pc := 0) h dX4_passOne_0 rfl ?_
  refine r_getE (pc := 1) h dX4_passOne_1 f_X4_149 sh_35 rfl (hk) ?_
  refine r_if_eq (pc := 4) (tgt := 11) h dX4_passOne_4 (by decide) (fun c4 => ?_) (fun c4 => absurd (by rfl) c4)
  refine r_aload_n (pc := 11) h dX4_passOne_11 rfl ?_
  refine r_getR (pc := 12) h dX4_passOne_12 f_X4_46 sh_35 rfl ?_
  refine r_aload_n (pc := 15) h dX4_passOne_15 rfl ?_
  refine r_getE (pc := 16) h dX4_passOne_16 f_X4_153 sh_35 rfl (hc) ?_
  refine r_ialoadE (pc := 19) h dX4_passOne_19 sh_48 ((⟨vp_in_nI hn (by decide), by rw [nI_clamp (by omega)]⟩ : vp_in (nI cur) 126 ∧ g 48 (nI cur).toNatClampNeg = g 48 cur)) ?_
  refine r_istore_n (pc := 20) (ls2 := [_, _, _]) h dX4_passOne_20 (Nat.le_of_ble_eq_true rfl) rfl ?_
  refine r_aload_n (pc := 21) h dX4_passOne_21 rfl ?_
  refine r_getE (pc := 22) h dX4_passOne_22 f_X4_149 sh_35 rfl (hk) ?_
  refine r_if_eq (pc := 25) (tgt := 38) h dX4_passOne_25 (by decide) (fun c25 => ?_) (fun c25 => absurd (by rfl) c25)
  refine r_aload_n (pc := 38) h dX4_passOne_38 rfl ?_
  refine r_dup (pc := 39) h dX4_passOne_39 rfl ?_
  refine r_getE (pc := 40) h dX4_passOne_40 f_X4_153 sh_35 rfl (hc) ?_
  refine r_iconst (pc := 43) h dX4_passOne_43 ci_1 ?_
  refine r_iadd (pc := 44) h dX4_passOne_44 ?_
  refine r_top (y := nI (cur + 1)) h (nI_add _ _) ?_
  refine r_putI (pc := 45) h dX4_passOne_45 fw_X4_153 sh_35 rfl rfl rfl ?_
  refine r_iload_n (pc := 48) h dX4_passOne_48 rfl ?_
  refine r_ri t (pc := 49) dX4_passOne_49 rfl ?_
  exact ⟨rfl, rfl⟩
set_option maxRecDepth 100000 in
set_option maxHeartbeats 4000000 in
theorem c_X4_passesAll_k0 {g : gG} {c : gCt} (hR : Rm g c) : gCv mX4_passesAll [.ref 35, .int (nI 0), .int (nI 1)] g (fun g1 => Rk g1 0 c ∧ kfr 0 42 g g1) := by
  refine gCv_of (own := RX4) (ls0 := [.ref 35, .int (nI 0), .int (nI 1)]) ⟨rfl, pl_X4⟩ rfl (Nat.le_of_ble_eq_true rfl) (fun G (h : gR RX4 cX4_passesAll 1 40 G) (t : gTv cX4_passesAll _ G) => ?_)
  have hc : gup (gup g 35 22 (nI 0)) 35 21 (nI 1) 35 22 = nI 0 := by rw [gup_o (by decide), gup_s]
  have hk : gup (gup g 35 22 (nI 0)) 35 21 (nI 1) 35 21 = nI 1 := gup_s
  have hF : kfr 0 0 g (gup (gup g 35 22 (nI 0)) 35 21 (nI 1)) := fun a b q1 q2 => by rw [gup_o (fun z => q2 ⟨z.1, Or.inl z.2⟩), gup_o (fun z => q2 ⟨z.1, Or.inr z.2⟩)]
  refine r_aload_n (pc := 0) h dX4_passesAll_0 rfl ?_
  refine r_bipush (pc := 1) h dX4_passesAll_1 cb_42 ?_
  refine r_iload_n (pc := 3) h dX4_passesAll_3 rfl ?_
  refine r_imul (pc := 4) h dX4_passesAll_4 ?_
  refine r_top (y := nI 0) h (by decide) ?_
  refine r_putI (pc := 5) h dX4_passesAll_5 fw_X4_153 sh_35 rfl rfl rfl ?_
  refine r_aload_n (pc := 8) h dX4_passesAll_8 rfl ?_
  refine r_iload_n (pc := 9) h dX4_passesAll_9 rfl ?_
  refine r_putI (pc := 10) h dX4_passesAll_10 fw_X4_149 sh_35 rfl (by decide) (by decide) ?_
  generalize gup (gup g 35 22 _) 35 21 _ = sm at hc hk hF ⊢
  refine r_aload_n (pc := 13) h dX4_passesAll_13 rfl ?_
  refine r_aload_n (pc := 14) h dX4_passesAll_14 rfl ?_
  refine r_getR (pc := 15) h dX4_passesAll_15 f_X4_13 sh_35 rfl ?_
  refine r_callVv (pc := 18) (As := [_]) h dX4_passesAll_18 k_X4_156 gc_35 rfl ⟨Nat.le_of_ble_eq_true rfl, Nat.le_of_ble_eq_true rfl, Nat.le_of_ble_eq_true rfl⟩ (c_X4_passes_k37 (cur := 0) hc hk (by decide)) (fun g1 hq => ?_)
  obtain ⟨p0, hc, hk, f0⟩ := hq
  have p0 : ∀ k, k < 6 → g1 48 (0 + k) = g 37 k := fun k hk => (p0 k hk).trans (hF 37 k (by omega) (by omega))
  have hF := hF.tr f0 (lo3 := 0) (hi3 := 6) (by omega)
  generalize g1 = s0 at hc hk p0 f0 hF ⊢
  refine r_aload_n (pc := 21) h dX4_passesAll_21 rfl ?_
  refine r_aload_n (pc := 22) h dX4_passesAll_22 rfl ?_
  refine r_getR (pc := 23) h dX4_passesAll_23 f_X4_16 sh_35 rfl ?_
  refine r_callVv (pc := 26) (As := [_]) h dX4_passesAll_26 k_X4_156 gc_35 rfl ⟨Nat.le_of_ble_eq_true rfl, Nat.le_of_ble_eq_true rfl, Nat.le_of_ble_eq_true rfl⟩ (c_X4_passes_k38 (cur := 6) hc hk (by decide)) (fun g1 hq => ?_)
  obtain ⟨p1, hc, hk, f1⟩ := hq
  have p1 : ∀ k, k < 6 → g1 48 (6 + k) = g 38 k := fun k hk => (p1 k hk).trans (hF 38 k (by omega) (by omega))
  have hF := hF.tr f1 (lo3 := 0) (hi3 := 12) (by omega)
  generalize g1 = s1 at hc hk p1 f1 hF ⊢
  refine r_aload_n (pc := 29) h dX4_passesAll_29 rfl ?_
  refine r_aload_n (pc := 30) h dX4_passesAll_30 rfl ?_
  refine r_getR (pc := 31) h dX4_passesAll_31 f_X4_19 sh_35 rfl ?_
  refine r_callVv (pc := 34) (As := [_]) h dX4_passesAll_34 k_X4_156 gc_35 rfl ⟨Nat.le_of_ble_eq_true rfl, Nat.le_of_ble_eq_true rfl, Nat.le_of_ble_eq_true rfl⟩ (c_X4_passes_k39 (cur := 12) hc hk (by decide)) (fun g1 hq => ?_)
  obtain ⟨p2, hc, hk, f2⟩ := hq
  have p2 : ∀ k, k < 6 → g1 48 (12 + k) = g 39 k := fun k hk => (p2 k hk).trans (hF 39 k (by omega) (by omega))
  have hF := hF.tr f2 (lo3 := 0) (hi3 := 18) (by omega)
  generalize g1 = s2 at hc hk p2 f2 hF ⊢
  refine r_aload_n (pc := 37) h dX4_passesAll_37 rfl ?_
  refine r_aload_n (pc := 38) h dX4_passesAll_38 rfl ?_
  refine r_getR (pc := 39) h dX4_passesAll_39 f_X4_22 sh_35 rfl ?_
  refine r_callVv (pc := 42) (As := [_]) h dX4_passesAll_42 k_X4_156 gc_35 rfl ⟨Nat.le_of_ble_eq_true rfl, Nat.le_of_ble_eq_true rfl, Nat.le_of_ble_eq_true rfl⟩ (c_X4_passes_k40 (cur := 18) hc hk (by decide)) (fun g1 hq => ?_)
  obtain ⟨p3, hc, hk, f3⟩ := hq
  have p3 : ∀ k, k < 5 → g1 48 (18 + k) = g 40 k := fun k hk => (p3 k hk).trans (hF 40 k (by omega) (by omega))
  have hF := hF.tr f3 (lo3 := 0) (hi3 := 23) (by omega)
  generalize g1 = s3 at hc hk p3 f3 hF ⊢
  refine r_aload_n (pc := 45) h dX4_passesAll_45 rfl ?_
  refine r_aload_n (pc := 46) h dX4_passesAll_46 rfl ?_
  refine r_getR (pc := 47) h dX4_passesAll_47 f_X4_25 sh_35 rfl ?_
  refine r_callVv (pc := 50) (As := [_]) h dX4_passesAll_50 k_X4_156 gc_35 rfl ⟨Nat.le_of_ble_eq_true rfl, Nat.le_of_ble_eq_true rfl, Nat.le_of_ble_eq_true rfl⟩ (c_X4_passes_k41 (cur := 23) hc hk (by decide)) (fun g1 hq => ?_)
  obtain ⟨p4, hc, hk, f4⟩ := hq
  have p4 : ∀ k, k < 5 → g1 48 (23 + k) = g 41 k := fun k hk => (p4 k hk).trans (hF 41 k (by omega) (by omega))
  have hF := hF.tr f4 (lo3 := 0) (hi3 := 28) (by omega)
  generalize g1 = s4 at hc hk p4 f4 hF ⊢
  refine r_aload_n (pc := 53) h dX4_passesAll_53 rfl ?_
  refine r_aload_n (pc := 54) h dX4_passesAll_54 rfl ?_
  refine r_getR (pc := 55) h dX4_passesAll_55 f_X4_28 sh_35 rfl ?_
  refine r_callVv (pc := 58) (As := [_]) h dX4_passesAll_58 k_X4_156 gc_35 rfl ⟨Nat.le_of_ble_eq_true rfl, Nat.le_of_ble_eq_true rfl, Nat.le_of_ble_eq_true rfl⟩ (c_X4_passes_k42 (cur := 28) hc hk (by decide)) (fun g1 hq => ?_)
  obtain ⟨p5, hc, hk, f5⟩ := hq
  have p5 : ∀ k, k < 5 → g1 48 (28 + k) = g 42 k := fun k hk => (p5 k hk).trans (hF 42 k (by omega) (by omega))
  have hF := hF.tr f5 (lo3 := 0) (hi3 := 33) (by omega)
  generalize g1 = s5 at hc hk p5 f5 hF ⊢
  refine r_aload_n (pc := 61) h dX4_passesAll_61 rfl ?_
  refine r_aload_n (pc := 62) h dX4_passesAll_62 rfl ?_
  refine r_getR (pc := 63) h dX4_passesAll_63 f_X4_31 sh_35 rfl ?_
  refine r_callVv (pc := 66) (As := [_]) h dX4_passesAll_66 k_X4_156 gc_35 rfl ⟨Nat.le_of_ble_eq_true rfl, Nat.le_of_ble_eq_true rfl, Nat.le_of_ble_eq_true rfl⟩ (c_X4_passes_k43 (cur := 33) hc hk (by decide)) (fun g1 hq => ?_)
  obtain ⟨p6, hc, hk, f6⟩ := hq
  have p6 : ∀ k, k < 5 → g1 48 (33 + k) = g 43 k := fun k hk => (p6 k hk).trans (hF 43 k (by omega) (by omega))
  have hF := hF.tr f6 (lo3 := 0) (hi3 := 38) (by omega)
  generalize g1 = s6 at hc hk p6 f6 hF ⊢
  refine r_aload_n (pc := 69) h dX4_passesAll_69 rfl ?_
  refine r_aload_n (pc := 70) h dX4_passesAll_70 rfl ?_
  refine r_aload_n (pc := 71) h dX4_passesAll_71 rfl ?_
  refine r_getE (pc := 72) h dX4_passesAll_72 f_X4_60 sh_35 rfl (hF 35 8 (by omega) (by omega)) ?_
  refine r_callVi (pc := 75) (As := [_]) h dX4_passesAll_75 k_X4_160 gc_35 rfl ⟨Nat.le_of_ble_eq_true rfl, Nat.le_of_ble_eq_true rfl, Nat.le_of_ble_eq_true rfl⟩ (c_X4_passOne_k (cur := 38) _ hc hk (by decide)) (fun x_75 g1 hq => ?_)
  obtain ⟨rfl, hg1⟩ := hq
  rw [hg1]
  clear hg1
  refine r_putI (pc := 78) h dX4_passesAll_78 fw_X4_60 sh_35 rfl rfl rfl ?_
  have hc : (gup (gup (gup s6 48 38 (g 35 8)) 35 22 (nI (38 + 1))) 35 8 (g 35 8)) 35 22 = nI 39 := by rw [gup_o (by decide), gup_s]
  have hk : (gup (gup (gup s6 48 38 (g 35 8)) 35 22 (nI (38 + 1))) 35 8 (g 35 8)) 35 21 = nI 1 := by rw [gup_o (by decide), gup_o (by decide), gup_o (by decide)]; exact hk
  have p7 : (gup (gup (gup s6 48 38 (g 35 8)) 35 22 (nI (38 + 1))) 35 8 (g 35 8)) 48 38 = g 35 8 := by rw [gup_o (by decide), gup_o (by decide), gup_s]
  have f7 : kfr 38 39 s6 (gup (gup (gup s6 48 38 (g 35 8)) 35 22 (nI (38 + 1))) 35 8 (g 35 8)) := fun a b q1 q2 => by
    by_cases e : a = 35 ∧ b = 8
    · obtain ⟨rfl, rfl⟩ := e; rw [gup_s]; exact (hF 35 8 (by omega) (by omega)).symm
    · rw [gup_o e, gup_o (fun z => q2 ⟨z.1, Or.inr z.2⟩), gup_o (by omega)]
  have hF := hF.tr f7 (lo3 := 0) (hi3 := 39) (by omega)
  generalize (gup (gup (gup s6 48 38 (g 35 8)) 35 22 (nI (38 + 1))) 35 8 (g 35 8)) = s7 at hc hk p7 f7 hF ⊢
  refine r_aload_n (pc := 81) h dX4_passesAll_81 rfl ?_
  refine r_aload_n (pc := 82) h dX4_passesAll_82 rfl ?_
  refine r_aload_n (pc := 83) h dX4_passesAll_83 rfl ?_
  refine r_getE (pc := 84) h dX4_passesAll_84 f_X4_67 sh_35 rfl (hF 35 9 (by omega) (by omega)) ?_
  refine r_callVi (pc := 87) (As := [_]) h dX4_passesAll_87 k_X4_160 gc_35 rfl ⟨Nat.le_of_ble_eq_true rfl, Nat.le_of_ble_eq_true rfl, Nat.le_of_ble_eq_true rfl⟩ (c_X4_passOne_k (cur := 39) _ hc hk (by decide)) (fun x_87 g1 hq => ?_)
  obtain ⟨rfl, hg1⟩ := hq
  rw [hg1]
  clear hg1
  refine r_putI (pc := 90) h dX4_passesAll_90 fw_X4_67 sh_35 rfl rfl rfl ?_
  have hc : (gup (gup (gup s7 48 39 (g 35 9)) 35 22 (nI (39 + 1))) 35 9 (g 35 9)) 35 22 = nI 40 := by rw [gup_o (by decide), gup_s]
  have hk : (gup (gup (gup s7 48 39 (g 35 9)) 35 22 (nI (39 + 1))) 35 9 (g 35 9)) 35 21 = nI 1 := by rw [gup_o (by decide), gup_o (by decide), gup_o (by decide)]; exact hk
  have p8 : (gup (gup (gup s7 48 39 (g 35 9)) 35 22 (nI (39 + 1))) 35 9 (g 35 9)) 48 39 = g 35 9 := by rw [gup_o (by decide), gup_o (by decide), gup_s]
  have f8 : kfr 39 40 s7 (gup (gup (gup s7 48 39 (g 35 9)) 35 22 (nI (39 + 1))) 35 9 (g 35 9)) := fun a b q1 q2 => by
    by_cases e : a = 35 ∧ b = 9
    · obtain ⟨rfl, rfl⟩ := e; rw [gup_s]; exact (hF 35 9 (by omega) (by omega)).symm
    · rw [gup_o e, gup_o (fun z => q2 ⟨z.1, Or.inr z.2⟩), gup_o (by omega)]
  have hF := hF.tr f8 (lo3 := 0) (hi3 := 40) (by omega)
  generalize (gup (gup (gup s7 48 39 (g 35 9)) 35 22 (nI (39 + 1))) 35 9 (g 35 9)) = s8 at hc hk p8 f8 hF ⊢
  refine r_aload_n (pc := 93) h dX4_passesAll_93 rfl ?_
  refine r_aload_n (pc := 94) h dX4_passesAll_94 rfl ?_
  refine r_aload_n (pc := 95) h dX4_passesAll_95 rfl ?_
  refine r_getE (pc := 96) h dX4_passesAll_96 f_X4_163 sh_35 rfl (hF 35 10 (by omega) (by omega)) ?_
  refine r_callVi (pc := 99) (As := [_]) h dX4_passesAll_99 k_X4_160 gc_35 rfl ⟨Nat.le_of_ble_eq_true rfl, Nat.le_of_ble_eq_true rfl, Nat.le_of_ble_eq_true rfl⟩ (c_X4_passOne_k (cur := 40) _ hc hk (by decide)) (fun x_99 g1 hq => ?_)
  obtain ⟨rfl, hg1⟩ := hq
  rw [hg1]
  clear hg1
  refine r_putI (pc := 102) h dX4_passesAll_102 fw_X4_163 sh_35 rfl rfl rfl ?_
  have hc : (gup (gup (gup s8 48 40 (g 35 10)) 35 22 (nI (40 + 1))) 35 10 (g 35 10)) 35 22 = nI 41 := by rw [gup_o (by decide), gup_s]
  have hk : (gup (gup (gup s8 48 40 (g 35 10)) 35 22 (nI (40 + 1))) 35 10 (g 35 10)) 35 21 = nI 1 := by rw [gup_o (by decide), gup_o (by decide), gup_o (by decide)]; exact hk
  have p9 : (gup (gup (gup s8 48 40 (g 35 10)) 35 22 (nI (40 + 1))) 35 10 (g 35 10)) 48 40 = g 35 10 := by rw [gup_o (by decide), gup_o (by decide), gup_s]
  have f9 : kfr 40 41 s8 (gup (gup (gup s8 48 40 (g 35 10)) 35 22 (nI (40 + 1))) 35 10 (g 35 10)) := fun a b q1 q2 => by
    by_cases e : a = 35 ∧ b = 10
    · obtain ⟨rfl, rfl⟩ := e; rw [gup_s]; exact (hF 35 10 (by omega) (by omega)).symm
    · rw [gup_o e, gup_o (fun z => q2 ⟨z.1, Or.inr z.2⟩), gup_o (by omega)]
  have hF := hF.tr f9 (lo3 := 0) (hi3 := 41) (by omega)
  generalize (gup (gup (gup s8 48 40 (g 35 10)) 35 22 (nI (40 + 1))) 35 10 (g 35 10)) = s9 at hc hk p9 f9 hF ⊢
  refine r_aload_n (pc := 105) h dX4_passesAll_105 rfl ?_
  refine r_aload_n (pc := 106) h dX4_passesAll_106 rfl ?_
  refine r_aload_n (pc := 107) h dX4_passesAll_107 rfl ?_
  refine r_getE (pc := 108) h dX4_passesAll_108 f_X4_119 sh_35 rfl (hF 35 11 (by omega) (by omega)) ?_
  refine r_callVi (pc := 111) (As := [_]) h dX4_passesAll_111 k_X4_160 gc_35 rfl ⟨Nat.le_of_ble_eq_true rfl, Nat.le_of_ble_eq_true rfl, Nat.le_of_ble_eq_true rfl⟩ (c_X4_passOne_k (cur := 41) _ hc hk (by decide)) (fun x_111 g1 hq => ?_)
  obtain ⟨rfl, hg1⟩ := hq
  rw [hg1]
  clear hg1
  refine r_putI (pc := 114) h dX4_passesAll_114 fw_X4_119 sh_35 rfl rfl rfl ?_
  have hc : (gup (gup (gup s9 48 41 (g 35 11)) 35 22 (nI (41 + 1))) 35 11 (g 35 11)) 35 22 = nI 42 := by rw [gup_o (by decide), gup_s]
  have hk : (gup (gup (gup s9 48 41 (g 35 11)) 35 22 (nI (41 + 1))) 35 11 (g 35 11)) 35 21 = nI 1 := by rw [gup_o (by decide), gup_o (by decide), gup_o (by decide)]; exact hk
  have p10 : (gup (gup (gup s9 48 41 (g 35 11)) 35 22 (nI (41 + 1))) 35 11 (g 35 11)) 48 41 = g 35 11 := by rw [gup_o (by decide), gup_o (by decide), gup_s]
  have f10 : kfr 41 42 s9 (gup (gup (gup s9 48 41 (g 35 11)) 35 22 (nI (41 + 1))) 35 11 (g 35 11)) := fun a b q1 q2 => by
    by_cases e : a = 35 ∧ b = 11
    · obtain ⟨rfl, rfl⟩ := e; rw [gup_s]; exact (hF 35 11 (by omega) (by omega)).symm
    · rw [gup_o e, gup_o (fun z => q2 ⟨z.1, Or.inr z.2⟩), gup_o (by omega)]
  have hF := hF.tr f10 (lo3 := 0) (hi3 := 42) (by omega)
  generalize (gup (gup (gup s9 48 41 (g 35 11)) 35 22 (nI (41 + 1))) 35 11 (g 35 11)) = s10 at hc hk p10 f10 hF ⊢
  refine r_rv t (pc := 117) dX4_passesAll_117 ?_
  have t9 := f10
  have t8 := f9.tr t9 (lo3 := 40) (hi3 := 42) (by omega)
  have t7 := f8.tr t8 (lo3 := 39) (hi3 := 42) (by omega)
  have t6 := f7.tr t7 (lo3 := 38) (hi3 := 42) (by omega)
  have t5 := f6.tr t6 (lo3 := 33) (hi3 := 42) (by omega)
  have t4 := f5.tr t5 (lo3 := 28) (hi3 := 42) (by omega)
  have t3 := f4.tr t4 (lo3 := 23) (hi3 := 42) (by omega)
  have t2 := f3.tr t3 (lo3 := 18) (hi3 := 42) (by omega)
  have t1 := f2.tr t2 (lo3 := 12) (hi3 := 42) (by omega)
  have t0 := f1.tr t1 (lo3 := 6) (hi3 := 42) (by omega)
  obtain ⟨⟨h1, h2, h3, h4⟩, h5, h6, h7⟩ := hR
  refine ⟨⟨⟨?_, ?_, ?_, ?_⟩, h5, fun i hi => ?_, fun i hi => ?_⟩, hF⟩
  · rw [t7 48 _ (by omega) (by omega)]; exact p7.trans h1
  · rw [t8 48 _ (by omega) (by omega)]; exact p8.trans h2
  · rw [t9 48 _ (by omega) (by omega)]; exact p9.trans h3
  · exact p10.trans h4
  · obtain ⟨a, b, d⟩ := h6 i hi
    refine ⟨?_, ?_, ?_⟩
    · rw [t0 48 _ (by omega) (by omega)]; exact (p0 i (by omega)).trans a
    · rw [t1 48 _ (by omega) (by omega)]; exact (p1 i (by omega)).trans b
    · rw [t2 48 _ (by omega) (by omega)]; exact (p2 i (by omega)).trans d
  · obtain ⟨a, b, d, e⟩ := h7 i hi
    refine ⟨?_, ?_, ?_, ?_⟩
    · rw [t3 48 _ (by omega) (by omega)]; exact (p3 i (by omega)).trans a
    · rw [t4 48 _ (by omega) (by omega)]; exact (p4 i (by omega)).trans b
    · rw [t5 48 _ (by omega) (by omega)]; exact (p5 i (by omega)).trans d
    · rw [t6 48 _ (by omega) (by omega)]; exact (p6 i (by omega)).trans e
set_option maxRecDepth 100000 in
set_option maxHeartbeats 4000000 in
theorem c_X4_passesAll_u0 {g : gG} {c : gCt} (hK : Rk g 0 c) : gCv mX4_passesAll [.ref 35, .int (nI 0), .int (nI 0)] g (fun g1 => Rm g1 c ∧ ufr 37 g g1) := by
  refine gCv_of (own := RX4) (ls0 := [.ref 35, .int (nI 0), .int (nI 0)]) ⟨rfl, pl_X4⟩ rfl (Nat.le_of_ble_eq_true rfl) (fun G (h : gR RX4 cX4_passesAll 1 40 G) (t : gTv cX4_passesAll _ G) => ?_)
  have hc : gup (gup g 35 22 (nI 0)) 35 21 (nI 0) 35 22 = nI 0 := by rw [gup_o (by decide), gup_s]
  have hk : gup (gup g 35 22 (nI 0)) 35 21 (nI 0) 35 21 = nI 0 := gup_s
  have h48 : ∀ b, gup (gup g 35 22 (nI 0)) 35 21 (nI 0) 48 b = g 48 b := fun b => by rw [gup_o (by omega), gup_o (by omega)]
  have hF : ufr 37 g (gup (gup g 35 22 (nI 0)) 35 21 (nI 0)) := fun a b q1 q2 => by rw [gup_o (fun z => q2 ⟨z.1, by unfold kx; omega⟩), gup_o (fun z => q2 ⟨z.1, by unfold kx; omega⟩)]
  refine r_aload_n (pc := 0) h dX4_passesAll_0 rfl ?_
  refine r_bipush (pc := 1) h dX4_passesAll_1 cb_42 ?_
  refine r_iload_n (pc := 3) h dX4_passesAll_3 rfl ?_
  refine r_imul (pc := 4) h dX4_passesAll_4 ?_
  refine r_top (y := nI 0) h (by decide) ?_
  refine r_putI (pc := 5) h dX4_passesAll_5 fw_X4_153 sh_35 rfl rfl rfl ?_
  refine r_aload_n (pc := 8) h dX4_passesAll_8 rfl ?_
  refine r_iload_n (pc := 9) h dX4_passesAll_9 rfl ?_
  refine r_putI (pc := 10) h dX4_passesAll_10 fw_X4_149 sh_35 rfl (by decide) (by decide) ?_
  generalize gup (gup g 35 22 _) 35 21 _ = sm at hc hk hF h48 ⊢
  refine r_aload_n (pc := 13) h dX4_passesAll_13 rfl ?_
  refine r_aload_n (pc := 14) h dX4_passesAll_14 rfl ?_
  refine r_getR (pc := 15) h dX4_passesAll_15 f_X4_13 sh_35 rfl ?_
  refine r_callVv (pc := 18) (As := [_]) h dX4_passesAll_18 k_X4_156 gc_35 rfl ⟨Nat.le_of_ble_eq_true rfl, Nat.le_of_ble_eq_true rfl, Nat.le_of_ble_eq_true rfl⟩ (c_X4_passes_u37 (cur := 0) hc hk (by decide)) (fun g1 hq => ?_)
  obtain ⟨p0, hc, hk, f0⟩ := hq
  have p0 : ∀ k, k < 6 → g1 37 k = g 48 (0 + k) := fun k hk => (p0 k hk).trans (h48 _)
  have h48 : ∀ b, g1 48 b = g 48 b := fun b => (f0 48 b (by decide) (by omega)).trans (h48 b)
  have f0 : ufr 37 sm g1 := fun a b q1 q2 => f0 a b (fun z => q1 (by omega)) (fun z => q2 ⟨z.1, by unfold kx; omega⟩)
  have hF := hF.tr f0 (K3 := 37) (by omega)
  generalize g1 = s0 at hc hk p0 f0 hF h48 ⊢
  refine r_aload_n (pc := 21) h dX4_passesAll_21 rfl ?_
  refine r_aload_n (pc := 22) h dX4_passesAll_22 rfl ?_
  refine r_getR (pc := 23) h dX4_passesAll_23 f_X4_16 sh_35 rfl ?_
  refine r_callVv (pc := 26) (As := [_]) h dX4_passesAll_26 k_X4_156 gc_35 rfl ⟨Nat.le_of_ble_eq_true rfl, Nat.le_of_ble_eq_true rfl, Nat.le_of_ble_eq_true rfl⟩ (c_X4_passes_u38 (cur := 6) hc hk (by decide)) (fun g1 hq => ?_)
  obtain ⟨p1, hc, hk, f1⟩ := hq
  have p1 : ∀ k, k < 6 → g1 38 k = g 48 (6 + k) := fun k hk => (p1 k hk).trans (h48 _)
  have h48 : ∀ b, g1 48 b = g 48 b := fun b => (f1 48 b (by decide) (by omega)).trans (h48 b)
  have f1 : ufr 38 s0 g1 := fun a b q1 q2 => f1 a b (fun z => q1 (by omega)) (fun z => q2 ⟨z.1, by unfold kx; omega⟩)
  have hF := hF.tr f1 (K3 := 37) (by omega)
  generalize g1 = s1 at hc hk p1 f1 hF h48 ⊢
  refine r_aload_n (pc := 29) h dX4_passesAll_29 rfl ?_
  refine r_aload_n (pc := 30) h dX4_passesAll_30 rfl ?_
  refine r_getR (pc := 31) h dX4_passesAll_31 f_X4_19 sh_35 rfl ?_
  refine r_callVv (pc := 34) (As := [_]) h dX4_passesAll_34 k_X4_156 gc_35 rfl ⟨Nat.le_of_ble_eq_true rfl, Nat.le_of_ble_eq_true rfl, Nat.le_of_ble_eq_true rfl⟩ (c_X4_passes_u39 (cur := 12) hc hk (by decide)) (fun g1 hq => ?_)
  obtain ⟨p2, hc, hk, f2⟩ := hq
  have p2 : ∀ k, k < 6 → g1 39 k = g 48 (12 + k) := fun k hk => (p2 k hk).trans (h48 _)
  have h48 : ∀ b, g1 48 b = g 48 b := fun b => (f2 48 b (by decide) (by omega)).trans (h48 b)
  have f2 : ufr 39 s1 g1 := fun a b q1 q2 => f2 a b (fun z => q1 (by omega)) (fun z => q2 ⟨z.1, by unfold kx; omega⟩)
  have hF := hF.tr f2 (K3 := 37) (by omega)
  generalize g1 = s2 at hc hk p2 f2 hF h48 ⊢
  refine r_aload_n (pc := 37) h dX4_passesAll_37 rfl ?_
  refine r_aload_n (pc := 38) h dX4_passesAll_38 rfl ?_
  refine r_getR (pc := 39) h dX4_passesAll_39 f_X4_22 sh_35 rfl ?_
  refine r_callVv (pc := 42) (As := [_]) h dX4_passesAll_42 k_X4_156 gc_35 rfl ⟨Nat.le_of_ble_eq_true rfl, Nat.le_of_ble_eq_true rfl, Nat.le_of_ble_eq_true rfl⟩ (c_X4_passes_u40 (cur := 18) hc hk (by decide)) (fun g1 hq => ?_)
  obtain ⟨p3, hc, hk, f3⟩ := hq
  have p3 : ∀ k, k < 5 → g1 40 k = g 48 (18 + k) := fun k hk => (p3 k hk).trans (h48 _)
  have h48 : ∀ b, g1 48 b = g 48 b := fun b => (f3 48 b (by decide) (by omega)).trans (h48 b)
  have f3 : ufr 40 s2 g1 := fun a b q1 q2 => f3 a b (fun z => q1 (by omega)) (fun z => q2 ⟨z.1, by unfold kx; omega⟩)
  have hF := hF.tr f3 (K3 := 37) (by omega)
  generalize g1 = s3 at hc hk p3 f3 hF h48 ⊢
  refine r_aload_n (pc := 45) h dX4_passesAll_45 rfl ?_
  refine r_aload_n (pc := 46) h dX4_passesAll_46 rfl ?_
  refine r_getR (pc := 47) h dX4_passesAll_47 f_X4_25 sh_35 rfl ?_
  refine r_callVv (pc := 50) (As := [_]) h dX4_passesAll_50 k_X4_156 gc_35 rfl ⟨Nat.le_of_ble_eq_true rfl, Nat.le_of_ble_eq_true rfl, Nat.le_of_ble_eq_true rfl⟩ (c_X4_passes_u41 (cur := 23) hc hk (by decide)) (fun g1 hq => ?_)
  obtain ⟨p4, hc, hk, f4⟩ := hq
  have p4 : ∀ k, k < 5 → g1 41 k = g 48 (23 + k) := fun k hk => (p4 k hk).trans (h48 _)
  have h48 : ∀ b, g1 48 b = g 48 b := fun b => (f4 48 b (by decide) (by omega)).trans (h48 b)
  have f4 : ufr 41 s3 g1 := fun a b q1 q2 => f4 a b (fun z => q1 (by omega)) (fun z => q2 ⟨z.1, by unfold kx; omega⟩)
  have hF := hF.tr f4 (K3 := 37) (by omega)
  generalize g1 = s4 at hc hk p4 f4 hF h48 ⊢
  refine r_aload_n (pc := 53) h dX4_passesAll_53 rfl ?_
  refine r_aload_n (pc := 54) h dX4_passesAll_54 rfl ?_
  refine r_getR (pc := 55) h dX4_passesAll_55 f_X4_28 sh_35 rfl ?_
  refine r_callVv (pc := 58) (As := [_]) h dX4_passesAll_58 k_X4_156 gc_35 rfl ⟨Nat.le_of_ble_eq_true rfl, Nat.le_of_ble_eq_true rfl, Nat.le_of_ble_eq_true rfl⟩ (c_X4_passes_u42 (cur := 28) hc hk (by decide)) (fun g1 hq => ?_)
  obtain ⟨p5, hc, hk, f5⟩ := hq
  have p5 : ∀ k, k < 5 → g1 42 k = g 48 (28 + k) := fun k hk => (p5 k hk).trans (h48 _)
  have h48 : ∀ b, g1 48 b = g 48 b := fun b => (f5 48 b (by decide) (by omega)).trans (h48 b)
  have f5 : ufr 42 s4 g1 := fun a b q1 q2 => f5 a b (fun z => q1 (by omega)) (fun z => q2 ⟨z.1, by unfold kx; omega⟩)
  have hF := hF.tr f5 (K3 := 37) (by omega)
  generalize g1 = s5 at hc hk p5 f5 hF h48 ⊢
  refine r_aload_n (pc := 61) h dX4_passesAll_61 rfl ?_
  refine r_aload_n (pc := 62) h dX4_passesAll_62 rfl ?_
  refine r_getR (pc := 63) h dX4_passesAll_63 f_X4_31 sh_35 rfl ?_
  refine r_callVv (pc := 66) (As := [_]) h dX4_passesAll_66 k_X4_156 gc_35 rfl ⟨Nat.le_of_ble_eq_true rfl, Nat.le_of_ble_eq_true rfl, Nat.le_of_ble_eq_true rfl⟩ (c_X4_passes_u43 (cur := 33) hc hk (by decide)) (fun g1 hq => ?_)
  obtain ⟨p6, hc, hk, f6⟩ := hq
  have p6 : ∀ k, k < 5 → g1 43 k = g 48 (33 + k) := fun k hk => (p6 k hk).trans (h48 _)
  have h48 : ∀ b, g1 48 b = g 48 b := fun b => (f6 48 b (by decide) (by omega)).trans (h48 b)
  have f6 : ufr 43 s5 g1 := fun a b q1 q2 => f6 a b (fun z => q1 (by omega)) (fun z => q2 ⟨z.1, by unfold kx; omega⟩)
  have hF := hF.tr f6 (K3 := 37) (by omega)
  generalize g1 = s6 at hc hk p6 f6 hF h48 ⊢
  refine r_aload_n (pc := 69) h dX4_passesAll_69 rfl ?_
  refine r_aload_n (pc := 70) h dX4_passesAll_70 rfl ?_
  refine r_aload_n (pc := 71) h dX4_passesAll_71 rfl ?_
  refine r_getI (pc := 72) h dX4_passesAll_72 f_X4_60 sh_35 rfl ?_
  refine r_callVi (pc := 75) (As := [_]) h dX4_passesAll_75 k_X4_160 gc_35 rfl ⟨Nat.le_of_ble_eq_true rfl, Nat.le_of_ble_eq_true rfl, Nat.le_of_ble_eq_true rfl⟩ (c_X4_passOne_u (cur := 38) _ hc hk (by decide)) (fun x_75 g1 hq => ?_)
  obtain ⟨rfl, hg1⟩ := hq
  rw [hg1, h48]
  clear hg1
  refine r_putI (pc := 78) h dX4_passesAll_78 fw_X4_60 sh_35 rfl rfl rfl ?_
  have hc : (gup (gup s6 35 22 (nI (38 + 1))) 35 8 (g 48 38)) 35 22 = nI 39 := by rw [gup_o (by decide), gup_s]
  have hk : (gup (gup s6 35 22 (nI (38 + 1))) 35 8 (g 48 38)) 35 21 = nI 0 := by rw [gup_o (by decide), gup_o (by decide)]; exact hk
  have z0 : (gup (gup s6 35 22 (nI (38 + 1))) 35 8 (g 48 38)) 35 8 = g 48 38 := gup_s
  have h48 : ∀ b, (gup (gup s6 35 22 (nI (38 + 1))) 35 8 (g 48 38)) 48 b = g 48 b := fun b => by rw [gup_o (by omega), gup_o (by omega)]; exact h48 b
  have f7 : ufr 44 s6 (gup (gup s6 35 22 (nI (38 + 1))) 35 8 (g 48 38)) := fun a b q1 q2 => by rw [gup_o (fun z => q2 ⟨z.1, by unfold kx; omega⟩), gup_o (fun z => q2 ⟨z.1, by unfold kx; omega⟩)]
  have hF := hF.tr f7 (K3 := 37) (by omega)
  generalize (gup (gup s6 35 22 (nI (38 + 1))) 35 8 (g 48 38)) = s7 at hc hk f7 hF h48 z0 ⊢
  refine r_aload_n (pc := 81) h dX4_passesAll_81 rfl ?_
  refine r_aload_n (pc := 82) h dX4_passesAll_82 rfl ?_
  refine r_aload_n (pc := 83) h dX4_passesAll_83 rfl ?_
  refine r_getI (pc := 84) h dX4_passesAll_84 f_X4_67 sh_35 rfl ?_
  refine r_callVi (pc := 87) (As := [_]) h dX4_passesAll_87 k_X4_160 gc_35 rfl ⟨Nat.le_of_ble_eq_true rfl, Nat.le_of_ble_eq_true rfl, Nat.le_of_ble_eq_true rfl⟩ (c_X4_passOne_u (cur := 39) _ hc hk (by decide)) (fun x_87 g1 hq => ?_)
  obtain ⟨rfl, hg1⟩ := hq
  rw [hg1, h48]
  clear hg1
  refine r_putI (pc := 90) h dX4_passesAll_90 fw_X4_67 sh_35 rfl rfl rfl ?_
  have hc : (gup (gup s7 35 22 (nI (39 + 1))) 35 9 (g 48 39)) 35 22 = nI 40 := by rw [gup_o (by decide), gup_s]
  have hk : (gup (gup s7 35 22 (nI (39 + 1))) 35 9 (g 48 39)) 35 21 = nI 0 := by rw [gup_o (by decide), gup_o (by decide)]; exact hk
  have z0 : (gup (gup s7 35 22 (nI (39 + 1))) 35 9 (g 48 39)) 35 8 = g 48 38 := by rw [gup_o (by decide), gup_o (by decide)]; exact z0
  have z1 : (gup (gup s7 35 22 (nI (39 + 1))) 35 9 (g 48 39)) 35 9 = g 48 39 := gup_s
  have h48 : ∀ b, (gup (gup s7 35 22 (nI (39 + 1))) 35 9 (g 48 39)) 48 b = g 48 b := fun b => by rw [gup_o (by omega), gup_o (by omega)]; exact h48 b
  have f8 : ufr 44 s7 (gup (gup s7 35 22 (nI (39 + 1))) 35 9 (g 48 39)) := fun a b q1 q2 => by rw [gup_o (fun z => q2 ⟨z.1, by unfold kx; omega⟩), gup_o (fun z => q2 ⟨z.1, by unfold kx; omega⟩)]
  have hF := hF.tr f8 (K3 := 37) (by omega)
  generalize (gup (gup s7 35 22 (nI (39 + 1))) 35 9 (g 48 39)) = s8 at hc hk f8 hF h48 z0 z1 ⊢
  refine r_aload_n (pc := 93) h dX4_passesAll_93 rfl ?_
  refine r_aload_n (pc := 94) h dX4_passesAll_94 rfl ?_
  refine r_aload_n (pc := 95) h dX4_passesAll_95 rfl ?_
  refine r_getI (pc := 96) h dX4_passesAll_96 f_X4_163 sh_35 rfl ?_
  refine r_callVi (pc := 99) (As := [_]) h dX4_passesAll_99 k_X4_160 gc_35 rfl ⟨Nat.le_of_ble_eq_true rfl, Nat.le_of_ble_eq_true rfl, Nat.le_of_ble_eq_true rfl⟩ (c_X4_passOne_u (cur := 40) _ hc hk (by decide)) (fun x_99 g1 hq => ?_)
  obtain ⟨rfl, hg1⟩ := hq
  rw [hg1, h48]
  clear hg1
  refine r_putI (pc := 102) h dX4_passesAll_102 fw_X4_163 sh_35 rfl rfl rfl ?_
  have hc : (gup (gup s8 35 22 (nI (40 + 1))) 35 10 (g 48 40)) 35 22 = nI 41 := by rw [gup_o (by decide), gup_s]
  have hk : (gup (gup s8 35 22 (nI (40 + 1))) 35 10 (g 48 40)) 35 21 = nI 0 := by rw [gup_o (by decide), gup_o (by decide)]; exact hk
  have z0 : (gup (gup s8 35 22 (nI (40 + 1))) 35 10 (g 48 40)) 35 8 = g 48 38 := by rw [gup_o (by decide), gup_o (by decide)]; exact z0
  have z1 : (gup (gup s8 35 22 (nI (40 + 1))) 35 10 (g 48 40)) 35 9 = g 48 39 := by rw [gup_o (by decide), gup_o (by decide)]; exact z1
  have z2 : (gup (gup s8 35 22 (nI (40 + 1))) 35 10 (g 48 40)) 35 10 = g 48 40 := gup_s
  have h48 : ∀ b, (gup (gup s8 35 22 (nI (40 + 1))) 35 10 (g 48 40)) 48 b = g 48 b := fun b => by rw [gup_o (by omega), gup_o (by omega)]; exact h48 b
  have f9 : ufr 44 s8 (gup (gup s8 35 22 (nI (40 + 1))) 35 10 (g 48 40)) := fun a b q1 q2 => by rw [gup_o (fun z => q2 ⟨z.1, by unfold kx; omega⟩), gup_o (fun z => q2 ⟨z.1, by unfold kx; omega⟩)]
  have hF := hF.tr f9 (K3 := 37) (by omega)
  generalize (gup (gup s8 35 22 (nI (40 + 1))) 35 10 (g 48 40)) = s9 at hc hk f9 hF h48 z0 z1 z2 ⊢
  refine r_aload_n (pc := 105) h dX4_passesAll_105 rfl ?_
  refine r_aload_n (pc := 106) h dX4_passesAll_106 rfl ?_
  refine r_aload_n (pc := 107) h dX4_passesAll_107 rfl ?_
  refine r_getI (pc := 108) h dX4_passesAll_108 f_X4_119 sh_35 rfl ?_
  refine r_callVi (pc := 111) (As := [_]) h dX4_passesAll_111 k_X4_160 gc_35 rfl ⟨Nat.le_of_ble_eq_true rfl, Nat.le_of_ble_eq_true rfl, Nat.le_of_ble_eq_true rfl⟩ (c_X4_passOne_u (cur := 41) _ hc hk (by decide)) (fun x_111 g1 hq => ?_)
  obtain ⟨rfl, hg1⟩ := hq
  rw [hg1, h48]
  clear hg1
  refine r_putI (pc := 114) h dX4_passesAll_114 fw_X4_119 sh_35 rfl rfl rfl ?_
  have hc : (gup (gup s9 35 22 (nI (41 + 1))) 35 11 (g 48 41)) 35 22 = nI 42 := by rw [gup_o (by decide), gup_s]
  have hk : (gup (gup s9 35 22 (nI (41 + 1))) 35 11 (g 48 41)) 35 21 = nI 0 := by rw [gup_o (by decide), gup_o (by decide)]; exact hk
  have z0 : (gup (gup s9 35 22 (nI (41 + 1))) 35 11 (g 48 41)) 35 8 = g 48 38 := by rw [gup_o (by decide), gup_o (by decide)]; exact z0
  have z1 : (gup (gup s9 35 22 (nI (41 + 1))) 35 11 (g 48 41)) 35 9 = g 48 39 := by rw [gup_o (by decide), gup_o (by decide)]; exact z1
  have z2 : (gup (gup s9 35 22 (nI (41 + 1))) 35 11 (g 48 41)) 35 10 = g 48 40 := by rw [gup_o (by decide), gup_o (by decide)]; exact z2
  have z3 : (gup (gup s9 35 22 (nI (41 + 1))) 35 11 (g 48 41)) 35 11 = g 48 41 := gup_s
  have h48 : ∀ b, (gup (gup s9 35 22 (nI (41 + 1))) 35 11 (g 48 41)) 48 b = g 48 b := fun b => by rw [gup_o (by omega), gup_o (by omega)]; exact h48 b
  have f10 : ufr 44 s9 (gup (gup s9 35 22 (nI (41 + 1))) 35 11 (g 48 41)) := fun a b q1 q2 => by rw [gup_o (fun z => q2 ⟨z.1, by unfold kx; omega⟩), gup_o (fun z => q2 ⟨z.1, by unfold kx; omega⟩)]
  have hF := hF.tr f10 (K3 := 37) (by omega)
  generalize (gup (gup s9 35 22 (nI (41 + 1))) 35 11 (g 48 41)) = s10 at hc hk f10 hF h48 z0 z1 z2 z3 ⊢
  refine r_rv t (pc := 117) dX4_passesAll_117 ?_
  have t9 := f10
  have t8 := f9.tr t9 (K3 := 44) (by omega)
  have t7 := f8.tr t8 (K3 := 44) (by omega)
  have t6 := f7.tr t7 (K3 := 44) (by omega)
  have t5 := f6.tr t6 (K3 := 43) (by omega)
  have t4 := f5.tr t5 (K3 := 42) (by omega)
  have t3 := f4.tr t4 (K3 := 41) (by omega)
  have t2 := f3.tr t3 (K3 := 40) (by omega)
  have t1 := f2.tr t2 (K3 := 39) (by omega)
  have t0 := f1.tr t1 (K3 := 38) (by omega)
  obtain ⟨⟨h1, h2, h3, h4⟩, h5, h6, h7⟩ := hK
  refine ⟨⟨⟨z0.trans h1, z1.trans h2, z2.trans h3, z3.trans h4⟩, h5, fun i hi => ?_, fun i hi => ?_⟩, hF⟩
  · obtain ⟨a, b, d⟩ := h6 i hi
    refine ⟨?_, ?_, ?_⟩
    · rw [t0 37 _ (by omega) (by omega)]; exact (p0 i (by omega)).trans a
    · rw [t1 38 _ (by omega) (by omega)]; exact (p1 i (by omega)).trans b
    · rw [t2 39 _ (by omega) (by omega)]; exact (p2 i (by omega)).trans d
  · obtain ⟨a, b, d, e⟩ := h7 i hi
    refine ⟨?_, ?_, ?_, ?_⟩
    · rw [t3 40 _ (by omega) (by omega)]; exact (p3 i (by omega)).trans a
    · rw [t4 41 _ (by omega) (by omega)]; exact (p4 i (by omega)).trans b
    · rw [t5 42 _ (by omega) (by omega)]; exact (p5 i (by omega)).trans d
    · rw [t6 43 _ (by omega) (by omega)]; exact (p6 i (by omega)).trans e
set_option maxRecDepth 100000 in
set_option maxHeartbeats 4000000 in
theorem c_X4_passesAll_k42 {g : gG} {c : gCt} (hR : Rm g c) : gCv mX4_passesAll [.ref 35, .int (nI 1), .int (nI 1)] g (fun g1 => Rk g1 42 c ∧ kfr 42 84 g g1) := by
  refine gCv_of (own := RX4) (ls0 := [.ref 35, .int (nI 1), .int (nI 1)]) ⟨rfl, pl_X4⟩ rfl (Nat.le_of_ble_eq_true rfl) (fun G (h : gR RX4 cX4_passesAll 1 40 G) (t : gTv cX4_passesAll _ G) => ?_)
  have hc : gup (gup g 35 22 (nI 42)) 35 21 (nI 1) 35 22 = nI 42 := by rw [gup_o (by decide), gup_s]
  have hk : gup (gup g 35 22 (nI 42)) 35 21 (nI 1) 35 21 = nI 1 := gup_s
  have hF : kfr 42 42 g (gup (gup g 35 22 (nI 42)) 35 21 (nI 1)) := fun a b q1 q2 => by rw [gup_o (fun z => q2 ⟨z.1, Or.inl z.2⟩), gup_o (fun z => q2 ⟨z.1, Or.inr z.2⟩)]
  refine r_aload_n (pc := 0) h dX4_passesAll_0 rfl ?_
  refine r_bipush (pc := 1) h dX4_passesAll_1 cb_42 ?_
  refine r_iload_n (pc := 3) h dX4_passesAll_3 rfl ?_
  refine r_imul (pc := 4) h dX4_passesAll_4 ?_
  refine r_top (y := nI 42) h (by decide) ?_
  refine r_putI (pc := 5) h dX4_passesAll_5 fw_X4_153 sh_35 rfl rfl rfl ?_
  refine r_aload_n (pc := 8) h dX4_passesAll_8 rfl ?_
  refine r_iload_n (pc := 9) h dX4_passesAll_9 rfl ?_
  refine r_putI (pc := 10) h dX4_passesAll_10 fw_X4_149 sh_35 rfl (by decide) (by decide) ?_
  generalize gup (gup g 35 22 _) 35 21 _ = sm at hc hk hF ⊢
  refine r_aload_n (pc := 13) h dX4_passesAll_13 rfl ?_
  refine r_aload_n (pc := 14) h dX4_passesAll_14 rfl ?_
  refine r_getR (pc := 15) h dX4_passesAll_15 f_X4_13 sh_35 rfl ?_
  refine r_callVv (pc := 18) (As := [_]) h dX4_passesAll_18 k_X4_156 gc_35 rfl ⟨Nat.le_of_ble_eq_true rfl, Nat.le_of_ble_eq_true rfl, Nat.le_of_ble_eq_true rfl⟩ (c_X4_passes_k37 (cur := 42) hc hk (by decide)) (fun g1 hq => ?_)
  obtain ⟨p0, hc, hk, f0⟩ := hq
  have p0 : ∀ k, k < 6 → g1 48 (42 + k) = g 37 k := fun k hk => (p0 k hk).trans (hF 37 k (by omega) (by omega))
  have hF := hF.tr f0 (lo3 := 42) (hi3 := 48) (by omega)
  generalize g1 = s0 at hc hk p0 f0 hF ⊢
  refine r_aload_n (pc := 21) h dX4_passesAll_21 rfl ?_
  refine r_aload_n (pc := 22) h dX4_passesAll_22 rfl ?_
  refine r_getR (pc := 23) h dX4_passesAll_23 f_X4_16 sh_35 rfl ?_
  refine r_callVv (pc := 26) (As := [_]) h dX4_passesAll_26 k_X4_156 gc_35 rfl ⟨Nat.le_of_ble_eq_true rfl, Nat.le_of_ble_eq_true rfl, Nat.le_of_ble_eq_true rfl⟩ (c_X4_passes_k38 (cur := 48) hc hk (by decide)) (fun g1 hq => ?_)
  obtain ⟨p1, hc, hk, f1⟩ := hq
  have p1 : ∀ k, k < 6 → g1 48 (48 + k) = g 38 k := fun k hk => (p1 k hk).trans (hF 38 k (by omega) (by omega))
  have hF := hF.tr f1 (lo3 := 42) (hi3 := 54) (by omega)
  generalize g1 = s1 at hc hk p1 f1 hF ⊢
  refine r_aload_n (pc := 29) h dX4_passesAll_29 rfl ?_
  refine r_aload_n (pc := 30) h dX4_passesAll_30 rfl ?_
  refine r_getR (pc := 31) h dX4_passesAll_31 f_X4_19 sh_35 rfl ?_
  refine r_callVv (pc := 34) (As := [_]) h dX4_passesAll_34 k_X4_156 gc_35 rfl ⟨Nat.le_of_ble_eq_true rfl, Nat.le_of_ble_eq_true rfl, Nat.le_of_ble_eq_true rfl⟩ (c_X4_passes_k39 (cur := 54) hc hk (by decide)) (fun g1 hq => ?_)
  obtain ⟨p2, hc, hk, f2⟩ := hq
  have p2 : ∀ k, k < 6 → g1 48 (54 + k) = g 39 k := fun k hk => (p2 k hk).trans (hF 39 k (by omega) (by omega))
  have hF := hF.tr f2 (lo3 := 42) (hi3 := 60) (by omega)
  generalize g1 = s2 at hc hk p2 f2 hF ⊢
  refine r_aload_n (pc := 37) h dX4_passesAll_37 rfl ?_
  refine r_aload_n (pc := 38) h dX4_passesAll_38 rfl ?_
  refine r_getR (pc := 39) h dX4_passesAll_39 f_X4_22 sh_35 rfl ?_
  refine r_callVv (pc := 42) (As := [_]) h dX4_passesAll_42 k_X4_156 gc_35 rfl ⟨Nat.le_of_ble_eq_true rfl, Nat.le_of_ble_eq_true rfl, Nat.le_of_ble_eq_true rfl⟩ (c_X4_passes_k40 (cur := 60) hc hk (by decide)) (fun g1 hq => ?_)
  obtain ⟨p3, hc, hk, f3⟩ := hq
  have p3 : ∀ k, k < 5 → g1 48 (60 + k) = g 40 k := fun k hk => (p3 k hk).trans (hF 40 k (by omega) (by omega))
  have hF := hF.tr f3 (lo3 := 42) (hi3 := 65) (by omega)
  generalize g1 = s3 at hc hk p3 f3 hF ⊢
  refine r_aload_n (pc := 45) h dX4_passesAll_45 rfl ?_
  refine r_aload_n (pc := 46) h dX4_passesAll_46 rfl ?_
  refine r_getR (pc := 47) h dX4_passesAll_47 f_X4_25 sh_35 rfl ?_
  refine r_callVv (pc := 50) (As := [_]) h dX4_passesAll_50 k_X4_156 gc_35 rfl ⟨Nat.le_of_ble_eq_true rfl, Nat.le_of_ble_eq_true rfl, Nat.le_of_ble_eq_true rfl⟩ (c_X4_passes_k41 (cur := 65) hc hk (by decide)) (fun g1 hq => ?_)
  obtain ⟨p4, hc, hk, f4⟩ := hq
  have p4 : ∀ k, k < 5 → g1 48 (65 + k) = g 41 k := fun k hk => (p4 k hk).trans (hF 41 k (by omega) (by omega))
  have hF := hF.tr f4 (lo3 := 42) (hi3 := 70) (by omega)
  generalize g1 = s4 at hc hk p4 f4 hF ⊢
  refine r_aload_n (pc := 53) h dX4_passesAll_53 rfl ?_
  refine r_aload_n (pc := 54) h dX4_passesAll_54 rfl ?_
  refine r_getR (pc := 55) h dX4_passesAll_55 f_X4_28 sh_35 rfl ?_
  refine r_callVv (pc := 58) (As := [_]) h dX4_passesAll_58 k_X4_156 gc_35 rfl ⟨Nat.le_of_ble_eq_true rfl, Nat.le_of_ble_eq_true rfl, Nat.le_of_ble_eq_true rfl⟩ (c_X4_passes_k42 (cur := 70) hc hk (by decide)) (fun g1 hq => ?_)
  obtain ⟨p5, hc, hk, f5⟩ := hq
  have p5 : ∀ k, k < 5 → g1 48 (70 + k) = g 42 k := fun k hk => (p5 k hk).trans (hF 42 k (by omega) (by omega))
  have hF := hF.tr f5 (lo3 := 42) (hi3 := 75) (by omega)
  generalize g1 = s5 at hc hk p5 f5 hF ⊢
  refine r_aload_n (pc := 61) h dX4_passesAll_61 rfl ?_
  refine r_aload_n (pc := 62) h dX4_passesAll_62 rfl ?_
  refine r_getR (pc := 63) h dX4_passesAll_63 f_X4_31 sh_35 rfl ?_
  refine r_callVv (pc := 66) (As := [_]) h dX4_passesAll_66 k_X4_156 gc_35 rfl ⟨Nat.le_of_ble_eq_true rfl, Nat.le_of_ble_eq_true rfl, Nat.le_of_ble_eq_true rfl⟩ (c_X4_passes_k43 (cur := 75) hc hk (by decide)) (fun g1 hq => ?_)
  obtain ⟨p6, hc, hk, f6⟩ := hq
  have p6 : ∀ k, k < 5 → g1 48 (75 + k) = g 43 k := fun k hk => (p6 k hk).trans (hF 43 k (by omega) (by omega))
  have hF := hF.tr f6 (lo3 := 42) (hi3 := 80) (by omega)
  generalize g1 = s6 at hc hk p6 f6 hF ⊢
  refine r_aload_n (pc := 69) h dX4_passesAll_69 rfl ?_
  refine r_aload_n (pc := 70) h dX4_passesAll_70 rfl ?_
  refine r_aload_n (pc := 71) h dX4_passesAll_71 rfl ?_
  refine r_getE (pc := 72) h dX4_passesAll_72 f_X4_60 sh_35 rfl (hF 35 8 (by omega) (by omega)) ?_
  refine r_callVi (pc := 75) (As := [_]) h dX4_passesAll_75 k_X4_160 gc_35 rfl ⟨Nat.le_of_ble_eq_true rfl, Nat.le_of_ble_eq_true rfl, Nat.le_of_ble_eq_true rfl⟩ (c_X4_passOne_k (cur := 80) _ hc hk (by decide)) (fun x_75 g1 hq => ?_)
  obtain ⟨rfl, hg1⟩ := hq
  rw [hg1]
  clear hg1
  refine r_putI (pc := 78) h dX4_passesAll_78 fw_X4_60 sh_35 rfl rfl rfl ?_
  have hc : (gup (gup (gup s6 48 80 (g 35 8)) 35 22 (nI (80 + 1))) 35 8 (g 35 8)) 35 22 = nI 81 := by rw [gup_o (by decide), gup_s]
  have hk : (gup (gup (gup s6 48 80 (g 35 8)) 35 22 (nI (80 + 1))) 35 8 (g 35 8)) 35 21 = nI 1 := by rw [gup_o (by decide), gup_o (by decide), gup_o (by decide)]; exact hk
  have p7 : (gup (gup (gup s6 48 80 (g 35 8)) 35 22 (nI (80 + 1))) 35 8 (g 35 8)) 48 80 = g 35 8 := by rw [gup_o (by decide), gup_o (by decide), gup_s]
  have f7 : kfr 80 81 s6 (gup (gup (gup s6 48 80 (g 35 8)) 35 22 (nI (80 + 1))) 35 8 (g 35 8)) := fun a b q1 q2 => by
    by_cases e : a = 35 ∧ b = 8
    · obtain ⟨rfl, rfl⟩ := e; rw [gup_s]; exact (hF 35 8 (by omega) (by omega)).symm
    · rw [gup_o e, gup_o (fun z => q2 ⟨z.1, Or.inr z.2⟩), gup_o (by omega)]
  have hF := hF.tr f7 (lo3 := 42) (hi3 := 81) (by omega)
  generalize (gup (gup (gup s6 48 80 (g 35 8)) 35 22 (nI (80 + 1))) 35 8 (g 35 8)) = s7 at hc hk p7 f7 hF ⊢
  refine r_aload_n (pc := 81) h dX4_passesAll_81 rfl ?_
  refine r_aload_n (pc := 82) h dX4_passesAll_82 rfl ?_
  refine r_aload_n (pc := 83) h dX4_passesAll_83 rfl ?_
  refine r_getE (pc := 84) h dX4_passesAll_84 f_X4_67 sh_35 rfl (hF 35 9 (by omega) (by omega)) ?_
  refine r_callVi (pc := 87) (As := [_]) h dX4_passesAll_87 k_X4_160 gc_35 rfl ⟨Nat.le_of_ble_eq_true rfl, Nat.le_of_ble_eq_true rfl, Nat.le_of_ble_eq_true rfl⟩ (c_X4_passOne_k (cur := 81) _ hc hk (by decide)) (fun x_87 g1 hq => ?_)
  obtain ⟨rfl, hg1⟩ := hq
  rw [hg1]
  clear hg1
  refine r_putI (pc := 90) h dX4_passesAll_90 fw_X4_67 sh_35 rfl rfl rfl ?_
  have hc : (gup (gup (gup s7 48 81 (g 35 9)) 35 22 (nI (81 + 1))) 35 9 (g 35 9)) 35 22 = nI 82 := by rw [gup_o (by decide), gup_s]
  have hk : (gup (gup (gup s7 48 81 (g 35 9)) 35 22 (nI (81 + 1))) 35 9 (g 35 9)) 35 21 = nI 1 := by rw [gup_o (by decide), gup_o (by decide), gup_o (by decide)]; exact hk
  have p8 : (gup (gup (gup s7 48 81 (g 35 9)) 35 22 (nI (81 + 1))) 35 9 (g 35 9)) 48 81 = g 35 9 := by rw [gup_o (by decide), gup_o (by decide), gup_s]
  have f8 : kfr 81 82 s7 (gup (gup (gup s7 48 81 (g 35 9)) 35 22 (nI (81 + 1))) 35 9 (g 35 9)) := fun a b q1 q2 => by
    by_cases e : a = 35 ∧ b = 9
    · obtain ⟨rfl, rfl⟩ := e; rw [gup_s]; exact (hF 35 9 (by omega) (by omega)).symm
    · rw [gup_o e, gup_o (fun z => q2 ⟨z.1, Or.inr z.2⟩), gup_o (by omega)]
  have hF := hF.tr f8 (lo3 := 42) (hi3 := 82) (by omega)
  generalize (gup (gup (gup s7 48 81 (g 35 9)) 35 22 (nI (81 + 1))) 35 9 (g 35 9)) = s8 at hc hk p8 f8 hF ⊢
  refine r_aload_n (pc := 93) h dX4_passesAll_93 rfl ?_
  refine r_aload_n (pc := 94) h dX4_passesAll_94 rfl ?_
  refine r_aload_n (pc := 95) h dX4_passesAll_95 rfl ?_
  refine r_getE (pc := 96) h dX4_passesAll_96 f_X4_163 sh_35 rfl (hF 35 10 (by omega) (by omega)) ?_
  refine r_callVi (pc := 99) (As := [_]) h dX4_passesAll_99 k_X4_160 gc_35 rfl ⟨Nat.le_of_ble_eq_true rfl, Nat.le_of_ble_eq_true rfl, Nat.le_of_ble_eq_true rfl⟩ (c_X4_passOne_k (cur := 82) _ hc hk (by decide)) (fun x_99 g1 hq => ?_)
  obtain ⟨rfl, hg1⟩ := hq
  rw [hg1]
  clear hg1
  refine r_putI (pc := 102) h dX4_passesAll_102 fw_X4_163 sh_35 rfl rfl rfl ?_
  have hc : (gup (gup (gup s8 48 82 (g 35 10)) 35 22 (nI (82 + 1))) 35 10 (g 35 10)) 35 22 = nI 83 := by rw [gup_o (by decide), gup_s]
  have hk : (gup (gup (gup s8 48 82 (g 35 10)) 35 22 (nI (82 + 1))) 35 10 (g 35 10)) 35 21 = nI 1 := by rw [gup_o (by decide), gup_o (by decide), gup_o (by decide)]; exact hk
  have p9 : (gup (gup (gup s8 48 82 (g 35 10)) 35 22 (nI (82 + 1))) 35 10 (g 35 10)) 48 82 = g 35 10 := by rw [gup_o (by decide), gup_o (by decide), gup_s]
  have f9 : kfr 82 83 s8 (gup (gup (gup s8 48 82 (g 35 10)) 35 22 (nI (82 + 1))) 35 10 (g 35 10)) := fun a b q1 q2 => by
    by_cases e : a = 35 ∧ b = 10
    · obtain ⟨rfl, rfl⟩ := e; rw [gup_s]; exact (hF 35 10 (by omega) (by omega)).symm
    · rw [gup_o e, gup_o (fun z => q2 ⟨z.1, Or.inr z.2⟩), gup_o (by omega)]
  have hF := hF.tr f9 (lo3 := 42) (hi3 := 83) (by omega)
  generalize (gup (gup (gup s8 48 82 (g 35 10)) 35 22 (nI (82 + 1))) 35 10 (g 35 10)) = s9 at hc hk p9 f9 hF ⊢
  refine r_aload_n (pc := 105) h dX4_passesAll_105 rfl ?_
  refine r_aload_n (pc := 106) h dX4_passesAll_106 rfl ?_
  refine r_aload_n (pc := 107) h dX4_passesAll_107 rfl ?_
  refine r_getE (pc := 108) h dX4_passesAll_108 f_X4_119 sh_35 rfl (hF 35 11 (by omega) (by omega)) ?_
  refine r_callVi (pc := 111) (As := [_]) h dX4_passesAll_111 k_X4_160 gc_35 rfl ⟨Nat.le_of_ble_eq_true rfl, Nat.le_of_ble_eq_true rfl, Nat.le_of_ble_eq_true rfl⟩ (c_X4_passOne_k (cur := 83) _ hc hk (by decide)) (fun x_111 g1 hq => ?_)
  obtain ⟨rfl, hg1⟩ := hq
  rw [hg1]
  clear hg1
  refine r_putI (pc := 114) h dX4_passesAll_114 fw_X4_119 sh_35 rfl rfl rfl ?_
  have hc : (gup (gup (gup s9 48 83 (g 35 11)) 35 22 (nI (83 + 1))) 35 11 (g 35 11)) 35 22 = nI 84 := by rw [gup_o (by decide), gup_s]
  have hk : (gup (gup (gup s9 48 83 (g 35 11)) 35 22 (nI (83 + 1))) 35 11 (g 35 11)) 35 21 = nI 1 := by rw [gup_o (by decide), gup_o (by decide), gup_o (by decide)]; exact hk
  have p10 : (gup (gup (gup s9 48 83 (g 35 11)) 35 22 (nI (83 + 1))) 35 11 (g 35 11)) 48 83 = g 35 11 := by rw [gup_o (by decide), gup_o (by decide), gup_s]
  have f10 : kfr 83 84 s9 (gup (gup (gup s9 48 83 (g 35 11)) 35 22 (nI (83 + 1))) 35 11 (g 35 11)) := fun a b q1 q2 => by
    by_cases e : a = 35 ∧ b = 11
    · obtain ⟨rfl, rfl⟩ := e; rw [gup_s]; exact (hF 35 11 (by omega) (by omega)).symm
    · rw [gup_o e, gup_o (fun z => q2 ⟨z.1, Or.inr z.2⟩), gup_o (by omega)]
  have hF := hF.tr f10 (lo3 := 42) (hi3 := 84) (by omega)
  generalize (gup (gup (gup s9 48 83 (g 35 11)) 35 22 (nI (83 + 1))) 35 11 (g 35 11)) = s10 at hc hk p10 f10 hF ⊢
  refine r_rv t (pc := 117) dX4_passesAll_117 ?_
  have t9 := f10
  have t8 := f9.tr t9 (lo3 := 82) (hi3 := 84) (by omega)
  have t7 := f8.tr t8 (lo3 := 81) (hi3 := 84) (by omega)
  have t6 := f7.tr t7 (lo3 := 80) (hi3 := 84) (by omega)
  have t5 := f6.tr t6 (lo3 := 75) (hi3 := 84) (by omega)
  have t4 := f5.tr t5 (lo3 := 70) (hi3 := 84) (by omega)
  have t3 := f4.tr t4 (lo3 := 65) (hi3 := 84) (by omega)
  have t2 := f3.tr t3 (lo3 := 60) (hi3 := 84) (by omega)
  have t1 := f2.tr t2 (lo3 := 54) (hi3 := 84) (by omega)
  have t0 := f1.tr t1 (lo3 := 48) (hi3 := 84) (by omega)
  obtain ⟨⟨h1, h2, h3, h4⟩, h5, h6, h7⟩ := hR
  refine ⟨⟨⟨?_, ?_, ?_, ?_⟩, h5, fun i hi => ?_, fun i hi => ?_⟩, hF⟩
  · rw [t7 48 _ (by omega) (by omega)]; exact p7.trans h1
  · rw [t8 48 _ (by omega) (by omega)]; exact p8.trans h2
  · rw [t9 48 _ (by omega) (by omega)]; exact p9.trans h3
  · exact p10.trans h4
  · obtain ⟨a, b, d⟩ := h6 i hi
    refine ⟨?_, ?_, ?_⟩
    · rw [t0 48 _ (by omega) (by omega)]; exact (p0 i (by omega)).trans a
    · rw [t1 48 _ (by omega) (by omega)]; exact (p1 i (by omega)).trans b
    · rw [t2 48 _ (by omega) (by omega)]; exact (p2 i (by omega)).trans d
  · obtain ⟨a, b, d, e⟩ := h7 i hi
    refine ⟨?_, ?_, ?_, ?_⟩
    · rw [t3 48 _ (by omega) (by omega)]; exact (p3 i (by omega)).trans a
    · rw [t4 48 _ (by omega) (by omega)]; exact (p4 i (by omega)).trans b
    · rw [t5 48 _ (by omega) (by omega)]; exact (p5 i (by omega)).trans d
    · rw [t6 48 _ (by omega) (by omega)]; exact (p6 i (by omega)).trans e
set_option maxRecDepth 100000 in
set_option maxHeartbeats 4000000 in
theorem c_X4_passesAll_u42 {g : gG} {c : gCt} (hK : Rk g 42 c) : gCv mX4_passesAll [.ref 35, .int (nI 1), .int (nI 0)] g (fun g1 => Rm g1 c ∧ ufr 37 g g1) := by
  refine gCv_of (own := RX4) (ls0 := [.ref 35, .int (nI 1), .int (nI 0)]) ⟨rfl, pl_X4⟩ rfl (Nat.le_of_ble_eq_true rfl) (fun G (h : gR RX4 cX4_passesAll 1 40 G) (t : gTv cX4_passesAll _ G) => ?_)
  have hc : gup (gup g 35 22 (nI 42)) 35 21 (nI 0) 35 22 = nI 42 := by rw [gup_o (by decide), gup_s]
  have hk : gup (gup g 35 22 (nI 42)) 35 21 (nI 0) 35 21 = nI 0 := gup_s
  have h48 : ∀ b, gup (gup g 35 22 (nI 42)) 35 21 (nI 0) 48 b = g 48 b := fun b => by rw [gup_o (by omega), gup_o (by omega)]
  have hF : ufr 37 g (gup (gup g 35 22 (nI 42)) 35 21 (nI 0)) := fun a b q1 q2 => by rw [gup_o (fun z => q2 ⟨z.1, by unfold kx; omega⟩), gup_o (fun z => q2 ⟨z.1, by unfold kx; omega⟩)]
  refine r_aload_n (pc := 0) h dX4_passesAll_0 rfl ?_
  refine r_bipush (pc := 1) h dX4_passesAll_1 cb_42 ?_
  refine r_iload_n (pc := 3) h dX4_passesAll_3 rfl ?_
  refine r_imul (pc := 4) h dX4_passesAll_4 ?_
  refine r_top (y := nI 42) h (by decide) ?_
  refine r_putI (pc := 5) h dX4_passesAll_5 fw_X4_153 sh_35 rfl rfl rfl ?_
  refine r_aload_n (pc := 8) h dX4_passesAll_8 rfl ?_
  refine r_iload_n (pc := 9) h dX4_passesAll_9 rfl ?_
  refine r_putI (pc := 10) h dX4_passesAll_10 fw_X4_149 sh_35 rfl (by decide) (by decide) ?_
  generalize gup (gup g 35 22 _) 35 21 _ = sm at hc hk hF h48 ⊢
  refine r_aload_n (pc := 13) h dX4_passesAll_13 rfl ?_
  refine r_aload_n (pc := 14) h dX4_passesAll_14 rfl ?_
  refine r_getR (pc := 15) h dX4_passesAll_15 f_X4_13 sh_35 rfl ?_
  refine r_callVv (pc := 18) (As := [_]) h dX4_passesAll_18 k_X4_156 gc_35 rfl ⟨Nat.le_of_ble_eq_true rfl, Nat.le_of_ble_eq_true rfl, Nat.le_of_ble_eq_true rfl⟩ (c_X4_passes_u37 (cur := 42) hc hk (by decide)) (fun g1 hq => ?_)
  obtain ⟨p0, hc, hk, f0⟩ := hq
  have p0 : ∀ k, k < 6 → g1 37 k = g 48 (42 + k) := fun k hk => (p0 k hk).trans (h48 _)
  have h48 : ∀ b, g1 48 b = g 48 b := fun b => (f0 48 b (by decide) (by omega)).trans (h48 b)
  have f0 : ufr 37 sm g1 := fun a b q1 q2 => f0 a b (fun z => q1 (by omega)) (fun z => q2 ⟨z.1, by unfold kx; omega⟩)
  have hF := hF.tr f0 (K3 := 37) (by omega)
  generalize g1 = s0 at hc hk p0 f0 hF h48 ⊢
  refine r_aload_n (pc := 21) h dX4_passesAll_21 rfl ?_
  refine r_aload_n (pc := 22) h dX4_passesAll_22 rfl ?_
  refine r_getR (pc := 23) h dX4_passesAll_23 f_X4_16 sh_35 rfl ?_
  refine r_callVv (pc := 26) (As := [_]) h dX4_passesAll_26 k_X4_156 gc_35 rfl ⟨Nat.le_of_ble_eq_true rfl, Nat.le_of_ble_eq_true rfl, Nat.le_of_ble_eq_true rfl⟩ (c_X4_passes_u38 (cur := 48) hc hk (by decide)) (fun g1 hq => ?_)
  obtain ⟨p1, hc, hk, f1⟩ := hq
  have p1 : ∀ k, k < 6 → g1 38 k = g 48 (48 + k) := fun k hk => (p1 k hk).trans (h48 _)
  have h48 : ∀ b, g1 48 b = g 48 b := fun b => (f1 48 b (by decide) (by omega)).trans (h48 b)
  have f1 : ufr 38 s0 g1 := fun a b q1 q2 => f1 a b (fun z => q1 (by omega)) (fun z => q2 ⟨z.1, by unfold kx; omega⟩)
  have hF := hF.tr f1 (K3 := 37) (by omega)
  generalize g1 = s1 at hc hk p1 f1 hF h48 ⊢
  refine r_aload_n (pc := 29) h dX4_passesAll_29 rfl ?_
  refine r_aload_n (pc := 30) h dX4_passesAll_30 rfl ?_
  refine r_getR (pc := 31) h dX4_passesAll_31 f_X4_19 sh_35 rfl ?_
  refine r_callVv (pc := 34) (As := [_]) h dX4_passesAll_34 k_X4_156 gc_35 rfl ⟨Nat.le_of_ble_eq_true rfl, Nat.le_of_ble_eq_true rfl, Nat.le_of_ble_eq_true rfl⟩ (c_X4_passes_u39 (cur := 54) hc hk (by decide)) (fun g1 hq => ?_)
  obtain ⟨p2, hc, hk, f2⟩ := hq
  have p2 : ∀ k, k < 6 → g1 39 k = g 48 (54 + k) := fun k hk => (p2 k hk).trans (h48 _)
  have h48 : ∀ b, g1 48 b = g 48 b := fun b => (f2 48 b (by decide) (by omega)).trans (h48 b)
  have f2 : ufr 39 s1 g1 := fun a b q1 q2 => f2 a b (fun z => q1 (by omega)) (fun z => q2 ⟨z.1, by unfold kx; omega⟩)
  have hF := hF.tr f2 (K3 := 37) (by omega)
  generalize g1 = s2 at hc hk p2 f2 hF h48 ⊢
  refine r_aload_n (pc := 37) h dX4_passesAll_37 rfl ?_
  refine r_aload_n (pc := 38) h dX4_passesAll_38 rfl ?_
  refine r_getR (pc := 39) h dX4_passesAll_39 f_X4_22 sh_35 rfl ?_
  refine r_callVv (pc := 42) (As := [_]) h dX4_passesAll_42 k_X4_156 gc_35 rfl ⟨Nat.le_of_ble_eq_true rfl, Nat.le_of_ble_eq_true rfl, Nat.le_of_ble_eq_true rfl⟩ (c_X4_passes_u40 (cur := 60) hc hk (by decide)) (fun g1 hq => ?_)
  obtain ⟨p3, hc, hk, f3⟩ := hq
  have p3 : ∀ k, k < 5 → g1 40 k = g 48 (60 + k) := fun k hk => (p3 k hk).trans (h48 _)
  have h48 : ∀ b, g1 48 b = g 48 b := fun b => (f3 48 b (by decide) (by omega)).trans (h48 b)
  have f3 : ufr 40 s2 g1 := fun a b q1 q2 => f3 a b (fun z => q1 (by omega)) (fun z => q2 ⟨z.1, by unfold kx; omega⟩)
  have hF := hF.tr f3 (K3 := 37) (by omega)
  generalize g1 = s3 at hc hk p3 f3 hF h48 ⊢
  refine r_aload_n (pc := 45) h dX4_passesAll_45 rfl ?_
  refine r_aload_n (pc := 46) h dX4_passesAll_46 rfl ?_
  refine r_getR (pc := 47) h dX4_passesAll_47 f_X4_25 sh_35 rfl ?_
  refine r_callVv (pc := 50) (As := [_]) h dX4_passesAll_50 k_X4_156 gc_35 rfl ⟨Nat.le_of_ble_eq_true rfl, Nat.le_of_ble_eq_true rfl, Nat.le_of_ble_eq_true rfl⟩ (c_X4_passes_u41 (cur := 65) hc hk (by decide)) (fun g1 hq => ?_)
  obtain ⟨p4, hc, hk, f4⟩ := hq
  have p4 : ∀ k, k < 5 → g1 41 k = g 48 (65 + k) := fun k hk => (p4 k hk).trans (h48 _)
  have h48 : ∀ b, g1 48 b = g 48 b := fun b => (f4 48 b (by decide) (by omega)).trans (h48 b)
  have f4 : ufr 41 s3 g1 := fun a b q1 q2 => f4 a b (fun z => q1 (by omega)) (fun z => q2 ⟨z.1, by unfold kx; omega⟩)
  have hF := hF.tr f4 (K3 := 37) (by omega)
  generalize g1 = s4 at hc hk p4 f4 hF h48 ⊢
  refine r_aload_n (pc := 53) h dX4_passesAll_53 rfl ?_
  refine r_aload_n (pc := 54) h dX4_passesAll_54 rfl ?_
  refine r_getR (pc := 55) h dX4_passesAll_55 f_X4_28 sh_35 rfl ?_
  refine r_callVv (pc := 58) (As := [_]) h dX4_passesAll_58 k_X4_156 gc_35 rfl ⟨Nat.le_of_ble_eq_true rfl, Nat.le_of_ble_eq_true rfl, Nat.le_of_ble_eq_true rfl⟩ (c_X4_passes_u42 (cur := 70) hc hk (by decide)) (fun g1 hq => ?_)
  obtain ⟨p5, hc, hk, f5⟩ := hq
  have p5 : ∀ k, k < 5 → g1 42 k = g 48 (70 + k) := fun k hk => (p5 k hk).trans (h48 _)
  have h48 : ∀ b, g1 48 b = g 48 b := fun b => (f5 48 b (by decide) (by omega)).trans (h48 b)
  have f5 : ufr 42 s4 g1 := fun a b q1 q2 => f5 a b (fun z => q1 (by omega)) (fun z => q2 ⟨z.1, by unfold kx; omega⟩)
  have hF := hF.tr f5 (K3 := 37) (by omega)
  generalize g1 = s5 at hc hk p5 f5 hF h48 ⊢
  refine r_aload_n (pc := 61) h dX4_passesAll_61 rfl ?_
  refine r_aload_n (pc := 62) h dX4_passesAll_62 rfl ?_
  refine r_getR (pc := 63) h dX4_passesAll_63 f_X4_31 sh_35 rfl ?_
  refine r_callVv (pc := 66) (As := [_]) h dX4_passesAll_66 k_X4_156 gc_35 rfl ⟨Nat.le_of_ble_eq_true rfl, Nat.le_of_ble_eq_true rfl, Nat.le_of_ble_eq_true rfl⟩ (c_X4_passes_u43 (cur := 75) hc hk (by decide)) (fun g1 hq => ?_)
  obtain ⟨p6, hc, hk, f6⟩ := hq
  have p6 : ∀ k, k < 5 → g1 43 k = g 48 (75 + k) := fun k hk => (p6 k hk).trans (h48 _)
  have h48 : ∀ b, g1 48 b = g 48 b := fun b => (f6 48 b (by decide) (by omega)).trans (h48 b)
  have f6 : ufr 43 s5 g1 := fun a b q1 q2 => f6 a b (fun z => q1 (by omega)) (fun z => q2 ⟨z.1, by unfold kx; omega⟩)
  have hF := hF.tr f6 (K3 := 37) (by omega)
  generalize g1 = s6 at hc hk p6 f6 hF h48 ⊢
  refine r_aload_n (pc := 69) h dX4_passesAll_69 rfl ?_
  refine r_aload_n (pc := 70) h dX4_passesAll_70 rfl ?_
  refine r_aload_n (pc := 71) h dX4_passesAll_71 rfl ?_
  refine r_getI (pc := 72) h dX4_passesAll_72 f_X4_60 sh_35 rfl ?_
  refine r_callVi (pc := 75) (As := [_]) h dX4_passesAll_75 k_X4_160 gc_35 rfl ⟨Nat.le_of_ble_eq_true rfl, Nat.le_of_ble_eq_true rfl, Nat.le_of_ble_eq_true rfl⟩ (c_X4_passOne_u (cur := 80) _ hc hk (by decide)) (fun x_75 g1 hq => ?_)
  obtain ⟨rfl, hg1⟩ := hq
  rw [hg1, h48]
  clear hg1
  refine r_putI (pc := 78) h dX4_passesAll_78 fw_X4_60 sh_35 rfl rfl rfl ?_
  have hc : (gup (gup s6 35 22 (nI (80 + 1))) 35 8 (g 48 80)) 35 22 = nI 81 := by rw [gup_o (by decide), gup_s]
  have hk : (gup (gup s6 35 22 (nI (80 + 1))) 35 8 (g 48 80)) 35 21 = nI 0 := by rw [gup_o (by decide), gup_o (by decide)]; exact hk
  have z0 : (gup (gup s6 35 22 (nI (80 + 1))) 35 8 (g 48 80)) 35 8 = g 48 80 := gup_s
  have h48 : ∀ b, (gup (gup s6 35 22 (nI (80 + 1))) 35 8 (g 48 80)) 48 b = g 48 b := fun b => by rw [gup_o (by omega), gup_o (by omega)]; exact h48 b
  have f7 : ufr 44 s6 (gup (gup s6 35 22 (nI (80 + 1))) 35 8 (g 48 80)) := fun a b q1 q2 => by rw [gup_o (fun z => q2 ⟨z.1, by unfold kx; omega⟩), gup_o (fun z => q2 ⟨z.1, by unfold kx; omega⟩)]
  have hF := hF.tr f7 (K3 := 37) (by omega)
  generalize (gup (gup s6 35 22 (nI (80 + 1))) 35 8 (g 48 80)) = s7 at hc hk f7 hF h48 z0 ⊢
  refine r_aload_n (pc := 81) h dX4_passesAll_81 rfl ?_
  refine r_aload_n (pc := 82) h dX4_passesAll_82 rfl ?_
  refine r_aload_n (pc := 83) h dX4_passesAll_83 rfl ?_
  refine r_getI (pc := 84) h dX4_passesAll_84 f_X4_67 sh_35 rfl ?_
  refine r_callVi (pc := 87) (As := [_]) h dX4_passesAll_87 k_X4_160 gc_35 rfl ⟨Nat.le_of_ble_eq_true rfl, Nat.le_of_ble_eq_true rfl, Nat.le_of_ble_eq_true rfl⟩ (c_X4_passOne_u (cur := 81) _ hc hk (by decide)) (fun x_87 g1 hq => ?_)
  obtain ⟨rfl, hg1⟩ := hq
  rw [hg1, h48]
  clear hg1
  refine r_putI (pc := 90) h dX4_passesAll_90 fw_X4_67 sh_35 rfl rfl rfl ?_
  have hc : (gup (gup s7 35 22 (nI (81 + 1))) 35 9 (g 48 81)) 35 22 = nI 82 := by rw [gup_o (by decide), gup_s]
  have hk : (gup (gup s7 35 22 (nI (81 + 1))) 35 9 (g 48 81)) 35 21 = nI 0 := by rw [gup_o (by decide), gup_o (by decide)]; exact hk
  have z0 : (gup (gup s7 35 22 (nI (81 + 1))) 35 9 (g 48 81)) 35 8 = g 48 80 := by rw [gup_o (by decide), gup_o (by decide)]; exact z0
  have z1 : (gup (gup s7 35 22 (nI (81 + 1))) 35 9 (g 48 81)) 35 9 = g 48 81 := gup_s
  have h48 : ∀ b, (gup (gup s7 35 22 (nI (81 + 1))) 35 9 (g 48 81)) 48 b = g 48 b := fun b => by rw [gup_o (by omega), gup_o (by omega)]; exact h48 b
  have f8 : ufr 44 s7 (gup (gup s7 35 22 (nI (81 + 1))) 35 9 (g 48 81)) := fun a b q1 q2 => by rw [gup_o (fun z => q2 ⟨z.1, by unfold kx; omega⟩), gup_o (fun z => q2 ⟨z.1, by unfold kx; omega⟩)]
  have hF := hF.tr f8 (K3 := 37) (by omega)
  generalize (gup (gup s7 35 22 (nI (81 + 1))) 35 9 (g 48 81)) = s8 at hc hk f8 hF h48 z0 z1 ⊢
  refine r_aload_n (pc := 93) h dX4_passesAll_93 rfl ?_
  refine r_aload_n (pc := 94) h dX4_passesAll_94 rfl ?_
  refine r_aload_n (pc := 95) h dX4_passesAll_95 rfl ?_
  refine r_getI (pc := 96) h dX4_passesAll_96 f_X4_163 sh_35 rfl ?_
  refine r_callVi (pc := 99) (As := [_]) h dX4_passesAll_99 k_X4_160 gc_35 rfl ⟨Nat.le_of_ble_eq_true rfl, Nat.le_of_ble_eq_true rfl, Nat.le_of_ble_eq_true rfl⟩ (c_X4_passOne_u (cur := 82) _ hc hk (by decide)) (fun x_99 g1 hq => ?_)
  obtain ⟨rfl, hg1⟩ := hq
  rw [hg1, h48]
  clear hg1
  refine r_putI (pc := 102) h dX4_passesAll_102 fw_X4_163 sh_35 rfl rfl rfl ?_
  have hc : (gup (gup s8 35 22 (nI (82 + 1))) 35 10 (g 48 82)) 35 22 = nI 83 := by rw [gup_o (by decide), gup_s]
  have hk : (gup (gup s8 35 22 (nI (82 + 1))) 35 10 (g 48 82)) 35 21 = nI 0 := by rw [gup_o (by decide), gup_o (by decide)]; exact hk
  have z0 : (gup (gup s8 35 22 (nI (82 + 1))) 35 10 (g 48 82)) 35 8 = g 48 80 := by rw [gup_o (by decide), gup_o (by decide)]; exact z0
  have z1 : (gup (gup s8 35 22 (nI (82 + 1))) 35 10 (g 48 82)) 35 9 = g 48 81 := by rw [gup_o (by decide), gup_o (by decide)]; exact z1
  have z2 : (gup (gup s8 35 22 (nI (82 + 1))) 35 10 (g 48 82)) 35 10 = g 48 82 := gup_s
  have h48 : ∀ b, (gup (gup s8 35 22 (nI (82 + 1))) 35 10 (g 48 82)) 48 b = g 48 b := fun b => by rw [gup_o (by omega), gup_o (by omega)]; exact h48 b
  have f9 : ufr 44 s8 (gup (gup s8 35 22 (nI (82 + 1))) 35 10 (g 48 82)) := fun a b q1 q2 => by rw [gup_o (fun z => q2 ⟨z.1, by unfold kx; omega⟩), gup_o (fun z => q2 ⟨z.1, by unfold kx; omega⟩)]
  have hF := hF.tr f9 (K3 := 37) (by omega)
  generalize (gup (gup s8 35 22 (nI (82 + 1))) 35 10 (g 48 82)) = s9 at hc hk f9 hF h48 z0 z1 z2 ⊢
  refine r_aload_n (pc := 105) h dX4_passesAll_105 rfl ?_
  refine r_aload_n (pc := 106) h dX4_passesAll_106 rfl ?_
  refine r_aload_n (pc := 107) h dX4_passesAll_107 rfl ?_
  refine r_getI (pc := 108) h dX4_passesAll_108 f_X4_119 sh_35 rfl ?_
  refine r_callVi (pc := 111) (As := [_]) h dX4_passesAll_111 k_X4_160 gc_35 rfl ⟨Nat.le_of_ble_eq_true rfl, Nat.le_of_ble_eq_true rfl, Nat.le_of_ble_eq_true rfl⟩ (c_X4_passOne_u (cur := 83) _ hc hk (by decide)) (fun x_111 g1 hq => ?_)
  obtain ⟨rfl, hg1⟩ := hq
  rw [hg1, h48]
  clear hg1
  refine r_putI (pc := 114) h dX4_passesAll_114 fw_X4_119 sh_35 rfl rfl rfl ?_
  have hc : (gup (gup s9 35 22 (nI (83 + 1))) 35 11 (g 48 83)) 35 22 = nI 84 := by rw [gup_o (by decide), gup_s]
  have hk : (gup (gup s9 35 22 (nI (83 + 1))) 35 11 (g 48 83)) 35 21 = nI 0 := by rw [gup_o (by decide), gup_o (by decide)]; exact hk
  have z0 : (gup (gup s9 35 22 (nI (83 + 1))) 35 11 (g 48 83)) 35 8 = g 48 80 := by rw [gup_o (by decide), gup_o (by decide)]; exact z0
  have z1 : (gup (gup s9 35 22 (nI (83 + 1))) 35 11 (g 48 83)) 35 9 = g 48 81 := by rw [gup_o (by decide), gup_o (by decide)]; exact z1
  have z2 : (gup (gup s9 35 22 (nI (83 + 1))) 35 11 (g 48 83)) 35 10 = g 48 82 := by rw [gup_o (by decide), gup_o (by decide)]; exact z2
  have z3 : (gup (gup s9 35 22 (nI (83 + 1))) 35 11 (g 48 83)) 35 11 = g 48 83 := gup_s
  have h48 : ∀ b, (gup (gup s9 35 22 (nI (83 + 1))) 35 11 (g 48 83)) 48 b = g 48 b := fun b => by rw [gup_o (by omega), gup_o (by omega)]; exact h48 b
  have f10 : ufr 44 s9 (gup (gup s9 35 22 (nI (83 + 1))) 35 11 (g 48 83)) := fun a b q1 q2 => by rw [gup_o (fun z => q2 ⟨z.1, by unfold kx; omega⟩), gup_o (fun z => q2 ⟨z.1, by unfold kx; omega⟩)]
  have hF := hF.tr f10 (K3 := 37) (by omega)
  generalize (gup (gup s9 35 22 (nI (83 + 1))) 35 11 (g 48 83)) = s10 at hc hk f10 hF h48 z0 z1 z2 z3 ⊢
  refine r_rv t (pc := 117) dX4_passesAll_117 ?_
  have t9 := f10
  have t8 := f9.tr t9 (K3 := 44) (by omega)
  have t7 := f8.tr t8 (K3 := 44) (by omega)
  have t6 := f7.tr t7 (K3 := 44) (by omega)
  have t5 := f6.tr t6 (K3 := 43) (by omega)
  have t4 := f5.tr t5 (K3 := 42) (by omega)
  have t3 := f4.tr t4 (K3 := 41) (by omega)
  have t2 := f3.tr t3 (K3 := 40) (by omega)
  have t1 := f2.tr t2 (K3 := 39) (by omega)
  have t0 := f1.tr t1 (K3 := 38) (by omega)
  obtain ⟨⟨h1, h2, h3, h4⟩, h5, h6, h7⟩ := hK
  refine ⟨⟨⟨z0.trans h1, z1.trans h2, z2.trans h3, z3.trans h4⟩, h5, fun i hi => ?_, fun i hi => ?_⟩, hF⟩
  · obtain ⟨a, b, d⟩ := h6 i hi
    refine ⟨?_, ?_, ?_⟩
    · rw [t0 37 _ (by omega) (by omega)]; exact (p0 i (by omega)).trans a
    · rw [t1 38 _ (by omega) (by omega)]; exact (p1 i (by omega)).trans b
    · rw [t2 39 _ (by omega) (by omega)]; exact (p2 i (by omega)).trans d
  · obtain ⟨a, b, d, e⟩ := h7 i hi
    refine ⟨?_, ?_, ?_, ?_⟩
    · rw [t3 40 _ (by omega) (by omega)]; exact (p3 i (by omega)).trans a
    · rw [t4 41 _ (by omega) (by omega)]; exact (p4 i (by omega)).trans b
    · rw [t5 42 _ (by omega) (by omega)]; exact (p5 i (by omega)).trans d
    · rw [t6 43 _ (by omega) (by omega)]; exact (p6 i (by omega)).trans e
set_option maxRecDepth 100000 in
set_option maxHeartbeats 4000000 in
theorem c_X4_passesAll_k84 {g : gG} {c : gCt} (hR : Rm g c) : gCv mX4_passesAll [.ref 35, .int (nI 2), .int (nI 1)] g (fun g1 => Rk g1 84 c ∧ kfr 84 126 g g1) := by
  refine gCv_of (own := RX4) (ls0 := [.ref 35, .int (nI 2), .int (nI 1)]) ⟨rfl, pl_X4⟩ rfl (Nat.le_of_ble_eq_true rfl) (fun G (h : gR RX4 cX4_passesAll 1 40 G) (t : gTv cX4_passesAll _ G) => ?_)
  have hc : gup (gup g 35 22 (nI 84)) 35 21 (nI 1) 35 22 = nI 84 := by rw [gup_o (by decide), gup_s]
  have hk : gup (gup g 35 22 (nI 84)) 35 21 (nI 1) 35 21 = nI 1 := gup_s
  have hF : kfr 84 84 g (gup (gup g 35 22 (nI 84)) 35 21 (nI 1)) := fun a b q1 q2 => by rw [gup_o (fun z => q2 ⟨z.1, Or.inl z.2⟩), gup_o (fun z => q2 ⟨z.1, Or.inr z.2⟩)]
  refine r_aload_n (pc := 0) h dX4_passesAll_0 rfl ?_
  refine r_bipush (pc := 1) h dX4_passesAll_1 cb_42 ?_
  refine r_iload_n (pc := 3) h dX4_passesAll_3 rfl ?_
  refine r_imul (pc := 4) h dX4_passesAll_4 ?_
  refine r_top (y := nI 84) h (by decide) ?_
  refine r_putI (pc := 5) h dX4_passesAll_5 fw_X4_153 sh_35 rfl rfl rfl ?_
  refine r_aload_n (pc := 8) h dX4_passesAll_8 rfl ?_
  refine r_iload_n (pc := 9) h dX4_passesAll_9 rfl ?_
  refine r_putI (pc := 10) h dX4_passesAll_10 fw_X4_149 sh_35 rfl (by decide) (by decide) ?_
  generalize gup (gup g 35 22 _) 35 21 _ = sm at hc hk hF ⊢
  refine r_aload_n (pc := 13) h dX4_passesAll_13 rfl ?_
  refine r_aload_n (pc := 14) h dX4_passesAll_14 rfl ?_
  refine r_getR (pc := 15) h dX4_passesAll_15 f_X4_13 sh_35 rfl ?_
  refine r_callVv (pc := 18) (As := [_]) h dX4_passesAll_18 k_X4_156 gc_35 rfl ⟨Nat.le_of_ble_eq_true rfl, Nat.le_of_ble_eq_true rfl, Nat.le_of_ble_eq_true rfl⟩ (c_X4_passes_k37 (cur := 84) hc hk (by decide)) (fun g1 hq => ?_)
  obtain ⟨p0, hc, hk, f0⟩ := hq
  have p0 : ∀ k, k < 6 → g1 48 (84 + k) = g 37 k := fun k hk => (p0 k hk).trans (hF 37 k (by omega) (by omega))
  have hF := hF.tr f0 (lo3 := 84) (hi3 := 90) (by omega)
  generalize g1 = s0 at hc hk p0 f0 hF ⊢
  refine r_aload_n (pc := 21) h dX4_passesAll_21 rfl ?_
  refine r_aload_n (pc := 22) h dX4_passesAll_22 rfl ?_
  refine r_getR (pc := 23) h dX4_passesAll_23 f_X4_16 sh_35 rfl ?_
  refine r_callVv (pc := 26) (As := [_]) h dX4_passesAll_26 k_X4_156 gc_35 rfl ⟨Nat.le_of_ble_eq_true rfl, Nat.le_of_ble_eq_true rfl, Nat.le_of_ble_eq_true rfl⟩ (c_X4_passes_k38 (cur := 90) hc hk (by decide)) (fun g1 hq => ?_)
  obtain ⟨p1, hc, hk, f1⟩ := hq
  have p1 : ∀ k, k < 6 → g1 48 (90 + k) = g 38 k := fun k hk => (p1 k hk).trans (hF 38 k (by omega) (by omega))
  have hF := hF.tr f1 (lo3 := 84) (hi3 := 96) (by omega)
  generalize g1 = s1 at hc hk p1 f1 hF ⊢
  refine r_aload_n (pc := 29) h dX4_passesAll_29 rfl ?_
  refine r_aload_n (pc := 30) h dX4_passesAll_30 rfl ?_
  refine r_getR (pc := 31) h dX4_passesAll_31 f_X4_19 sh_35 rfl ?_
  refine r_callVv (pc := 34) (As := [_]) h dX4_passesAll_34 k_X4_156 gc_35 rfl ⟨Nat.le_of_ble_eq_true rfl, Nat.le_of_ble_eq_true rfl, Nat.le_of_ble_eq_true rfl⟩ (c_X4_passes_k39 (cur := 96) hc hk (by decide)) (fun g1 hq => ?_)
  obtain ⟨p2, hc, hk, f2⟩ := hq
  have p2 : ∀ k, k < 6 → g1 48 (96 + k) = g 39 k := fun k hk => (p2 k hk).trans (hF 39 k (by omega) (by omega))
  have hF := hF.tr f2 (lo3 := 84) (hi3 := 102) (by omega)
  generalize g1 = s2 at hc hk p2 f2 hF ⊢
  refine r_aload_n (pc := 37) h dX4_passesAll_37 rfl ?_
  refine r_aload_n (pc := 38) h dX4_passesAll_38 rfl ?_
  refine r_getR (pc := 39) h dX4_passesAll_39 f_X4_22 sh_35 rfl ?_
  refine r_callVv (pc := 42) (As := [_]) h dX4_passesAll_42 k_X4_156 gc_35 rfl ⟨Nat.le_of_ble_eq_true rfl, Nat.le_of_ble_eq_true rfl, Nat.le_of_ble_eq_true rfl⟩ (c_X4_passes_k40 (cur := 102) hc hk (by decide)) (fun g1 hq => ?_)
  obtain ⟨p3, hc, hk, f3⟩ := hq
  have p3 : ∀ k, k < 5 → g1 48 (102 + k) = g 40 k := fun k hk => (p3 k hk).trans (hF 40 k (by omega) (by omega))
  have hF := hF.tr f3 (lo3 := 84) (hi3 := 107) (by omega)
  generalize g1 = s3 at hc hk p3 f3 hF ⊢
  refine r_aload_n (pc := 45) h dX4_passesAll_45 rfl ?_
  refine r_aload_n (pc := 46) h dX4_passesAll_46 rfl ?_
  refine r_getR (pc := 47) h dX4_passesAll_47 f_X4_25 sh_35 rfl ?_
  refine r_callVv (pc := 50) (As := [_]) h dX4_passesAll_50 k_X4_156 gc_35 rfl ⟨Nat.le_of_ble_eq_true rfl, Nat.le_of_ble_eq_true rfl, Nat.le_of_ble_eq_true rfl⟩ (c_X4_passes_k41 (cur := 107) hc hk (by decide)) (fun g1 hq => ?_)
  obtain ⟨p4, hc, hk, f4⟩ := hq
  have p4 : ∀ k, k < 5 → g1 48 (107 + k) = g 41 k := fun k hk => (p4 k hk).trans (hF 41 k (by omega) (by omega))
  have hF := hF.tr f4 (lo3 := 84) (hi3 := 112) (by omega)
  generalize g1 = s4 at hc hk p4 f4 hF ⊢
  refine r_aload_n (pc := 53) h dX4_passesAll_53 rfl ?_
  refine r_aload_n (pc := 54) h dX4_passesAll_54 rfl ?_
  refine r_getR (pc := 55) h dX4_passesAll_55 f_X4_28 sh_35 rfl ?_
  refine r_callVv (pc := 58) (As := [_]) h dX4_passesAll_58 k_X4_156 gc_35 rfl ⟨Nat.le_of_ble_eq_true rfl, Nat.le_of_ble_eq_true rfl, Nat.le_of_ble_eq_true rfl⟩ (c_X4_passes_k42 (cur := 112) hc hk (by decide)) (fun g1 hq => ?_)
  obtain ⟨p5, hc, hk, f5⟩ := hq
  have p5 : ∀ k, k < 5 → g1 48 (112 + k) = g 42 k := fun k hk => (p5 k hk).trans (hF 42 k (by omega) (by omega))
  have hF := hF.tr f5 (lo3 := 84) (hi3 := 117) (by omega)
  generalize g1 = s5 at hc hk p5 f5 hF ⊢
  refine r_aload_n (pc := 61) h dX4_passesAll_61 rfl ?_
  refine r_aload_n (pc := 62) h dX4_passesAll_62 rfl ?_
  refine r_getR (pc := 63) h dX4_passesAll_63 f_X4_31 sh_35 rfl ?_
  refine r_callVv (pc := 66) (As := [_]) h dX4_passesAll_66 k_X4_156 gc_35 rfl ⟨Nat.le_of_ble_eq_true rfl, Nat.le_of_ble_eq_true rfl, Nat.le_of_ble_eq_true rfl⟩ (c_X4_passes_k43 (cur := 117) hc hk (by decide)) (fun g1 hq => ?_)
  obtain ⟨p6, hc, hk, f6⟩ := hq
  have p6 : ∀ k, k < 5 → g1 48 (117 + k) = g 43 k := fun k hk => (p6 k hk).trans (hF 43 k (by omega) (by omega))
  have hF := hF.tr f6 (lo3 := 84) (hi3 := 122) (by omega)
  generalize g1 = s6 at hc hk p6 f6 hF ⊢
  refine r_aload_n (pc := 69) h dX4_passesAll_69 rfl ?_
  refine r_aload_n (pc := 70) h dX4_passesAll_70 rfl ?_
  refine r_aload_n (pc := 71) h dX4_passesAll_71 rfl ?_
  refine r_getE (pc := 72) h dX4_passesAll_72 f_X4_60 sh_35 rfl (hF 35 8 (by omega) (by omega)) ?_
  refine r_callVi (pc := 75) (As := [_]) h dX4_passesAll_75 k_X4_160 gc_35 rfl ⟨Nat.le_of_ble_eq_true rfl, Nat.le_of_ble_eq_true rfl, Nat.le_of_ble_eq_true rfl⟩ (c_X4_passOne_k (cur := 122) _ hc hk (by decide)) (fun x_75 g1 hq => ?_)
  obtain ⟨rfl, hg1⟩ := hq
  rw [hg1]
  clear hg1
  refine r_putI (pc := 78) h dX4_passesAll_78 fw_X4_60 sh_35 rfl rfl rfl ?_
  have hc : (gup (gup (gup s6 48 122 (g 35 8)) 35 22 (nI (122 + 1))) 35 8 (g 35 8)) 35 22 = nI 123 := by rw [gup_o (by decide), gup_s]
  have hk : (gup (gup (gup s6 48 122 (g 35 8)) 35 22 (nI (122 + 1))) 35 8 (g 35 8)) 35 21 = nI 1 := by rw [gup_o (by decide), gup_o (by decide), gup_o (by decide)]; exact hk
  have p7 : (gup (gup (gup s6 48 122 (g 35 8)) 35 22 (nI (122 + 1))) 35 8 (g 35 8)) 48 122 = g 35 8 := by rw [gup_o (by decide), gup_o (by decide), gup_s]
  have f7 : kfr 122 123 s6 (gup (gup (gup s6 48 122 (g 35 8)) 35 22 (nI (122 + 1))) 35 8 (g 35 8)) := fun a b q1 q2 => by
    by_cases e : a = 35 ∧ b = 8
    · obtain ⟨rfl, rfl⟩ := e; rw [gup_s]; exact (hF 35 8 (by omega) (by omega)).symm
    · rw [gup_o e, gup_o (fun z => q2 ⟨z.1, Or.inr z.2⟩), gup_o (by omega)]
  have hF := hF.tr f7 (lo3 := 84) (hi3 := 123) (by omega)
  generalize (gup (gup (gup s6 48 122 (g 35 8)) 35 22 (nI (122 + 1))) 35 8 (g 35 8)) = s7 at hc hk p7 f7 hF ⊢
  refine r_aload_n (pc := 81) h dX4_passesAll_81 rfl ?_
  refine r_aload_n (pc := 82) h dX4_passesAll_82 rfl ?_
  refine r_aload_n (pc := 83) h dX4_passesAll_83 rfl ?_
  refine r_getE (pc := 84) h dX4_passesAll_84 f_X4_67 sh_35 rfl (hF 35 9 (by omega) (by omega)) ?_
  refine r_callVi (pc := 87) (As := [_]) h dX4_passesAll_87 k_X4_160 gc_35 rfl ⟨Nat.le_of_ble_eq_true rfl, Nat.le_of_ble_eq_true rfl, Nat.le_of_ble_eq_true rfl⟩ (c_X4_passOne_k (cur := 123) _ hc hk (by decide)) (fun x_87 g1 hq => ?_)
  obtain ⟨rfl, hg1⟩ := hq
  rw [hg1]
  clear hg1
  refine r_putI (pc := 90) h dX4_passesAll_90 fw_X4_67 sh_35 rfl rfl rfl ?_
  have hc : (gup (gup (gup s7 48 123 (g 35 9)) 35 22 (nI (123 + 1))) 35 9 (g 35 9)) 35 22 = nI 124 := by rw [gup_o (by decide), gup_s]
  have hk : (gup (gup (gup s7 48 123 (g 35 9)) 35 22 (nI (123 + 1))) 35 9 (g 35 9)) 35 21 = nI 1 := by rw [gup_o (by decide), gup_o (by decide), gup_o (by decide)]; exact hk
  have p8 : (gup (gup (gup s7 48 123 (g 35 9)) 35 22 (nI (123 + 1))) 35 9 (g 35 9)) 48 123 = g 35 9 := by rw [gup_o (by decide), gup_o (by decide), gup_s]
  have f8 : kfr 123 124 s7 (gup (gup (gup s7 48 123 (g 35 9)) 35 22 (nI (123 + 1))) 35 9 (g 35 9)) := fun a b q1 q2 => by
    by_cases e : a = 35 ∧ b = 9
    · obtain ⟨rfl, rfl⟩ := e; rw [gup_s]; exact (hF 35 9 (by omega) (by omega)).symm
    · rw [gup_o e, gup_o (fun z => q2 ⟨z.1, Or.inr z.2⟩), gup_o (by omega)]
  have hF := hF.tr f8 (lo3 := 84) (hi3 := 124) (by omega)
  generalize (gup (gup (gup s7 48 123 (g 35 9)) 35 22 (nI (123 + 1))) 35 9 (g 35 9)) = s8 at hc hk p8 f8 hF ⊢
  refine r_aload_n (pc := 93) h dX4_passesAll_93 rfl ?_
  refine r_aload_n (pc := 94) h dX4_passesAll_94 rfl ?_
  refine r_aload_n (pc := 95) h dX4_passesAll_95 rfl ?_
  refine r_getE (pc := 96) h dX4_passesAll_96 f_X4_163 sh_35 rfl (hF 35 10 (by omega) (by omega)) ?_
  refine r_callVi (pc := 99) (As := [_]) h dX4_passesAll_99 k_X4_160 gc_35 rfl ⟨Nat.le_of_ble_eq_true rfl, Nat.le_of_ble_eq_true rfl, Nat.le_of_ble_eq_true rfl⟩ (c_X4_passOne_k (cur := 124) _ hc hk (by decide)) (fun x_99 g1 hq => ?_)
  obtain ⟨rfl, hg1⟩ := hq
  rw [hg1]
  clear hg1
  refine r_putI (pc := 102) h dX4_passesAll_102 fw_X4_163 sh_35 rfl rfl rfl ?_
  have hc : (gup (gup (gup s8 48 124 (g 35 10)) 35 22 (nI (124 + 1))) 35 10 (g 35 10)) 35 22 = nI 125 := by rw [gup_o (by decide), gup_s]
  have hk : (gup (gup (gup s8 48 124 (g 35 10)) 35 22 (nI (124 + 1))) 35 10 (g 35 10)) 35 21 = nI 1 := by rw [gup_o (by decide), gup_o (by decide), gup_o (by decide)]; exact hk
  have p9 : (gup (gup (gup s8 48 124 (g 35 10)) 35 22 (nI (124 + 1))) 35 10 (g 35 10)) 48 124 = g 35 10 := by rw [gup_o (by decide), gup_o (by decide), gup_s]
  have f9 : kfr 124 125 s8 (gup (gup (gup s8 48 124 (g 35 10)) 35 22 (nI (124 + 1))) 35 10 (g 35 10)) := fun a b q1 q2 => by
    by_cases e : a = 35 ∧ b = 10
    · obtain ⟨rfl, rfl⟩ := e; rw [gup_s]; exact (hF 35 10 (by omega) (by omega)).symm
    · rw [gup_o e, gup_o (fun z => q2 ⟨z.1, Or.inr z.2⟩), gup_o (by omega)]
  have hF := hF.tr f9 (lo3 := 84) (hi3 := 125) (by omega)
  generalize (gup (gup (gup s8 48 124 (g 35 10)) 35 22 (nI (124 + 1))) 35 10 (g 35 10)) = s9 at hc hk p9 f9 hF ⊢
  refine r_aload_n (pc := 105) h dX4_passesAll_105 rfl ?_
  refine r_aload_n (pc := 106) h dX4_passesAll_106 rfl ?_
  refine r_aload_n (pc := 107) h dX4_passesAll_107 rfl ?_
  refine r_getE (pc := 108) h dX4_passesAll_108 f_X4_119 sh_35 rfl (hF 35 11 (by omega) (by omega)) ?_
  refine r_callVi (pc := 111) (As := [_]) h dX4_passesAll_111 k_X4_160 gc_35 rfl ⟨Nat.le_of_ble_eq_true rfl, Nat.le_of_ble_eq_true rfl, Nat.le_of_ble_eq_true rfl⟩ (c_X4_passOne_k (cur := 125) _ hc hk (by decide)) (fun x_111 g1 hq => ?_)
  obtain ⟨rfl, hg1⟩ := hq
  rw [hg1]
  clear hg1
  refine r_putI (pc := 114) h dX4_passesAll_114 fw_X4_119 sh_35 rfl rfl rfl ?_
  have hc : (gup (gup (gup s9 48 125 (g 35 11)) 35 22 (nI (125 + 1))) 35 11 (g 35 11)) 35 22 = nI 126 := by rw [gup_o (by decide), gup_s]
  have hk : (gup (gup (gup s9 48 125 (g 35 11)) 35 22 (nI (125 + 1))) 35 11 (g 35 11)) 35 21 = nI 1 := by rw [gup_o (by decide), gup_o (by decide), gup_o (by decide)]; exact hk
  have p10 : (gup (gup (gup s9 48 125 (g 35 11)) 35 22 (nI (125 + 1))) 35 11 (g 35 11)) 48 125 = g 35 11 := by rw [gup_o (by decide), gup_o (by decide), gup_s]
  have f10 : kfr 125 126 s9 (gup (gup (gup s9 48 125 (g 35 11)) 35 22 (nI (125 + 1))) 35 11 (g 35 11)) := fun a b q1 q2 => by
    by_cases e : a = 35 ∧ b = 11
    · obtain ⟨rfl, rfl⟩ := e; rw [gup_s]; exact (hF 35 11 (by omega) (by omega)).symm
    · rw [gup_o e, gup_o (fun z => q2 ⟨z.1, Or.inr z.2⟩), gup_o (by omega)]
  have hF := hF.tr f10 (lo3 := 84) (hi3 := 126) (by omega)
  generalize (gup (gup (gup s9 48 125 (g 35 11)) 35 22 (nI (125 + 1))) 35 11 (g 35 11)) = s10 at hc hk p10 f10 hF ⊢
  refine r_rv t (pc := 117) dX4_passesAll_117 ?_
  have t9 := f10
  have t8 := f9.tr t9 (lo3 := 124) (hi3 := 126) (by omega)
  have t7 := f8.tr t8 (lo3 := 123) (hi3 := 126) (by omega)
  have t6 := f7.tr t7 (lo3 := 122) (hi3 := 126) (by omega)
  have t5 := f6.tr t6 (lo3 := 117) (hi3 := 126) (by omega)
  have t4 := f5.tr t5 (lo3 := 112) (hi3 := 126) (by omega)
  have t3 := f4.tr t4 (lo3 := 107) (hi3 := 126) (by omega)
  have t2 := f3.tr t3 (lo3 := 102) (hi3 := 126) (by omega)
  have t1 := f2.tr t2 (lo3 := 96) (hi3 := 126) (by omega)
  have t0 := f1.tr t1 (lo3 := 90) (hi3 := 126) (by omega)
  obtain ⟨⟨h1, h2, h3, h4⟩, h5, h6, h7⟩ := hR
  refine ⟨⟨⟨?_, ?_, ?_, ?_⟩, h5, fun i hi => ?_, fun i hi => ?_⟩, hF⟩
  · rw [t7 48 _ (by omega) (by omega)]; exact p7.trans h1
  · rw [t8 48 _ (by omega) (by omega)]; exact p8.trans h2
  · rw [t9 48 _ (by omega) (by omega)]; exact p9.trans h3
  · exact p10.trans h4
  · obtain ⟨a, b, d⟩ := h6 i hi
    refine ⟨?_, ?_, ?_⟩
    · rw [t0 48 _ (by omega) (by omega)]; exact (p0 i (by omega)).trans a
    · rw [t1 48 _ (by omega) (by omega)]; exact (p1 i (by omega)).trans b
    · rw [t2 48 _ (by omega) (by omega)]; exact (p2 i (by omega)).trans d
  · obtain ⟨a, b, d, e⟩ := h7 i hi
    refine ⟨?_, ?_, ?_, ?_⟩
    · rw [t3 48 _ (by omega) (by omega)]; exact (p3 i (by omega)).trans a
    · rw [t4 48 _ (by omega) (by omega)]; exact (p4 i (by omega)).trans b
    · rw [t5 48 _ (by omega) (by omega)]; exact (p5 i (by omega)).trans d
    · rw [t6 48 _ (by omega) (by omega)]; exact (p6 i (by omega)).trans e
set_option maxRecDepth 100000 in
set_option maxHeartbeats 4000000 in
theorem c_X4_passesAll_u84 {g : gG} {c : gCt} (hK : Rk g 84 c) : gCv mX4_passesAll [.ref 35, .int (nI 2), .int (nI 0)] g (fun g1 => Rm g1 c ∧ ufr 37 g g1) := by
  refine gCv_of (own := RX4) (ls0 := [.ref 35, .int (nI 2), .int (nI 0)]) ⟨rfl, pl_X4⟩ rfl (Nat.le_of_ble_eq_true rfl) (fun G (h : gR RX4 cX4_passesAll 1 40 G) (t : gTv cX4_passesAll _ G) => ?_)
  have hc : gup (gup g 35 22 (nI 84)) 35 21 (nI 0) 35 22 = nI 84 := by rw [gup_o (by decide), gup_s]
  have hk : gup (gup g 35 22 (nI 84)) 35 21 (nI 0) 35 21 = nI 0 := gup_s
  have h48 : ∀ b, gup (gup g 35 22 (nI 84)) 35 21 (nI 0) 48 b = g 48 b := fun b => by rw [gup_o (by omega), gup_o (by omega)]
  have hF : ufr 37 g (gup (gup g 35 22 (nI 84)) 35 21 (nI 0)) := fun a b q1 q2 => by rw [gup_o (fun z => q2 ⟨z.1, by unfold kx; omega⟩), gup_o (fun z => q2 ⟨z.1, by unfold kx; omega⟩)]
  refine r_aload_n (pc := 0) h dX4_passesAll_0 rfl ?_
  refine r_bipush (pc := 1) h dX4_passesAll_1 cb_42 ?_
  refine r_iload_n (pc := 3) h dX4_passesAll_3 rfl ?_
  refine r_imul (pc := 4) h dX4_passesAll_4 ?_
  refine r_top (y := nI 84) h (by decide) ?_
  refine r_putI (pc := 5) h dX4_passesAll_5 fw_X4_153 sh_35 rfl rfl rfl ?_
  refine r_aload_n (pc := 8) h dX4_passesAll_8 rfl ?_
  refine r_iload_n (pc := 9) h dX4_passesAll_9 rfl ?_
  refine r_putI (pc := 10) h dX4_passesAll_10 fw_X4_149 sh_35 rfl (by decide) (by decide) ?_
  generalize gup (gup g 35 22 _) 35 21 _ = sm at hc hk hF h48 ⊢
  refine r_aload_n (pc := 13) h dX4_passesAll_13 rfl ?_
  refine r_aload_n (pc := 14) h dX4_passesAll_14 rfl ?_
  refine r_getR (pc := 15) h dX4_passesAll_15 f_X4_13 sh_35 rfl ?_
  refine r_callVv (pc := 18) (As := [_]) h dX4_passesAll_18 k_X4_156 gc_35 rfl ⟨Nat.le_of_ble_eq_true rfl, Nat.le_of_ble_eq_true rfl, Nat.le_of_ble_eq_true rfl⟩ (c_X4_passes_u37 (cur := 84) hc hk (by decide)) (fun g1 hq => ?_)
  obtain ⟨p0, hc, hk, f0⟩ := hq
  have p0 : ∀ k, k < 6 → g1 37 k = g 48 (84 + k) := fun k hk => (p0 k hk).trans (h48 _)
  have h48 : ∀ b, g1 48 b = g 48 b := fun b => (f0 48 b (by decide) (by omega)).trans (h48 b)
  have f0 : ufr 37 sm g1 := fun a b q1 q2 => f0 a b (fun z => q1 (by omega)) (fun z => q2 ⟨z.1, by unfold kx; omega⟩)
  have hF := hF.tr f0 (K3 := 37) (by omega)
  generalize g1 = s0 at hc hk p0 f0 hF h48 ⊢
  refine r_aload_n (pc := 21) h dX4_passesAll_21 rfl ?_
  refine r_aload_n (pc := 22) h dX4_passesAll_22 rfl ?_
  refine r_getR (pc := 23) h dX4_passesAll_23 f_X4_16 sh_35 rfl ?_
  refine r_callVv (pc := 26) (As := [_]) h dX4_passesAll_26 k_X4_156 gc_35 rfl ⟨Nat.le_of_ble_eq_true rfl, Nat.le_of_ble_eq_true rfl, Nat.le_of_ble_eq_true rfl⟩ (c_X4_passes_u38 (cur := 90) hc hk (by decide)) (fun g1 hq => ?_)
  obtain ⟨p1, hc, hk, f1⟩ := hq
  have p1 : ∀ k, k < 6 → g1 38 k = g 48 (90 + k) := fun k hk => (p1 k hk).trans (h48 _)
  have h48 : ∀ b, g1 48 b = g 48 b := fun b => (f1 48 b (by decide) (by omega)).trans (h48 b)
  have f1 : ufr 38 s0 g1 := fun a b q1 q2 => f1 a b (fun z => q1 (by omega)) (fun z => q2 ⟨z.1, by unfold kx; omega⟩)
  have hF := hF.tr f1 (K3 := 37) (by omega)
  generalize g1 = s1 at hc hk p1 f1 hF h48 ⊢
  refine r_aload_n (pc := 29) h dX4_passesAll_29 rfl ?_
  refine r_aload_n (pc := 30) h dX4_passesAll_30 rfl ?_
  refine r_getR (pc := 31) h dX4_passesAll_31 f_X4_19 sh_35 rfl ?_
  refine r_callVv (pc := 34) (As := [_]) h dX4_passesAll_34 k_X4_156 gc_35 rfl ⟨Nat.le_of_ble_eq_true rfl, Nat.le_of_ble_eq_true rfl, Nat.le_of_ble_eq_true rfl⟩ (c_X4_passes_u39 (cur := 96) hc hk (by decide)) (fun g1 hq => ?_)
  obtain ⟨p2, hc, hk, f2⟩ := hq
  have p2 : ∀ k, k < 6 → g1 39 k = g 48 (96 + k) := fun k hk => (p2 k hk).trans (h48 _)
  have h48 : ∀ b, g1 48 b = g 48 b := fun b => (f2 48 b (by decide) (by omega)).trans (h48 b)
  have f2 : ufr 39 s1 g1 := fun a b q1 q2 => f2 a b (fun z => q1 (by omega)) (fun z => q2 ⟨z.1, by unfold kx; omega⟩)
  have hF := hF.tr f2 (K3 := 37) (by omega)
  generalize g1 = s2 at hc hk p2 f2 hF h48 ⊢
  refine r_aload_n (pc := 37) h dX4_passesAll_37 rfl ?_
  refine r_aload_n (pc := 38) h dX4_passesAll_38 rfl ?_
  refine r_getR (pc := 39) h dX4_passesAll_39 f_X4_22 sh_35 rfl ?_
  refine r_callVv (pc := 42) (As := [_]) h dX4_passesAll_42 k_X4_156 gc_35 rfl ⟨Nat.le_of_ble_eq_true rfl, Nat.le_of_ble_eq_true rfl, Nat.le_of_ble_eq_true rfl⟩ (c_X4_passes_u40 (cur := 102) hc hk (by decide)) (fun g1 hq => ?_)
  obtain ⟨p3, hc, hk, f3⟩ := hq
  have p3 : ∀ k, k < 5 → g1 40 k = g 48 (102 + k) := fun k hk => (p3 k hk).trans (h48 _)
  have h48 : ∀ b, g1 48 b = g 48 b := fun b => (f3 48 b (by decide) (by omega)).trans (h48 b)
  have f3 : ufr 40 s2 g1 := fun a b q1 q2 => f3 a b (fun z => q1 (by omega)) (fun z => q2 ⟨z.1, by unfold kx; omega⟩)
  have hF := hF.tr f3 (K3 := 37) (by omega)
  generalize g1 = s3 at hc hk p3 f3 hF h48 ⊢
  refine r_aload_n (pc := 45) h dX4_passesAll_45 rfl ?_
  refine r_aload_n (pc := 46) h dX4_passesAll_46 rfl ?_
  refine r_getR (pc := 47) h dX4_passesAll_47 f_X4_25 sh_35 rfl ?_
  refine r_callVv (pc := 50) (As := [_]) h dX4_passesAll_50 k_X4_156 gc_35 rfl ⟨Nat.le_of_ble_eq_true rfl, Nat.le_of_ble_eq_true rfl, Nat.le_of_ble_eq_true rfl⟩ (c_X4_passes_u41 (cur := 107) hc hk (by decide)) (fun g1 hq => ?_)
  obtain ⟨p4, hc, hk, f4⟩ := hq
  have p4 : ∀ k, k < 5 → g1 41 k = g 48 (107 + k) := fun k hk => (p4 k hk).trans (h48 _)
  have h48 : ∀ b, g1 48 b = g 48 b := fun b => (f4 48 b (by decide) (by omega)).trans (h48 b)
  have f4 : ufr 41 s3 g1 := fun a b q1 q2 => f4 a b (fun z => q1 (by omega)) (fun z => q2 ⟨z.1, by unfold kx; omega⟩)
  have hF := hF.tr f4 (K3 := 37) (by omega)
  generalize g1 = s4 at hc hk p4 f4 hF h48 ⊢
  refine r_aload_n (pc := 53) h dX4_passesAll_53 rfl ?_
  refine r_aload_n (pc := 54) h dX4_passesAll_54 rfl ?_
  refine r_getR (pc := 55) h dX4_passesAll_55 f_X4_28 sh_35 rfl ?_
  refine r_callVv (pc := 58) (As := [_]) h dX4_passesAll_58 k_X4_156 gc_35 rfl ⟨Nat.le_of_ble_eq_true rfl, Nat.le_of_ble_eq_true rfl, Nat.le_of_ble_eq_true rfl⟩ (c_X4_passes_u42 (cur := 112) hc hk (by decide)) (fun g1 hq => ?_)
  obtain ⟨p5, hc, hk, f5⟩ := hq
  have p5 : ∀ k, k < 5 → g1 42 k = g 48 (112 + k) := fun k hk => (p5 k hk).trans (h48 _)
  have h48 : ∀ b, g1 48 b = g 48 b := fun b => (f5 48 b (by decide) (by omega)).trans (h48 b)
  have f5 : ufr 42 s4 g1 := fun a b q1 q2 => f5 a b (fun z => q1 (by omega)) (fun z => q2 ⟨z.1, by unfold kx; omega⟩)
  have hF := hF.tr f5 (K3 := 37) (by omega)
  generalize g1 = s5 at hc hk p5 f5 hF h48 ⊢
  refine r_aload_n (pc := 61) h dX4_passesAll_61 rfl ?_
  refine r_aload_n (pc := 62) h dX4_passesAll_62 rfl ?_
  refine r_getR (pc := 63) h dX4_passesAll_63 f_X4_31 sh_35 rfl ?_
  refine r_callVv (pc := 66) (As := [_]) h dX4_passesAll_66 k_X4_156 gc_35 rfl ⟨Nat.le_of_ble_eq_true rfl, Nat.le_of_ble_eq_true rfl, Nat.le_of_ble_eq_true rfl⟩ (c_X4_passes_u43 (cur := 117) hc hk (by decide)) (fun g1 hq => ?_)
  obtain ⟨p6, hc, hk, f6⟩ := hq
  have p6 : ∀ k, k < 5 → g1 43 k = g 48 (117 + k) := fun k hk => (p6 k hk).trans (h48 _)
  have h48 : ∀ b, g1 48 b = g 48 b := fun b => (f6 48 b (by decide) (by omega)).trans (h48 b)
  have f6 : ufr 43 s5 g1 := fun a b q1 q2 => f6 a b (fun z => q1 (by omega)) (fun z => q2 ⟨z.1, by unfold kx; omega⟩)
  have hF := hF.tr f6 (K3 := 37) (by omega)
  generalize g1 = s6 at hc hk p6 f6 hF h48 ⊢
  refine r_aload_n (pc := 69) h dX4_passesAll_69 rfl ?_
  refine r_aload_n (pc := 70) h dX4_passesAll_70 rfl ?_
  refine r_aload_n (pc := 71) h dX4_passesAll_71 rfl ?_
  refine r_getI (pc := 72) h dX4_passesAll_72 f_X4_60 sh_35 rfl ?_
  refine r_callVi (pc := 75) (As := [_]) h dX4_passesAll_75 k_X4_160 gc_35 rfl ⟨Nat.le_of_ble_eq_true rfl, Nat.le_of_ble_eq_true rfl, Nat.le_of_ble_eq_true rfl⟩ (c_X4_passOne_u (cur := 122) _ hc hk (by decide)) (fun x_75 g1 hq => ?_)
  obtain ⟨rfl, hg1⟩ := hq
  rw [hg1, h48]
  clear hg1
  refine r_putI (pc := 78) h dX4_passesAll_78 fw_X4_60 sh_35 rfl rfl rfl ?_
  have hc : (gup (gup s6 35 22 (nI (122 + 1))) 35 8 (g 48 122)) 35 22 = nI 123 := by rw [gup_o (by decide), gup_s]
  have hk : (gup (gup s6 35 22 (nI (122 + 1))) 35 8 (g 48 122)) 35 21 = nI 0 := by rw [gup_o (by decide), gup_o (by decide)]; exact hk
  have z0 : (gup (gup s6 35 22 (nI (122 + 1))) 35 8 (g 48 122)) 35 8 = g 48 122 := gup_s
  have h48 : ∀ b, (gup (gup s6 35 22 (nI (122 + 1))) 35 8 (g 48 122)) 48 b = g 48 b := fun b => by rw [gup_o (by omega), gup_o (by omega)]; exact h48 b
  have f7 : ufr 44 s6 (gup (gup s6 35 22 (nI (122 + 1))) 35 8 (g 48 122)) := fun a b q1 q2 => by rw [gup_o (fun z => q2 ⟨z.1, by unfold kx; omega⟩), gup_o (fun z => q2 ⟨z.1, by unfold kx; omega⟩)]
  have hF := hF.tr f7 (K3 := 37) (by omega)
  generalize (gup (gup s6 35 22 (nI (122 + 1))) 35 8 (g 48 122)) = s7 at hc hk f7 hF h48 z0 ⊢
  refine r_aload_n (pc := 81) h dX4_passesAll_81 rfl ?_
  refine r_aload_n (pc := 82) h dX4_passesAll_82 rfl ?_
  refine r_aload_n (pc := 83) h dX4_passesAll_83 rfl ?_
  refine r_getI (pc := 84) h dX4_passesAll_84 f_X4_67 sh_35 rfl ?_
  refine r_callVi (pc := 87) (As := [_]) h dX4_passesAll_87 k_X4_160 gc_35 rfl ⟨Nat.le_of_ble_eq_true rfl, Nat.le_of_ble_eq_true rfl, Nat.le_of_ble_eq_true rfl⟩ (c_X4_passOne_u (cur := 123) _ hc hk (by decide)) (fun x_87 g1 hq => ?_)
  obtain ⟨rfl, hg1⟩ := hq
  rw [hg1, h48]
  clear hg1
  refine r_putI (pc := 90) h dX4_passesAll_90 fw_X4_67 sh_35 rfl rfl rfl ?_
  have hc : (gup (gup s7 35 22 (nI (123 + 1))) 35 9 (g 48 123)) 35 22 = nI 124 := by rw [gup_o (by decide), gup_s]
  have hk : (gup (gup s7 35 22 (nI (123 + 1))) 35 9 (g 48 123)) 35 21 = nI 0 := by rw [gup_o (by decide), gup_o (by decide)]; exact hk
  have z0 : (gup (gup s7 35 22 (nI (123 + 1))) 35 9 (g 48 123)) 35 8 = g 48 122 := by rw [gup_o (by decide), gup_o (by decide)]; exact z0
  have z1 : (gup (gup s7 35 22 (nI (123 + 1))) 35 9 (g 48 123)) 35 9 = g 48 123 := gup_s
  have h48 : ∀ b, (gup (gup s7 35 22 (nI (123 + 1))) 35 9 (g 48 123)) 48 b = g 48 b := fun b => by rw [gup_o (by omega), gup_o (by omega)]; exact h48 b
  have f8 : ufr 44 s7 (gup (gup s7 35 22 (nI (123 + 1))) 35 9 (g 48 123)) := fun a b q1 q2 => by rw [gup_o (fun z => q2 ⟨z.1, by unfold kx; omega⟩), gup_o (fun z => q2 ⟨z.1, by unfold kx; omega⟩)]
  have hF := hF.tr f8 (K3 := 37) (by omega)
  generalize (gup (gup s7 35 22 (nI (123 + 1))) 35 9 (g 48 123)) = s8 at hc hk f8 hF h48 z0 z1 ⊢
  refine r_aload_n (pc := 93) h dX4_passesAll_93 rfl ?_
  refine r_aload_n (pc := 94) h dX4_passesAll_94 rfl ?_
  refine r_aload_n (pc := 95) h dX4_passesAll_95 rfl ?_
  refine r_getI (pc := 96) h dX4_passesAll_96 f_X4_163 sh_35 rfl ?_
  refine r_callVi (pc := 99) (As := [_]) h dX4_passesAll_99 k_X4_160 gc_35 rfl ⟨Nat.le_of_ble_eq_true rfl, Nat.le_of_ble_eq_true rfl, Nat.le_of_ble_eq_true rfl⟩ (c_X4_passOne_u (cur := 124) _ hc hk (by decide)) (fun x_99 g1 hq => ?_)
  obtain ⟨rfl, hg1⟩ := hq
  rw [hg1, h48]
  clear hg1
  refine r_putI (pc := 102) h dX4_passesAll_102 fw_X4_163 sh_35 rfl rfl rfl ?_
  have hc : (gup (gup s8 35 22 (nI (124 + 1))) 35 10 (g 48 124)) 35 22 = nI 125 := by rw [gup_o (by decide), gup_s]
  have hk : (gup (gup s8 35 22 (nI (124 + 1))) 35 10 (g 48 124)) 35 21 = nI 0 := by rw [gup_o (by decide), gup_o (by decide)]; exact hk
  have z0 : (gup (gup s8 35 22 (nI (124 + 1))) 35 10 (g 48 124)) 35 8 = g 48 122 := by rw [gup_o (by decide), gup_o (by decide)]; exact z0
  have z1 : (gup (gup s8 35 22 (nI (124 + 1))) 35 10 (g 48 124)) 35 9 = g 48 123 := by rw [gup_o (by decide), gup_o (by decide)]; exact z1
  have z2 : (gup (gup s8 35 22 (nI (124 + 1))) 35 10 (g 48 124)) 35 10 = g 48 124 := gup_s
  have h48 : ∀ b, (gup (gup s8 35 22 (nI (124 + 1))) 35 10 (g 48 124)) 48 b = g 48 b := fun b => by rw [gup_o (by omega), gup_o (by omega)]; exact h48 b
  have f9 : ufr 44 s8 (gup (gup s8 35 22 (nI (124 + 1))) 35 10 (g 48 124)) := fun a b q1 q2 => by rw [gup_o (fun z => q2 ⟨z.1, by unfold kx; omega⟩), gup_o (fun z => q2 ⟨z.1, by unfold kx; omega⟩)]
  have hF := hF.tr f9 (K3 := 37) (by omega)
  generalize (gup (gup s8 35 22 (nI (124 + 1))) 35 10 (g 48 124)) = s9 at hc hk f9 hF h48 z0 z1 z2 ⊢
  refine r_aload_n (pc := 105) h dX4_passesAll_105 rfl ?_
  refine r_aload_n (pc := 106) h dX4_passesAll_106 rfl ?_
  refine r_aload_n (pc := 107) h dX4_passesAll_107 rfl ?_
  refine r_getI (pc := 108) h dX4_passesAll_108 f_X4_119 sh_35 rfl ?_
  refine r_callVi (pc := 111) (As := [_]) h dX4_passesAll_111 k_X4_160 gc_35 rfl ⟨Nat.le_of_ble_eq_true rfl, Nat.le_of_ble_eq_true rfl, Nat.le_of_ble_eq_true rfl⟩ (c_X4_passOne_u (cur := 125) _ hc hk (by decide)) (fun x_111 g1 hq => ?_)
  obtain ⟨rfl, hg1⟩ := hq
  rw [hg1, h48]
  clear hg1
  refine r_putI (pc := 114) h dX4_passesAll_114 fw_X4_119 sh_35 rfl rfl rfl ?_
  have hc : (gup (gup s9 35 22 (nI (125 + 1))) 35 11 (g 48 125)) 35 22 = nI 126 := by rw [gup_o (by decide), gup_s]
  have hk : (gup (gup s9 35 22 (nI (125 + 1))) 35 11 (g 48 125)) 35 21 = nI 0 := by rw [gup_o (by decide), gup_o (by decide)]; exact hk
  have z0 : (gup (gup s9 35 22 (nI (125 + 1))) 35 11 (g 48 125)) 35 8 = g 48 122 := by rw [gup_o (by decide), gup_o (by decide)]; exact z0
  have z1 : (gup (gup s9 35 22 (nI (125 + 1))) 35 11 (g 48 125)) 35 9 = g 48 123 := by rw [gup_o (by decide), gup_o (by decide)]; exact z1
  have z2 : (gup (gup s9 35 22 (nI (125 + 1))) 35 11 (g 48 125)) 35 10 = g 48 124 := by rw [gup_o (by decide), gup_o (by decide)]; exact z2
  have z3 : (gup (gup s9 35 22 (nI (125 + 1))) 35 11 (g 48 125)) 35 11 = g 48 125 := gup_s
  have h48 : ∀ b, (gup (gup s9 35 22 (nI (125 + 1))) 35 11 (g 48 125)) 48 b = g 48 b := fun b => by rw [gup_o (by omega), gup_o (by omega)]; exact h48 b
  have f10 : ufr 44 s9 (gup (gup s9 35 22 (nI (125 + 1))) 35 11 (g 48 125)) := fun a b q1 q2 => by rw [gup_o (fun z => q2 ⟨z.1, by unfold kx; omega⟩), gup_o (fun z => q2 ⟨z.1, by unfold kx; omega⟩)]
  have hF := hF.tr f10 (K3 := 37) (by omega)
  generalize (gup (gup s9 35 22 (nI (125 + 1))) 35 11 (g 48 125)) = s10 at hc hk f10 hF h48 z0 z1 z2 z3 ⊢
  refine r_rv t (pc := 117) dX4_passesAll_117 ?_
  have t9 := f10
  have t8 := f9.tr t9 (K3 := 44) (by omega)
  have t7 := f8.tr t8 (K3 := 44) (by omega)
  have t6 := f7.tr t7 (K3 := 44) (by omega)
  have t5 := f6.tr t6 (K3 := 43) (by omega)
  have t4 := f5.tr t5 (K3 := 42) (by omega)
  have t3 := f4.tr t4 (K3 := 41) (by omega)
  have t2 := f3.tr t3 (K3 := 40) (by omega)
  have t1 := f2.tr t2 (K3 := 39) (by omega)
  have t0 := f1.tr t1 (K3 := 38) (by omega)
  obtain ⟨⟨h1, h2, h3, h4⟩, h5, h6, h7⟩ := hK
  refine ⟨⟨⟨z0.trans h1, z1.trans h2, z2.trans h3, z3.trans h4⟩, h5, fun i hi => ?_, fun i hi => ?_⟩, hF⟩
  · obtain ⟨a, b, d⟩ := h6 i hi
    refine ⟨?_, ?_, ?_⟩
    · rw [t0 37 _ (by omega) (by omega)]; exact (p0 i (by omega)).trans a
    · rw [t1 38 _ (by omega) (by omega)]; exact (p1 i (by omega)).trans b
    · rw [t2 39 _ (by omega) (by omega)]; exact (p2 i (by omega)).trans d
  · obtain ⟨a, b, d, e⟩ := h7 i hi
    refine ⟨?_, ?_, ?_, ?_⟩
    · rw [t3 40 _ (by omega) (by omega)]; exact (p3 i (by omega)).trans a
    · rw [t4 41 _ (by omega) (by omega)]; exact (p4 i (by omega)).trans b
    · rw [t5 42 _ (by omega) (by omega)]; exact (p5 i (by omega)).trans d
    · rw [t6 43 _ (by omega) (by omega)]; exact (p6 i (by omega)).trans e
set_option maxRecDepth 100000 in
set_option maxHeartbeats 4000000 in
theorem c_X4_thinks {g : gG} {c : gCt} (hR : Rm g c) : gCv mX4_thinks [.ref 35] g (fun g1 => Rk g1 84 c ∧ kfr 84 126 g g1) := by
  refine gCv_of (own := RX4) (ls0 := [.ref 35]) ⟨rfl, pl_X4⟩ rfl (Nat.le_of_ble_eq_true rfl) (fun G (h : gR RX4 cX4_thinks 2 80 G) (t : gTv cX4_thinks _ G) => ?_)
  refine r_aload_n (pc := 0) h dX4_thinks_0 rfl ?_
  refine r_iconst (pc := 1) h dX4_thinks_1 ci_2 ?_
  refine r_iconst (pc := 2) h dX4_thinks_2 ci_1 ?_
  refine r_callVv (pc := 3) (As := [_, _]) h dX4_thinks_3 k_X4_142 gc_35 rfl ⟨Nat.le_of_ble_eq_true rfl, Nat.le_of_ble_eq_true rfl, Nat.le_of_ble_eq_true rfl⟩ (c_X4_passesAll_k84 hR) (fun g1 hq => ?_)
  refine r_rv t (pc := 6) dX4_thinks_6 ?_
  exact hq
set_option maxRecDepth 100000 in
set_option maxHeartbeats 4000000 in
theorem c_X4_forgets {g : gG} {c : gCt} (hK : Rk g 84 c) : gCv mX4_forgets [.ref 35] g (fun g1 => Rm g1 c ∧ ufr 37 g g1) := by
  refine gCv_of (own := RX4) (ls0 := [.ref 35]) ⟨rfl, pl_X4⟩ rfl (Nat.le_of_ble_eq_true rfl) (fun G (h : gR RX4 cX4_forgets 2 80 G) (t : gTv cX4_forgets _ G) => ?_)
  refine r_aload_n (pc := 0) h dX4_forgets_0 rfl ?_
  refine r_iconst (pc := 1) h dX4_forgets_1 ci_2 ?_
  refine r_iconst (pc := 2) h dX4_forgets_2 ci_0 ?_
  refine r_callVv (pc := 3) (As := [_, _]) h dX4_forgets_3 k_X4_142 gc_35 rfl ⟨Nat.le_of_ble_eq_true rfl, Nat.le_of_ble_eq_true rfl, Nat.le_of_ble_eq_true rfl⟩ (c_X4_passesAll_u84 hK) (fun g1 hq => ?_)
  refine r_rv t (pc := 6) dX4_forgets_6 ?_
  exact hq
