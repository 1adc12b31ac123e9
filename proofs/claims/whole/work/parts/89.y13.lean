section TX
variable {g : gG} {c ck : gCt} {hk : Bool} {lt : Nat → Nat} {nl : Nat} {rv : Nat → Nat} {nr : Nat} {rf : Nat → Int32}
set_option maxRecDepth 100000 in
set_option maxHeartbeats 4000000 in
theorem c_X4_dressedIn {g : gG} {c : gCt} (hR : Rm g c) (ho : gok c) (hT : FT g c 0) {i f : Nat} (hi : i < c 7 1) (hf : f < 64) : gCi mX4_dressedIn [.ref 35, .int (nI i), .int (nI f)] g (fun y g1 => y = oI (gfind (dFp c i f) (c 7 0) 0) ∧ g1 = g) := by
  refine gCi_of (own := RX4) (ls0 := [.ref 35, .int (nI i), .int (nI f), .null]) ⟨rfl, pl_X4⟩ rfl (Nat.le_of_ble_eq_true rfl) (fun G (h : gR RX4 cX4_dressedIn 3 120 G) (t : gTi cX4_dressedIn .int _ G) => ?_)
  have hn5 := hR.n5
  have hn6 := hR.n6
  have w5 := dFree_le c (c 7 1 - i) i f
  have loop : ∀ m s, s + m = c 7 0 → gfind (dFp c i f) m s = gfind (dFp c i f) (c 7 0) 0 → G 2 [.ref 35, .int (nI i), .int (nI f), .int (nI s)] [] g := by
    intro m
    induction m with
    | zero =>
      intro s hs0 hz
      refine r_iload_n (pc := 2) h dX4_dressedIn_2 rfl ?_
      refine r_aload_n (pc := 3) h dX4_dressedIn_3 rfl ?_
      refine r_getE (pc := 4) h dX4_dressedIn_4 f_X4_60 sh_35 rfl (hR.ns) ?_
      refine r_icmp_ge (pc := 7) (tgt := 60) h dX4_dressedIn_7 (by decide) (fun c7 => ?_) (fun c7 => absurd (nI_le (by omega) (by omega)) c7)
      refine r_bipush (pc := 60) h dX4_dressedIn_60 cb_m9 ?_
      refine r_ri t (pc := 62) dX4_dressedIn_62 rfl ?_
      exact ⟨by rw [← hz]; rfl, rfl⟩
    | succ m ih =>
      intro s hs0 hz
      have hs : s < c 7 0 := by omega
      have hc6 := (clr_I s (by omega) f hf).2
      have w3 := cn_le c i s
      have w4 := dFree_le c (c 7 1 - (i + 1)) (i + 1) (clr f s)
      refine r_iload_n (pc := 2) h dX4_dressedIn_2 rfl ?_
      refine r_aload_n (pc := 3) h dX4_dressedIn_3 rfl ?_
      refine r_getE (pc := 4) h dX4_dressedIn_4 f_X4_60 sh_35 rfl (hR.ns) ?_
      refine r_icmp_ge (pc := 7) (tgt := 60) h dX4_dressedIn_7 (by decide) (fun c7 => absurd c7 (nI_ge hs (by omega))) (fun c7 => ?_)
      refine r_iload_n (pc := 10) h dX4_dressedIn_10 rfl ?_
      refine r_iload_n (pc := 11) h dX4_dressedIn_11 rfl ?_
      refine r_callSi (pc := 12) (As := [_, _]) h dX4_dressedIn_12 k_X4_237 rfl ⟨Nat.le_of_ble_eq_true rfl, Nat.le_of_ble_eq_true rfl, Nat.le_of_ble_eq_true rfl⟩ (c_X4_has _ _) (fun x_12 g2 hq => ?_)
      rw [has_bt (by omega) (by omega)] at hq
      obtain ⟨rfl, rfl⟩ := hq
      refine r_if_eq (pc := 15) (tgt := 54) h dX4_dressedIn_15 (by decide) (fun c15 => ?_) (fun c15 => ?_)
      · have hb : bt f s = false := (bI_0 (bt f s)).mp c15
        refine r_iinc (pc := 54) (ls2 := [_, _, _, _]) h dX4_dressedIn_54 rfl (ic1 _) rfl ?_
        refine r_goto (pc := 57) (tgt := 2) h dX4_dressedIn_57 (by decide) ?_
        exact ih (s + 1) (by omega) (by rw [← hz, gfind, if_neg (by unfold dFp; rw [hb, Bool.false_and]; decide)])
      · have hb : bt f s = true := by simpa using mt (bI_0 (bt f s)).mpr c15
        refine r_aload_n (pc := 18) h dX4_dressedIn_18 rfl ?_
        refine r_iload_n (pc := 19) h dX4_dressedIn_19 rfl ?_
        refine r_iload_n (pc := 20) h dX4_dressedIn_20 rfl ?_
        refine r_callVi (pc := 21) (As := [_, _]) h dX4_dressedIn_21 k_X4_234 gc_35 rfl ⟨Nat.le_of_ble_eq_true rfl, Nat.le_of_ble_eq_true rfl, Nat.le_of_ble_eq_true rfl⟩ (c_X4_worthIn_s hR ho hi hs) (fun x_21 g2 hq => ?_)
        obtain ⟨rfl, rfl⟩ := hq
        refine r_aload_n (pc := 24) h dX4_dressedIn_24 rfl ?_
        refine r_getR (pc := 25) h dX4_dressedIn_25 f_X4_51 sh_35 rfl ?_
        refine r_iload_n (pc := 28) h dX4_dressedIn_28 rfl ?_
        refine r_iconst (pc := 29) h dX4_dressedIn_29 ci_1 ?_
        refine r_iadd (pc := 30) h dX4_dressedIn_30 ?_
        refine r_top (y := nI (i + 1)) h (nI_add _ _) ?_
        refine r_aaload (pc := 31) h dX4_dressedIn_31 sh_49 (vp_in_nI (show i + 1 < 6 by omega) (by decide)) ?_
        rw [aix (by omega)]
        refine r_iload_n (pc := 32) h dX4_dressedIn_32 rfl ?_
        refine r_iconst (pc := 33) h dX4_dressedIn_33 ci_1 ?_
        refine r_iload_n (pc := 34) h dX4_dressedIn_34 rfl ?_
        refine r_ishl (pc := 35) h dX4_dressedIn_35 ?_
        refine r_iconst (pc := 36) h dX4_dressedIn_36 ci_m1 ?_
        refine r_ixor (pc := 37) h dX4_dressedIn_37 ?_
        refine r_iand (pc := 38) h dX4_dressedIn_38 ?_
        refine r_top (y := nI (clr f s)) h (clr_I s (by omega) f hf).1 ?_
        refine r_ialoadE (pc := 39) h dX4_dressedIn_39 (shr (show i + 1 < 6 by omega)) (ixe (show clr f s < 64 by omega) (by decide) (hT (i + 1) (by omega) (by omega) _ hc6)) ?_
        refine r_iadd (pc := 40) h dX4_dressedIn_40 ?_
        refine r_top h (nI_add _ _) ?_
        refine r_aload_n (pc := 41) h dX4_dressedIn_41 rfl ?_
        refine r_getR (pc := 42) h dX4_dressedIn_42 f_X4_51 sh_35 rfl ?_
        refine r_iload_n (pc := 45) h dX4_dressedIn_45 rfl ?_
        refine r_aaload (pc := 46) h dX4_dressedIn_46 sh_49 (vp_in_nI (show i < 6 by omega) (by decide)) ?_
        rw [aix (by omega)]
        refine r_iload_n (pc := 47) h dX4_dressedIn_47 rfl ?_
        refine r_ialoadE (pc := 48) h dX4_dressedIn_48 (shr (show i < 6 by omega)) (ixe (show f < 64 by omega) (by decide) (hT i (by omega) (by omega) _ hf)) ?_
        refine r_icmp_ne (pc := 49) (tgt := 54) h dX4_dressedIn_49 (by decide) (fun c49 => ?_) (fun c49 => ?_)
        · have q : cn c i s + dFree c (c 7 1 - (i + 1)) (i + 1) (clr f s) ≠ dFree c (c 7 1 - i) i f := fun z => c49 (by rw [z])
          refine r_iinc (pc := 54) (ls2 := [_, _, _, _]) h dX4_dressedIn_54 rfl (ic1 _) rfl ?_
          refine r_goto (pc := 57) (tgt := 2) h dX4_dressedIn_57 (by decide) ?_
          exact ih (s + 1) (by omega) (by rw [← hz, gfind, if_neg (by unfold dFp; rw [hb, beq_false_of_ne q]; decide)])
        · have q : cn c i s + dFree c (c 7 1 - (i + 1)) (i + 1) (clr f s) = dFree c (c 7 1 - i) i f := (nI_eq (by omega) (by omega)).mp c49
          refine r_iload_n (pc := 52) h dX4_dressedIn_52 rfl ?_
          refine r_ri t (pc := 53) dX4_dressedIn_53 rfl ?_
          exact ⟨by rw [← hz, gfind, if_pos (by unfold dFp; rw [hb, q, beq_self_eq_true]; rfl)]; rfl, rfl⟩
  refine r_iconst (pc := 0) h dX4_dressedIn_0 ci_0 ?_
  refine r_istore_n (pc := 1) (ls2 := [_, _, _, _]) h dX4_dressedIn_1 (Nat.le_of_ble_eq_true rfl) rfl ?_
  exact loop (c 7 0) 0 (by omega) rfl
set_option maxRecDepth 100000 in
set_option maxHeartbeats 4000000 in
theorem y_dress (hR : Rm g c) (hX : MSr g ck hk lt nl rv nr rf) (ho : gok c) (hd : c 7 3 ≤ 999) (x1 : Int32) : gCi mX4_dress [.ref 35, .int x1] g (fun y g1 => y = ansI (drW c x1) (drV c x1) ∧ Rm g1 (c) ∧ MSr g1 ck hk lt nl rv nr (rfI rf (drW c x1)) ∧ frm 35 58 g g1) := by
  refine gCi_of (own := RX4) (ls0 := [.ref 35, .int x1, .null, .null, .null]) ⟨rfl, pl_X4⟩ rfl (Nat.le_of_ble_eq_true rfl) (fun G (h : gR RX4 cX4_dress 4 160 G) (t : gTi cX4_dress .int _ G) => ?_)
  have hn5 := hR.n5
  have hn6 := hR.n6
  have fc := full_cmp _ hn6
  have loop : ∀ x, x < c 7 1 → drW c x1 = 0 → x1 = nI x → ¬ x1 = -1 → ∀ (g2 : gG), Rm g2 c → tfX g g2 → FT g2 c 0 → ∀ m j f u (o : Int32), j + m = x + 1 → cmp (c 7 0) f u → u = gfold (dUF c) j 0 0 → (m = 0 → o = oI (dSuit c x)) → G 51 [.ref 35, .int x1, .int (nI f), .int o, .int (nI j)] [] g2 := by
    intro x hx5 hw hxx hx g2 hR hF hT m
    have hv : ∀ {o : Int32}, o = oI (dSuit c x) → o = drV c x1 := fun e => by unfold drV; rw [if_neg hx, hxx, nI_clamp (by omega)]; exact e
    induction m with
    | zero =>
      intro j f u o hj0 hcm hu ho2
      rw [hxx]
      refine r_iload (pc := 51) h dX4_dress_51 rfl ?_
      refine r_iload_n (pc := 53) h dX4_dress_53 rfl ?_
      refine r_icmp_gt (pc := 54) (tgt := 83) h dX4_dress_54 (by decide) (fun c54 => ?_) (fun c54 => absurd (nI_lt (by omega) (by omega)) c54)
      refine r_iload_n (pc := 83) h dX4_dress_83 rfl ?_
      refine r_ri t (pc := 84) dX4_dress_84 rfl ?_
      exact y_ok hR (hX.tx hF) hF.frm hw (hv (ho2 rfl))
    | succ m ih =>
      intro j f u o hj0 hcm hu ho2
      rw [hxx] at ih ⊢
      refine r_iload (pc := 51) h dX4_dress_51 rfl ?_
      refine r_iload_n (pc := 53) h dX4_dress_53 rfl ?_
      refine r_icmp_gt (pc := 54) (tgt := 83) h dX4_dress_54 (by decide) (fun c54 => absurd c54 (nI_nlt (by omega) (by omega))) (fun c54 => ?_)
      refine r_aload_n (pc := 57) h dX4_dress_57 rfl ?_
      refine r_iload (pc := 58) h dX4_dress_58 rfl ?_
      refine r_iload_n (pc := 60) h dX4_dress_60 rfl ?_
      refine r_callVi (pc := 61) (As := [_, _]) h dX4_dress_61 k_X4_243 gc_35 rfl ⟨Nat.le_of_ble_eq_true rfl, Nat.le_of_ble_eq_true rfl, Nat.le_of_ble_eq_true rfl⟩ (c_X4_dressedIn hR ho hT (by omega) hcm.1) (fun x_61 g2 hq => ?_)
      rw [dFr_eq hn6 hcm] at hq
      obtain ⟨rfl, rfl⟩ := hq
      refine r_istore_n (pc := 64) (ls2 := [_, _, _, _, _]) h dX4_dress_64 (Nat.le_of_ble_eq_true rfl) rfl ?_
      refine r_iload_n (pc := 65) h dX4_dress_65 rfl ?_
      refine r_if_lt (pc := 66) (tgt := 77) h dX4_dress_66 (by decide) (fun c66 => ?_) (fun c66 => ?_)
      · have hb : dFst c j u = none := (oI_neg (fun k hk => by have := dFst_lt hk; omega)).mp c66
        refine r_iinc (pc := 77) (ls2 := [_, _, _, _, _]) h dX4_dress_77 rfl (ic1 _) rfl ?_
        refine r_goto (pc := 80) (tgt := 51) h dX4_dress_80 (by decide) ?_
        exact ih (j + 1) f u _ (by omega) hcm (by rw [dU_s, ← hu]; unfold dUF; rw [hb]) (fun e => by rw [show x = j by omega]; unfold dSuit; rw [← hu])
      · obtain ⟨s, hb⟩ : ∃ s, dFst c j u = some s := Option.ne_none_iff_exists'.mp (fun q => c66 (by rw [q]; decide))
        have hs := dFst_lt hb
        rw [show oI (dFst c j u) = nI s by rw [hb]; rfl]
        refine r_iload_n (pc := 69) h dX4_dress_69 rfl ?_
        refine r_iconst (pc := 70) h dX4_dress_70 ci_1 ?_
        refine r_iload_n (pc := 71) h dX4_dress_71 rfl ?_
        refine r_ishl (pc := 72) h dX4_dress_72 ?_
        refine r_iconst (pc := 73) h dX4_dress_73 ci_m1 ?_
        refine r_ixor (pc := 74) h dX4_dress_74 ?_
        refine r_iand (pc := 75) h dX4_dress_75 ?_
        refine r_top (y := nI (clr f s)) h (clr_I s (by omega) f hcm.1).1 ?_
        refine r_istore_n (pc := 76) (ls2 := [_, _, _, _, _]) h dX4_dress_76 (Nat.le_of_ble_eq_true rfl) rfl ?_
        refine r_iinc (pc := 77) (ls2 := [_, _, _, _, _]) h dX4_dress_77 rfl (ic1 _) rfl ?_
        refine r_goto (pc := 80) (tgt := 51) h dX4_dress_80 (by decide) ?_
        exact ih (j + 1) (clr f s) (u ||| 1 <<< s) _ (by omega) (cmp_s hcm hs hn6) (by rw [dU_s, ← hu]; unfold dUF; rw [hb]) (fun e => by rw [show x = j by omega]; unfold dSuit; rw [← hu, hb]; rfl)
  suffices H : ∀ g2 : gG, Rm g2 c → tfX g g2 → G 0 [.ref 35, .int x1, .null, .null, .null] [] g2 from H g hR tfX.rf
  intro g2 hR hF
  refine r_iload_n (pc := 0) h dX4_dress_0 rfl ?_
  refine r_iconst (pc := 1) h dX4_dress_1 ci_m1 ?_
  refine r_icmp_lt (pc := 2) (tgt := 13) h dX4_dress_2 (by decide) (fun c2 => ?_) (fun c2 => ?_)
  · have hx : ¬ x1 = -1 := fun q => by rw [q] at c2; exact absurd c2 (by decide)
    have hn : inB x1 (c 7 1) = false := by unfold inB; rw [decide_eq_false (fun q => q.1 (Int32.lt_trans c2 (by decide)))]
    have ew : drW c x1 = -1 := by unfold drW calW whyB; rw [if_neg hx, hn]; rfl
    have hw : ¬ (-1 : Int32) = 0 := by decide
    have hok : okw (-1) := okw_1
    refine r_aload_n (pc := 13) h dX4_dress_13 rfl ?_
    refine r_iconst (pc := 14) h dX4_dress_14 ci_m1 ?_
    refine r_callVi (pc := 15) (As := [_]) h dX4_dress_15 k_X4_77 gc_35 rfl ⟨Nat.le_of_ble_eq_true rfl, Nat.le_of_ble_eq_true rfl, Nat.le_of_ble_eq_true rfl⟩ (c_X4_no (okw_in hok hw).1) (fun x_15 g2 hq => ?_)
    obtain ⟨rfl, rfl⟩ := hq
    refine r_ri t (pc := 18) dX4_dress_18 rfl ?_
    rw [ew]
    have hq := y_ref hR (hX.tx hF) hok hw (v := drV c x1)
    exact ⟨hq.1, hq.2.1, hq.2.2.1, hF.frm.tr hq.2.2.2⟩
  · refine r_iload_n (pc := 5) h dX4_dress_5 rfl ?_
    refine r_aload_n (pc := 6) h dX4_dress_6 rfl ?_
    refine r_getE (pc := 7) h dX4_dress_7 f_X4_67 sh_35 rfl (hR.nc) ?_
    refine r_icmp_lt (pc := 10) (tgt := 19) h dX4_dress_10 (by decide) (fun c10 => ?_) (fun c10 => ?_)
    · skip
      refine r_aload_n (pc := 19) h dX4_dress_19 rfl ?_
      refine r_callVv (pc := 20) (As := []) h dX4_dress_20 k_X4_240 gc_35 rfl ⟨Nat.le_of_ble_eq_true rfl, Nat.le_of_ble_eq_true rfl, Nat.le_of_ble_eq_true rfl⟩ (c_X4_findDressed hR ho) (fun g2 hq => ?_)
      obtain ⟨hR, hT, hF1⟩ := hq
      have hF := hF.tr hF1
      refine r_iconst (pc := 23) h dX4_dress_23 ci_1 ?_
      refine r_aload_n (pc := 24) h dX4_dress_24 rfl ?_
      refine r_getE (pc := 25) h dX4_dress_25 f_X4_60 sh_35 rfl (hR.ns) ?_
      refine r_ishl (pc := 28) h dX4_dress_28 ?_
      refine r_iconst (pc := 29) h dX4_dress_29 ci_1 ?_
      refine r_isub (pc := 30) h dX4_dress_30 ?_
      refine r_top (y := nI (2 ^ c 7 0 - 1)) h (full_I _ hn6) ?_
      refine r_istore_n (pc := 31) (ls2 := [_, _, _, _, _]) h dX4_dress_31 (Nat.le_of_ble_eq_true rfl) rfl ?_
      refine r_iload_n (pc := 32) h dX4_dress_32 rfl ?_
      refine r_if_ge (pc := 33) (tgt := 45) h dX4_dress_33 (by decide) (fun c33 => ?_) (fun c33 => ?_)
      · have hx : ¬ x1 = -1 := fun q => by rw [q] at c33; exact absurd c33 (by decide)
        have hb : inB x1 (c 7 1) = true := by unfold inB; exact decide_eq_true ⟨Int32.not_lt.mpr c33, Int32.not_le.mpr c10⟩
        have hw : drW c x1 = 0 := by unfold drW; rw [if_neg hx]; exact calW_n hb
        obtain ⟨x, hx5, hxx⟩ := (inB_iff (by omega)).mp hb
        refine r_bipush (pc := 45) h dX4_dress_45 cb_m9 ?_
        refine r_istore_n (pc := 47) (ls2 := [_, _, _, _, _]) h dX4_dress_47 (Nat.le_of_ble_eq_true rfl) rfl ?_
        refine r_iconst (pc := 48) h dX4_dress_48 ci_0 ?_
        refine r_istore (pc := 49) (ls2 := [_, _, _, _, _]) h dX4_dress_49 (Nat.le_of_ble_eq_true rfl) rfl ?_
        exact loop x hx5 hw hxx hx g2 hR hF hT (x + 1) 0 _ 0 _ (by omega) ⟨fc.1, by decide, fc.2⟩ rfl (fun e => absurd e (by omega))
      · have hx : x1 = -1 := eq_m1 c33 c2
        have hw : drW c x1 = 0 := if_pos hx
        refine r_aload_n (pc := 36) h dX4_dress_36 rfl ?_
        refine r_getR (pc := 37) h dX4_dress_37 f_X4_51 sh_35 rfl ?_
        refine r_iconst (pc := 40) h dX4_dress_40 ci_0 ?_
        refine r_aaload (pc := 41) h dX4_dress_41 sh_49 (vp_in_nI (show 0 < 6 by decide) (by decide)) ?_
        rw [show 49 + 1 + (nI 0).toNatClampNeg = 50 + 0 from rfl]
        refine r_iload_n (pc := 42) h dX4_dress_42 rfl ?_
        refine r_ialoadE (pc := 43) h dX4_dress_43 (shr (show 0 < 6 by omega)) (ixe (show 2 ^ c 7 0 - 1 < 64 by omega) (by decide) (hT 0 (Nat.le_refl _) (Nat.zero_le _) _ fc.1)) ?_
        refine r_ri t (pc := 44) dX4_dress_44 rfl ?_
        exact y_ok hR (hX.tx hF) hF.frm hw (by unfold drV; rw [if_pos hx, ← dFree_eq hn6 _ _ _ _ ⟨fc.1, by decide, fc.2⟩, Nat.sub_zero])
    · have hn : inB x1 (c 7 1) = false := by unfold inB; rw [decide_eq_false (fun q => q.2 (Int32.not_lt.mp c10))]
      have hx : ¬ x1 = -1 := fun q => c10 (by rw [q, nI_z, show (-1 : Int32) = zI (-1) from rfl, zI_lt (by decide) ⟨by omega, by omega⟩]; omega)
      have ew : drW c x1 = -1 := by unfold drW calW whyB; rw [if_neg hx, hn]; rfl
      have hw : ¬ (-1 : Int32) = 0 := by decide
      have hok : okw (-1) := okw_1
      refine r_aload_n (pc := 13) h dX4_dress_13 rfl ?_
      refine r_iconst (pc := 14) h dX4_dress_14 ci_m1 ?_
      refine r_callVi (pc := 15) (As := [_]) h dX4_dress_15 k_X4_77 gc_35 rfl ⟨Nat.le_of_ble_eq_true rfl, Nat.le_of_ble_eq_true rfl, Nat.le_of_ble_eq_true rfl⟩ (c_X4_no (okw_in hok hw).1) (fun x_15 g2 hq => ?_)
      obtain ⟨rfl, rfl⟩ := hq
      refine r_ri t (pc := 18) dX4_dress_18 rfl ?_
      rw [ew]
      have hq := y_ref hR (hX.tx hF) hok hw (v := drV c x1)
      exact ⟨hq.1, hq.2.1, hq.2.2.1, hF.frm.tr hq.2.2.2⟩
end TX
