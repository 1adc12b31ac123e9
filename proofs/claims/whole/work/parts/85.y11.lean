section TX
variable {g : gG} {c ck : gCt} {hk : Bool} {lt : Nat → Nat} {nl : Nat} {rv : Nat → Nat} {nr : Nat} {rf : Nat → Int32}
set_option maxRecDepth 100000 in
set_option maxHeartbeats 4000000 in
theorem y_fewest (hR : Rm g c) (hX : MSr g ck hk lt nl rv nr rf) (ho : gok c) (hd : c 7 3 ≤ 999) (v : Int32) : gCi mX4_fewest [.ref 35, .int v] g (fun y g1 => y = ansI (bndI v (nI 0) (nI 30)) (nI (fwV c v.toNatClampNeg)) ∧ Rm g1 (c) ∧ MSr g1 ck hk lt nl rv nr (rfI rf (bndI v (nI 0) (nI 30))) ∧ frm 35 58 g g1) := by
  refine gCi_of (own := RX4) (ls0 := [.ref 35, .int v, .null, .null, .null, .null, .null]) ⟨rfl, pl_X4⟩ rfl (Nat.le_of_ble_eq_true rfl) (fun G (h : gR RX4 cX4_fewest 7 280 G) (t : gTi cX4_fewest .int _ G) => ?_)
  have hn5 := hR.n5
  have hn6 := hR.n6
  have hDl : drO c < 32 := by rw [drO_m]; exact msk_lt _ hn5
  have pl : ∀ S n, c 7 3 + n ≤ 2000 → pby c S n ≤ 5 := fun S n h => by
    rw [pby_c ho h]
    have := cntP_le (P := fun i => (if bt S i = true then daysC n c 5 i else c 5 i) = 6) (Q := fun _ => True) (c 7 1) (fun _ _ _ => True.intro)
    have h2 : ∀ k, cntP (fun _ => True) k = k := fun k => by
      induction k with
      | zero => rfl
      | succ k ih => rw [cntP_s, if_pos True.intro, ih]
    rw [h2] at this
    omega
  have loop : ∀ n, n ≤ 30 → bndI (nI n) (nI 0) (nI 30) = 0 → v = nI n → ∀ (a2 : Int32) q m b (g2 : gG), m + q = drO c → Rm g2 c → tfX g g2 → b < 32 → gfold (fun m b => bst (fwV c n) (drO c) m b bc) q m b = gfold (fun m b => bst (fwV c n) (drO c) m b bc) (drO c) 0 (drO c) → G 37 [.ref 35, .int (nI n), .int a2, .int (nI (drO c)), .int (nI (pby c (drO c) n)), .int (nI b), .int (nI m)] [] g2 := by
    intro n hn hw hv a2 q
    subst hv
    have en : (nI n).toNatClampNeg = n := nI_clamp (by omega)
    have hFl : fwV c n < 32 := by rw [fwV_m]; exact msk_lt _ hn5
    have hf := bst_all (drO c) hDl (fwV c n) hFl (fw_sub ho (by omega) hn5)
    have pD := pl (drO c) n (by omega)
    induction q with
    | zero =>
      intro m b g2 hm0 hR hF hb hz
      refine r_iload (pc := 37) h dX4_fewest_37 rfl ?_
      refine r_iload_n (pc := 39) h dX4_fewest_39 rfl ?_
      refine r_icmp_ge (pc := 40) (tgt := 87) h dX4_fewest_40 (by decide) (fun c40 => ?_) (fun c40 => absurd (nI_le (by omega) (by omega)) c40)
      refine r_iload (pc := 87) h dX4_fewest_87 rfl ?_
      refine r_ri t (pc := 89) dX4_fewest_89 rfl ?_
      exact y_ok hR (hX.tx hF) hF.frm hw (by rw [en, ← hf]; exact congrArg nI hz)
    | succ q ih =>
      intro m b g2 hm0 hR hF hb hz
      have hm : m < drO c := by omega
      have b1 := bc_le m
      have b2 := bc_le b
      have pM := pl m n (by omega)
      refine r_iload (pc := 37) h dX4_fewest_37 rfl ?_
      refine r_iload_n (pc := 39) h dX4_fewest_39 rfl ?_
      refine r_icmp_ge (pc := 40) (tgt := 87) h dX4_fewest_40 (by decide) (fun c40 => absurd c40 (nI_ge hm (by omega))) (fun c40 => ?_)
      refine r_iload (pc := 43) h dX4_fewest_43 rfl ?_
      refine r_iload_n (pc := 45) h dX4_fewest_45 rfl ?_
      refine r_iconst (pc := 46) h dX4_fewest_46 ci_m1 ?_
      refine r_ixor (pc := 47) h dX4_fewest_47 ?_
      refine r_iand (pc := 48) h dX4_fewest_48 ?_
      refine r_if_ne (pc := 49) (tgt := 81) h dX4_fewest_49 (by decide) (fun c49 => ?_) (fun c49 => ?_)
      · refine r_iinc (pc := 81) (ls2 := [_, _, _, _, _, _, _]) h dX4_fewest_81 rfl (ic1 _) rfl ?_
        refine r_goto (pc := 84) (tgt := 37) h dX4_fewest_84 (by decide) ?_
        exact ih (m + 1) b g2 (by omega) hR hF hb (by rw [← hz, gfold_st, show bst (fwV c n) (drO c) m b bc = b from if_neg (fun q => c49 ((cl_bc _ hDl m (by omega)).mpr q.1))])
      · have hs : m &&& drO c = m := (cl_bc _ hDl m (by omega)).mp c49
        refine r_iload (pc := 52) h dX4_fewest_52 rfl ?_
        refine r_callSi (pc := 54) (As := [_]) h dX4_fewest_54 k_X4_261 rfl ⟨Nat.le_of_ble_eq_true rfl, Nat.le_of_ble_eq_true rfl, Nat.le_of_ble_eq_true rfl⟩ (c_X4_bits _) (fun x_54 g2 hq => ?_)
        rw [bits_bc m (by omega)] at hq
        obtain ⟨rfl, rfl⟩ := hq
        refine r_iload (pc := 57) h dX4_fewest_57 rfl ?_
        refine r_callSi (pc := 59) (As := [_]) h dX4_fewest_59 k_X4_261 rfl ⟨Nat.le_of_ble_eq_true rfl, Nat.le_of_ble_eq_true rfl, Nat.le_of_ble_eq_true rfl⟩ (c_X4_bits _) (fun x_59 g2 hq => ?_)
        rw [bits_bc b hb] at hq
        obtain ⟨rfl, rfl⟩ := hq
        refine r_icmp_ge (pc := 62) (tgt := 81) h dX4_fewest_62 (by decide) (fun c62 => ?_) (fun c62 => ?_)
        · refine r_iinc (pc := 81) (ls2 := [_, _, _, _, _, _, _]) h dX4_fewest_81 rfl (ic1 _) rfl ?_
          refine r_goto (pc := 84) (tgt := 37) h dX4_fewest_84 (by decide) ?_
          exact ih (m + 1) b g2 (by omega) hR hF hb (by rw [← hz, gfold_st, show bst (fwV c n) (drO c) m b bc = b from if_neg (fun q => by have := (nI_leI (by omega) (by omega)).mp c62; omega)])
        · refine r_aload_n (pc := 65) h dX4_fewest_65 rfl ?_
          refine r_iload (pc := 66) h dX4_fewest_66 rfl ?_
          refine r_iload_n (pc := 68) h dX4_fewest_68 rfl ?_
          refine r_callVi (pc := 69) (As := [_, _]) h dX4_fewest_69 k_X4_258 gc_35 rfl ⟨Nat.le_of_ble_eq_true rfl, Nat.le_of_ble_eq_true rfl, Nat.le_of_ble_eq_true rfl⟩ (c_X4_proposedBy hR ho hd (by omega) hn) (fun x_69 g2 hq => ?_)
          obtain ⟨rfl, hR, hF1⟩ := hq
          have hF := hF.tr hF1
          refine r_iload (pc := 72) h dX4_fewest_72 rfl ?_
          refine r_icmp_ne (pc := 74) (tgt := 81) h dX4_fewest_74 (by decide) (fun c74 => ?_) (fun c74 => ?_)
          · refine r_iinc (pc := 81) (ls2 := [_, _, _, _, _, _, _]) h dX4_fewest_81 rfl (ic1 _) rfl ?_
            refine r_goto (pc := 84) (tgt := 37) h dX4_fewest_84 (by decide) ?_
            exact ih (m + 1) b g2 (by omega) hR hF hb (by rw [← hz, gfold_st, show bst (fwV c n) (drO c) m b bc = b from if_neg (fun q => c74 (by rw [(pby_eq ho (by omega) hn5 (by omega) hs).mpr q.2.2]))])
          · refine r_iload (pc := 77) h dX4_fewest_77 rfl ?_
            refine r_istore (pc := 79) (ls2 := [_, _, _, _, _, _, _]) h dX4_fewest_79 (Nat.le_of_ble_eq_true rfl) rfl ?_
            refine r_iinc (pc := 81) (ls2 := [_, _, _, _, _, _, _]) h dX4_fewest_81 rfl (ic1 _) rfl ?_
            refine r_goto (pc := 84) (tgt := 37) h dX4_fewest_84 (by decide) ?_
            exact ih (m + 1) m g2 (by omega) hR hF (by omega) (by rw [← hz, gfold_st, show bst (fwV c n) (drO c) m b bc = m from if_pos ⟨hs, Nat.lt_of_not_le (fun z => c62 (nI_le z (by omega))), (pby_eq ho (by omega) hn5 (by omega) hs).mp ((nI_eq (by omega) (by omega)).mp c74)⟩])
  suffices H : ∀ g2 : gG, Rm g2 c → tfX g g2 → G 0 [.ref 35, .int v, .null, .null, .null, .null, .null] [] g2 from H g hR tfX.rf
  intro g2 hR hF
  refine r_iload_n (pc := 0) h dX4_fewest_0 rfl ?_
  refine r_iconst (pc := 1) h dX4_fewest_1 ci_0 ?_
  refine r_bipush (pc := 2) h dX4_fewest_2 cb_30 ?_
  refine r_callSi (pc := 4) (As := [_, _, _]) h dX4_fewest_4 k_X4_70 rfl ⟨Nat.le_of_ble_eq_true rfl, Nat.le_of_ble_eq_true rfl, Nat.le_of_ble_eq_true rfl⟩ (c_X4_bound _ _ _) (fun x_4 g2 hq => ?_)
  obtain ⟨rfl, rfl⟩ := hq
  refine r_istore_n (pc := 7) (ls2 := [_, _, _, _, _, _, _]) h dX4_fewest_7 (Nat.le_of_ble_eq_true rfl) rfl ?_
  refine r_iload_n (pc := 8) h dX4_fewest_8 rfl ?_
  refine r_if_eq (pc := 9) (tgt := 18) h dX4_fewest_9 (by decide) (fun c9 => ?_) (fun c9 => ?_)
  · have hw : bndI v (nI 0) (nI 30) = 0 := c9
    obtain ⟨n, -, hn, hvn⟩ := bnd_nat (by decide) (by decide) hw
    subst hvn
    refine r_aload_n (pc := 18) h dX4_fewest_18 rfl ?_
    refine r_callVi (pc := 19) (As := []) h dX4_fewest_19 k_X4_255 gc_35 rfl ⟨Nat.le_of_ble_eq_true rfl, Nat.le_of_ble_eq_true rfl, Nat.le_of_ble_eq_true rfl⟩ (c_X4_dressedOnes hR ho) (fun x_19 g2 hq => ?_)
    obtain ⟨rfl, rfl⟩ := hq
    refine r_istore_n (pc := 22) (ls2 := [_, _, _, _, _, _, _]) h dX4_fewest_22 (Nat.le_of_ble_eq_true rfl) rfl ?_
    refine r_aload_n (pc := 23) h dX4_fewest_23 rfl ?_
    refine r_iload_n (pc := 24) h dX4_fewest_24 rfl ?_
    refine r_iload_n (pc := 25) h dX4_fewest_25 rfl ?_
    refine r_callVi (pc := 26) (As := [_, _]) h dX4_fewest_26 k_X4_258 gc_35 rfl ⟨Nat.le_of_ble_eq_true rfl, Nat.le_of_ble_eq_true rfl, Nat.le_of_ble_eq_true rfl⟩ (c_X4_proposedBy hR ho hd (by omega) hn) (fun x_26 g2 hq => ?_)
    obtain ⟨rfl, hR, hF1⟩ := hq
    have hF := hF.tr hF1
    refine r_istore (pc := 29) (ls2 := [_, _, _, _, _, _, _]) h dX4_fewest_29 (Nat.le_of_ble_eq_true rfl) rfl ?_
    refine r_iload_n (pc := 31) h dX4_fewest_31 rfl ?_
    refine r_istore (pc := 32) (ls2 := [_, _, _, _, _, _, _]) h dX4_fewest_32 (Nat.le_of_ble_eq_true rfl) rfl ?_
    refine r_iconst (pc := 34) h dX4_fewest_34 ci_0 ?_
    refine r_istore (pc := 35) (ls2 := [_, _, _, _, _, _, _]) h dX4_fewest_35 (Nat.le_of_ble_eq_true rfl) rfl ?_
    exact loop n hn hw rfl _ (drO c) 0 (drO c) g2 (by omega) hR hF hDl rfl
  · have hw : ¬ bndI v (nI 0) (nI 30) = 0 := c9
    have hok : okw (bndI v (nI 0) (nI 30)) := okw_n
    refine r_aload_n (pc := 12) h dX4_fewest_12 rfl ?_
    refine r_iload_n (pc := 13) h dX4_fewest_13 rfl ?_
    refine r_callVi (pc := 14) (As := [_]) h dX4_fewest_14 k_X4_77 gc_35 rfl ⟨Nat.le_of_ble_eq_true rfl, Nat.le_of_ble_eq_true rfl, Nat.le_of_ble_eq_true rfl⟩ (c_X4_no (okw_in hok hw).1) (fun x_14 g2 hq => ?_)
    obtain ⟨rfl, rfl⟩ := hq
    refine r_ri t (pc := 17) dX4_fewest_17 rfl ?_
    have hq := y_ref hR (hX.tx hF) hok hw (v := nI (fwV c v.toNatClampNeg))
    exact ⟨hq.1, hq.2.1, hq.2.2.1, hF.frm.tr hq.2.2.2⟩
end TX
