section TX
variable {g : gG} {c ck : gCt} {hk : Bool} {lt : Nat → Nat} {nl : Nat} {rv : Nat → Nat} {nr : Nat} {rf : Nat → Int32}
set_option maxRecDepth 100000 in
set_option maxHeartbeats 4000000 in
theorem c_X4_isSo {g : gG} {c ck : gCt} {hk : Bool} {lt : Nat → Nat} {nl : Nat} {rv : Nat → Nat} {nr : Nat} {rf : Nat → Int32} (hR : Rm g c) (hX : MSr g ck hk lt nl rv nr rf) (ho : gok c) {i : Nat} (hi : i < c 7 1) (hd : c 7 3 + 17 ≤ 2000) : gCi mX4_isSo [.ref 35, .int (nI i)] g (fun y g1 => y = bI (sayR rv i nr 0 c) ∧ Rm g1 c ∧ tfX g g1) := by
  refine gCi_of (own := RX4) (ls0 := [.ref 35, .int (nI i), .null, .null]) ⟨rfl, pl_X4⟩ rfl (Nat.le_of_ble_eq_true rfl) (fun G (h : gR RX4 cX4_isSo 5 200 G) (t : gTi cX4_isSo .boolean _ G) => ?_)
  have hn5 := hR.n5
  have hn6 := hR.n6
  have h16 := hX.2.2.1.2.1
  have fin : ∀ (o z : Int32) (g2 : gG), Rk g2 84 c → tfX g g2 → o = bI (sayR rv i nr 0 c) → G 51 [.ref 35, .int (nI i), .int o, .int z] [] g2 := by
    intro o z g2 hK hF ho2
    refine r_aload_n (pc := 51) h dX4_isSo_51 rfl ?_
    refine r_callVv (pc := 52) (As := []) h dX4_isSo_52 k_X4_222 gc_35 rfl ⟨Nat.le_of_ble_eq_true rfl, Nat.le_of_ble_eq_true rfl, Nat.le_of_ble_eq_true rfl⟩ (c_X4_forgets hK) (fun g2 hq => ?_)
    obtain ⟨hR, hF1⟩ := hq
    have hF1 := hF1.tf
    have hF := hF.tr hF1.tx
    refine r_iload_n (pc := 55) h dX4_isSo_55 rfl ?_
    refine r_ri t (pc := 56) dX4_isSo_56 (by rw [ho2]; exact bI_nar _) ?_
    exact ⟨ho2, hR, hF⟩
  have don : ∀ j (g2 : gG), j ≤ 16 → Rk g2 84 c → tfX g g2 → nI 0 = bI (sayR rv i nr 0 c) → G 8 [.ref 35, .int (nI i), .int (nI 0), .int (nI j)] [] g2 := by
    intro j g2 hj hK hF hz
    refine r_iload_n (pc := 8) h dX4_isSo_8 rfl ?_
    refine r_aload_n (pc := 9) h dX4_isSo_9 rfl ?_
    refine r_getE (pc := 10) h dX4_isSo_10 f_X4_295 sh_35 rfl ((hX.tx hF).2.2.1.1) ?_
    refine r_icmp_ge (pc := 13) (tgt := 51) h dX4_isSo_13 (by decide) (fun c13 => ?_) (fun c13 => ?_)
    · exact fin _ _ g2 hK hF hz
    · refine r_iload_n (pc := 16) h dX4_isSo_16 rfl ?_
      refine r_if_eq (pc := 17) (tgt := 51) h dX4_isSo_17 (by decide) (fun c17 => ?_) (fun c17 => absurd (rfl) c17)
      exact fin _ _ g2 hK hF hz
  have loop : ∀ m j (d e0 : gCt) (g2 : gG), j + m = nr → Rm g2 e0 → tfX g g2 → Rk g2 84 c → gok e0 → e0 7 1 = c 7 1 → e0 7 3 + m + 1 ≤ 2000 → agr i e0 (if j = 0 then d else lvD i d) → sayR rv i m j d = sayR rv i nr 0 c → G 8 [.ref 35, .int (nI i), .int (nI 1), .int (nI j)] [] g2 := by
    intro m
    induction m with
    | zero =>
      intro j d e0 g2 hj0 hR hF hK ok e1 e3 hag hz
      refine r_iload_n (pc := 8) h dX4_isSo_8 rfl ?_
      refine r_aload_n (pc := 9) h dX4_isSo_9 rfl ?_
      refine r_getE (pc := 10) h dX4_isSo_10 f_X4_295 sh_35 rfl ((hX.tx hF).2.2.1.1) ?_
      refine r_icmp_ge (pc := 13) (tgt := 51) h dX4_isSo_13 (by decide) (fun c13 => ?_) (fun c13 => absurd (nI_le (by omega) (by omega)) c13)
      exact fin _ _ g2 hK hF (by rw [← hz]; rfl)
    | succ m ih =>
      intro j d e0 g2 hj0 hR hF hK ok e1 e3 hag hz
      have hj : j < nr := by omega
      have hr := (hX.2.2.1.2.2 j hj).2
      have hi9 : i < e0 7 1 := by rw [e1]; exact hi
      have e5 : e0 5 i = (if j = 0 then d else lvD i d) 5 i := hag.2.1.2.2.1
      have h5 := (ok.2.2.2 i hi9).2.2.1
      have oD := dayC_ok ok (by omega)
      refine r_iload_n (pc := 8) h dX4_isSo_8 rfl ?_
      refine r_aload_n (pc := 9) h dX4_isSo_9 rfl ?_
      refine r_getE (pc := 10) h dX4_isSo_10 f_X4_295 sh_35 rfl ((hX.tx hF).2.2.1.1) ?_
      refine r_icmp_ge (pc := 13) (tgt := 51) h dX4_isSo_13 (by decide) (fun c13 => absurd c13 (nI_ge hj (by omega))) (fun c13 => ?_)
      refine r_iload_n (pc := 16) h dX4_isSo_16 rfl ?_
      refine r_if_eq (pc := 17) (tgt := 51) h dX4_isSo_17 (by decide) (fun c17 => absurd c17 (by decide)) (fun c17 => ?_)
      refine r_aload_n (pc := 20) h dX4_isSo_20 rfl ?_
      refine r_getR (pc := 21) h dX4_isSo_21 f_X4_28 sh_35 rfl ?_
      refine r_iload_n (pc := 24) h dX4_isSo_24 rfl ?_
      refine r_ialoadE (pc := 25) h dX4_isSo_25 sh_42 (hR.sa hi9) ?_
      refine r_aload_n (pc := 26) h dX4_isSo_26 rfl ?_
      refine r_getR (pc := 27) h dX4_isSo_27 f_X4_57 sh_35 rfl ?_
      refine r_iload_n (pc := 30) h dX4_isSo_30 rfl ?_
      refine r_ialoadE (pc := 31) h dX4_isSo_31 sh_57 ((hX.tx hF).ro hj) ?_
      refine r_icmp_ne (pc := 32) (tgt := 39) h dX4_isSo_32 (by decide) (fun c32 => ?_) (fun c32 => ?_)
      · have q : ¬ (if j = 0 then d else lvD i d) 5 i = rv j := fun z => c32 (by rw [e5, z])
        refine r_iconst (pc := 39) h dX4_isSo_39 ci_0 ?_
        refine r_istore_n (pc := 40) (ls2 := [_, _, _, _]) h dX4_isSo_40 (Nat.le_of_ble_eq_true rfl) rfl ?_
        refine r_aload_n (pc := 41) h dX4_isSo_41 rfl ?_
        refine r_callVv (pc := 42) (As := []) h dX4_isSo_42 k_X4_200 gc_35 rfl ⟨Nat.le_of_ble_eq_true rfl, Nat.le_of_ble_eq_true rfl, Nat.le_of_ble_eq_true rfl⟩ (c_X4_goesDay hR ok (by omega)) (fun g2 hq => ?_)
        obtain ⟨hR, hF1⟩ := hq
        have hK := hK.fm hF1
        have hF1 := hF1.tf
        have hF := hF.tr hF1.tx
        refine r_iinc (pc := 45) (ls2 := [_, _, _, _]) h dX4_isSo_45 rfl (ic1 _) rfl ?_
        refine r_goto (pc := 48) (tgt := 8) h dX4_isSo_48 (by decide) ?_
        exact don (j + 1) g2 (by omega) hK hF (by rw [← hz, sayR, if_neg q]; rfl)
      · have q : (if j = 0 then d else lvD i d) 5 i = rv j := by rw [← e5]; exact (nI_eq (by omega) (by omega)).mp c32
        refine r_iconst (pc := 35) h dX4_isSo_35 ci_1 ?_
        refine r_goto (pc := 36) (tgt := 40) h dX4_isSo_36 (by decide) ?_
        refine r_istore_n (pc := 40) (ls2 := [_, _, _, _]) h dX4_isSo_40 (Nat.le_of_ble_eq_true rfl) rfl ?_
        refine r_aload_n (pc := 41) h dX4_isSo_41 rfl ?_
        refine r_callVv (pc := 42) (As := []) h dX4_isSo_42 k_X4_200 gc_35 rfl ⟨Nat.le_of_ble_eq_true rfl, Nat.le_of_ble_eq_true rfl, Nat.le_of_ble_eq_true rfl⟩ (c_X4_goesDay hR ok (by omega)) (fun g2 hq => ?_)
        obtain ⟨hR, hF1⟩ := hq
        have hK := hK.fm hF1
        have hF1 := hF1.tf
        have hF := hF.tr hF1.tx
        refine r_iinc (pc := 45) (ls2 := [_, _, _, _]) h dX4_isSo_45 rfl (ic1 _) rfl ?_
        refine r_goto (pc := 48) (tgt := 8) h dX4_isSo_48 (by decide) ?_
        exact ih (j + 1) (if j = 0 then d else lvD i d) (dayC e0) g2 (by omega) hR hF hK oD.2.2.2 (oD.2.1.trans e1) (by rw [oD.2.2.1]; omega) (by rw [if_neg (Nat.succ_ne_zero j)]; exact agr_day hag hi9) (by rw [← hz, sayR, if_pos q])
  have hF : tfX g g := tfX.rf
  refine r_aload_n (pc := 0) h dX4_isSo_0 rfl ?_
  refine r_callVv (pc := 1) (As := []) h dX4_isSo_1 k_X4_219 gc_35 rfl ⟨Nat.le_of_ble_eq_true rfl, Nat.le_of_ble_eq_true rfl, Nat.le_of_ble_eq_true rfl⟩ (c_X4_thinks hR) (fun g2 hq => ?_)
  obtain ⟨hK, hF1⟩ := hq
  have hR := hR.kf hF1
  have hF1 := hF1.tf
  have hF := hF.tr hF1.tx
  refine r_iconst (pc := 4) h dX4_isSo_4 ci_1 ?_
  refine r_istore_n (pc := 5) (ls2 := [_, _, _, _]) h dX4_isSo_5 (Nat.le_of_ble_eq_true rfl) rfl ?_
  refine r_iconst (pc := 6) h dX4_isSo_6 ci_0 ?_
  refine r_istore_n (pc := 7) (ls2 := [_, _, _, _]) h dX4_isSo_7 (Nat.le_of_ble_eq_true rfl) rfl ?_
  exact loop nr 0 c c g2 (by omega) hR hF hK ho rfl (by omega) agr_rf rfl
set_option maxRecDepth 100000 in
set_option maxHeartbeats 4000000 in
theorem c_X4_bitsFor_0 {g : gG} {c ck : gCt} {hk : Bool} {lt : Nat → Nat} {nl : Nat} {rv : Nat → Nat} {nr : Nat} {rf : Nat → Int32} (hR : Rm g c) (hX : MSr g ck hk lt nl rv nr rf) (ho : gok c) (hd : c 7 3 ≤ 999) {s i : Nat} (hs : s < c 7 0) (hi : i < c 7 1) : gCi mX4_bitsFor [.ref 35, .ref 37, .int (nI s), .int (nI i), .int (nI 6)] g (fun y g1 => y = nI (wiT c rv nr s 0 i) ∧ Rm g1 c ∧ tfX g g1) := by
  refine gCi_of (own := RX4) (ls0 := [.ref 35, .ref 37, .int (nI s), .int (nI i), .int (nI 6), .null, .null, .null]) ⟨rfl, pl_X4⟩ rfl (Nat.le_of_ble_eq_true rfl) (fun G (h : gR RX4 cX4_bitsFor 6 240 G) (t : gTi cX4_bitsFor .int _ G) => ?_)
  have hn5 := hR.n5
  have hn6 := hR.n6
  have loop : ∀ m v a p (g2 : gG), v + m = 6 → Rm g2 (cup c 0 s p) → tfX g g2 → a < 2 ^ 10 → gfold (wiF c rv nr s 0 i) m v a = wiT c rv nr s 0 i → G 11 [.ref 35, .ref 37, .int (nI s), .int (nI i), .int (nI 6), .int (nI (c 0 s)), .int (nI a), .int (nI v)] [] g2 := by
    intro m
    induction m with
    | zero =>
      intro v a p g2 hv0 hR hF hal hz
      refine r_iload (pc := 11) h dX4_bitsFor_11 rfl ?_
      refine r_iload (pc := 13) h dX4_bitsFor_13 rfl ?_
      refine r_icmp_ge (pc := 15) (tgt := 50) h dX4_bitsFor_15 (by decide) (fun c15 => ?_) (fun c15 => absurd (nI_le (by omega) (by omega)) c15)
      refine r_aload_n (pc := 50) h dX4_bitsFor_50 rfl ?_
      refine r_iload_n (pc := 51) h dX4_bitsFor_51 rfl ?_
      refine r_iload (pc := 52) h dX4_bitsFor_52 rfl ?_
      refine r_iastore (pc := 54) h dX4_bitsFor_54 sh_37 (hR.si (show s < cup c 0 s p 7 0 from hs)) ?_
      obtain ⟨hR, hF⟩ := Rm.wrX hF (hR.u_kd (show s < cup c 0 s p 7 0 from hs) (c 0 s)) (by decide)
      generalize gup g2 37 _ _ = g2 at hR hF ⊢
      rw [cup_twice, cup_id] at hR
      refine r_iload (pc := 55) h dX4_bitsFor_55 rfl ?_
      refine r_ri t (pc := 57) dX4_bitsFor_57 rfl ?_
      exact ⟨by rw [← hz]; rfl, hR, hF⟩
    | succ m ih =>
      intro v a p g2 hv0 hR hF hal hz
      have hv : v < 6 := by omega
      refine r_iload (pc := 11) h dX4_bitsFor_11 rfl ?_
      refine r_iload (pc := 13) h dX4_bitsFor_13 rfl ?_
      refine r_icmp_ge (pc := 15) (tgt := 50) h dX4_bitsFor_15 (by decide) (fun c15 => absurd c15 (nI_ge hv (by decide))) (fun c15 => ?_)
      refine r_aload_n (pc := 18) h dX4_bitsFor_18 rfl ?_
      refine r_iload_n (pc := 19) h dX4_bitsFor_19 rfl ?_
      refine r_iload (pc := 20) h dX4_bitsFor_20 rfl ?_
      refine r_iastore (pc := 22) h dX4_bitsFor_22 sh_37 (hR.si (show s < cup c 0 s p 7 0 from hs)) ?_
      obtain ⟨hR, hF⟩ := Rm.wrX hF (hR.u_kd (show s < cup c 0 s p 7 0 from hs) v) (by decide)
      generalize gup g2 37 _ _ = g2 at hR hF ⊢
      rw [cup_twice] at hR
      refine r_iload (pc := 23) h dX4_bitsFor_23 rfl ?_
      refine r_aload_n (pc := 25) h dX4_bitsFor_25 rfl ?_
      refine r_iload_n (pc := 26) h dX4_bitsFor_26 rfl ?_
      refine r_callVi (pc := 27) (As := [_]) h dX4_bitsFor_27 k_X4_298 gc_35 rfl ⟨Nat.le_of_ble_eq_true rfl, Nat.le_of_ble_eq_true rfl, Nat.le_of_ble_eq_true rfl⟩ (c_X4_isSo hR (hX.tx hF) (gok_0 ho (by omega)) (show i < cup c 0 s v 7 1 from hi) (by show c 7 3 + 17 ≤ 2000; omega)) (fun x_27 g2 hq => ?_)
      obtain ⟨rfl, hR, hF1⟩ := hq
      have hF := hF.tr hF1
      refine r_if_eq (pc := 30) (tgt := 40) h dX4_bitsFor_30 (by decide) (fun c30 => ?_) (fun c30 => ?_)
      · have hb : sayR rv i nr 0 (cup c 0 s v) = false := (bI_0 _).mp c30
        have e : wiF c rv nr s 0 i v a = a := by unfold wiF; rw [if_neg (by rw [hb]; decide)]
        have ez : nI a ||| nI 0 = nI a := by rw [nI00]; exact Int32.or_zero
        refine r_iconst (pc := 40) h dX4_bitsFor_40 ci_0 ?_
        refine r_ior (pc := 41) h dX4_bitsFor_41 ?_
        refine r_top h ez ?_
        refine r_istore (pc := 42) (ls2 := [_, _, _, _, _, _, _, _]) h dX4_bitsFor_42 (Nat.le_of_ble_eq_true rfl) rfl ?_
        refine r_iinc (pc := 44) (ls2 := [_, _, _, _, _, _, _, _]) h dX4_bitsFor_44 rfl (ic1 _) rfl ?_
        refine r_goto (pc := 47) (tgt := 11) h dX4_bitsFor_47 (by decide) ?_
        exact ih (v + 1) _ v g2 (by omega) hR hF (hal) (by rw [← e]; exact hz)
      · have hb : sayR rv i nr 0 (cup c 0 s v) = true := by simpa using mt (bI_0 _).mpr c30
        have e : wiF c rv nr s 0 i v a = a ||| 1 <<< v := by unfold wiF; rw [if_pos hb]
        have ez : nI a ||| nI 1 <<< (nI v &&& 31) = nI (a ||| 1 <<< v) := or_10 (by omega)
        refine r_iconst (pc := 33) h dX4_bitsFor_33 ci_1 ?_
        refine r_iload (pc := 34) h dX4_bitsFor_34 rfl ?_
        refine r_ishl (pc := 36) h dX4_bitsFor_36 ?_
        refine r_goto (pc := 37) (tgt := 41) h dX4_bitsFor_37 (by decide) ?_
        refine r_ior (pc := 41) h dX4_bitsFor_41 ?_
        refine r_top h ez ?_
        refine r_istore (pc := 42) (ls2 := [_, _, _, _, _, _, _, _]) h dX4_bitsFor_42 (Nat.le_of_ble_eq_true rfl) rfl ?_
        refine r_iinc (pc := 44) (ls2 := [_, _, _, _, _, _, _, _]) h dX4_bitsFor_44 rfl (ic1 _) rfl ?_
        refine r_goto (pc := 47) (tgt := 11) h dX4_bitsFor_47 (by decide) ?_
        exact ih (v + 1) _ v g2 (by omega) hR hF (or_l10 hal (by omega)) (by rw [← e]; exact hz)
  refine r_aload_n (pc := 0) h dX4_bitsFor_0 rfl ?_
  refine r_iload_n (pc := 1) h dX4_bitsFor_1 rfl ?_
  refine r_ialoadE (pc := 2) h dX4_bitsFor_2 sh_37 (hR.kd hs) ?_
  refine r_istore (pc := 3) (ls2 := [_, _, _, _, _, _, _, _]) h dX4_bitsFor_3 (Nat.le_of_ble_eq_true rfl) rfl ?_
  refine r_iconst (pc := 5) h dX4_bitsFor_5 ci_0 ?_
  refine r_istore (pc := 6) (ls2 := [_, _, _, _, _, _, _, _]) h dX4_bitsFor_6 (Nat.le_of_ble_eq_true rfl) rfl ?_
  refine r_iconst (pc := 8) h dX4_bitsFor_8 ci_0 ?_
  refine r_istore (pc := 9) (ls2 := [_, _, _, _, _, _, _, _]) h dX4_bitsFor_9 (Nat.le_of_ble_eq_true rfl) rfl ?_
  exact loop 6 0 0 (c 0 s) g rfl (by rw [cup_id]; exact hR) tfX.rf (by decide) rfl
set_option maxRecDepth 100000 in
set_option maxHeartbeats 4000000 in
theorem c_X4_bitsFor_1 {g : gG} {c ck : gCt} {hk : Bool} {lt : Nat → Nat} {nl : Nat} {rv : Nat → Nat} {nr : Nat} {rf : Nat → Int32} (hR : Rm g c) (hX : MSr g ck hk lt nl rv nr rf) (ho : gok c) (hd : c 7 3 ≤ 999) {s i : Nat} (hs : s < c 7 0) (hi : i < c 7 1) : gCi mX4_bitsFor [.ref 35, .ref 38, .int (nI s), .int (nI i), .int (nI 10)] g (fun y g1 => y = nI (wiT c rv nr s 1 i) ∧ Rm g1 c ∧ tfX g g1) := by
  refine gCi_of (own := RX4) (ls0 := [.ref 35, .ref 38, .int (nI s), .int (nI i), .int (nI 10), .null, .null, .null]) ⟨rfl, pl_X4⟩ rfl (Nat.le_of_ble_eq_true rfl) (fun G (h : gR RX4 cX4_bitsFor 6 240 G) (t : gTi cX4_bitsFor .int _ G) => ?_)
  have hn5 := hR.n5
  have hn6 := hR.n6
  have loop : ∀ m v a p (g2 : gG), v + m = 10 → Rm g2 (cup c 1 s p) → tfX g g2 → a < 2 ^ 10 → gfold (wiF c rv nr s 1 i) m v a = wiT c rv nr s 1 i → G 11 [.ref 35, .ref 38, .int (nI s), .int (nI i), .int (nI 10), .int (nI (c 1 s)), .int (nI a), .int (nI v)] [] g2 := by
    intro m
    induction m with
    | zero =>
      intro v a p g2 hv0 hR hF hal hz
      refine r_iload (pc := 11) h dX4_bitsFor_11 rfl ?_
      refine r_iload (pc := 13) h dX4_bitsFor_13 rfl ?_
      refine r_icmp_ge (pc := 15) (tgt := 50) h dX4_bitsFor_15 (by decide) (fun c15 => ?_) (fun c15 => absurd (nI_le (by omega) (by omega)) c15)
      refine r_aload_n (pc := 50) h dX4_bitsFor_50 rfl ?_
      refine r_iload_n (pc := 51) h dX4_bitsFor_51 rfl ?_
      refine r_iload (pc := 52) h dX4_bitsFor_52 rfl ?_
      refine r_iastore (pc := 54) h dX4_bitsFor_54 sh_38 (hR.si (show s < cup c 1 s p 7 0 from hs)) ?_
      obtain ⟨hR, hF⟩ := Rm.wrX hF (hR.u_fg (show s < cup c 1 s p 7 0 from hs) (c 1 s)) (by decide)
      generalize gup g2 38 _ _ = g2 at hR hF ⊢
      rw [cup_twice, cup_id] at hR
      refine r_iload (pc := 55) h dX4_bitsFor_55 rfl ?_
      refine r_ri t (pc := 57) dX4_bitsFor_57 rfl ?_
      exact ⟨by rw [← hz]; rfl, hR, hF⟩
    | succ m ih =>
      intro v a p g2 hv0 hR hF hal hz
      have hv : v < 10 := by omega
      refine r_iload (pc := 11) h dX4_bitsFor_11 rfl ?_
      refine r_iload (pc := 13) h dX4_bitsFor_13 rfl ?_
      refine r_icmp_ge (pc := 15) (tgt := 50) h dX4_bitsFor_15 (by decide) (fun c15 => absurd c15 (nI_ge hv (by decide))) (fun c15 => ?_)
      refine r_aload_n (pc := 18) h dX4_bitsFor_18 rfl ?_
      refine r_iload_n (pc := 19) h dX4_bitsFor_19 rfl ?_
      refine r_iload (pc := 20) h dX4_bitsFor_20 rfl ?_
      refine r_iastore (pc := 22) h dX4_bitsFor_22 sh_38 (hR.si (show s < cup c 1 s p 7 0 from hs)) ?_
      obtain ⟨hR, hF⟩ := Rm.wrX hF (hR.u_fg (show s < cup c 1 s p 7 0 from hs) v) (by decide)
      generalize gup g2 38 _ _ = g2 at hR hF ⊢
      rw [cup_twice] at hR
      refine r_iload (pc := 23) h dX4_bitsFor_23 rfl ?_
      refine r_aload_n (pc := 25) h dX4_bitsFor_25 rfl ?_
      refine r_iload_n (pc := 26) h dX4_bitsFor_26 rfl ?_
      refine r_callVi (pc := 27) (As := [_]) h dX4_bitsFor_27 k_X4_298 gc_35 rfl ⟨Nat.le_of_ble_eq_true rfl, Nat.le_of_ble_eq_true rfl, Nat.le_of_ble_eq_true rfl⟩ (c_X4_isSo hR (hX.tx hF) (gok_1 ho (by omega)) (show i < cup c 1 s v 7 1 from hi) (by show c 7 3 + 17 ≤ 2000; omega)) (fun x_27 g2 hq => ?_)
      obtain ⟨rfl, hR, hF1⟩ := hq
      have hF := hF.tr hF1
      refine r_if_eq (pc := 30) (tgt := 40) h dX4_bitsFor_30 (by decide) (fun c30 => ?_) (fun c30 => ?_)
      · have hb : sayR rv i nr 0 (cup c 1 s v) = false := (bI_0 _).mp c30
        have e : wiF c rv nr s 1 i v a = a := by unfold wiF; rw [if_neg (by rw [hb]; decide)]
        have ez : nI a ||| nI 0 = nI a := by rw [nI00]; exact Int32.or_zero
        refine r_iconst (pc := 40) h dX4_bitsFor_40 ci_0 ?_
        refine r_ior (pc := 41) h dX4_bitsFor_41 ?_
        refine r_top h ez ?_
        refine r_istore (pc := 42) (ls2 := [_, _, _, _, _, _, _, _]) h dX4_bitsFor_42 (Nat.le_of_ble_eq_true rfl) rfl ?_
        refine r_iinc (pc := 44) (ls2 := [_, _, _, _, _, _, _, _]) h dX4_bitsFor_44 rfl (ic1 _) rfl ?_
        refine r_goto (pc := 47) (tgt := 11) h dX4_bitsFor_47 (by decide) ?_
        exact ih (v + 1) _ v g2 (by omega) hR hF (hal) (by rw [← e]; exact hz)
      · have hb : sayR rv i nr 0 (cup c 1 s v) = true := by simpa using mt (bI_0 _).mpr c30
        have e : wiF c rv nr s 1 i v a = a ||| 1 <<< v := by unfold wiF; rw [if_pos hb]
        have ez : nI a ||| nI 1 <<< (nI v &&& 31) = nI (a ||| 1 <<< v) := or_10 (by omega)
        refine r_iconst (pc := 33) h dX4_bitsFor_33 ci_1 ?_
        refine r_iload (pc := 34) h dX4_bitsFor_34 rfl ?_
        refine r_ishl (pc := 36) h dX4_bitsFor_36 ?_
        refine r_goto (pc := 37) (tgt := 41) h dX4_bitsFor_37 (by decide) ?_
        refine r_ior (pc := 41) h dX4_bitsFor_41 ?_
        refine r_top h ez ?_
        refine r_istore (pc := 42) (ls2 := [_, _, _, _, _, _, _, _]) h dX4_bitsFor_42 (Nat.le_of_ble_eq_true rfl) rfl ?_
        refine r_iinc (pc := 44) (ls2 := [_, _, _, _, _, _, _, _]) h dX4_bitsFor_44 rfl (ic1 _) rfl ?_
        refine r_goto (pc := 47) (tgt := 11) h dX4_bitsFor_47 (by decide) ?_
        exact ih (v + 1) _ v g2 (by omega) hR hF (or_l10 hal (by omega)) (by rw [← e]; exact hz)
  refine r_aload_n (pc := 0) h dX4_bitsFor_0 rfl ?_
  refine r_iload_n (pc := 1) h dX4_bitsFor_1 rfl ?_
  refine r_ialoadE (pc := 2) h dX4_bitsFor_2 sh_38 (hR.fg hs) ?_
  refine r_istore (pc := 3) (ls2 := [_, _, _, _, _, _, _, _]) h dX4_bitsFor_3 (Nat.le_of_ble_eq_true rfl) rfl ?_
  refine r_iconst (pc := 5) h dX4_bitsFor_5 ci_0 ?_
  refine r_istore (pc := 6) (ls2 := [_, _, _, _, _, _, _, _]) h dX4_bitsFor_6 (Nat.le_of_ble_eq_true rfl) rfl ?_
  refine r_iconst (pc := 8) h dX4_bitsFor_8 ci_0 ?_
  refine r_istore (pc := 9) (ls2 := [_, _, _, _, _, _, _, _]) h dX4_bitsFor_9 (Nat.le_of_ble_eq_true rfl) rfl ?_
  exact loop 10 0 0 (c 1 s) g rfl (by rw [cup_id]; exact hR) tfX.rf (by decide) rfl
set_option maxRecDepth 100000 in
set_option maxHeartbeats 4000000 in
theorem y_whatIs (hR : Rm g c) (hX : MSr g ck hk lt nl rv nr rf) (ho : gok c) (hd : c 7 3 ≤ 999) (x w : Int32) : gCi mX4_whatIs [.ref 35, .int x, .int w] g (fun y g1 => y = ansI (wiW c x w) (nI (wiV c rv nr x.toNatClampNeg w.toNatClampNeg)) ∧ Rm g1 (c) ∧ MSr g1 ck hk lt nl rv nr (rfI rf (wiW c x w)) ∧ frm 35 58 g g1) := by
  refine gCi_of (own := RX4) (ls0 := [.ref 35, .int x, .int w, .null, .null]) ⟨rfl, pl_X4⟩ rfl (Nat.le_of_ble_eq_true rfl) (fun G (h : gR RX4 cX4_whatIs 7 280 G) (t : gTi cX4_whatIs .int _ G) => ?_)
  have hn5 := hR.n5
  have hn6 := hR.n6
  suffices H : ∀ g2 : gG, Rm g2 c → tfX g g2 → G 0 [.ref 35, .int x, .int w, .null, .null] [] g2 from H g hR tfX.rf
  intro g2 hR hF
  refine r_aload_n (pc := 0) h dX4_whatIs_0 rfl ?_
  refine r_iload_n (pc := 1) h dX4_whatIs_1 rfl ?_
  refine r_callVi (pc := 2) (As := [_]) h dX4_whatIs_2 k_X4_109 gc_35 rfl ⟨Nat.le_of_ble_eq_true rfl, Nat.le_of_ble_eq_true rfl, Nat.le_of_ble_eq_true rfl⟩ (c_X4_isSuit hR x) (fun x_2 g2 hq => ?_)
  obtain ⟨rfl, rfl⟩ := hq
  refine r_if_ne (pc := 5) (tgt := 12) h dX4_whatIs_5 (by decide) (fun c5 => ?_) (fun c5 => ?_)
  · have hb : inB x (c 7 0) = true := by simpa using mt (bI_0 (inB x (c 7 0))).mpr c5
    have hc : sufW c x = 0 := by unfold sufW whyB; rw [if_pos hb]; rfl
    refine r_iload_n (pc := 12) h dX4_whatIs_12 rfl ?_
    refine r_iconst (pc := 13) h dX4_whatIs_13 ci_0 ?_
    refine r_iconst (pc := 14) h dX4_whatIs_14 ci_1 ?_
    refine r_callSi (pc := 15) (As := [_, _, _]) h dX4_whatIs_15 k_X4_88 rfl ⟨Nat.le_of_ble_eq_true rfl, Nat.le_of_ble_eq_true rfl, Nat.le_of_ble_eq_true rfl⟩ (c_X4_isIn _ _ _) (fun x_15 g2 hq => ?_)
    rw [isIn_inB (by decide)] at hq
    obtain ⟨rfl, rfl⟩ := hq
    refine r_if_ne (pc := 18) (tgt := 26) h dX4_whatIs_18 (by decide) (fun c18 => ?_) (fun c18 => ?_)
    · have hb2 : inB w (1 + 1) = true := by simpa using mt (bI_0 (inB w (1 + 1))).mpr c18
      have hw : wiW c x w = 0 := fst_0.mpr ⟨hc, by unfold whyB; rw [if_pos hb2]; rfl, rfl⟩
      obtain ⟨s, hs, hxs⟩ := (inB_iff (by omega)).mp hb
      obtain ⟨k, hk3, hwk⟩ := (inB_iff (by decide)).mp hb2
      subst hxs; subst hwk
      have es : (nI s).toNatClampNeg = s := nI_clamp (by omega)
      have ek : (nI k).toNatClampNeg = k := nI_clamp (by omega)
      refine r_iconst (pc := 26) h dX4_whatIs_26 ci_0 ?_
      refine r_istore_n (pc := 27) (ls2 := [_, _, _, _, _]) h dX4_whatIs_27 (Nat.le_of_ble_eq_true rfl) rfl ?_
      refine r_iload_n (pc := 28) h dX4_whatIs_28 rfl ?_
      refine r_if_eq (pc := 29) (tgt := 38) h dX4_whatIs_29 (by decide) (fun c29 => ?_) (fun c29 => absurd (rfl) c29)
      refine r_aload_n (pc := 38) h dX4_whatIs_38 rfl ?_
      refine r_iload_n (pc := 39) h dX4_whatIs_39 rfl ?_
      refine r_callVi (pc := 40) (As := [_]) h dX4_whatIs_40 k_X4_169 gc_35 rfl ⟨Nat.le_of_ble_eq_true rfl, Nat.le_of_ble_eq_true rfl, Nat.le_of_ble_eq_true rfl⟩ (c_X4_wearerOf hR ho (by omega)) (fun x_40 g2 hq => ?_)
      obtain ⟨rfl, rfl⟩ := hq
      refine r_istore (pc := 43) (ls2 := [_, _, _, _, _]) h dX4_whatIs_43 (Nat.le_of_ble_eq_true rfl) rfl ?_
      refine r_iload (pc := 45) h dX4_whatIs_45 rfl ?_
      refine r_if_ge (pc := 47) (tgt := 54) h dX4_whatIs_47 (by decide) (fun c47 => ?_) (fun c47 => ?_)
      · obtain ⟨i, hwr⟩ : ∃ i, wr c s = some i := Option.ne_none_iff_exists'.mp (fun q => absurd ((wr_neg hn5).mpr q) (Int32.not_lt.mpr c47))
        have hi := (wr_lt hwr).1
        rw [show oI (wr c s) = nI i by rw [hwr]; rfl]
        refine r_iload_n (pc := 54) h dX4_whatIs_54 rfl ?_
        refine r_if_ne (pc := 55) (tgt := 74) h dX4_whatIs_55 (by decide) (fun c55 => ?_) (fun c55 => ?_)
        · have k0 : ¬ k = 0 := fun q => c55 (by rw [q]; rfl)
          have k1 : k = 1 := by omega
          refine r_aload_n (pc := 74) h dX4_whatIs_74 rfl ?_
          refine r_aload_n (pc := 75) h dX4_whatIs_75 rfl ?_
          refine r_getR (pc := 76) h dX4_whatIs_76 f_X4_16 sh_35 rfl ?_
          refine r_iload_n (pc := 79) h dX4_whatIs_79 rfl ?_
          refine r_iload (pc := 80) h dX4_whatIs_80 rfl ?_
          refine r_bipush (pc := 82) h dX4_whatIs_82 cb_10 ?_
          refine r_callVi (pc := 84) (As := [_, _, _, _]) h dX4_whatIs_84 k_X4_301 gc_35 rfl ⟨Nat.le_of_ble_eq_true rfl, Nat.le_of_ble_eq_true rfl, Nat.le_of_ble_eq_true rfl⟩ (c_X4_bitsFor_1 hR (hX.tx hF) ho hd hs hi) (fun x_84 g2 hq => ?_)
          obtain ⟨rfl, hR, hF1⟩ := hq
          have hF := hF.tr hF1
          refine r_ri t (pc := 87) dX4_whatIs_87 rfl ?_
          exact y_ok hR (hX.tx hF) hF.frm hw (by rw [es, ek]; unfold wiV; rw [hwr, k1])
        · have k0 : k = 0 := (nI_eq0 (by omega)).mp c55
          refine r_aload_n (pc := 58) h dX4_whatIs_58 rfl ?_
          refine r_aload_n (pc := 59) h dX4_whatIs_59 rfl ?_
          refine r_getR (pc := 60) h dX4_whatIs_60 f_X4_13 sh_35 rfl ?_
          refine r_iload_n (pc := 63) h dX4_whatIs_63 rfl ?_
          refine r_iload (pc := 64) h dX4_whatIs_64 rfl ?_
          refine r_bipush (pc := 66) h dX4_whatIs_66 cb_6 ?_
          refine r_callVi (pc := 68) (As := [_, _, _, _]) h dX4_whatIs_68 k_X4_301 gc_35 rfl ⟨Nat.le_of_ble_eq_true rfl, Nat.le_of_ble_eq_true rfl, Nat.le_of_ble_eq_true rfl⟩ (c_X4_bitsFor_0 hR (hX.tx hF) ho hd hs hi) (fun x_68 g2 hq => ?_)
          obtain ⟨rfl, hR, hF1⟩ := hq
          have hF := hF.tr hF1
          refine r_goto (pc := 71) (tgt := 87) h dX4_whatIs_71 (by decide) ?_
          refine r_ri t (pc := 87) dX4_whatIs_87 rfl ?_
          exact y_ok hR (hX.tx hF) hF.frm hw (by rw [es, ek]; unfold wiV; rw [hwr, k0])
      · have hwr : wr c s = none := (wr_neg hn5).mp (Int32.not_le.mp c47)
        refine r_iconst (pc := 50) h dX4_whatIs_50 ci_0 ?_
        refine r_goto (pc := 51) (tgt := 87) h dX4_whatIs_51 (by decide) ?_
        refine r_ri t (pc := 87) dX4_whatIs_87 rfl ?_
        exact y_ok hR (hX.tx hF) hF.frm hw (by rw [es, ek]; unfold wiV; rw [hwr])
    · have hb2 : inB w (1 + 1) = false := (bI_0 (inB w (1 + 1))).mp c18
      have hw : ¬ (-2 : Int32) = 0 := by decide
      have hok : okw (-2) := okw_2
      have ew : wiW c x w = -2 := by unfold wiW fstI; rw [if_pos hc]; unfold whyB; rw [show inB w 2 = false from hb2]; rfl
      refine r_bipush (pc := 21) h dX4_whatIs_21 cb_m2 ?_
      refine r_goto (pc := 23) (tgt := 27) h dX4_whatIs_23 (by decide) ?_
      refine r_istore_n (pc := 27) (ls2 := [_, _, _, _, _]) h dX4_whatIs_27 (Nat.le_of_ble_eq_true rfl) rfl ?_
      refine r_iload_n (pc := 28) h dX4_whatIs_28 rfl ?_
      refine r_if_eq (pc := 29) (tgt := 38) h dX4_whatIs_29 (by decide) (fun c29 => absurd c29 (by decide)) (fun c29 => ?_)
      refine r_aload_n (pc := 32) h dX4_whatIs_32 rfl ?_
      refine r_iload_n (pc := 33) h dX4_whatIs_33 rfl ?_
      refine r_callVi (pc := 34) (As := [_]) h dX4_whatIs_34 k_X4_77 gc_35 rfl ⟨Nat.le_of_ble_eq_true rfl, Nat.le_of_ble_eq_true rfl, Nat.le_of_ble_eq_true rfl⟩ (c_X4_no (okw_in hok hw).1) (fun x_34 g2 hq => ?_)
      obtain ⟨rfl, rfl⟩ := hq
      refine r_ri t (pc := 37) dX4_whatIs_37 rfl ?_
      rw [ew]
      have hq := y_ref hR (hX.tx hF) hok hw (v := nI (wiV c rv nr x.toNatClampNeg w.toNatClampNeg))
      exact ⟨hq.1, hq.2.1, hq.2.2.1, hF.frm.tr hq.2.2.2⟩
  · have hb : inB x (c 7 0) = false := (bI_0 (inB x (c 7 0))).mp c5
    have hw : ¬ (-1 : Int32) = 0 := by decide
    have hok : okw (-1) := okw_1
    have ew : wiW c x w = -1 := by unfold wiW sufW whyB fstI; rw [hb]; rfl
    refine r_iconst (pc := 8) h dX4_whatIs_8 ci_m1 ?_
    refine r_goto (pc := 9) (tgt := 27) h dX4_whatIs_9 (by decide) ?_
    refine r_istore_n (pc := 27) (ls2 := [_, _, _, _, _]) h dX4_whatIs_27 (Nat.le_of_ble_eq_true rfl) rfl ?_
    refine r_iload_n (pc := 28) h dX4_whatIs_28 rfl ?_
    refine r_if_eq (pc := 29) (tgt := 38) h dX4_whatIs_29 (by decide) (fun c29 => absurd c29 (by decide)) (fun c29 => ?_)
    refine r_aload_n (pc := 32) h dX4_whatIs_32 rfl ?_
    refine r_iload_n (pc := 33) h dX4_whatIs_33 rfl ?_
    refine r_callVi (pc := 34) (As := [_]) h dX4_whatIs_34 k_X4_77 gc_35 rfl ⟨Nat.le_of_ble_eq_true rfl, Nat.le_of_ble_eq_true rfl, Nat.le_of_ble_eq_true rfl⟩ (c_X4_no (okw_in hok hw).1) (fun x_34 g2 hq => ?_)
    obtain ⟨rfl, rfl⟩ := hq
    refine r_ri t (pc := 37) dX4_whatIs_37 rfl ?_
    rw [ew]
    have hq := y_ref hR (hX.tx hF) hok hw (v := nI (wiV c rv nr x.toNatClampNeg w.toNatClampNeg))
    exact ⟨hq.1, hq.2.1, hq.2.2.1, hF.frm.tr hq.2.2.2⟩
end TX
