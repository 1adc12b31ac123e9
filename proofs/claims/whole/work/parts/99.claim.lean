/-! THE CLAIM OUT OF ONE WALK OF THE LAW'S BODY. Your part is whole_start (and what it stands on); all else here is the same for every law, but numbers. -/
def R_law : String := "ArmourOfTheShyLaw"
def lw_P (b : Addr) (xs : List Int32) (args : Array Value) (s : State) : Prop := args = #[.ref b] ∧ s.IntsAt b xs ∧ xs.length ≤ 3072 ∧ (Jvm.Cond.and given_1 narrow_1).before args s = true
def lw_Q (_ : Array Value) (s : State) (o : Outcome) (t : State) : Prop := o = .returned (some (.int 1)) ∧ Framed s o t [] 600000 7302250
def lw_Z (below : List Frame) (a : Array Value) (s : State) : State → Prop := fun t => ∃ o, t.status = .running ∧ Ended t below o ∧ lw_Q a s o t
/-- the law's own end, with 1 on the stack, nothing written that was there before, its room as the claim has it -/
theorem lw_ret {p : Program} {l : Launch} {e : Env} {s : State} {m : MethodId} {below : List Frame} {meth : Method} {c : Code} {b : Nat} (hx : p.tables.exec = Jvm.exec) (hb : c.code = code) (hr : meth.sig.returnType = ret) (hlocks : meth.locks = false) {pc : Nat} {H : Heap} {ls : Array Slot} (hdg : decode code pc = .ok (.ireturn, 1)) : W p l e room_1 s m #[Value.ref b] below meth c H [] 600000 7302250 (lw_Z below #[Value.ref b] s) (F0 m pc ls [.int 1]) := by
  intro T hT X
  obtain ⟨fs, hret, hrun, hended, hW, hframe⟩ := X.leave (v := some (.int 1)) (hlocks := hlocks) (fun h => by rw [hr] at h; cases h)
  have hmeth' : T.vm.method? m = some meth := X.method'
  refine ⟨T.setFrames fs, ?_, .returned (some (.int 1)), hrun, hended, rfl, ⟨_, rfl⟩, hW, hframe⟩
  jvm_step X.here [X.here.top, hx, hb, hdg, hmeth', hr, ret, narrow_b1]
  (try refine ⟨rfl, ?_⟩); (try refine ⟨rfl, ?_⟩)
  first | (intro acts; rw [hret _ acts rfl rfl rfl]) | rw [hret _ _ rfl rfl rfl]
  exact Steps.refl _
/-- what holds at the law's entry: the machine, the code, the tables' words (any of lw_tbl by 'hts w (by decide +kernel)'), the script of L ints xs at the cell b, what the Statement gives of the start (any of its parts by flat_of_before) -/
def lw_At (p : Program) (s : State) (m : MethodId) (meth : Method) (c : Code) (b L : Nat) (xs : Nat → Int32) : Prop :=
  p.tables.exec = Jvm.exec ∧ c.code = code ∧ meth.sig.returnType = ret ∧ c.maxLocals = 4 ∧ s.vm.findClass R_law = some m.cls ∧ (∀ w ∈ lw_tbl, w.before #[Value.ref b] s = true) ∧ va_X b L xs s s.heap ∧ b < s.heap.size ∧ meth.locks = false ∧ (Jvm.Cond.and given_1 narrow_1).before #[Value.ref b] s = true
set_option maxRecDepth 100000 in
set_option maxHeartbeats 4000000 in
theorem law_go {p : Program} {e : Env} {s : State} {m : MethodId} {below : List Frame} {meth : Method} {c : Code} (l : Launch) {b L : Nat} {xs : Nat → Int32} (hL : L ≤ 3072) (C0 : lw_At p s m meth c b L xs) {D : va_G} {cI cC cAA : ClassId} (hK : va_K D vwCl (gtys (fun k => if k = 0 then cI else if k = 1 then cC else cAA)) s) {q0 q8 : Nat} {v3 v4 : Nat → Nat} {H : Heap} {locs : List Loc} {la : Array Slot} (hP : va_P D vwCl (wX3 cI cC q0 v3 ++ wX4 cI cAA q8 v4) H) (hD : va_D (fun q => s.heap.size ≤ q) (wX3 cI cC q0 v3 ++ wX4 cI cAA q8 v4)) (hS : va_S (fun q => s.heap.size ≤ q) s.heap H locs) (hl : lv_has la 4 [(3, .int 0), (2, .ref q8), (1, .ref q0), (0, .ref b)]) {cells slots : Nat} (hc : cells ≤ 600000) (hs0 : slots ≤ 7302250) : W p l e room_1 s m #[Value.ref b] below meth c H locs cells slots (lw_Z below #[Value.ref b] s) (F0 m 18 la []) := by
  obtain ⟨hx, hb, hr, hml, hown, hts, hX, hbl, hlocks, hgv⟩ := C0
  have hg : ∀ w ∈ gw, w.before #[Value.ref b] s = true := fun w hw => hts w (gw_tbl hw)
  obtain ⟨t, hro⟩ := st_ro hts hgv
  obtain ⟨ad, hadE⟩ : ∃ ad : Nat → Nat, ad = fun k => [q0, v3 1, v3 2, v3 3, v3 4, v3 5, v3 6, v3 7, v3 8, v3 9, v3 10, v3 11, v3 12, v3 13, v3 14, v3 15, v3 16, v3 17, v3 18, v3 19, v3 20, v3 21, v3 22, v3 23, v3 24, v3 25, v3 26, v3 27, v3 28, v3 29, v3 30, v3 31, v3 32, v3 33, v3 34, q8, v4 0, v4 1, v4 2, v4 3, v4 4, v4 5, v4 6, v4 7, v4 8, v4 9, v4 10, v4 11, v4 12, v4 13, v4 14, v4 15, v4 16, v4 17, v4 18, v4 19, v4 20, v4 21].getD k (if k = 200 then b else t k) := ⟨_, rfl⟩
  have a0 : ad 0 = q0 := by rw [hadE]; rfl
  have a35 : ad 35 = q8 := by rw [hadE]; rfl
  have a200 : ad 200 = b := by rw [hadE]; rfl
  have a3 : ∀ k, 1 ≤ k → k < 35 → ad k = v3 k := by
    intro k h1 h2
    rw [hadE]
    have hcase : k = 1 ∨ k = 2 ∨ k = 3 ∨ k = 4 ∨ k = 5 ∨ k = 6 ∨ k = 7 ∨ k = 8 ∨ k = 9 ∨ k = 10 ∨ k = 11 ∨ k = 12 ∨ k = 13 ∨ k = 14 ∨ k = 15 ∨ k = 16 ∨ k = 17 ∨ k = 18 ∨ k = 19 ∨ k = 20 ∨ k = 21 ∨ k = 22 ∨ k = 23 ∨ k = 24 ∨ k = 25 ∨ k = 26 ∨ k = 27 ∨ k = 28 ∨ k = 29 ∨ k = 30 ∨ k = 31 ∨ k = 32 ∨ k = 33 ∨ k = 34 := by omega
    rcases hcase with rfl | rfl | rfl | rfl | rfl | rfl | rfl | rfl | rfl | rfl | rfl | rfl | rfl | rfl | rfl | rfl | rfl | rfl | rfl | rfl | rfl | rfl | rfl | rfl | rfl | rfl | rfl | rfl | rfl | rfl | rfl | rfl | rfl | rfl <;> rfl
  have a4 : ∀ k, k < 22 → ad (36 + k) = v4 k := by
    intro k h1
    rw [hadE]
    have hcase : k = 0 ∨ k = 1 ∨ k = 2 ∨ k = 3 ∨ k = 4 ∨ k = 5 ∨ k = 6 ∨ k = 7 ∨ k = 8 ∨ k = 9 ∨ k = 10 ∨ k = 11 ∨ k = 12 ∨ k = 13 ∨ k = 14 ∨ k = 15 ∨ k = 16 ∨ k = 17 ∨ k = 18 ∨ k = 19 ∨ k = 20 ∨ k = 21 := by omega
    rcases hcase with rfl | rfl | rfl | rfl | rfl | rfl | rfl | rfl | rfl | rfl | rfl | rfl | rfl | rfl | rfl | rfl | rfl | rfl | rfl | rfl | rfl | rfl <;> rfl
  have at_ : ∀ q, 100 ≤ q → q ≤ 105 → ad q = t q := by
    intro q h1 h2
    rw [hadE]
    rcases (show q = 100 ∨ q = 101 ∨ q = 102 ∨ q = 103 ∨ q = 104 ∨ q = 105 by omega) with rfl | rfl | rfl | rfl | rfl | rfl <;> rfl
  clear hadE
  have hW := gws_0 (cA := fun k => if k = 0 then cI else if k = 1 then cC else cAA) a0 a3 a35 a4
  have hW : wF cI cC cAA ad = wX3 cI cC q0 v3 ++ wX4 cI cAA q8 v4 := hW
  rw [← hW] at hP hD
  have hge : ∀ k, k < 58 → s.heap.size ≤ ad k := fun k hk => by
    obtain ⟨e1, h1⟩ := wF_at cI cC cAA ad hk
    exact hD.2 k _ h1
  have hinj : ginj ad := fun i j hi hj e2 => by
    obtain ⟨e1, h1⟩ := wF_at cI cC cAA ad hi
    obtain ⟨e3, h3⟩ := wF_at cI cC cAA ad hj
    exact hD.1 i j _ _ h1 h3 e2
  have hP0 : va_P D vwCl (gws ad (fun k => if k = 0 then cI else if k = 1 then cC else cAA) (fun _ _ => 0)) H := wF_P (cA := fun k => if k = 0 then cI else if k = 1 then cC else cAA) hP
  have hbA : ¬ gA ad b := by
    rintro ⟨k, hk, e4⟩
    have := hge k hk
    omega
  have cx : gcx RL cL_law 4 p s m #[Value.ref b] c D (fun k => if k = 0 then cI else if k = 1 then cC else cAA) ad := ⟨hx, hb, hml, hown, hg, hK, hinj, hro ad at_ hge⟩
  have hR := gR_sound (p := p) (l := l) (e := e) (R := room_1) (below := below) (meth := meth) (cells := cells) (slots := slots) (Qf := lw_Z below #[Value.ref b] s) (fr := 12) (lo := 458) cx ⟨Nat.le_refl _, Nat.le_refl _, hc, hs0⟩
  have hgo := law_loop hL hR (xs := xs) (fun pc ls st g i hd hi k H locs la hP hS hl => by
    have hq := k H locs la hP hS hl
    show W p l e room_1 s m #[Value.ref b] below meth c H locs cells slots (lw_Z below #[Value.ref b] s) (F0 m pc la (.int (nI i) :: .ref (ad 200) :: st.map (gtv ad)))
    rw [a200]
    refine va_sld hx hb hX hbl hbA hS (vp_in_nI hi (by omega)) hd ?_
    rw [nI_clamp (by omega)]
    exact hq) (fun pc ls st g hd k H locs la hP hS hl => by
    have hq := k H locs la hP hS hl
    show W p l e room_1 s m #[Value.ref b] below meth c H locs cells slots (lw_Z below #[Value.ref b] s) (F0 m pc la (.ref (ad 200) :: st.map (gtv ad)))
    rw [a200]
    exact va_slen hx hb hX hbl hbA hS hd hq) (fun pc ls g hd H locs la hP hS hl => by
    refine va_forget (fun q hq => ?_) (W.widen (k := 600000) (n := 7302250) hc hs0 (lw_ret hx hb hr hlocks hd))
    obtain ⟨k, hk, e5⟩ := hS.2.2 q hq
    rw [e5]
    exact hge k hk) L 0 (fun _ _ => 0) (by omega) (by omega) Inv_0
  refine va_forget (fun q hq => hS.2.2 q hq) ?_
  refine hgo H [] la hP0 ⟨hS.1, fun q h1 h2 => hS.2.1 q h1 (fun h3 => absurd h3 (by omega)), fun q hq => by cases hq⟩ ⟨hl.1, hl.2.1, rfl, fun i v hi hv => ?_⟩
  have hi4 : i < 4 := (List.getElem?_eq_some_iff.mp hi).1
  rcases (show i = 0 ∨ i = 1 ∨ i = 2 ∨ i = 3 by omega) with rfl | rfl | rfl | rfl
  · cases hi; show la[0]? = some (.val (.ref (ad 200))); rw [a200]; exact lv_at hl 3 rfl
  · cases hi; show la[1]? = some (.val (.ref (ad 0))); rw [a0]; exact lv_at hl 2 rfl
  · cases hi; show la[2]? = some (.val (.ref (ad 35))); rw [a35]; exact lv_at hl 1 rfl
  · cases hi; exact lv_at hl 0 rfl
set_option maxRecDepth 100000 in
set_option maxHeartbeats 4000000 in
theorem whole_start {p : Program} {e : Env} {s : State} {m : MethodId} {below : List Frame} {meth : Method} {c : Code} (l : Launch) (hflags : l.flags = flags0) {b L : Nat} {xs : Nat → Int32} (hL : L ≤ 3072) (C0 : lw_At p s m meth c b L xs) : W p l e room_1 s m #[Value.ref b] below meth c s.heap [] 0 0 (lw_Z below #[Value.ref b] s) (entryFrame m ([Value.ref b] : List Value).toArray 4) := by
  have CC := C0
  obtain ⟨hx, hb, hr, hml, hown, hts, hX, hbl, hlocks, hgv⟩ := C0
  have hg : ∀ w ∈ gw, w.before #[Value.ref b] s = true := fun w hw => hts w (gw_tbl hw)
  obtain ⟨c0, s0, k0⟩ := u_known hg gin0 (hg (.instantiable RX0 11) (gw_mem 90 (by decide +kernel) (by decide +kernel)))
  obtain ⟨c1, s1, k1⟩ := u_known hg gin1 (hg (.instantiable RX1 2) (gw_mem 165 (by decide +kernel) (by decide +kernel)))
  obtain ⟨c2, s2, k2⟩ := u_known hg gin2 (hg (.instantiable RX2 2) (gw_mem 150 (by decide +kernel) (by decide +kernel)))
  obtain ⟨c3, s3, k3⟩ := u_known hg gin3 (hg (.instantiable RX3 12) (gw_mem 82 (by decide +kernel) (by decide +kernel)))
  obtain ⟨c4, s4, k4⟩ := u_known hg gin4 (hg (.instantiable RX4 32) (gw_mem 710 (by decide +kernel) (by decide +kernel)))
  obtain ⟨D, hDE⟩ : ∃ D : va_G, D = (fun k => [c0, c1, c2, c3, c4].getD k c0, fun k => [s0, s1, s2, s3, s4].getD k s0) := ⟨_, rfl⟩
  obtain ⟨cI, kI, coI, fI, gI, tI⟩ := Cond.arrayClass_spec (hg (.arrayClass .int) (gw_mem 148 (by decide +kernel) (by decide +kernel)))
  obtain ⟨cC, kC, coC, fC, gC_, tC⟩ := Cond.arrayClass_spec (hg (.arrayClass .char) (gw_mem 163 (by decide +kernel) (by decide +kernel)))
  have hK : va_K D vwCl (tA cI cC) s := by
    refine ⟨fun k q hk => ?_, fun k q hk => ?_⟩
    · rw [hDE]
      match k, hk with
      | 0, hk => cases hk; exact k0
      | 1, hk => cases hk; exact k1
      | 2, hk => cases hk; exact k2
      | 3, hk => cases hk; exact k3
      | 4, hk => cases hk; exact k4
      | k + 5, hk => simp [vwCl] at hk
    · match k, hk with
      | 0, hk => cases hk; exact ⟨fun n z => ⟨fun k h => (by cases h), kI, gI, coI, tI⟩, fI⟩
      | 1, hk => cases hk; exact ⟨fun n z => ⟨fun k h => (by cases h), kC, gC_, coC, tC⟩, fC⟩
      | k + 2, hk => simp at hk
  clear hDE
  have hn_X0 : va_Nw (.methodLinkNest RX3 9 yX0_init RX3) s := va_Nw.of rfl (hts (.methodLinkNest RX3 9 yX0_init RX3) (List.mem_of_getElem? (i := 91) (by decide +kernel)))
  have hn_X2 : va_Nw (.methodLinkNest RX3 28 yX2_init RX3) s := va_Nw.of rfl (hts (.methodLinkNest RX3 28 yX2_init RX3) (List.mem_of_getElem? (i := 151) (by decide +kernel)))
  have hn_X1 : va_Nw (.methodLinkNest RX3 35 yX1_init RX3) s := va_Nw.of rfl (hts (.methodLinkNest RX3 35 yX1_init RX3) (List.mem_of_getElem? (i := 166) (by decide +kernel)))
  have hov : va_AOA .int s := va_AOA.of (hts (.arrayOver (.array .int)) (List.mem_of_getElem? (i := 716) (by decide +kernel)))
  have hl := lv_entry ([.ref b]) (n := 4) (Nat.le_of_ble_eq_true rfl)
  rw [lg_entry_eq]
  generalize (lg_sl ([.ref b]) ++ List.replicate (4 - (lg_sl ([.ref b])).length) Slot.unset).toArray = ls at hl ⊢
  have hl : lv_has ls 4 [(0, .ref b)] := hl
  obtain ⟨A, hAE⟩ : ∃ A : Nat → Prop, A = fun q => s.heap.size ≤ q := ⟨_, rfl⟩
  have hA : ∀ q : Nat, s.heap.size ≤ q → A q := fun q h => by rw [hAE]; exact h
  have hS : va_S A s.heap s.heap [] := va_S.rf
  have hP : va_P D vwCl [] s.heap := fun k q h => by simp at h
  have hD : va_D A [] := ⟨fun i j p q h => by simp at h, fun k q h => by simp at h⟩
  refine va_new (ci := 3) (fs := [.null, .null, .null, .int 0, .null, .null, .null, .int 0, .null, .null, .null, .null]) (C := RX3) (T := TX3) (N := 12) hx hb hg gin3 tyX3 tyX3_ok hown (hg (.classLink RL 7 RX3) (gw_mem 81 (by decide +kernel) (by decide +kernel))) (hg (.instantiable RX3 12) (gw_mem 82 (by decide +kernel) (by decide +kernel))) (hg (.initialized RX3) (gw_mem 69 (by decide +kernel) (by decide +kernel))) hK hP hD hS hA rfl (fun j hj => by revert j; decide +kernel) (Nat.le_of_ble_eq_true rfl) (Nat.le_of_ble_eq_true rfl) dL_law_0 (fun q0 H hP hD hS => ?_)
  have hP : va_P D vwCl ([] ++ [(q0, oX3)]) H := hP
  have hD : va_D A ([] ++ [(q0, oX3)]) := hD
  refine W.widen (k := 1) (n := 12) (Nat.le_of_ble_eq_true rfl) (Nat.le_of_ble_eq_true rfl) ?_
  refine lv_dup hx hb dL_law_3 rfl ?_
  have hFc := vf_last hD hS hA
  refine va_callv (va_runI (As := []) (rest := [.ref q0]) ⟨hx, hb, hml, hown, hg⟩ (i_X3 l D cI cC q0 H.size) (cwI 0 hg (fun w hw => gw_gi (gw_mem 85 (by decide +kernel) (by decide +kernel)) w hw) rfl rfl rfl (hg (.initialized RX3) (gw_mem 69 (by decide +kernel) (by decide +kernel))) (hg (.methodLink RL 9 yX3_init) (gw_mem 83 (by decide +kernel) (by decide +kernel))) (hg (.instanceMethod yX3_init) (gw_mem 84 (by decide +kernel) (by decide +kernel))) rfl (by decide +kernel) ⟨(Nat.le_of_ble_eq_true rfl), (Nat.le_of_ble_eq_true rfl)⟩) ⟨fun a U g mk q => by obtain ⟨q0, q1, qP, qK, qD, qE⟩ := q; exact ⟨q0, q1, qP, va_K.moved (u := U) (U := U.calling g mk a) (Vm.Alike.refl U.vm) qK, qD, va_Nw.same rfl rfl qE.1, va_Nw.same rfl rfl qE.2.1, va_Nw.same rfl rfl qE.2.2⟩, fun U hU hW => ⟨rfl, by rw [hU], by rw [hU]; exact vq_last hP, va_K.moved hW.alike hK, vd_last (A := A), va_Nw.warmM hW hn_X0, va_Nw.warmM hW hn_X2, va_Nw.warmM hW hn_X1⟩⟩ rfl rfl hl.1 rfl (lv_room (Nat.le_of_ble_eq_true rfl)) dL_law_4 ⟨(Nat.le_of_ble_eq_true rfl), (Nat.le_of_ble_eq_true rfl)⟩) hS (fun q _ h => hFc q h) hFc (fun v3 tt H1 locs ht hvm _ hB hz1 hk1 hS => ?_)
  obtain ⟨hP1, hD1⟩ := hB
  rw [ht] at hP1
  obtain ⟨hP, hD⟩ := vj_last hP hD hk1 hFc hP1 hD1
  clear hP1 hD1 hFc hk1 ht hz1 hvm
  generalize H1 = H at hP hS ⊢
  have hP : va_P D vwCl (wX3 cI cC q0 v3) H := hP
  have hD : va_D A (wX3 cI cC q0 v3) := hD
  refine W.widen (k := 35) (n := 748) (Nat.le_of_ble_eq_true rfl) (Nat.le_of_ble_eq_true rfl) ?_
  refine lv_astore_n hx hb dL_law_7 rfl hl (Nat.le_of_ble_eq_true rfl) rfl (fun ls hl => ?_)
  have hl : lv_has ls 4 [(1, .ref q0), (0, .ref b)] := hl
  refine va_new (ci := 4) (fs := [.null, .null, .null, .null, .null, .null, .null, .null, .int 0, .int 0, .int 0, .int 0, .null, .null, .null, .null, .int 0, .int 0, .int 0, .null, .int 0, .int 0, .int 0, .null, .int 0, .int 0, .int 0, .int 0, .null, .null, .int 0, .int 0]) (C := RX4) (T := TX4) (N := 32) hx hb hg gin4 tyX4 tyX4_ok hown (hg (.classLink RL 10 RX4) (gw_mem 709 (by decide +kernel) (by decide +kernel))) (hg (.instantiable RX4 32) (gw_mem 710 (by decide +kernel) (by decide +kernel))) (hg (.initialized RX4) (gw_mem 73 (by decide +kernel) (by decide +kernel))) hK hP hD hS hA rfl (fun j hj => by revert j; decide +kernel) (Nat.le_of_ble_eq_true rfl) (Nat.le_of_ble_eq_true rfl) dL_law_8 (fun q8 H hP hD hS => ?_)
  have hP : va_P D vwCl (wX3 cI cC q0 v3 ++ [(q8, oX4)]) H := hP
  have hD : va_D A (wX3 cI cC q0 v3 ++ [(q8, oX4)]) := hD
  refine W.widen (k := 36) (n := 780) (Nat.le_of_ble_eq_true rfl) (Nat.le_of_ble_eq_true rfl) ?_
  refine lv_dup hx hb dL_law_11 rfl ?_
  have hFc := vf_last hD hS hA
  refine va_callv (va_runI (As := []) (rest := [.ref q8]) ⟨hx, hb, hml, hown, hg⟩ (i_X4 l D cI cC q8 H.size) (cwI 0 hg (fun w hw => gw_gi (gw_mem 713 (by decide +kernel) (by decide +kernel)) w hw) rfl rfl rfl (hg (.initialized RX4) (gw_mem 73 (by decide +kernel) (by decide +kernel))) (hg (.methodLink RL 12 yX4_init) (gw_mem 711 (by decide +kernel) (by decide +kernel))) (hg (.instanceMethod yX4_init) (gw_mem 712 (by decide +kernel) (by decide +kernel))) rfl (by decide +kernel) ⟨(Nat.le_of_ble_eq_true rfl), (Nat.le_of_ble_eq_true rfl)⟩) ⟨fun a U g mk q => by obtain ⟨q0, q1, qP, qK, qD, qE⟩ := q; exact ⟨q0, q1, qP, va_K.moved (u := U) (U := U.calling g mk a) (Vm.Alike.refl U.vm) qK, qD, va_AOA.moved (u := U) (U := U.calling g mk a) (Vm.Alike.refl U.vm) qE⟩, fun U hU hW => ⟨rfl, by rw [hU], by rw [hU]; exact vq_last hP, va_K.moved hW.alike hK, vd_last (A := A), va_AOA.moved hW.alike hov⟩⟩ rfl rfl hl.1 rfl (lv_room (Nat.le_of_ble_eq_true rfl)) dL_law_12 ⟨(Nat.le_of_ble_eq_true rfl), (Nat.le_of_ble_eq_true rfl)⟩) hS (fun q _ h => hFc q h) hFc (fun vv tt H1 locs ht hvm _ hB hz1 hk1 hS => ?_)
  obtain ⟨hP1, hD1, hKA⟩ := hB
  rw [ht] at hP1
  have hKA := va_K.moved hvm.symm hKA
  obtain ⟨hP, hD⟩ := vj_last hP hD hk1 hFc hP1 hD1
  clear hP1 hD1 hFc hk1 ht hz1 hvm
  generalize H1 = H at hP hS ⊢
  refine W.widen (k := 58) (n := 1653) (Nat.le_of_ble_eq_true rfl) (Nat.le_of_ble_eq_true rfl) ?_
  refine lv_astore_n hx hb dL_law_15 rfl hl (Nat.le_of_ble_eq_true rfl) rfl (fun ls hl => ?_)
  have hl : lv_has ls 4 [(2, .ref q8), (1, .ref q0), (0, .ref b)] := hl
  refine lv_iconst (v := 0) hx hb dL_law_16 (by decide) ?_
  refine lv_istore_n hx hb dL_law_17 rfl hl (Nat.le_of_ble_eq_true rfl) rfl (fun ls hl => ?_)
  have hl : lv_has ls 4 [(3, .int 0), (2, .ref q8), (1, .ref q0), (0, .ref b)] := hl
  have hKg : va_K D vwCl (gtys (fun k => if k = 0 then cI else if k = 1 then cC else vv.2)) s := hK.app hKA
  rw [hAE] at hD hS
  exact law_go l hL CC hKg hP hD hS hl (Nat.le_of_ble_eq_true rfl) (Nat.le_of_ble_eq_true rfl)
set_option maxHeartbeats 4000000 in
theorem lw_walk (l : Launch) (hflags : l.flags = flags0) (b : Addr) (xs : List Int32) : MetFree l x (headSpec (Jvm.Cond.code x code maxLocals ret :: tables_1) room_1) (lw_P b xs) (fun _ _ _ _ _ => True) lw_Q := by
  refine MetFree.of_bodyS (code := code) (maxLocals := maxLocals) (ret := ret) (by decide) ?_ ?_
  · intro args s m h hn
    obtain ⟨meth, c, h1, h2, h3, h4, h5, h6, -, -⟩ := Cond.code_spec hn (atoms_spec (ws := Jvm.Cond.code x code maxLocals ret :: tables_1) h _ List.mem_cons_self)
    exact ⟨meth, c, h1, h2, h3, h4, h5, h6⟩
  · intro p e s m args below meth c s₁ B hml0 hP _
    obtain ⟨rfl, hx, hbd, hgv⟩ := hP
    obtain ⟨scr, harrAt, hlist, hof, hsmall⟩ := hx
    obtain ⟨hcb, hkn, -, -⟩ := State.arrayAt?_spec harrAt
    have hown : s.vm.findClass R_law = some m.cls := findClass_of_methodNamed B.named
    have hts0 : ∀ c ∈ (Jvm.Cond.code x code maxLocals ret :: tables_1), c.before #[Value.ref b] s = true := atoms_spec (ws := Jvm.Cond.code x code maxLocals ret :: tables_1) B.pre
    have hts : ∀ w ∈ lw_tbl, w.before #[Value.ref b] s = true := k2_hts_sels lw_privs (fun w hw => hts0 w (List.mem_cons_of_mem _ hw)) lw_privs_ok
    have hml : c.maxLocals = 4 := B.maxLocals_eq (hts0 _ List.mem_cons_self)
    have X₀ : Stand p l e room_1 s m #[Value.ref b] below meth c s₁ [] 0 0 := Stand.of_body B
    have hh0 : s₁.heap = s.heap := by rw [B.state]; rfl
    have hsz : scr.slots.size = xs.length := by rw [← Array.length_toList, hlist, List.length_map]
    have hval : ∀ j : Nat, j < xs.length → scr.slots[j]? = some (.int (xs.getD j 0)) := fun j hj => by
      rw [← Array.getElem?_toList, hlist]
      simp [hj]
    have hbl : b < s.heap.size := (Array.getElem?_eq_some_iff.mp hcb).1
    have hX : va_X b xs.length (fun j => xs.getD j 0) s s.heap := ⟨scr, hcb, hof, hkn, hsz, hval⟩
    have K : W p l e room_1 s m #[Value.ref b] below meth c s₁.heap [] 0 0 (lw_Z below #[Value.ref b] s) (entryFrame m ([Value.ref b] : List Value).toArray 4) := by
      rw [hh0]
      exact whole_start l hflags hbd ⟨B.exec, B.bytes, B.returns, hml, hown, hts, hX, hbl, B.notSynchronized, hgv⟩
    obtain ⟨t, a1, o, b1, b2, b3⟩ := K s₁ rfl X₀
    exact ⟨t, o, a1, b1, b2, b3⟩
theorem lw_pre_spec {args : Array Value} {s : State} (h : (Jvm.Cond.and given_1 narrow_1).before args s = true) (hr : rest_1_c.before args s = true) : ∃ (b : Addr) (xs : List Int32), lw_P b xs args s := by
  have hs := flat_of_before _ h
  have hq := flat_of_before _ hr
  have hc : (Cond.count 1).before args s = true := hs _ (by decide +kernel)
  have harr : (Cond.arrayOf (.arg 0) .int).before args s = true := hs _ (by decide +kernel)
  have hle : (Cond.le (.length (.arg 0)) (.int 3072)).before args s = true := hs _ (by decide +kernel)
  have hlen : (Cond.isInt (.length (.arg 0))).before args s = true := hq _ (by decide +kernel)
  have hall : (Cond.all (.arg 0) (.isInt (.elem (.arg 0) (.index 0)))).before args s = true := hq _ (by decide +kernel)
  obtain ⟨b, xs, hb, hx⟩ := State.ints_of_pre rfl harr hlen hall
  have hsm : xs.length < 2 ^ 31 := hx.choose_spec.2.2.2
  have hev : (Term.length (.arg 0)).eval args s none [] s = some (.int xs.length.toInt32) := hx.length_eval hb
  have hv := Cond.le_ints hev (show (Term.int 3072).eval args s none [] s = some (.int 3072) from rfl)
  have hd : xs.length.toInt32 ≤ 3072 := by
    simpa [Cond.before, Cond.holds, hv] using hle
  have hN : xs.length ≤ 3072 := (Int32.ofNat_le_ofNat hsm (by decide)).mp (show Int32.ofNat xs.length ≤ Int32.ofNat 3072 from hd)
  exact ⟨b, xs, Cond.one_arg hc (show args[0]? = some (.ref b) from hb), hx, hN, h⟩
theorem lw_comes (l : Launch) (hflags : l.flags = flags0) : Comes l x (Jvm.Cond.code x code maxLocals ret :: tables_1) room_1 (fun tb e args s => Calls_1 tb e args s ∧ rest_1 tb e args s ∧ Pre_1 tb e args s)
    (fun _ _ args s o t => lw_Q args s o t) := by
  intro p e ha hc hk s m args below hf hfit hheap happ hpre
  obtain ⟨b, xs, hP⟩ := lw_pre_spec hpre.2.2 hpre.2.1
  obtain ⟨k, o, h1, h2, h3, hQ⟩ := lw_walk l hflags b xs p e ha hc hk s m args below hf ((Spec.applies_iff_loose hf).mp happ).1 hP trivial
  exact ⟨k, o, h1, h2, h3, hQ⟩
theorem lw_frame {s t : State} {o : Outcome} {args : Array Value} (h : Framed s o t [] 600000 7302250) :
    Framed s o t (fieldLocs frame_1_writes args s ++ arrayLocs frame_1_arrays args s ++ staticLocs frame_1_statics s) 600000 7302250 := h
theorem lw_limb (L : Cond) (hL : ∀ (args : Array Value) (s t : State), L.after args s (.returned (some (.int 1))) t = true) :
    ArmFor flags0 classFile x code maxLocals ret World_1 tables_1 room_1 Calls_1 rest_1 Pre_1
      (fun tb e a s o t => postC L tb e a s o t ∧ Framed s o t (fieldLocs frame_1_writes a s ++ arrayLocs frame_1_arrays a s ++ staticLocs frame_1_statics s) 600000 7302250) := by
  intro l hflags _ _ p e ha hc hk s m args below hf hfit hheap happ hpre
  obtain ⟨k, o, h1, h2, h3, rfl, hF⟩ := lw_comes l hflags p e ha hc hk s m args below hf hfit hheap happ hpre
  exact ⟨k, _, h1, h2, h3, hL args s _, lw_frame hF⟩
theorem i_vc : Claimed_1_1 ∧ Claimed_1_2 := ⟨lw_limb limb_1_1 (fun args s t => by simp [limb_1_1, Cond.after, Cond.holds, Cond.value]), lw_limb limb_1_2 (fun args s t => Cond.after_iff.mpr (by
  first | (rw [show limb_1_2 = Cond.eq .result (.int 1) from rfl, Cond.eq_ints (x := 1) (y := 1) rfl rfl]; simp; done) | (simp [limb_1_2, Cond.value, Term.eval]; done)))⟩

