/-! ===== the machine as this system needs it: one world of 58 cells that never grows; their ints are one function ===== -/
abbrev gG : Type := Nat → Nat → Int32
def gup (g : gG) (k j : Nat) (x : Int32) : gG := fun a b => if a = k ∧ b = j then x else g a b
def gcp (g : gG) (k0 k1 n : Nat) : gG := fun a b => if a = k1 ∧ b < n then g k0 b else g a b
/-- a cell: an object (its class, a field is an int or the ref of a cell), or an array (0 ints, 1 chars, 2 arrays of ints, which are the next cells) -/
abbrev gS : Type := (Nat × List (Option Nat)) ⊕ (Nat × Nat)
def gshL : List gS := [.inl (3, [some 1, some 9, some 17, none, some 25, some 27, some 30, none, some 31, some 32, some 33, some 34]), .inl (0, [some 2, some 3, some 4, some 5, some 6, some 7, some 8, none, none, none, none]), .inr (0, 6), .inr (0, 6), .inr (0, 6), .inr (0, 5), .inr (0, 5), .inr (0, 5), .inr (0, 5), .inl (0, [some 10, some 11, some 12, some 13, some 14, some 15, some 16, none, none, none, none]), .inr (0, 6), .inr (0, 6), .inr (0, 6), .inr (0, 5), .inr (0, 5), .inr (0, 5), .inr (0, 5), .inl (0, [some 18, some 19, some 20, some 21, some 22, some 23, some 24, none, none, none, none]), .inr (0, 6), .inr (0, 6), .inr (0, 6), .inr (0, 5), .inr (0, 5), .inr (0, 5), .inr (0, 5), .inl (2, [some 26, none]), .inr (1, 96), .inl (1, [some 28, some 29]), .inr (0, 384), .inr (0, 5), .inr (0, 16), .inr (0, 7), .inr (0, 69), .inr (0, 4), .inr (0, 4), .inl (4, [some 36, some 37, some 38, some 39, some 40, some 41, some 42, some 43, none, none, none, none, some 44, some 45, some 46, some 47, none, none, none, some 48, none, none, none, some 49, none, none, none, none, some 56, some 57, none, none]), .inr (0, 7), .inr (0, 6), .inr (0, 6), .inr (0, 6), .inr (0, 5), .inr (0, 5), .inr (0, 5), .inr (0, 5), .inr (0, 96), .inr (0, 48), .inr (0, 48), .inr (0, 96), .inr (0, 126), .inr (2, 6), .inr (0, 64), .inr (0, 64), .inr (0, 64), .inr (0, 64), .inr (0, 64), .inr (0, 64), .inr (0, 8), .inr (0, 16)]
/-- the words of the tables that every method is given -/
def gw : List Cond := lw_tbl.filter goodWord
theorem gw_mem {w : Cond} (i : Nat) (h : lw_tbl[i]? = some w) (hg : goodWord w = true) : w ∈ gw := List.mem_filter.mpr ⟨List.mem_of_getElem? h, hg⟩
theorem gw_tbl {w : Cond} (h : w ∈ gw) : w ∈ lw_tbl := (List.mem_filter.mp h).1
theorem gw_good {w : Cond} (h : w ∈ gw) : (w.onTables && w.keeps) = true ∨ ∃ ty, w = .arrayClass ty := good_of_word (List.mem_filter.mp h).2
abbrev vwCl : List vw_C := [(RX0, TX0, 11), (RX1, TX1, 2), (RX2, TX2, 2), (RX3, TX3, 12), (RX4, TX4, 32)]
def gtv (ad : Nat → Nat) (v : Value) : Value := match v with
  | .ref k => .ref (ad k)
  | v => v
def gfo (ad : Nat → Nat) (g : gG) (k j : Nat) (o : Option Nat) : Value := match o with
  | none => .int (g k j)
  | some a => .ref (ad a)
def gce (ad : Nat → Nat) (cA : Nat → ClassId) (g : gG) (k : Nat) (s : gS) : va_E := match s with
  | .inl q => .inr (q.1, q.2.mapIdx (gfo ad g k))
  | .inr q => .inl (cA q.1, q.2, if q.1 = 2 then .inr (.inr (.inr (.inr fun i => if i < q.2 then some (ad (k + 1 + i)) else none))) else .inl (g k))
def gws (ad : Nat → Nat) (cA : Nat → ClassId) (g : gG) : va_W := gshL.mapIdx fun k s => (ad k, gce ad cA g k s)
def gtys (cA : Nat → ClassId) : List (ClassId × FieldType) := [(cA 0, .int), (cA 1, .char), (cA 2, .array .int)]
def gA (ad : Nat → Nat) : Nat → Prop := fun q => ∃ k, k < 58 ∧ q = ad k
def ginj (ad : Nat → Nat) : Prop := ∀ i j, i < 58 → j < 58 → ad i = ad j → i = j
theorem gsh_lt {k : Nat} {s : gS} (h : gshL[k]? = some s) : k < 58 := (List.getElem?_eq_some_iff.mp h).1
theorem gfo_eq {ad : Nat → Nat} {g g' : gG} {k : Nat} (h : g' k = g k) : gfo ad g' k = gfo ad g k := by
  funext j o
  cases o <;> simp [gfo, h]
theorem gce_eq {ad : Nat → Nat} {cA : Nat → ClassId} {g g' : gG} {k : Nat} {s : gS} (h : g' k = g k) : gce ad cA g' k s = gce ad cA g k s := by
  cases s <;> simp [gce, gfo_eq h, h]
theorem gws_at {ad : Nat → Nat} {cA : Nat → ClassId} {g : gG} {k : Nat} {s : gS} (h : gshL[k]? = some s) : (gws ad cA g)[k]? = some (ad k, gce ad cA g k s) := by
  unfold gws
  rw [List.getElem?_mapIdx, h]
  rfl
theorem gws_some {ad : Nat → Nat} {cA : Nat → ClassId} {g : gG} {k : Nat} {q : Nat × va_E} (h : (gws ad cA g)[k]? = some q) : k < 58 ∧ q.1 = ad k := by
  unfold gws at h
  rw [List.getElem?_mapIdx] at h
  cases hk : gshL[k]? with
  | none => rw [hk] at h; cases h
  | some s =>
    rw [hk] at h
    cases h
    exact ⟨gsh_lt hk, rfl⟩
theorem gws_set {ad : Nat → Nat} {cA : Nat → ClassId} {g g' : gG} {k : Nat} {s : gS} {e : va_E} (h : gshL[k]? = some s) (he : gce ad cA g' k s = e) (ho : ∀ i, i ≠ k → g' i = g i) : (gws ad cA g).set k (ad k, e) = gws ad cA g' := by
  apply List.ext_getElem?
  intro i
  rw [List.getElem?_set]
  by_cases hi : k = i
  · subst hi
    rw [if_pos rfl, gws_at h, he, if_pos]
    unfold gws
    rw [List.length_mapIdx]
    exact (List.getElem?_eq_some_iff.mp h).1
  · rw [if_neg hi]
    unfold gws
    rw [List.getElem?_mapIdx, List.getElem?_mapIdx]
    cases gshL[i]? with
    | none => rfl
    | some s => simp only [Option.map_some]; rw [gce_eq (ho i (Ne.symm hi))]
theorem gD {ad : Nat → Nat} {cA : Nat → ClassId} {g : gG} (h : ginj ad) : va_D (gA ad) (gws ad cA g) := by
  refine ⟨fun i j p q hp hq e => ?_, fun k q hq => ?_⟩
  · obtain ⟨h1, e1⟩ := gws_some hp
    obtain ⟨h2, e2⟩ := gws_some hq
    exact h i j h1 h2 (by rw [← e1, ← e2]; exact e)
  · obtain ⟨h1, e1⟩ := gws_some hq
    exact ⟨k, h1, e1⟩
theorem gtv_cat (ad : Nat → Nat) (v : Value) : (gtv ad v).category = v.category := by cases v <;> rfl
theorem gtv_cats (ad : Nat → Nat) (l : List Value) : ((l.map (gtv ad)).map fun v => v.category) = l.map fun v => v.category := by
  rw [List.map_map]
  exact List.map_congr_left fun v _ => gtv_cat ad v
/-! what nobody writes: four tables, a text -/
def gtab (q j : Nat) : Int32 := if q = 100 then [3, 2, 1, 6, 6, 0].getD j 0 else if q = 101 then [2, 2, 1, 4, 4, 2].getD j 0 else if q = 102 then [0, -2, 0, 0, 5, -2].getD j 0 else if q = 103 then [2, 1, 0, 3, 3, 1].getD j 0 else [112, 109, 103, 102, 98, 111].getD j 0
def gsn (q : Nat) : String := if q = 100 then "PRICE" else if q = 101 then "COVER_HALVES" else if q = 102 then "COVER_MORE" else "CHAFE"
def gnx (q : Nat) : Nat := if q = 100 then 90 else if q = 101 then 60 else if q = 102 then 63 else 66
def gROq (ad : Nat → Nat) (q : Nat) (U : State) (H : Heap) : Prop := va_Z "ArmourOfTheShy" (gsn q) "[I" (.ref (ad q)) (gA ad) U H ∧ va_T .int (ad q) 6 (fun j => .int (gtab q j)) (gA ad) U H ∧ va_Nw (.fieldLinkNest RX0 (gnx q) "ArmourOfTheShy" (gsn q) "[I" "ArmourOfTheShy") U
def gROs (ad : Nat → Nat) (U : State) (H : Heap) : Prop := vk_R RX2 27 "pmgfbo" (ad 104) U ∧ va_O "java/lang/String" (ad 104) (gA ad) U H ∧ va_OF "java/lang/String" "value" "[B" (.ref (ad 105)) (ad 104) (gA ad) U H ∧ va_OF "java/lang/String" "coder" "B" (.int 0) (ad 104) (gA ad) U H ∧ va_T .byte (ad 105) 6 (fun j => .int (gtab 105 j)) (gA ad) U H ∧ va_Z "java/lang/String" "COMPACT_STRINGS" "Z" (.int 1) (gA ad) U H
def gRO (ad : Nat → Nat) (U : State) (H : Heap) : Prop := (∀ q, 100 ≤ q → q < 104 → gROq ad q U H) ∧ gROs ad U H
theorem gRO.kept {ad : Nat → Nat} {U : State} {H H1 : Heap} (h : gRO ad U H) (hq : ∀ a : Nat, a < H.size → ¬ gA ad a → H1[a]? = H[a]?) : gRO ad U H1 := by
  obtain ⟨h1, s1, s2, s3, s4, s5, s6⟩ := h
  exact ⟨fun q a b => ⟨(h1 q a b).1.kept hq, (h1 q a b).2.1.kept hq, (h1 q a b).2.2⟩, s1, s2.kept hq, s3.kept hq, s4.kept hq, s5.kept hq, s6.kept hq⟩
theorem gRO.warm {ad : Nat → Nat} {s U : State} {H : Heap} (hW : s.WarmedH U.vm) (h : gRO ad s H) : gRO ad U H := by
  obtain ⟨h1, s1, s2, s3, s4, s5, s6⟩ := h
  exact ⟨fun q a b => ⟨(h1 q a b).1.moved hW.alike, (h1 q a b).2.1.moved hW.alike, va_Nw.warmF hW (h1 q a b).2.2⟩, s1.warm hW, s2.moved hW.alike, s3.moved hW.alike, s4.moved hW.alike, s5.moved hW.alike, s6.moved hW.alike⟩
theorem gRO.same {ad : Nat → Nat} {u U : State} {H : Heap} (hv : u.vm = U.vm) (h : gRO ad u H) : gRO ad U H := by
  have ha : u.vm.Alike U.vm := by rw [hv]; exact Vm.Alike.refl U.vm
  obtain ⟨h1, s1, s2, s3, s4, s5, s6⟩ := h
  exact ⟨fun q a b => ⟨(h1 q a b).1.moved ha, (h1 q a b).2.1.moved ha, va_Nw.same rfl hv (h1 q a b).2.2⟩, vk_R.same hv.symm s1, s2.moved ha, s3.moved ha, s4.moved ha, s5.moved ha, s6.moved ha⟩
/-! a method: its name, code, locals, what it returns, the frames and the locals' words that it needs below itself -/
abbrev gM : Type := MethodName × ByteArray × Nat × Option FieldType × Nat × Nat
def groom (fr lo : Nat) : Room := { frames := fr, cells := 0, slots := 0, locals := lo }
def gPre (D : va_G) (cA : Nat → ClassId) (ad : Nat → Nat) (g : gG) (U : State) : Prop := va_P D vwCl (gws ad cA g) U.heap ∧ va_K D vwCl (gtys cA) U ∧ ginj ad ∧ gRO ad U U.heap
def gPc (D : va_G) (cA : Nat → ClassId) (ad : Nat → Nat) (av : List Value) (g : gG) : Array Value → State → Prop := fun v U => v = (av.map (gtv ad)).toArray ∧ gPre D cA ad g U
def gQc (D : va_G) (cA : Nat → ClassId) (ad : Nat → Nat) (Q : Option Value → gG → Prop) : Array Value → State → Outcome → State → Prop := fun _ st oc t => (∃ (r : Option Value) (g' : gG), oc = .returned (r.map (gtv ad)) ∧ Q r g' ∧ va_P D vwCl (gws ad cA g') t.heap) ∧ va_F (gA ad) st t
/-- a method's contract: from the ints g, with the arguments av, it returns so that Q -/
def gC (M : gM) (av : List Value) (g : gG) (Q : Option Value → gG → Prop) : Prop := ∀ (l : Launch) (D : va_G) (cA : Nat → ClassId) (ad : Nat → Nat), Met l M.1 (.code M.1 M.2.1 M.2.2.1 M.2.2.2.1 :: gw) (groom M.2.2.2.2.1 M.2.2.2.2.2) (gPc D cA ad av g) (gQc D cA ad Q) 0 0 (gA ad)
theorem gPc_blind {D : va_G} {cA : Nat → ClassId} {ad : Nat → Nat} {av : List Value} {g : gG} : FrameBlind (gPc D cA ad av g) := by
  intro a U f mk ⟨h1, h2, h3, h4, h5⟩
  exact ⟨h1, h2, va_K.moved (u := U) (U := U.calling f mk a) (Vm.Alike.refl U.vm) h3, h4, gRO.same (u := U) (U := U.calling f mk a) rfl h5⟩
/-! locals: a list, .null where nothing is known -/
def glo (ad : Nat → Nat) (n : Nat) (ls : List Value) (la : Array Slot) : Prop := la.size = n ∧ lv_wf la ∧ ls.length = n ∧ ∀ (i : Nat) (v : Value), ls[i]? = some v → v ≠ .null → la[i]? = some (.val (gtv ad v))
def gclr (ls : List Value) (i : Nat) : List Value := match i with
  | 0 => ls
  | k + 1 => match ls[k]? with
    | some (.long _) => ls.set k .null
    | some (.double _) => ls.set k .null
    | _ => ls
def gst1 (ls : List Value) (i : Nat) (v : Value) : List Value := (gclr ls i).set i v
def gst2 (ls : List Value) (i : Nat) (v : Value) : List Value := ((gclr ls i).set i v).set (i + 1) .null
theorem gclr_len (ls : List Value) (i : Nat) : (gclr ls i).length = ls.length := by
  unfold gclr
  split
  · rfl
  · split <;> simp
theorem gclr_at {ls : List Value} {i j : Nat} {v : Value} (h : (gclr ls i)[j]? = some v) (hn : v ≠ .null) : ls[j]? = some v ∧ ¬ (j + 1 = i ∧ v.category = 2) := by
  unfold gclr at h
  split at h
  · exact ⟨h, fun q => by omega⟩
  · next k =>
    split at h
    · next x hx =>
      rw [List.getElem?_set] at h
      split at h
      · split at h
        · cases h; exact absurd rfl hn
        · cases h
      · next hne => exact ⟨h, fun q => hne (by omega)⟩
    · next x hx =>
      rw [List.getElem?_set] at h
      split at h
      · split at h
        · cases h; exact absurd rfl hn
        · cases h
      · next hne => exact ⟨h, fun q => hne (by omega)⟩
    · next h1 h2 =>
      refine ⟨h, fun ⟨q1, q2⟩ => ?_⟩
      have hj : j = k := by omega
      subst hj
      cases v with
      | long x => exact h1 x h
      | double x => exact h2 x h
      | _ => simp [Value.category] at q2
/-- the pairs that a list of locals tells -/
def gprs (ad : Nat → Nat) (ls : List Value) : List (Nat × Value) := (List.range ls.length).filterMap fun i => match ls[i]? with
  | some v => if v = .null then none else some (i, gtv ad v)
  | none => none
theorem gprs_mem {ad : Nat → Nat} {ls : List Value} {i : Nat} {v : Value} (h : ls[i]? = some v) (hn : v ≠ .null) : (i, gtv ad v) ∈ gprs ad ls := by
  unfold gprs
  refine List.mem_filterMap.mpr ⟨i, List.mem_range.mpr (List.getElem?_eq_some_iff.mp h).1, ?_⟩
  simp [h, hn]
theorem gprs_of {ad : Nat → Nat} {ls : List Value} {q : Nat × Value} (h : q ∈ gprs ad ls) : ∃ v, ls[q.1]? = some v ∧ v ≠ .null ∧ q.2 = gtv ad v := by
  unfold gprs at h
  obtain ⟨i, -, hi⟩ := List.mem_filterMap.mp h
  cases hl : ls[i]? with
  | none => rw [hl] at hi; cases hi
  | some v =>
    rw [hl] at hi
    by_cases hv : v = .null
    · simp [hv] at hi
    · simp only [hv, if_false] at hi
      cases hi
      exact ⟨v, hl, hv, rfl⟩
theorem glo.has {ad : Nat → Nat} {n : Nat} {ls : List Value} {la : Array Slot} (h : glo ad n ls la) : lv_has la n (gprs ad ls) :=
  ⟨h.1, h.2.1, fun q hq => by
    obtain ⟨v, h1, h2, h3⟩ := gprs_of hq
    rw [h3]
    exact h.2.2.2 _ _ h1 h2⟩
theorem glo.st1 {ad : Nat → Nat} {n i : Nat} {ls : List Value} {la : Array Slot} {v : Value} (h : glo ad n ls la) (hi : i < n) (hc : v.category = 1) :
    ∃ la', storeLocals la i (gtv ad v) = some la' ∧ glo ad n (gst1 ls i v) la' := by
  obtain ⟨la', e, h'⟩ := lv_store1 (v := gtv ad v) h.has hi (by rw [gtv_cat]; exact hc)
  refine ⟨la', e, h'.1, h'.2.1, by simp [gst1, gclr_len, h.2.2.1], fun j w hj hn => ?_⟩
  unfold gst1 at hj
  rw [List.getElem?_set] at hj
  split at hj
  · next hij =>
    split at hj
    · cases hj
      subst hij
      exact h'.2.2 _ List.mem_cons_self
    · cases hj
  · next hij =>
    obtain ⟨h1, h2⟩ := gclr_at hj hn
    refine h'.2.2 (j, gtv ad w) (List.mem_cons_of_mem _ (List.mem_filter.mpr ⟨gprs_mem h1 hn, ?_⟩))
    have e1 : (j == i) = false := by simp; omega
    rw [show ((j, gtv ad w).1 == i) = false from e1]
    by_cases hq : j + 1 = i
    · have : ¬ w.category = 2 := fun q => h2 ⟨hq, q⟩
      simp [gtv_cat, this]
    · simp [hq]
theorem glo.st2 {ad : Nat → Nat} {n i : Nat} {ls : List Value} {la : Array Slot} {v : Value} (h : glo ad n ls la) (hi : i + 1 < n) (hc : v.category = 2) :
    ∃ la', storeLocals la i (gtv ad v) = some la' ∧ glo ad n (gst2 ls i v) la' := by
  obtain ⟨la', e, h'⟩ := lv_store2 (v := gtv ad v) h.has hi (by rw [gtv_cat]; exact hc)
  refine ⟨la', e, h'.1, h'.2.1, by simp [gst2, gclr_len, h.2.2.1], fun j w hj hn => ?_⟩
  unfold gst2 at hj
  rw [List.getElem?_set] at hj
  split at hj
  · split at hj
    · cases hj; exact absurd rfl hn
    · cases hj
  · next hij1 =>
    rw [List.getElem?_set] at hj
    split at hj
    · next hij =>
      split at hj
      · cases hj
        subst hij
        exact h'.2.2 _ List.mem_cons_self
      · cases hj
    · next hij =>
      obtain ⟨h1, h2⟩ := gclr_at hj hn
      refine h'.2.2 (j, gtv ad w) (List.mem_cons_of_mem _ (List.mem_filter.mpr ⟨gprs_mem h1 hn, ?_⟩))
      have e1 : (j == i) = false := by simp; omega
      have e2 : (j == i + 1) = false := by simp; omega
      rw [show ((j, gtv ad w).1 == i) = false from e1, show ((j, gtv ad w).1 == i + 1) = false from e2]
      by_cases hq : j + 1 = i
      · have : ¬ w.category = 2 := fun q => h2 ⟨hq, q⟩
        simp [gtv_cat, this]
      · simp [hq]
/-- the locals with which a method begins -/
def gargs (av : List Value) : List Value := av.flatMap fun v => if v.category = 2 then [v, .null] else [v]
def gent (av : List Value) (n : Nat) : List Value := gargs av ++ List.replicate (n - (gargs av).length) .null
theorem gargs_in (ad : Nat → Nat) : ∀ (av : List Value) (k i : Nat) (v : Value), (gargs av)[i]? = some v → v ≠ .null → (k + i, gtv ad v) ∈ lv_args k (av.map (gtv ad))
  | [], k, i, v, h, hn => by simp [gargs] at h
  | a :: av, k, i, v, h, hn => by
    show (k + i, gtv ad v) ∈ (k, gtv ad a) :: lv_args (if (gtv ad a).category = 2 then k + 2 else k + 1) (av.map (gtv ad))
    have hg : gargs (a :: av) = (if a.category = 2 then [a, .null] else [a]) ++ gargs av := by simp [gargs]
    rw [hg] at h
    rw [gtv_cat]
    by_cases hc : a.category = 2
    · rw [if_pos hc] at h ⊢
      match i, h with
      | 0, h => cases h; exact List.mem_cons_self
      | 1, h => cases h; exact absurd rfl hn
      | i + 2, h =>
        have := gargs_in ad av (k + 2) i v h hn
        rw [show k + (i + 2) = k + 2 + i by omega]
        exact List.mem_cons_of_mem _ this
    · rw [if_neg hc] at h ⊢
      match i, h with
      | 0, h => cases h; exact List.mem_cons_self
      | i + 1, h =>
        have := gargs_in ad av (k + 1) i v h hn
        rw [show k + (i + 1) = k + 1 + i by omega]
        exact List.mem_cons_of_mem _ this
theorem gargs_len (ad : Nat → Nat) : ∀ av : List Value, (lg_sl (av.map (gtv ad))).length = (gargs av).length
  | [] => rfl
  | a :: av => by
    have ih := gargs_len ad av
    have h1 : gargs (a :: av) = (if a.category = 2 then [a, .null] else [a]) ++ gargs av := by simp [gargs]
    have h2 : lg_sl ((a :: av).map (gtv ad)) = (if (gtv ad a).category = 2 then [.val (gtv ad a), .second] else [.val (gtv ad a)]) ++ lg_sl (av.map (gtv ad)) := by simp [lg_sl]
    rw [h1, h2, gtv_cat, List.length_append, List.length_append, ih]
    by_cases hc : a.category = 2 <;> simp [hc]
theorem glo_entry (ad : Nat → Nat) (av : List Value) {n : Nat} (h : (gargs av).length ≤ n) : glo ad n (gent av n) ((lg_sl (av.map (gtv ad)) ++ List.replicate (n - (lg_sl (av.map (gtv ad))).length) Slot.unset).toArray) := by
  obtain ⟨h1, h2, h3⟩ := lv_entry (av.map (gtv ad)) (n := n) (by rw [gargs_len]; exact h)
  refine ⟨h1, h2, by simp [gent]; omega, fun i v hi hn => ?_⟩
  unfold gent at hi
  rw [List.getElem?_append] at hi
  split at hi
  · have := gargs_in ad av 0 i v hi hn
    rw [Nat.zero_add] at this
    exact h3 _ this
  · rw [List.getElem?_replicate] at hi
    split at hi
    · cases hi; exact absurd rfl hn
    · cases hi
