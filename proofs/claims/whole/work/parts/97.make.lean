def va_AOA (ty : FieldType) (U : State) : Prop := (Cond.arrayOver (.array ty)).before #[] U = true
theorem va_AOA.use {ty : FieldType} {A : Array Value} {U : State} (h : va_AOA ty U) : (Cond.arrayOver (.array ty)).before A U = true := h
theorem va_AOA.of {ty : FieldType} {A : Array Value} {U : State} (h : (Cond.arrayOver (.array ty)).before A U = true) : va_AOA ty U := h
theorem va_AOA.moved {ty : FieldType} {u U : State} (hvm : u.vm.Alike U.vm) (h : va_AOA ty u) : va_AOA ty U := (Cond.arrayOver_setVmC (args := #[]) (s := u) hvm (.array ty)).trans h
/-! ===== BEGIN new T[n][m]: the outer array a place, the inner ones among the pooled ===== -/
/-- f, but v at every address of l -/
def vr_up {α : Type} (f : Nat → α) (l : List Nat) (v : α) : Nat → α := fun a => if a ∈ l then v else f a
theorem vr_up_in {α : Type} {f : Nat → α} {l : List Nat} {v : α} {a : Nat} (h : a ∈ l) : vr_up f l v a = v := if_pos h
theorem vr_up_ne {α : Type} {f : Nat → α} {l : List Nat} {v : α} {a : Nat} (h : a ∉ l) : vr_up f l v a = f a := if_neg h
theorem vr_rows {L l : List Nat} {f : Nat → va_E} {e : va_E} (h : ∀ a, a ∈ l → a ∉ L) : va_pl L f ++ l.map (fun a => (a, e)) = va_pl (L ++ l) (vr_up f l e) := by
  unfold va_pl
  rw [List.map_append]
  congr 1
  · apply List.map_congr_left
    intro a ha
    rw [vr_up_ne (fun q => h a q ha)]
  · apply List.map_congr_left
    intro a ha
    rw [vr_up_in ha]
theorem vr_lay {X rows : va_W} {x : Nat × va_E} {pl : va_W} {D : va_G} {cl : List vw_C} {H : Heap} (hP : va_P D cl (((X ++ pl) ++ [x]) ++ rows) H) : va_P D cl ((X ++ [x]) ++ (pl ++ rows)) H := by
  rw [List.append_assoc (X ++ pl)] at hP
  have h := va_P.swap hP
  rw [← List.append_assoc X] at h
  have h2 := va_P.swap h
  rw [List.append_assoc (X ++ [x])] at h2
  exact h2
theorem vr_layD {X rows : va_W} {x : Nat × va_E} {pl : va_W} {A : Nat → Prop} (hD : va_D A (((X ++ pl) ++ [x]) ++ rows)) : va_D A ((X ++ [x]) ++ (pl ++ rows)) := by
  rw [List.append_assoc (X ++ pl)] at hD
  have h := va_D.swap hD
  rw [← List.append_assoc X] at h
  have h2 := va_D.swap h
  rw [List.append_assoc (X ++ [x])] at h2
  exact h2
theorem vr_outer (c : ClassId) (N h0 : Nat) : ∀ i : Nat, Jvm.Free.Multi.outerC c N h0 i = arrV c N (fun j => va_rf (if j < i then some (h0 + 1 + j) else none))
  | 0 => by
    show ({ cls := c, slots := Array.replicate N .null, vm := .none } : Cell) = _
    rw [arrV_new]
    refine congrArg (arrV c N) (funext fun j => ?_)
    simp [va_rf]
  | i + 1 => by
    show (Jvm.Free.Multi.outerC c N h0 i).setSlot i (.ref (h0 + 1 + i)) = _
    rw [vr_outer c N h0 i, arrV_store]
    refine congrArg (arrV c N) (funext fun j => ?_)
    by_cases e : j = i
    · subst e
      simp [updV, va_rf]
    · by_cases h : j < i
      · simp [updV, e, h, Nat.lt_succ_of_lt h]
      · simp [updV, e, h, show ¬ j < i + 1 by omega]
section VGM
variable {p : Program} {l : Launch} {e : Env} {R : Room} {s : State} {m : MethodId} {args : Array Value} {below : List Frame} {meth : Method} {c : Code} {H : Heap} {locs : List Loc} {cells slots : Nat} {Q : State → Prop}
variable {cc : ByteArray} {pc : Nat} {ls : Array Slot} {rest : List Value} {D : va_G} {cl : List vw_C} {A : Nat → Prop} {a : Nat} {tys : List (ClassId × FieldType)} {ws : va_W} {H0 : Heap}
theorem va_mna {X : va_W} {L : List Nat} {f : Nat → va_E} {cc : ByteArray} (hexec : p.tables.exec = Jvm.exec) (hb : c.code = cc) {own : String} {index : Nat} {ty : FieldType} {cy : ClassId} (hown : s.vm.findClass own = some m.cls) (hclink : (Cond.classLink own index ("[" ++ (FieldType.array ty).toString)).before args s = true) (hover : va_AOA ty s) (harr : (Cond.arrayClass ty).before args s = true) (hcy : s.vm.findClass (FieldType.array ty).toString = some cy)
    (hK : va_K D cl tys s) (hP : va_P D cl (X ++ va_pl L f) H) (hD : va_D A (X ++ va_pl L f)) (hS : va_S A H0 H locs) (hA : ∀ q, H0.size ≤ q → A q) {n k : Int32} {N' K' : Nat} {z : vp_A} (hn : ¬ n < 0) (hk : ¬ k < 0) (hN : n.toNatClampNeg = N') (hM : k.toNatClampNeg = K')
    (hb1 : N' * 4 ≤ 536870912) (hb2 : K' * componentBytes ty ≤ 536870912) (hb3 : K' ≤ 536870912) (hdf : fits ty (defaultValue ty) = true) (hdd : (defaultValue ty).isDefault = true) (hcells : cells + (1 + N') ≤ R.cells) (hslots : slots + (N' + N' * K') ≤ R.slots) (hz : ∀ c : ClassId, Jvm.Free.Multi.innerC c K' (defaultValue ty) = vp_cell c z) (hdg : decode cc pc = .ok (.multianewarray index 2, 4))
    (kk : ∀ (q : Nat) (r : Nat → Nat) (cA : ClassId) (H1 : Heap), (∀ i j : Nat, i < N' → j < N' → r i = r j → i = j) → (∀ i : Nat, i < N' → r i ∉ L) → va_K D cl (tys ++ [(cA, .array ty)]) s →
      va_P D cl ((X ++ [(q, .inl (cA, N', .inr (.inr (.inr (.inr (fun i => if i < N' then some (r i) else none))))))]) ++ va_pl (L ++ (List.range N').map r) (vr_up f ((List.range N').map r) (.inl (cy, z)))) H1 → va_D A ((X ++ [(q, .inl (cA, N', .inr (.inr (.inr (.inr (fun i => if i < N' then some (r i) else none))))))]) ++ va_pl (L ++ (List.range N').map r) (vr_up f ((List.range N').map r) (.inl (cy, z)))) → va_S A H0 H1 locs →
      W p l e R s m args below meth c H1 locs (cells + 1 + N') (slots + N' + N' * K') Q (F0 m (pc + 4) ls (.ref q :: rest))) : W p l e R s m args below meth c H locs cells slots Q (F0 m pc ls (.int k :: .int n :: rest)) := by
  subst hN
  subst hM
  intro T hT Xs
  obtain ⟨vm₁, cA, comp, -, fA, fC, hO, -, X', step⟩ := Xs.multianewarray2F hexec hown hclink (va_AOA.use hover) harr (g := F0 m pc ls (.int k :: .int n :: rest)) rfl (by rw [hb]; exact hdg) rfl hn hk hb1 hb2 hb3 hdf hdd hcells hslots
  have ec : some cy = some comp := hcy.symm.trans fC
  cases ec
  generalize hF : Jvm.Free.Multi.fill (T.setVm vm₁) cA cy n.toNatClampNeg k.toNatClampNeg (defaultValue ty) n.toNatClampNeg = F at X' step
  have hTh : (T.setVm vm₁).heap = H := hT
  obtain ⟨f1, f2, -, -⟩ := Jvm.Free.Multi.fill_facts (T.setVm vm₁) cA cy n.toNatClampNeg k.toNatClampNeg (defaultValue ty) n.toNatClampNeg
  rw [hF, hTh] at f1 f2
  have hold : ∀ x : Nat, x < H.size → F.heap[x]? = H[x]? := fun x hx => by
    have := Jvm.Free.Multi.fill_old (T.setVm vm₁) cA cy n.toNatClampNeg k.toNatClampNeg (defaultValue ty) (a := x) (by rw [hTh]; exact hx) n.toNatClampNeg
    rw [hF, hTh] at this
    exact this
  have hrow : ∀ j : Nat, j < n.toNatClampNeg → F.heap[H.size + 1 + j]? = some (vp_cell cy z) := fun j hj => by
    have := Jvm.Free.Multi.fill_inner (T.setVm vm₁) cA cy n.toNatClampNeg k.toNatClampNeg (defaultValue ty) n.toNatClampNeg j hj
    rw [hF, hTh, hz] at this
    exact this
  have hout : Jvm.Free.Multi.outerC cA n.toNatClampNeg H.size n.toNatClampNeg = vp_cell cA (n.toNatClampNeg, .inr (.inr (.inr (.inr (fun i => if i < n.toNatClampNeg then some (H.size + 1 + i) else none))))) := by
    rw [vp_cell_q]
    exact vr_outer cA n.toNatClampNeg H.size n.toNatClampNeg
  rw [hout] at f2
  have hlt : ∀ a, a ∈ L → a < H.size := fun a ha => by
    obtain ⟨k9, hk9⟩ := va_pl_get (X := X) (f := f) ha
    exact (hP k9 _ hk9).lt
  have hnl : ∀ i : Nat, i < n.toNatClampNeg → H.size + 1 + i ∉ L := fun i _ h => by
    have := hlt _ h
    omega
  have hnm : ∀ a, a ∈ (List.range n.toNatClampNeg).map (fun i => H.size + 1 + i) → a ∉ L := fun a ha h => by
    obtain ⟨i, -, rfl⟩ := List.mem_map.mp ha
    have := hlt _ h
    omega
  have hP0 : va_P D cl (X ++ va_pl L f) F.heap := hP.kept (fun k9 x hx => hold x.1 ((hP k9 x hx).lt))
  have hP1 : va_P D cl ((X ++ va_pl L f) ++ [(H.size, .inl (cA, n.toNatClampNeg, .inr (.inr (.inr (.inr (fun i => if i < n.toNatClampNeg then some (H.size + 1 + i) else none))))))]) F.heap := hP0.app (fun k9 x hx => by
    have h0 : k9 < 1 := (List.getElem?_eq_some_iff.mp hx).1
    rw [show k9 = 0 by omega] at hx
    cases hx
    exact f2)
  have hP2 : va_P D cl (((X ++ va_pl L f) ++ [(H.size, .inl (cA, n.toNatClampNeg, .inr (.inr (.inr (.inr (fun i => if i < n.toNatClampNeg then some (H.size + 1 + i) else none))))))]) ++ ((List.range n.toNatClampNeg).map (fun i => H.size + 1 + i)).map (fun a => (a, .inl (cy, z)))) F.heap := hP1.app (fun k9 x hx => by
    obtain ⟨a, ha, rfl⟩ := List.mem_map.mp (List.mem_of_getElem? hx)
    obtain ⟨i, hi, rfl⟩ := List.mem_map.mp ha
    exact hrow i (List.mem_range.mp hi))
  have hD2 : va_D A (((X ++ va_pl L f) ++ [(H.size, .inl (cA, n.toNatClampNeg, .inr (.inr (.inr (.inr (fun i => if i < n.toNatClampNeg then some (H.size + 1 + i) else none))))))]) ++ ((List.range n.toNatClampNeg).map (fun i => H.size + 1 + i)).map (fun a => (a, .inl (cy, z)))) := by
    have hD1 := hD.push (e := .inl (cA, n.toNatClampNeg, .inr (.inr (.inr (.inr (fun i => if i < n.toNatClampNeg then some (H.size + 1 + i) else none)))))) hP rfl (hA _ hS.1)
    generalize hW1 : (X ++ va_pl L f) ++ [(H.size, .inl (cA, n.toNatClampNeg, .inr (.inr (.inr (.inr (fun i => if i < n.toNatClampNeg then some (H.size + 1 + i) else none))))))] = W1 at hD1 hP1 ⊢
    have hle : ∀ (k9 : Nat) (x : Nat × va_E), W1[k9]? = some x → x.1 ≤ H.size := fun k9 x hx => by
      rw [← hW1] at hx
      by_cases hl : k9 < (X ++ va_pl L f).length
      · rw [List.getElem?_append_left hl] at hx
        exact Nat.le_of_lt ((hP k9 x hx).lt)
      · rw [List.getElem?_append_right (by omega)] at hx
        have h0 : k9 - (X ++ va_pl L f).length < 1 := (List.getElem?_eq_some_iff.mp hx).1
        rw [show k9 - (X ++ va_pl L f).length = 0 by omega] at hx
        cases hx
        exact Nat.le_refl _
    have hr : ∀ (k9 : Nat) (x : Nat × va_E), (((List.range n.toNatClampNeg).map (fun i => H.size + 1 + i)).map (fun a => ((a, .inl (cy, z)) : Nat × va_E)))[k9]? = some x → x.1 = H.size + 1 + k9 := fun k9 x hx => by
      rw [List.getElem?_map, List.getElem?_map] at hx
      by_cases h9 : k9 < n.toNatClampNeg
      · rw [List.getElem?_range h9] at hx
        cases hx
        rfl
      · have hn0 : (List.range n.toNatClampNeg)[k9]? = none := List.getElem?_eq_none (by rw [List.length_range]; omega)
        rw [hn0] at hx
        cases hx
    refine ⟨fun i j x y hi hj hxy => ?_, fun k9 x hx => ?_⟩
    · by_cases h1 : i < W1.length <;> by_cases h2 : j < W1.length
      · rw [List.getElem?_append_left h1] at hi
        rw [List.getElem?_append_left h2] at hj
        exact hD1.1 i j x y hi hj hxy
      · rw [List.getElem?_append_left h1] at hi
        rw [List.getElem?_append_right (by omega)] at hj
        have := hle _ _ hi
        have := hr _ _ hj
        omega
      · rw [List.getElem?_append_right (by omega)] at hi
        rw [List.getElem?_append_left h2] at hj
        have := hle _ _ hj
        have := hr _ _ hi
        omega
      · rw [List.getElem?_append_right (by omega)] at hi hj
        have := hr _ _ hi
        have := hr _ _ hj
        omega
    · by_cases h1 : k9 < W1.length
      · rw [List.getElem?_append_left h1] at hx
        exact hD1.2 k9 x hx
      · rw [List.getElem?_append_right (by omega)] at hx
        have := hr _ _ hx
        exact hA _ (by have := hS.1; omega)
  have hAr : ArrOfT s cA (.array ty) := fun N9 z9 => by
    obtain ⟨-, k9, hk9, cm9, hkk9⟩ := (hO 0 0 0).1
    exact ⟨(fun q hq => by cases hq), k9, hk9, cm9, hkk9⟩
  have hK2 : va_K D cl (tys ++ [(cA, .array ty)]) s := ⟨hK.1, fun k9 x hx => by
    by_cases hl : k9 < tys.length
    · rw [List.getElem?_append_left hl] at hx
      exact hK.2 k9 x hx
    · rw [List.getElem?_append_right (by omega)] at hx
      have h0 : k9 - tys.length < 1 := (List.getElem?_eq_some_iff.mp hx).1
      rw [show k9 - tys.length = 0 by omega] at hx
      cases hx
      exact ⟨hAr, fA⟩⟩
  obtain ⟨t, a1, b1⟩ := kk H.size (fun i => H.size + 1 + i) cA F.heap (fun i j _ _ h => by have h9 : H.size + 1 + i = H.size + 1 + j := h; omega) hnl hK2 (by rw [← vr_rows hnm]; exact vr_lay hP2) (by rw [← vr_rows hnm]; exact vr_layD hD2) ⟨by rw [f1]; have := hS.1; omega, fun x h1 h2 => (hold x (Nat.lt_of_lt_of_le h1 hS.1)).trans (hS.2.1 x h1 h2), hS.2.2⟩ F rfl X'
  refine ⟨t, step t ?_, b1⟩
  have e : T.heap.size = H.size := by rw [hT]
  rw [e]
  exact a1
end VGM
/-! ===== worlds that grow at their end ===== -/
theorem vx_l {X : va_W} {x : Nat × va_E} {k : Nat} {q : Nat × va_E} (h : X[k]? = some q) : (X ++ [x])[k]? = some q := by
  rw [List.getElem?_append_left (List.getElem?_eq_some_iff.mp h).1]
  exact h
theorem vx_r {X : va_W} {x : Nat × va_E} : (X ++ [x])[X.length]? = some x := by simp
theorem vx_1 {x y : Nat × va_E} {k : Nat} (h : [x][k]? = some y) : y = x := by
  have hz : k < 1 := (List.getElem?_eq_some_iff.mp h).1
  rw [show k = 0 by omega] at h
  cases h
  rfl
theorem vq_last {D : va_G} {cl : List vw_C} {X : va_W} {x : Nat × va_E} {H : Heap} (hP : va_P D cl (X ++ [x]) H) : va_P D cl [x] H := fun k q hq => by
  rw [vx_1 hq]
  exact hP _ _ vx_r
theorem vd_last {A : Nat → Prop} {x : Nat × va_E} : va_D (fun _ => True) [x] := by
  refine ⟨fun i j p q hi hj _ => ?_, fun _ _ _ => trivial⟩
  have h1 : i < 1 := (List.getElem?_eq_some_iff.mp hi).1
  have h2 : j < 1 := (List.getElem?_eq_some_iff.mp hj).1
  omega
theorem vf_last {A0 : Nat → Prop} {X : va_W} {x : Nat × va_E} {H0 H : Heap} {locs : List Loc} (hD : va_D A0 (X ++ [x])) (hS : va_S A0 H0 H locs) (hA : ∀ q, H0.size ≤ q → A0 q) : ∀ q, va_A [x] H.size q → A0 q := by
  rintro q (⟨k, e, h⟩ | h)
  · have := hD.2 _ _ (vx_r (X := X) (x := x))
    rw [← vx_1 h] at this
    exact this
  · exact hA q (Nat.le_trans hS.1 h)
theorem vj_last {A0 : Nat → Prop} {D : va_G} {cl : List vw_C} {X w1 : va_W} {x : Nat × va_E} {H H1 : Heap} (hP : va_P D cl (X ++ [x]) H) (hD : va_D A0 (X ++ [x])) (hk : ∀ q : Nat, q < H.size → ¬ va_A [x] H.size q → H1[q]? = H[q]?) (hF : ∀ q, va_A [x] H.size q → A0 q) (hP1 : va_P D cl w1 H1) (hD1 : va_D (va_A [x] H.size) w1) : va_P D cl (X ++ w1) H1 ∧ va_D A0 (X ++ w1) := by
  have apart : ∀ (k : Nat) (q : Nat × va_E), X[k]? = some q → q.1 < H.size ∧ ¬ va_A [x] H.size q.1 := by
    intro k q hq
    have hl := (hP k q (vx_l hq)).lt
    refine ⟨hl, fun h => ?_⟩
    rcases h with ⟨k2, e, h⟩ | h
    · have e1 := vx_1 h
      have := hD.1 k X.length q x (vx_l hq) vx_r (by rw [← e1])
      have := (List.getElem?_eq_some_iff.mp hq).1
      omega
    · omega
  refine ⟨va_P.app (fun k q hq => ?_) hP1, va_D.app ⟨fun i j p q hi hj e => hD.1 i j p q (vx_l hi) (vx_l hj) e, fun k q hq => hD.2 k q (vx_l hq)⟩ (hD1.weaken (fun k q _ h => hF q.1 h)) (fun i j y z hy hz hyz => ?_)⟩
  · obtain ⟨g1, g2⟩ := apart k q hq
    exact (hP k q (vx_l hq)).kept (hk q.1 g1 g2)
  · exact (apart i y hy).2 (by rw [hyz]; exact hD1.2 j z hz)
abbrev tA (cI cC : ClassId) : List (ClassId × FieldType) := [(cI, .int), (cC, .char)]
abbrev ar (cI : ClassId) (n : Nat) : va_E := .inl (cI, n, .inl (fun _ => (0 : Int32)))
section VNA
variable {p : Program} {l : Launch} {e : Env} {R : Room} {s : State} {m : MethodId} {args : Array Value} {below : List Frame} {meth : Method} {c : Code} {H : Heap} {locs : List Loc} {cells slots : Nat} {Q : State → Prop}
variable {cc : ByteArray} {pc : Nat} {ls : Array Slot} {rest : List Value} {D : va_G} {cl : List vw_C} {A : Nat → Prop} {ws : va_W} {H0 : Heap} {cI cC : ClassId}
theorem vn_int (hexec : p.tables.exec = Jvm.exec) (hb : c.code = cc) (harr : (Cond.arrayClass .int).before args s = true) (hK : va_K D cl (tA cI cC) s) (hP : va_P D cl ws H) (hD : va_D A ws) (hS : va_S A H0 H locs) (hA : ∀ q, H0.size ≤ q → A q) {n : Int32} {N' c2 s2 : Nat} (hn : ¬ n < 0) (hN : n.toNatClampNeg = N') (hbytes : N' * 4 ≤ 536870912) (hcells : cells + 1 ≤ R.cells) (hslots : slots + N' ≤ R.slots) (hdg : decode cc pc = .ok (.newarray .int, 2)) (h1 : cells + 1 ≤ c2) (h2 : slots + N' ≤ s2)
    (kk : ∀ (q : Nat) (H1 : Heap), va_P D cl (ws ++ [(q, ar cI N')]) H1 → va_D A (ws ++ [(q, ar cI N')]) → va_S A H0 H1 locs → W p l e R s m args below meth c H1 locs c2 s2 Q (F0 m (pc + 2) ls (.ref q :: rest))) : W p l e R s m args below meth c H locs cells slots Q (F0 m pc ls (.int n :: rest)) := by
  refine va_newa (atype := .int) (ty := .int) (a0 := (N', .inl (fun _ => (0 : Int32)))) hexec hb harr rfl hK hP hD hS hA (fun _ => rfl) hn hN hbytes hcells hslots hdg (fun q cA H1 hK1 hP1 hD1 hS1 => ?_)
  have e1 : s.vm.findClass ("[" ++ (FieldType.int).toString) = some cA := (hK1.2 2 (cA, .int) rfl).2
  have e2 : s.vm.findClass ("[" ++ (FieldType.int).toString) = some cI := (hK.2 0 (cI, .int) rfl).2
  obtain rfl : cA = cI := Option.some.inj (e1.symm.trans e2)
  exact W.widen (k := c2) (n := s2) h1 h2 (kk q H1 hP1 hD1 hS1)
theorem vn_chr (hexec : p.tables.exec = Jvm.exec) (hb : c.code = cc) (harr : (Cond.arrayClass .char).before args s = true) (hK : va_K D cl (tA cI cC) s) (hP : va_P D cl ws H) (hD : va_D A ws) (hS : va_S A H0 H locs) (hA : ∀ q, H0.size ≤ q → A q) {n : Int32} {N' c2 s2 : Nat} (hn : ¬ n < 0) (hN : n.toNatClampNeg = N') (hbytes : N' * 2 ≤ 536870912) (hcells : cells + 1 ≤ R.cells) (hslots : slots + N' ≤ R.slots) (hdg : decode cc pc = .ok (.newarray .char, 2)) (h1 : cells + 1 ≤ c2) (h2 : slots + N' ≤ s2)
    (kk : ∀ (q : Nat) (H1 : Heap), va_P D cl (ws ++ [(q, ar cC N')]) H1 → va_D A (ws ++ [(q, ar cC N')]) → va_S A H0 H1 locs → W p l e R s m args below meth c H1 locs c2 s2 Q (F0 m (pc + 2) ls (.ref q :: rest))) : W p l e R s m args below meth c H locs cells slots Q (F0 m pc ls (.int n :: rest)) := by
  refine va_newa (atype := .char) (ty := .char) (a0 := (N', .inl (fun _ => (0 : Int32)))) hexec hb harr rfl hK hP hD hS hA (fun _ => rfl) hn hN hbytes hcells hslots hdg (fun q cA H1 hK1 hP1 hD1 hS1 => ?_)
  have e1 : s.vm.findClass ("[" ++ (FieldType.char).toString) = some cA := (hK1.2 2 (cA, .char) rfl).2
  have e2 : s.vm.findClass ("[" ++ (FieldType.char).toString) = some cC := (hK.2 1 (cC, .char) rfl).2
  obtain rfl : cA = cC := Option.some.inj (e1.symm.trans e2)
  exact W.widen (k := c2) (n := s2) h1 h2 (kk q H1 hP1 hD1 hS1)
end VNA
theorem gw_in : ∀ w ∈ gw, w ∈ gw := fun _ h => h
theorem gw_gi {y : MethodName} {b : ByteArray} {n : Nat} {r : Option FieldType} (h : Cond.code y b n r ∈ gw) (w : Cond) (hw : w ∈ Cond.code y b n r :: gw) : w ∈ gw ∧ ((w.onTables && w.keeps) = true ∨ ∃ ty, w = .arrayClass ty) := by
  rcases List.mem_cons.mp hw with rfl | hw
  · exact ⟨h, gw_good h⟩
  · exact ⟨hw, gw_good hw⟩
theorem rows6 {X : va_W} {r : Nat → Nat} {f : Nat → va_E} {e : va_E} : X ++ va_pl ([] ++ (List.range 6).map r) (vr_up f ((List.range 6).map r) e) = X ++ [(r 0, e), (r 1, e), (r 2, e), (r 3, e), (r 4, e), (r 5, e)] := by
  congr 1
  unfold va_pl
  rw [List.nil_append, List.map_map]
  have : (List.range 6).map ((fun a => (a, vr_up f ((List.range 6).map r) e a)) ∘ r) = (List.range 6).map (fun i => (r i, e)) := by
    apply List.map_congr_left
    intro i hi
    show (r i, vr_up f ((List.range 6).map r) e (r i)) = (r i, e)
    rw [vr_up_in (List.mem_map_of_mem hi)]
  rw [this]
  rfl
abbrev oX0 : va_E := .inr (0, [.null, .null, .null, .null, .null, .null, .null, .int 0, .int 0, .int 0, .int 0])
def wX0 (cI cC : ClassId) (h0 : Nat) (u : Nat → Nat) : va_W := [(h0, .inr (0, [.ref (u 0), .ref (u 1), .ref (u 2), .ref (u 3), .ref (u 4), .ref (u 5), .ref (u 6), .int 0, .int 0, .int 0, .int 0])), ((u 0), ar cI 6), ((u 1), ar cI 6), ((u 2), ar cI 6), ((u 3), ar cI 5), ((u 4), ar cI 5), ((u 5), ar cI 5), ((u 6), ar cI 5)]
set_option maxRecDepth 100000 in
set_option maxHeartbeats 4000000 in
theorem i_X0 (l : Launch) (D : va_G) (cI cC : ClassId) (h0 sz : Nat) : Met l yX0_init (.code yX0_init cX0_init 1 none :: gw) ({ frames := 1, cells := 7, slots := 38, locals := 12 }) (va_Pc [.ref h0] (fun U => U.heap.size = sz ∧ va_P D vwCl [(h0, oX0)] U.heap ∧ va_K D vwCl (tA cI cC) U ∧ va_D (fun _ => True) [(h0, oX0)])) (va_Qv (fun _ : Nat → Nat => True) (fun u t => va_P D vwCl (wX0 cI cC h0 u) t.heap ∧ va_D (va_A [(h0, oX0)] sz) (wX0 cI cC h0 u)) (va_A [(h0, oX0)] sz)) 7 38 (va_A [(h0, oX0)] sz) := by
  refine Met.ofW (cc := cX0_init) (maxL := 1) (ret := none) (by decide +kernel) rfl ?_
  intro p e s m args below meth c s₁ B hml hv
  obtain ⟨rfl, hsz, hP, hK, hD0⟩ := hv
  have hx := B.exec
  have hb := B.bytes
  have hr := B.returns
  have hts := atoms_spec (ws := (.code yX0_init cX0_init 1 none :: gw)) B.pre
  have hg : ∀ w ∈ gw, w.before #[.ref h0] s = true := fun w hw => hts w (List.mem_cons_of_mem _ hw)
  have hown : s.vm.findClass RX0 = some m.cls := findClass_of_methodNamed B.named
  have hlocks := B.notSynchronized
  have hin : meth.name = "<init>" := (name_of_methodNamed B.named B.method).1
  subst hsz
  have hD := hD0.self (sz := s.heap.size)
  generalize hAe : va_A [(h0, oX0)] s.heap.size = A at hD ⊢
  have hA : ∀ q : Nat, s.heap.size ≤ q → A q := fun q h => by rw [← hAe]; exact Or.inr h
  have hS : va_S A s.heap s.heap [] := va_S.rf
  have hl := lv_entry ([.ref h0]) (n := 1) (Nat.le_of_ble_eq_true rfl)
  rw [lg_entry_eq]
  generalize (lg_sl ([.ref h0]) ++ List.replicate (1 - (lg_sl ([.ref h0])).length) Slot.unset).toArray = ls at hl ⊢
  have hl : lv_has ls 1 [(0, .ref h0)] := hl
  refine lv_aload_n hx hb dX0_init_0 rfl (lv_at hl 0 rfl) ?_
  refine W.objInit hx hb hown (hg (.methodLink RX0 3 objectInit) (gw_mem 94 (by decide +kernel) (by decide +kernel))) (hg (.instanceMethod objectInit) (gw_mem 87 (by decide +kernel) (by decide +kernel))) (hg (.code objectInit ⟨#[0xb1]⟩ 1 none) (gw_mem 88 (by decide +kernel) (by decide +kernel))) rfl (by rw [hml]; exact hl.1) rfl dX0_init_1 (Nat.le_of_ble_eq_true rfl) (Nat.le_of_ble_eq_true rfl) ?_
  refine W.eq (g2 := F0 m 4 ls []) rfl ?_
  refine lv_aload_n hx hb dX0_init_4 rfl (lv_at hl 0 rfl) ?_
  refine lv_bipush (v := 6) hx hb dX0_init_5 (by decide) ?_
  refine vn_int (N' := 6) (c2 := 1) (s2 := 6) hx hb (hg (.arrayClass .int) (gw_mem 148 (by decide +kernel) (by decide +kernel))) hK hP hD hS hA (by decide) (by decide) (Nat.le_of_ble_eq_true rfl) (Nat.le_of_ble_eq_true rfl) (Nat.le_of_ble_eq_true rfl) dX0_init_7 (Nat.le_of_ble_eq_true rfl) (Nat.le_of_ble_eq_true rfl) (fun q7 H hP hD hS => ?_)
  have hP : va_P D vwCl ([(h0, .inr (0, [.null, .null, .null, .null, .null, .null, .null, .int 0, .int 0, .int 0, .int 0])), (q7, ar cI 6)]) H := hP
  have hD : va_D A ([(h0, .inr (0, [.null, .null, .null, .null, .null, .null, .null, .int 0, .int 0, .int 0, .int 0])), (q7, ar cI 6)]) := hD
  refine va_putF (D := D) (ci := 0) (v := .ref q7) (ty := .array .int) (C := RX0) (T := TX0) (N := 11) hx hb hg gin0 tyX0 tyX0_ok nmX0 hown hK hP hD hS 0 rfl rfl 0 (by decide) (hg (.fieldLink RX0 9 RX0 "kind" "[I") (gw_mem 95 (by decide +kernel) (by decide +kernel))) (fun _ h9 => h9) rfl hin rfl (by decide +kernel) rfl rfl (Nat.le_of_ble_eq_true rfl) dX0_init_9 (fun H locs hP hD hS => ?_)
  have hP : va_P D vwCl ([(h0, .inr (0, [.ref q7, .null, .null, .null, .null, .null, .null, .int 0, .int 0, .int 0, .int 0])), (q7, ar cI 6)]) H := hP
  have hD : va_D A ([(h0, .inr (0, [.ref q7, .null, .null, .null, .null, .null, .null, .int 0, .int 0, .int 0, .int 0])), (q7, ar cI 6)]) := hD
  refine lv_aload_n hx hb dX0_init_12 rfl (lv_at hl 0 rfl) ?_
  refine lv_bipush (v := 6) hx hb dX0_init_13 (by decide) ?_
  refine vn_int (N' := 6) (c2 := 2) (s2 := 12) hx hb (hg (.arrayClass .int) (gw_mem 148 (by decide +kernel) (by decide +kernel))) hK hP hD hS hA (by decide) (by decide) (Nat.le_of_ble_eq_true rfl) (Nat.le_of_ble_eq_true rfl) (Nat.le_of_ble_eq_true rfl) dX0_init_15 (Nat.le_of_ble_eq_true rfl) (Nat.le_of_ble_eq_true rfl) (fun q15 H hP hD hS => ?_)
  have hP : va_P D vwCl ([(h0, .inr (0, [.ref q7, .null, .null, .null, .null, .null, .null, .int 0, .int 0, .int 0, .int 0])), (q7, ar cI 6), (q15, ar cI 6)]) H := hP
  have hD : va_D A ([(h0, .inr (0, [.ref q7, .null, .null, .null, .null, .null, .null, .int 0, .int 0, .int 0, .int 0])), (q7, ar cI 6), (q15, ar cI 6)]) := hD
  refine va_putF (D := D) (ci := 0) (v := .ref q15) (ty := .array .int) (C := RX0) (T := TX0) (N := 11) hx hb hg gin0 tyX0 tyX0_ok nmX0 hown hK hP hD hS 0 rfl rfl 1 (by decide) (hg (.fieldLink RX0 15 RX0 "figure" "[I") (gw_mem 97 (by decide +kernel) (by decide +kernel))) (fun _ h9 => h9) rfl hin rfl (by decide +kernel) rfl rfl (Nat.le_of_ble_eq_true rfl) dX0_init_17 (fun H locs hP hD hS => ?_)
  have hP : va_P D vwCl ([(h0, .inr (0, [.ref q7, .ref q15, .null, .null, .null, .null, .null, .int 0, .int 0, .int 0, .int 0])), (q7, ar cI 6), (q15, ar cI 6)]) H := hP
  have hD : va_D A ([(h0, .inr (0, [.ref q7, .ref q15, .null, .null, .null, .null, .null, .int 0, .int 0, .int 0, .int 0])), (q7, ar cI 6), (q15, ar cI 6)]) := hD
  refine lv_aload_n hx hb dX0_init_20 rfl (lv_at hl 0 rfl) ?_
  refine lv_bipush (v := 6) hx hb dX0_init_21 (by decide) ?_
  refine vn_int (N' := 6) (c2 := 3) (s2 := 18) hx hb (hg (.arrayClass .int) (gw_mem 148 (by decide +kernel) (by decide +kernel))) hK hP hD hS hA (by decide) (by decide) (Nat.le_of_ble_eq_true rfl) (Nat.le_of_ble_eq_true rfl) (Nat.le_of_ble_eq_true rfl) dX0_init_23 (Nat.le_of_ble_eq_true rfl) (Nat.le_of_ble_eq_true rfl) (fun q23 H hP hD hS => ?_)
  have hP : va_P D vwCl ([(h0, .inr (0, [.ref q7, .ref q15, .null, .null, .null, .null, .null, .int 0, .int 0, .int 0, .int 0])), (q7, ar cI 6), (q15, ar cI 6), (q23, ar cI 6)]) H := hP
  have hD : va_D A ([(h0, .inr (0, [.ref q7, .ref q15, .null, .null, .null, .null, .null, .int 0, .int 0, .int 0, .int 0])), (q7, ar cI 6), (q15, ar cI 6), (q23, ar cI 6)]) := hD
  refine va_putF (D := D) (ci := 0) (v := .ref q23) (ty := .array .int) (C := RX0) (T := TX0) (N := 11) hx hb hg gin0 tyX0 tyX0_ok nmX0 hown hK hP hD hS 0 rfl rfl 2 (by decide) (hg (.fieldLink RX0 18 RX0 "rust" "[I") (gw_mem 99 (by decide +kernel) (by decide +kernel))) (fun _ h9 => h9) rfl hin rfl (by decide +kernel) rfl rfl (Nat.le_of_ble_eq_true rfl) dX0_init_25 (fun H locs hP hD hS => ?_)
  have hP : va_P D vwCl ([(h0, .inr (0, [.ref q7, .ref q15, .ref q23, .null, .null, .null, .null, .int 0, .int 0, .int 0, .int 0])), (q7, ar cI 6), (q15, ar cI 6), (q23, ar cI 6)]) H := hP
  have hD : va_D A ([(h0, .inr (0, [.ref q7, .ref q15, .ref q23, .null, .null, .null, .null, .int 0, .int 0, .int 0, .int 0])), (q7, ar cI 6), (q15, ar cI 6), (q23, ar cI 6)]) := hD
  refine lv_aload_n hx hb dX0_init_28 rfl (lv_at hl 0 rfl) ?_
  refine lv_iconst (v := 5) hx hb dX0_init_29 (by decide) ?_
  refine vn_int (N' := 5) (c2 := 4) (s2 := 23) hx hb (hg (.arrayClass .int) (gw_mem 148 (by decide +kernel) (by decide +kernel))) hK hP hD hS hA (by decide) (by decide) (Nat.le_of_ble_eq_true rfl) (Nat.le_of_ble_eq_true rfl) (Nat.le_of_ble_eq_true rfl) dX0_init_30 (Nat.le_of_ble_eq_true rfl) (Nat.le_of_ble_eq_true rfl) (fun q30 H hP hD hS => ?_)
  have hP : va_P D vwCl ([(h0, .inr (0, [.ref q7, .ref q15, .ref q23, .null, .null, .null, .null, .int 0, .int 0, .int 0, .int 0])), (q7, ar cI 6), (q15, ar cI 6), (q23, ar cI 6), (q30, ar cI 5)]) H := hP
  have hD : va_D A ([(h0, .inr (0, [.ref q7, .ref q15, .ref q23, .null, .null, .null, .null, .int 0, .int 0, .int 0, .int 0])), (q7, ar cI 6), (q15, ar cI 6), (q23, ar cI 6), (q30, ar cI 5)]) := hD
  refine va_putF (D := D) (ci := 0) (v := .ref q30) (ty := .array .int) (C := RX0) (T := TX0) (N := 11) hx hb hg gin0 tyX0 tyX0_ok nmX0 hown hK hP hD hS 0 rfl rfl 3 (by decide) (hg (.fieldLink RX0 21 RX0 "fear" "[I") (gw_mem 102 (by decide +kernel) (by decide +kernel))) (fun _ h9 => h9) rfl hin rfl (by decide +kernel) rfl rfl (Nat.le_of_ble_eq_true rfl) dX0_init_32 (fun H locs hP hD hS => ?_)
  have hP : va_P D vwCl ([(h0, .inr (0, [.ref q7, .ref q15, .ref q23, .ref q30, .null, .null, .null, .int 0, .int 0, .int 0, .int 0])), (q7, ar cI 6), (q15, ar cI 6), (q23, ar cI 6), (q30, ar cI 5)]) H := hP
  have hD : va_D A ([(h0, .inr (0, [.ref q7, .ref q15, .ref q23, .ref q30, .null, .null, .null, .int 0, .int 0, .int 0, .int 0])), (q7, ar cI 6), (q15, ar cI 6), (q23, ar cI 6), (q30, ar cI 5)]) := hD
  refine lv_aload_n hx hb dX0_init_35 rfl (lv_at hl 0 rfl) ?_
  refine lv_iconst (v := 5) hx hb dX0_init_36 (by decide) ?_
  refine vn_int (N' := 5) (c2 := 5) (s2 := 28) hx hb (hg (.arrayClass .int) (gw_mem 148 (by decide +kernel) (by decide +kernel))) hK hP hD hS hA (by decide) (by decide) (Nat.le_of_ble_eq_true rfl) (Nat.le_of_ble_eq_true rfl) (Nat.le_of_ble_eq_true rfl) dX0_init_37 (Nat.le_of_ble_eq_true rfl) (Nat.le_of_ble_eq_true rfl) (fun q37 H hP hD hS => ?_)
  have hP : va_P D vwCl ([(h0, .inr (0, [.ref q7, .ref q15, .ref q23, .ref q30, .null, .null, .null, .int 0, .int 0, .int 0, .int 0])), (q7, ar cI 6), (q15, ar cI 6), (q23, ar cI 6), (q30, ar cI 5), (q37, ar cI 5)]) H := hP
  have hD : va_D A ([(h0, .inr (0, [.ref q7, .ref q15, .ref q23, .ref q30, .null, .null, .null, .int 0, .int 0, .int 0, .int 0])), (q7, ar cI 6), (q15, ar cI 6), (q23, ar cI 6), (q30, ar cI 5), (q37, ar cI 5)]) := hD
  refine va_putF (D := D) (ci := 0) (v := .ref q37) (ty := .array .int) (C := RX0) (T := TX0) (N := 11) hx hb hg gin0 tyX0 tyX0_ok nmX0 hown hK hP hD hS 0 rfl rfl 4 (by decide) (hg (.fieldLink RX0 24 RX0 "sore" "[I") (gw_mem 105 (by decide +kernel) (by decide +kernel))) (fun _ h9 => h9) rfl hin rfl (by decide +kernel) rfl rfl (Nat.le_of_ble_eq_true rfl) dX0_init_39 (fun H locs hP hD hS => ?_)
  have hP : va_P D vwCl ([(h0, .inr (0, [.ref q7, .ref q15, .ref q23, .ref q30, .ref q37, .null, .null, .int 0, .int 0, .int 0, .int 0])), (q7, ar cI 6), (q15, ar cI 6), (q23, ar cI 6), (q30, ar cI 5), (q37, ar cI 5)]) H := hP
  have hD : va_D A ([(h0, .inr (0, [.ref q7, .ref q15, .ref q23, .ref q30, .ref q37, .null, .null, .int 0, .int 0, .int 0, .int 0])), (q7, ar cI 6), (q15, ar cI 6), (q23, ar cI 6), (q30, ar cI 5), (q37, ar cI 5)]) := hD
  refine lv_aload_n hx hb dX0_init_42 rfl (lv_at hl 0 rfl) ?_
  refine lv_iconst (v := 5) hx hb dX0_init_43 (by decide) ?_
  refine vn_int (N' := 5) (c2 := 6) (s2 := 33) hx hb (hg (.arrayClass .int) (gw_mem 148 (by decide +kernel) (by decide +kernel))) hK hP hD hS hA (by decide) (by decide) (Nat.le_of_ble_eq_true rfl) (Nat.le_of_ble_eq_true rfl) (Nat.le_of_ble_eq_true rfl) dX0_init_44 (Nat.le_of_ble_eq_true rfl) (Nat.le_of_ble_eq_true rfl) (fun q44 H hP hD hS => ?_)
  have hP : va_P D vwCl ([(h0, .inr (0, [.ref q7, .ref q15, .ref q23, .ref q30, .ref q37, .null, .null, .int 0, .int 0, .int 0, .int 0])), (q7, ar cI 6), (q15, ar cI 6), (q23, ar cI 6), (q30, ar cI 5), (q37, ar cI 5), (q44, ar cI 5)]) H := hP
  have hD : va_D A ([(h0, .inr (0, [.ref q7, .ref q15, .ref q23, .ref q30, .ref q37, .null, .null, .int 0, .int 0, .int 0, .int 0])), (q7, ar cI 6), (q15, ar cI 6), (q23, ar cI 6), (q30, ar cI 5), (q37, ar cI 5), (q44, ar cI 5)]) := hD
  refine va_putF (D := D) (ci := 0) (v := .ref q44) (ty := .array .int) (C := RX0) (T := TX0) (N := 11) hx hb hg gin0 tyX0 tyX0_ok nmX0 hown hK hP hD hS 0 rfl rfl 5 (by decide) (hg (.fieldLink RX0 27 RX0 "said" "[I") (gw_mem 107 (by decide +kernel) (by decide +kernel))) (fun _ h9 => h9) rfl hin rfl (by decide +kernel) rfl rfl (Nat.le_of_ble_eq_true rfl) dX0_init_46 (fun H locs hP hD hS => ?_)
  have hP : va_P D vwCl ([(h0, .inr (0, [.ref q7, .ref q15, .ref q23, .ref q30, .ref q37, .ref q44, .null, .int 0, .int 0, .int 0, .int 0])), (q7, ar cI 6), (q15, ar cI 6), (q23, ar cI 6), (q30, ar cI 5), (q37, ar cI 5), (q44, ar cI 5)]) H := hP
  have hD : va_D A ([(h0, .inr (0, [.ref q7, .ref q15, .ref q23, .ref q30, .ref q37, .ref q44, .null, .int 0, .int 0, .int 0, .int 0])), (q7, ar cI 6), (q15, ar cI 6), (q23, ar cI 6), (q30, ar cI 5), (q37, ar cI 5), (q44, ar cI 5)]) := hD
  refine lv_aload_n hx hb dX0_init_49 rfl (lv_at hl 0 rfl) ?_
  refine lv_iconst (v := 5) hx hb dX0_init_50 (by decide) ?_
  refine vn_int (N' := 5) (c2 := 7) (s2 := 38) hx hb (hg (.arrayClass .int) (gw_mem 148 (by decide +kernel) (by decide +kernel))) hK hP hD hS hA (by decide) (by decide) (Nat.le_of_ble_eq_true rfl) (Nat.le_of_ble_eq_true rfl) (Nat.le_of_ble_eq_true rfl) dX0_init_51 (Nat.le_of_ble_eq_true rfl) (Nat.le_of_ble_eq_true rfl) (fun q51 H hP hD hS => ?_)
  have hP : va_P D vwCl ([(h0, .inr (0, [.ref q7, .ref q15, .ref q23, .ref q30, .ref q37, .ref q44, .null, .int 0, .int 0, .int 0, .int 0])), (q7, ar cI 6), (q15, ar cI 6), (q23, ar cI 6), (q30, ar cI 5), (q37, ar cI 5), (q44, ar cI 5), (q51, ar cI 5)]) H := hP
  have hD : va_D A ([(h0, .inr (0, [.ref q7, .ref q15, .ref q23, .ref q30, .ref q37, .ref q44, .null, .int 0, .int 0, .int 0, .int 0])), (q7, ar cI 6), (q15, ar cI 6), (q23, ar cI 6), (q30, ar cI 5), (q37, ar cI 5), (q44, ar cI 5), (q51, ar cI 5)]) := hD
  refine va_putF (D := D) (ci := 0) (v := .ref q51) (ty := .array .int) (C := RX0) (T := TX0) (N := 11) hx hb hg gin0 tyX0 tyX0_ok nmX0 hown hK hP hD hS 0 rfl rfl 6 (by decide) (hg (.fieldLink RX0 30 RX0 "suitOf" "[I") (gw_mem 109 (by decide +kernel) (by decide +kernel))) (fun _ h9 => h9) rfl hin rfl (by decide +kernel) rfl rfl (Nat.le_of_ble_eq_true rfl) dX0_init_53 (fun H locs hP hD hS => ?_)
  have hP : va_P D vwCl ([(h0, .inr (0, [.ref q7, .ref q15, .ref q23, .ref q30, .ref q37, .ref q44, .ref q51, .int 0, .int 0, .int 0, .int 0])), (q7, ar cI 6), (q15, ar cI 6), (q23, ar cI 6), (q30, ar cI 5), (q37, ar cI 5), (q44, ar cI 5), (q51, ar cI 5)]) H := hP
  have hD : va_D A ([(h0, .inr (0, [.ref q7, .ref q15, .ref q23, .ref q30, .ref q37, .ref q44, .ref q51, .int 0, .int 0, .int 0, .int 0])), (q7, ar cI 6), (q15, ar cI 6), (q23, ar cI 6), (q30, ar cI 5), (q37, ar cI 5), (q44, ar cI 5), (q51, ar cI 5)]) := hD
  refine lv_aload_n hx hb dX0_init_56 rfl (lv_at hl 0 rfl) ?_
  refine lv_iconst (v := 0) hx hb dX0_init_57 (by decide) ?_
  refine va_put (D := D) (ci := 0) (v := .int 0) (ty := .int) (C := RX0) (T := TX0) (N := 11) hx hb hg gin0 tyX0 tyX0_ok nmX0 hown hK hP hD hS 0 rfl rfl 7 (by decide) (hg (.fieldLink RX0 33 RX0 "suits" "I") (gw_mem 112 (by decide +kernel) (by decide +kernel))) (fun _ h9 => h9) rfl (by decide +kernel) rfl rfl (Nat.le_of_ble_eq_true rfl) dX0_init_58 (fun H locs hP hD hS => ?_)
  have hP : va_P D vwCl ([(h0, .inr (0, [.ref q7, .ref q15, .ref q23, .ref q30, .ref q37, .ref q44, .ref q51, .int 0, .int 0, .int 0, .int 0])), (q7, ar cI 6), (q15, ar cI 6), (q23, ar cI 6), (q30, ar cI 5), (q37, ar cI 5), (q44, ar cI 5), (q51, ar cI 5)]) H := hP
  have hD : va_D A ([(h0, .inr (0, [.ref q7, .ref q15, .ref q23, .ref q30, .ref q37, .ref q44, .ref q51, .int 0, .int 0, .int 0, .int 0])), (q7, ar cI 6), (q15, ar cI 6), (q23, ar cI 6), (q30, ar cI 5), (q37, ar cI 5), (q44, ar cI 5), (q51, ar cI 5)]) := hD
  refine lv_aload_n hx hb dX0_init_61 rfl (lv_at hl 0 rfl) ?_
  refine lv_iconst (v := 0) hx hb dX0_init_62 (by decide) ?_
  refine va_put (D := D) (ci := 0) (v := .int 0) (ty := .int) (C := RX0) (T := TX0) (N := 11) hx hb hg gin0 tyX0 tyX0_ok nmX0 hown hK hP hD hS 0 rfl rfl 8 (by decide) (hg (.fieldLink RX0 37 RX0 "callers" "I") (gw_mem 116 (by decide +kernel) (by decide +kernel))) (fun _ h9 => h9) rfl (by decide +kernel) rfl rfl (Nat.le_of_ble_eq_true rfl) dX0_init_63 (fun H locs hP hD hS => ?_)
  have hP : va_P D vwCl ([(h0, .inr (0, [.ref q7, .ref q15, .ref q23, .ref q30, .ref q37, .ref q44, .ref q51, .int 0, .int 0, .int 0, .int 0])), (q7, ar cI 6), (q15, ar cI 6), (q23, ar cI 6), (q30, ar cI 5), (q37, ar cI 5), (q44, ar cI 5), (q51, ar cI 5)]) H := hP
  have hD : va_D A ([(h0, .inr (0, [.ref q7, .ref q15, .ref q23, .ref q30, .ref q37, .ref q44, .ref q51, .int 0, .int 0, .int 0, .int 0])), (q7, ar cI 6), (q15, ar cI 6), (q23, ar cI 6), (q30, ar cI 5), (q37, ar cI 5), (q44, ar cI 5), (q51, ar cI 5)]) := hD
  refine lv_aload_n hx hb dX0_init_66 rfl (lv_at hl 0 rfl) ?_
  refine lv_iconst (v := 0) hx hb dX0_init_67 (by decide) ?_
  refine va_put (D := D) (ci := 0) (v := .int 0) (ty := .int) (C := RX0) (T := TX0) (N := 11) hx hb hg gin0 tyX0 tyX0_ok nmX0 hown hK hP hD hS 0 rfl rfl 9 (by decide) (hg (.fieldLink RX0 40 RX0 "paid" "I") (gw_mem 120 (by decide +kernel) (by decide +kernel))) (fun _ h9 => h9) rfl (by decide +kernel) rfl rfl (Nat.le_of_ble_eq_true rfl) dX0_init_68 (fun H locs hP hD hS => ?_)
  have hP : va_P D vwCl ([(h0, .inr (0, [.ref q7, .ref q15, .ref q23, .ref q30, .ref q37, .ref q44, .ref q51, .int 0, .int 0, .int 0, .int 0])), (q7, ar cI 6), (q15, ar cI 6), (q23, ar cI 6), (q30, ar cI 5), (q37, ar cI 5), (q44, ar cI 5), (q51, ar cI 5)]) H := hP
  have hD : va_D A ([(h0, .inr (0, [.ref q7, .ref q15, .ref q23, .ref q30, .ref q37, .ref q44, .ref q51, .int 0, .int 0, .int 0, .int 0])), (q7, ar cI 6), (q15, ar cI 6), (q23, ar cI 6), (q30, ar cI 5), (q37, ar cI 5), (q44, ar cI 5), (q51, ar cI 5)]) := hD
  refine lv_aload_n hx hb dX0_init_71 rfl (lv_at hl 0 rfl) ?_
  refine lv_iconst (v := 0) hx hb dX0_init_72 (by decide) ?_
  refine va_put (D := D) (ci := 0) (v := .int 0) (ty := .int) (C := RX0) (T := TX0) (N := 11) hx hb hg gin0 tyX0 tyX0_ok nmX0 hown hK hP hD hS 0 rfl rfl 10 (by decide) (hg (.fieldLink RX0 43 RX0 "day" "I") (gw_mem 122 (by decide +kernel) (by decide +kernel))) (fun _ h9 => h9) rfl (by decide +kernel) rfl rfl (Nat.le_of_ble_eq_true rfl) dX0_init_73 (fun H locs hP hD hS => ?_)
  have hP : va_P D vwCl ([(h0, .inr (0, [.ref q7, .ref q15, .ref q23, .ref q30, .ref q37, .ref q44, .ref q51, .int 0, .int 0, .int 0, .int 0])), (q7, ar cI 6), (q15, ar cI 6), (q23, ar cI 6), (q30, ar cI 5), (q37, ar cI 5), (q44, ar cI 5), (q51, ar cI 5)]) H := hP
  have hD : va_D A ([(h0, .inr (0, [.ref q7, .ref q15, .ref q23, .ref q30, .ref q37, .ref q44, .ref q51, .int 0, .int 0, .int 0, .int 0])), (q7, ar cI 6), (q15, ar cI 6), (q23, ar cI 6), (q30, ar cI 5), (q37, ar cI 5), (q44, ar cI 5), (q51, ar cI 5)]) := hD
  exact W.vret hx hb hr (fun t ht hW => ⟨⟨fun k => [q7, q15, q23, q30, q37, q44, q51].getD k 0, rfl, trivial, by rw [ht]; exact hP, hD⟩, hS.F ht⟩) hS.2.2 dX0_init_76
abbrev oX1 : va_E := .inr (1, [.null, .null])
def wX1 (cI cC : ClassId) (h0 : Nat) (u : Nat → Nat) : va_W := [(h0, .inr (1, [.ref (u 0), .ref (u 1)])), ((u 0), ar cI 384), ((u 1), ar cI 5)]
set_option maxRecDepth 100000 in
set_option maxHeartbeats 4000000 in
theorem i_X1 (l : Launch) (D : va_G) (cI cC : ClassId) (h0 sz : Nat) : Met l yX1_init (.code yX1_init cX1_init 1 none :: gw) ({ frames := 1, cells := 2, slots := 389, locals := 12 }) (va_Pc [.ref h0] (fun U => U.heap.size = sz ∧ va_P D vwCl [(h0, oX1)] U.heap ∧ va_K D vwCl (tA cI cC) U ∧ va_D (fun _ => True) [(h0, oX1)])) (va_Qv (fun _ : Nat → Nat => True) (fun u t => va_P D vwCl (wX1 cI cC h0 u) t.heap ∧ va_D (va_A [(h0, oX1)] sz) (wX1 cI cC h0 u)) (va_A [(h0, oX1)] sz)) 2 389 (va_A [(h0, oX1)] sz) := by
  refine Met.ofW (cc := cX1_init) (maxL := 1) (ret := none) (by decide +kernel) rfl ?_
  intro p e s m args below meth c s₁ B hml hv
  obtain ⟨rfl, hsz, hP, hK, hD0⟩ := hv
  have hx := B.exec
  have hb := B.bytes
  have hr := B.returns
  have hts := atoms_spec (ws := (.code yX1_init cX1_init 1 none :: gw)) B.pre
  have hg : ∀ w ∈ gw, w.before #[.ref h0] s = true := fun w hw => hts w (List.mem_cons_of_mem _ hw)
  have hown : s.vm.findClass RX1 = some m.cls := findClass_of_methodNamed B.named
  have hlocks := B.notSynchronized
  have hin : meth.name = "<init>" := (name_of_methodNamed B.named B.method).1
  subst hsz
  have hD := hD0.self (sz := s.heap.size)
  generalize hAe : va_A [(h0, oX1)] s.heap.size = A at hD ⊢
  have hA : ∀ q : Nat, s.heap.size ≤ q → A q := fun q h => by rw [← hAe]; exact Or.inr h
  have hS : va_S A s.heap s.heap [] := va_S.rf
  have hl := lv_entry ([.ref h0]) (n := 1) (Nat.le_of_ble_eq_true rfl)
  rw [lg_entry_eq]
  generalize (lg_sl ([.ref h0]) ++ List.replicate (1 - (lg_sl ([.ref h0])).length) Slot.unset).toArray = ls at hl ⊢
  have hl : lv_has ls 1 [(0, .ref h0)] := hl
  refine lv_aload_n hx hb dX1_init_0 rfl (lv_at hl 0 rfl) ?_
  refine W.objInit hx hb hown (hg (.methodLink RX1 3 objectInit) (gw_mem 169 (by decide +kernel) (by decide +kernel))) (hg (.instanceMethod objectInit) (gw_mem 87 (by decide +kernel) (by decide +kernel))) (hg (.code objectInit ⟨#[0xb1]⟩ 1 none) (gw_mem 88 (by decide +kernel) (by decide +kernel))) rfl (by rw [hml]; exact hl.1) rfl dX1_init_1 (Nat.le_of_ble_eq_true rfl) (Nat.le_of_ble_eq_true rfl) ?_
  refine W.eq (g2 := F0 m 4 ls []) rfl ?_
  refine lv_aload_n hx hb dX1_init_4 rfl (lv_at hl 0 rfl) ?_
  refine lv_sipush (v := 384) hx hb dX1_init_5 (by decide) ?_
  refine vn_int (N' := 384) (c2 := 1) (s2 := 384) hx hb (hg (.arrayClass .int) (gw_mem 148 (by decide +kernel) (by decide +kernel))) hK hP hD hS hA (by decide) (by decide) (Nat.le_of_ble_eq_true rfl) (Nat.le_of_ble_eq_true rfl) (Nat.le_of_ble_eq_true rfl) dX1_init_8 (Nat.le_of_ble_eq_true rfl) (Nat.le_of_ble_eq_true rfl) (fun q8 H hP hD hS => ?_)
  have hP : va_P D vwCl ([(h0, .inr (1, [.null, .null])), (q8, ar cI 384)]) H := hP
  have hD : va_D A ([(h0, .inr (1, [.null, .null])), (q8, ar cI 384)]) := hD
  refine va_putF (D := D) (ci := 1) (v := .ref q8) (ty := .array .int) (C := RX1) (T := TX1) (N := 2) hx hb hg gin1 tyX1 tyX1_ok nmX1 hown hK hP hD hS 0 rfl rfl 0 (by decide) (hg (.fieldLink RX1 11 RX1 "best" "[I") (gw_mem 170 (by decide +kernel) (by decide +kernel))) (fun _ h9 => h9) rfl hin rfl (by decide +kernel) rfl rfl (Nat.le_of_ble_eq_true rfl) dX1_init_10 (fun H locs hP hD hS => ?_)
  have hP : va_P D vwCl ([(h0, .inr (1, [.ref q8, .null])), (q8, ar cI 384)]) H := hP
  have hD : va_D A ([(h0, .inr (1, [.ref q8, .null])), (q8, ar cI 384)]) := hD
  refine lv_aload_n hx hb dX1_init_13 rfl (lv_at hl 0 rfl) ?_
  refine lv_iconst (v := 5) hx hb dX1_init_14 (by decide) ?_
  refine vn_int (N' := 5) (c2 := 2) (s2 := 389) hx hb (hg (.arrayClass .int) (gw_mem 148 (by decide +kernel) (by decide +kernel))) hK hP hD hS hA (by decide) (by decide) (Nat.le_of_ble_eq_true rfl) (Nat.le_of_ble_eq_true rfl) (Nat.le_of_ble_eq_true rfl) dX1_init_15 (Nat.le_of_ble_eq_true rfl) (Nat.le_of_ble_eq_true rfl) (fun q15 H hP hD hS => ?_)
  have hP : va_P D vwCl ([(h0, .inr (1, [.ref q8, .null])), (q8, ar cI 384), (q15, ar cI 5)]) H := hP
  have hD : va_D A ([(h0, .inr (1, [.ref q8, .null])), (q8, ar cI 384), (q15, ar cI 5)]) := hD
  refine va_putF (D := D) (ci := 1) (v := .ref q15) (ty := .array .int) (C := RX1) (T := TX1) (N := 2) hx hb hg gin1 tyX1 tyX1_ok nmX1 hown hK hP hD hS 0 rfl rfl 1 (by decide) (hg (.fieldLink RX1 15 RX1 "canIn" "[I") (gw_mem 171 (by decide +kernel) (by decide +kernel))) (fun _ h9 => h9) rfl hin rfl (by decide +kernel) rfl rfl (Nat.le_of_ble_eq_true rfl) dX1_init_17 (fun H locs hP hD hS => ?_)
  have hP : va_P D vwCl ([(h0, .inr (1, [.ref q8, .ref q15])), (q8, ar cI 384), (q15, ar cI 5)]) H := hP
  have hD : va_D A ([(h0, .inr (1, [.ref q8, .ref q15])), (q8, ar cI 384), (q15, ar cI 5)]) := hD
  exact W.vret hx hb hr (fun t ht hW => ⟨⟨fun k => [q8, q15].getD k 0, rfl, trivial, by rw [ht]; exact hP, hD⟩, hS.F ht⟩) hS.2.2 dX1_init_20
abbrev oX2 : va_E := .inr (2, [.null, .int 0])
def wX2 (cI cC : ClassId) (h0 : Nat) (u : Nat → Nat) : va_W := [(h0, .inr (2, [.ref (u 0), .int 0])), ((u 0), ar cC 96)]
set_option maxRecDepth 100000 in
set_option maxHeartbeats 4000000 in
theorem i_X2 (l : Launch) (D : va_G) (cI cC : ClassId) (h0 sz : Nat) : Met l yX2_init (.code yX2_init cX2_init 1 none :: gw) ({ frames := 1, cells := 1, slots := 96, locals := 12 }) (va_Pc [.ref h0] (fun U => U.heap.size = sz ∧ va_P D vwCl [(h0, oX2)] U.heap ∧ va_K D vwCl (tA cI cC) U ∧ va_D (fun _ => True) [(h0, oX2)])) (va_Qv (fun _ : Nat → Nat => True) (fun u t => va_P D vwCl (wX2 cI cC h0 u) t.heap ∧ va_D (va_A [(h0, oX2)] sz) (wX2 cI cC h0 u)) (va_A [(h0, oX2)] sz)) 1 96 (va_A [(h0, oX2)] sz) := by
  refine Met.ofW (cc := cX2_init) (maxL := 1) (ret := none) (by decide +kernel) rfl ?_
  intro p e s m args below meth c s₁ B hml hv
  obtain ⟨rfl, hsz, hP, hK, hD0⟩ := hv
  have hx := B.exec
  have hb := B.bytes
  have hr := B.returns
  have hts := atoms_spec (ws := (.code yX2_init cX2_init 1 none :: gw)) B.pre
  have hg : ∀ w ∈ gw, w.before #[.ref h0] s = true := fun w hw => hts w (List.mem_cons_of_mem _ hw)
  have hown : s.vm.findClass RX2 = some m.cls := findClass_of_methodNamed B.named
  have hlocks := B.notSynchronized
  have hin : meth.name = "<init>" := (name_of_methodNamed B.named B.method).1
  subst hsz
  have hD := hD0.self (sz := s.heap.size)
  generalize hAe : va_A [(h0, oX2)] s.heap.size = A at hD ⊢
  have hA : ∀ q : Nat, s.heap.size ≤ q → A q := fun q h => by rw [← hAe]; exact Or.inr h
  have hS : va_S A s.heap s.heap [] := va_S.rf
  have hl := lv_entry ([.ref h0]) (n := 1) (Nat.le_of_ble_eq_true rfl)
  rw [lg_entry_eq]
  generalize (lg_sl ([.ref h0]) ++ List.replicate (1 - (lg_sl ([.ref h0])).length) Slot.unset).toArray = ls at hl ⊢
  have hl : lv_has ls 1 [(0, .ref h0)] := hl
  refine lv_aload_n hx hb dX2_init_0 rfl (lv_at hl 0 rfl) ?_
  refine W.objInit hx hb hown (hg (.methodLink RX2 3 objectInit) (gw_mem 154 (by decide +kernel) (by decide +kernel))) (hg (.instanceMethod objectInit) (gw_mem 87 (by decide +kernel) (by decide +kernel))) (hg (.code objectInit ⟨#[0xb1]⟩ 1 none) (gw_mem 88 (by decide +kernel) (by decide +kernel))) rfl (by rw [hml]; exact hl.1) rfl dX2_init_1 (Nat.le_of_ble_eq_true rfl) (Nat.le_of_ble_eq_true rfl) ?_
  refine W.eq (g2 := F0 m 4 ls []) rfl ?_
  refine lv_aload_n hx hb dX2_init_4 rfl (lv_at hl 0 rfl) ?_
  refine lv_bipush (v := 96) hx hb dX2_init_5 (by decide) ?_
  refine vn_chr (N' := 96) (c2 := 1) (s2 := 96) hx hb (hg (.arrayClass .char) (gw_mem 163 (by decide +kernel) (by decide +kernel))) hK hP hD hS hA (by decide) (by decide) (Nat.le_of_ble_eq_true rfl) (Nat.le_of_ble_eq_true rfl) (Nat.le_of_ble_eq_true rfl) dX2_init_7 (Nat.le_of_ble_eq_true rfl) (Nat.le_of_ble_eq_true rfl) (fun q7 H hP hD hS => ?_)
  have hP : va_P D vwCl ([(h0, .inr (2, [.null, .int 0])), (q7, ar cC 96)]) H := hP
  have hD : va_D A ([(h0, .inr (2, [.null, .int 0])), (q7, ar cC 96)]) := hD
  refine va_putF (D := D) (ci := 2) (v := .ref q7) (ty := .array .char) (C := RX2) (T := TX2) (N := 2) hx hb hg gin2 tyX2 tyX2_ok nmX2 hown hK hP hD hS 0 rfl rfl 0 (by decide) (hg (.fieldLink RX2 9 RX2 "signs" "[C") (gw_mem 155 (by decide +kernel) (by decide +kernel))) (fun _ h9 => h9) rfl hin rfl (by decide +kernel) rfl rfl (Nat.le_of_ble_eq_true rfl) dX2_init_9 (fun H locs hP hD hS => ?_)
  have hP : va_P D vwCl ([(h0, .inr (2, [.ref q7, .int 0])), (q7, ar cC 96)]) H := hP
  have hD : va_D A ([(h0, .inr (2, [.ref q7, .int 0])), (q7, ar cC 96)]) := hD
  refine lv_aload_n hx hb dX2_init_12 rfl (lv_at hl 0 rfl) ?_
  refine lv_iconst (v := 0) hx hb dX2_init_13 (by decide) ?_
  refine va_put (D := D) (ci := 2) (v := .int 0) (ty := .int) (C := RX2) (T := TX2) (N := 2) hx hb hg gin2 tyX2 tyX2_ok nmX2 hown hK hP hD hS 0 rfl rfl 1 (by decide) (hg (.fieldLink RX2 15 RX2 "count" "I") (gw_mem 156 (by decide +kernel) (by decide +kernel))) (fun _ h9 => h9) rfl (by decide +kernel) rfl rfl (Nat.le_of_ble_eq_true rfl) dX2_init_14 (fun H locs hP hD hS => ?_)
  have hP : va_P D vwCl ([(h0, .inr (2, [.ref q7, .int 0])), (q7, ar cC 96)]) H := hP
  have hD : va_D A ([(h0, .inr (2, [.ref q7, .int 0])), (q7, ar cC 96)]) := hD
  exact W.vret hx hb hr (fun t ht hW => ⟨⟨fun k => [q7].getD k 0, rfl, trivial, by rw [ht]; exact hP, hD⟩, hS.F ht⟩) hS.2.2 dX2_init_17
abbrev oX4 : va_E := .inr (4, [.null, .null, .null, .null, .null, .null, .null, .null, .int 0, .int 0, .int 0, .int 0, .null, .null, .null, .null, .int 0, .int 0, .int 0, .null, .int 0, .int 0, .int 0, .null, .int 0, .int 0, .int 0, .int 0, .null, .null, .int 0, .int 0])
def wX4 (cI cA : ClassId) (h0 : Nat) (u : Nat → Nat) : va_W := [(h0, .inr (4, [.ref (u 0), .ref (u 1), .ref (u 2), .ref (u 3), .ref (u 4), .ref (u 5), .ref (u 6), .ref (u 7), .int 0, .int 0, .int 0, .int 0, .ref (u 8), .ref (u 9), .ref (u 10), .ref (u 11), .int 0, .int 0, .int 0, .ref (u 12), .int 0, .int 0, .int 0, .ref (u 13), .int 0, .int 0, .int 0, .int 0, .ref (u 20), .ref (u 21), .int 0, .int 0])), ((u 0), ar cI 7), ((u 1), ar cI 6), ((u 2), ar cI 6), ((u 3), ar cI 6), ((u 4), ar cI 5), ((u 5), ar cI 5), ((u 6), ar cI 5), ((u 7), ar cI 5), ((u 8), ar cI 96), ((u 9), ar cI 48), ((u 10), ar cI 48), ((u 11), ar cI 96), ((u 12), ar cI 126), ((u 13), .inl (cA, 6, .inr (.inr (.inr (.inr fun i => if i < 6 then some (u (14 + i)) else none))))), ((u 14), ar cI 64), ((u 15), ar cI 64), ((u 16), ar cI 64), ((u 17), ar cI 64), ((u 18), ar cI 64), ((u 19), ar cI 64), ((u 20), ar cI 8), ((u 21), ar cI 16)]
set_option maxRecDepth 100000 in
set_option maxHeartbeats 4000000 in
theorem i_X4 (l : Launch) (D : va_G) (cI cC : ClassId) (h0 sz : Nat) : Met l yX4_init (.code yX4_init cX4_init 1 none :: gw) ({ frames := 1, cells := 22, slots := 873, locals := 12 }) (va_Pc [.ref h0] (fun U => U.heap.size = sz ∧ va_P D vwCl [(h0, oX4)] U.heap ∧ va_K D vwCl (tA cI cC) U ∧ va_D (fun _ => True) [(h0, oX4)] ∧ va_AOA .int U)) (va_Qv (fun _ : (Nat → Nat) × ClassId => True) (fun u t => va_P D vwCl (wX4 cI u.2 h0 u.1) t.heap ∧ va_D (va_A [(h0, oX4)] sz) (wX4 cI u.2 h0 u.1) ∧ va_K D vwCl [(u.2, .array .int)] t) (va_A [(h0, oX4)] sz)) 22 873 (va_A [(h0, oX4)] sz) := by
  refine Met.ofW (cc := cX4_init) (maxL := 1) (ret := none) (by decide +kernel) rfl ?_
  intro p e s m args below meth c s₁ B hml hv
  obtain ⟨rfl, hsz, hP, hK, hD0, hov⟩ := hv
  have hx := B.exec
  have hb := B.bytes
  have hr := B.returns
  have hts := atoms_spec (ws := (.code yX4_init cX4_init 1 none :: gw)) B.pre
  have hg : ∀ w ∈ gw, w.before #[.ref h0] s = true := fun w hw => hts w (List.mem_cons_of_mem _ hw)
  have hown : s.vm.findClass RX4 = some m.cls := findClass_of_methodNamed B.named
  have hlocks := B.notSynchronized
  have hin : meth.name = "<init>" := (name_of_methodNamed B.named B.method).1
  subst hsz
  have hD := hD0.self (sz := s.heap.size)
  generalize hAe : va_A [(h0, oX4)] s.heap.size = A at hD ⊢
  have hA : ∀ q : Nat, s.heap.size ≤ q → A q := fun q h => by rw [← hAe]; exact Or.inr h
  have hS : va_S A s.heap s.heap [] := va_S.rf
  have hl := lv_entry ([.ref h0]) (n := 1) (Nat.le_of_ble_eq_true rfl)
  rw [lg_entry_eq]
  generalize (lg_sl ([.ref h0]) ++ List.replicate (1 - (lg_sl ([.ref h0])).length) Slot.unset).toArray = ls at hl ⊢
  have hl : lv_has ls 1 [(0, .ref h0)] := hl
  refine lv_aload_n hx hb dX4_init_0 rfl (lv_at hl 0 rfl) ?_
  refine W.objInit hx hb hown (hg (.methodLink RX4 1 objectInit) (gw_mem 714 (by decide +kernel) (by decide +kernel))) (hg (.instanceMethod objectInit) (gw_mem 87 (by decide +kernel) (by decide +kernel))) (hg (.code objectInit ⟨#[0xb1]⟩ 1 none) (gw_mem 88 (by decide +kernel) (by decide +kernel))) rfl (by rw [hml]; exact hl.1) rfl dX4_init_1 (Nat.le_of_ble_eq_true rfl) (Nat.le_of_ble_eq_true rfl) ?_
  refine W.eq (g2 := F0 m 4 ls []) rfl ?_
  refine lv_aload_n hx hb dX4_init_4 rfl (lv_at hl 0 rfl) ?_
  refine lv_bipush (v := 7) hx hb dX4_init_5 (by decide) ?_
  refine vn_int (N' := 7) (c2 := 1) (s2 := 7) hx hb (hg (.arrayClass .int) (gw_mem 148 (by decide +kernel) (by decide +kernel))) hK hP hD hS hA (by decide) (by decide) (Nat.le_of_ble_eq_true rfl) (Nat.le_of_ble_eq_true rfl) (Nat.le_of_ble_eq_true rfl) dX4_init_7 (Nat.le_of_ble_eq_true rfl) (Nat.le_of_ble_eq_true rfl) (fun q7 H hP hD hS => ?_)
  have hP : va_P D vwCl ([(h0, .inr (4, [.null, .null, .null, .null, .null, .null, .null, .null, .int 0, .int 0, .int 0, .int 0, .null, .null, .null, .null, .int 0, .int 0, .int 0, .null, .int 0, .int 0, .int 0, .null, .int 0, .int 0, .int 0, .int 0, .null, .null, .int 0, .int 0])), (q7, ar cI 7)]) H := hP
  have hD : va_D A ([(h0, .inr (4, [.null, .null, .null, .null, .null, .null, .null, .null, .int 0, .int 0, .int 0, .int 0, .null, .null, .null, .null, .int 0, .int 0, .int 0, .null, .int 0, .int 0, .int 0, .null, .int 0, .int 0, .int 0, .int 0, .null, .null, .int 0, .int 0])), (q7, ar cI 7)]) := hD
  refine va_putF (D := D) (ci := 4) (v := .ref q7) (ty := .array .int) (C := RX4) (T := TX4) (N := 32) hx hb hg gin4 tyX4 tyX4_ok nmX4 hown hK hP hD hS 0 rfl rfl 0 (by decide) (hg (.fieldLink RX4 7 RX4 "refused" "[I") (gw_mem 717 (by decide +kernel) (by decide +kernel))) (fun _ h9 => h9) rfl hin rfl (by decide +kernel) rfl rfl (Nat.le_of_ble_eq_true rfl) dX4_init_9 (fun H locs hP hD hS => ?_)
  have hP : va_P D vwCl ([(h0, .inr (4, [.ref q7, .null, .null, .null, .null, .null, .null, .null, .int 0, .int 0, .int 0, .int 0, .null, .null, .null, .null, .int 0, .int 0, .int 0, .null, .int 0, .int 0, .int 0, .null, .int 0, .int 0, .int 0, .int 0, .null, .null, .int 0, .int 0])), (q7, ar cI 7)]) H := hP
  have hD : va_D A ([(h0, .inr (4, [.ref q7, .null, .null, .null, .null, .null, .null, .null, .int 0, .int 0, .int 0, .int 0, .null, .null, .null, .null, .int 0, .int 0, .int 0, .null, .int 0, .int 0, .int 0, .null, .int 0, .int 0, .int 0, .int 0, .null, .null, .int 0, .int 0])), (q7, ar cI 7)]) := hD
  refine lv_aload_n hx hb dX4_init_12 rfl (lv_at hl 0 rfl) ?_
  refine lv_bipush (v := 6) hx hb dX4_init_13 (by decide) ?_
  refine vn_int (N' := 6) (c2 := 2) (s2 := 13) hx hb (hg (.arrayClass .int) (gw_mem 148 (by decide +kernel) (by decide +kernel))) hK hP hD hS hA (by decide) (by decide) (Nat.le_of_ble_eq_true rfl) (Nat.le_of_ble_eq_true rfl) (Nat.le_of_ble_eq_true rfl) dX4_init_15 (Nat.le_of_ble_eq_true rfl) (Nat.le_of_ble_eq_true rfl) (fun q15 H hP hD hS => ?_)
  have hP : va_P D vwCl ([(h0, .inr (4, [.ref q7, .null, .null, .null, .null, .null, .null, .null, .int 0, .int 0, .int 0, .int 0, .null, .null, .null, .null, .int 0, .int 0, .int 0, .null, .int 0, .int 0, .int 0, .null, .int 0, .int 0, .int 0, .int 0, .null, .null, .int 0, .int 0])), (q7, ar cI 7), (q15, ar cI 6)]) H := hP
  have hD : va_D A ([(h0, .inr (4, [.ref q7, .null, .null, .null, .null, .null, .null, .null, .int 0, .int 0, .int 0, .int 0, .null, .null, .null, .null, .int 0, .int 0, .int 0, .null, .int 0, .int 0, .int 0, .null, .int 0, .int 0, .int 0, .int 0, .null, .null, .int 0, .int 0])), (q7, ar cI 7), (q15, ar cI 6)]) := hD
  refine va_putF (D := D) (ci := 4) (v := .ref q15) (ty := .array .int) (C := RX4) (T := TX4) (N := 32) hx hb hg gin4 tyX4 tyX4_ok nmX4 hown hK hP hD hS 0 rfl rfl 1 (by decide) (hg (.fieldLink RX4 13 RX4 "kind" "[I") (gw_mem 718 (by decide +kernel) (by decide +kernel))) (fun _ h9 => h9) rfl hin rfl (by decide +kernel) rfl rfl (Nat.le_of_ble_eq_true rfl) dX4_init_17 (fun H locs hP hD hS => ?_)
  have hP : va_P D vwCl ([(h0, .inr (4, [.ref q7, .ref q15, .null, .null, .null, .null, .null, .null, .int 0, .int 0, .int 0, .int 0, .null, .null, .null, .null, .int 0, .int 0, .int 0, .null, .int 0, .int 0, .int 0, .null, .int 0, .int 0, .int 0, .int 0, .null, .null, .int 0, .int 0])), (q7, ar cI 7), (q15, ar cI 6)]) H := hP
  have hD : va_D A ([(h0, .inr (4, [.ref q7, .ref q15, .null, .null, .null, .null, .null, .null, .int 0, .int 0, .int 0, .int 0, .null, .null, .null, .null, .int 0, .int 0, .int 0, .null, .int 0, .int 0, .int 0, .null, .int 0, .int 0, .int 0, .int 0, .null, .null, .int 0, .int 0])), (q7, ar cI 7), (q15, ar cI 6)]) := hD
  refine lv_aload_n hx hb dX4_init_20 rfl (lv_at hl 0 rfl) ?_
  refine lv_bipush (v := 6) hx hb dX4_init_21 (by decide) ?_
  refine vn_int (N' := 6) (c2 := 3) (s2 := 19) hx hb (hg (.arrayClass .int) (gw_mem 148 (by decide +kernel) (by decide +kernel))) hK hP hD hS hA (by decide) (by decide) (Nat.le_of_ble_eq_true rfl) (Nat.le_of_ble_eq_true rfl) (Nat.le_of_ble_eq_true rfl) dX4_init_23 (Nat.le_of_ble_eq_true rfl) (Nat.le_of_ble_eq_true rfl) (fun q23 H hP hD hS => ?_)
  have hP : va_P D vwCl ([(h0, .inr (4, [.ref q7, .ref q15, .null, .null, .null, .null, .null, .null, .int 0, .int 0, .int 0, .int 0, .null, .null, .null, .null, .int 0, .int 0, .int 0, .null, .int 0, .int 0, .int 0, .null, .int 0, .int 0, .int 0, .int 0, .null, .null, .int 0, .int 0])), (q7, ar cI 7), (q15, ar cI 6), (q23, ar cI 6)]) H := hP
  have hD : va_D A ([(h0, .inr (4, [.ref q7, .ref q15, .null, .null, .null, .null, .null, .null, .int 0, .int 0, .int 0, .int 0, .null, .null, .null, .null, .int 0, .int 0, .int 0, .null, .int 0, .int 0, .int 0, .null, .int 0, .int 0, .int 0, .int 0, .null, .null, .int 0, .int 0])), (q7, ar cI 7), (q15, ar cI 6), (q23, ar cI 6)]) := hD
  refine va_putF (D := D) (ci := 4) (v := .ref q23) (ty := .array .int) (C := RX4) (T := TX4) (N := 32) hx hb hg gin4 tyX4 tyX4_ok nmX4 hown hK hP hD hS 0 rfl rfl 2 (by decide) (hg (.fieldLink RX4 16 RX4 "figure" "[I") (gw_mem 719 (by decide +kernel) (by decide +kernel))) (fun _ h9 => h9) rfl hin rfl (by decide +kernel) rfl rfl (Nat.le_of_ble_eq_true rfl) dX4_init_25 (fun H locs hP hD hS => ?_)
  have hP : va_P D vwCl ([(h0, .inr (4, [.ref q7, .ref q15, .ref q23, .null, .null, .null, .null, .null, .int 0, .int 0, .int 0, .int 0, .null, .null, .null, .null, .int 0, .int 0, .int 0, .null, .int 0, .int 0, .int 0, .null, .int 0, .int 0, .int 0, .int 0, .null, .null, .int 0, .int 0])), (q7, ar cI 7), (q15, ar cI 6), (q23, ar cI 6)]) H := hP
  have hD : va_D A ([(h0, .inr (4, [.ref q7, .ref q15, .ref q23, .null, .null, .null, .null, .null, .int 0, .int 0, .int 0, .int 0, .null, .null, .null, .null, .int 0, .int 0, .int 0, .null, .int 0, .int 0, .int 0, .null, .int 0, .int 0, .int 0, .int 0, .null, .null, .int 0, .int 0])), (q7, ar cI 7), (q15, ar cI 6), (q23, ar cI 6)]) := hD
  refine lv_aload_n hx hb dX4_init_28 rfl (lv_at hl 0 rfl) ?_
  refine lv_bipush (v := 6) hx hb dX4_init_29 (by decide) ?_
  refine vn_int (N' := 6) (c2 := 4) (s2 := 25) hx hb (hg (.arrayClass .int) (gw_mem 148 (by decide +kernel) (by decide +kernel))) hK hP hD hS hA (by decide) (by decide) (Nat.le_of_ble_eq_true rfl) (Nat.le_of_ble_eq_true rfl) (Nat.le_of_ble_eq_true rfl) dX4_init_31 (Nat.le_of_ble_eq_true rfl) (Nat.le_of_ble_eq_true rfl) (fun q31 H hP hD hS => ?_)
  have hP : va_P D vwCl ([(h0, .inr (4, [.ref q7, .ref q15, .ref q23, .null, .null, .null, .null, .null, .int 0, .int 0, .int 0, .int 0, .null, .null, .null, .null, .int 0, .int 0, .int 0, .null, .int 0, .int 0, .int 0, .null, .int 0, .int 0, .int 0, .int 0, .null, .null, .int 0, .int 0])), (q7, ar cI 7), (q15, ar cI 6), (q23, ar cI 6), (q31, ar cI 6)]) H := hP
  have hD : va_D A ([(h0, .inr (4, [.ref q7, .ref q15, .ref q23, .null, .null, .null, .null, .null, .int 0, .int 0, .int 0, .int 0, .null, .null, .null, .null, .int 0, .int 0, .int 0, .null, .int 0, .int 0, .int 0, .null, .int 0, .int 0, .int 0, .int 0, .null, .null, .int 0, .int 0])), (q7, ar cI 7), (q15, ar cI 6), (q23, ar cI 6), (q31, ar cI 6)]) := hD
  refine va_putF (D := D) (ci := 4) (v := .ref q31) (ty := .array .int) (C := RX4) (T := TX4) (N := 32) hx hb hg gin4 tyX4 tyX4_ok nmX4 hown hK hP hD hS 0 rfl rfl 3 (by decide) (hg (.fieldLink RX4 19 RX4 "rust" "[I") (gw_mem 720 (by decide +kernel) (by decide +kernel))) (fun _ h9 => h9) rfl hin rfl (by decide +kernel) rfl rfl (Nat.le_of_ble_eq_true rfl) dX4_init_33 (fun H locs hP hD hS => ?_)
  have hP : va_P D vwCl ([(h0, .inr (4, [.ref q7, .ref q15, .ref q23, .ref q31, .null, .null, .null, .null, .int 0, .int 0, .int 0, .int 0, .null, .null, .null, .null, .int 0, .int 0, .int 0, .null, .int 0, .int 0, .int 0, .null, .int 0, .int 0, .int 0, .int 0, .null, .null, .int 0, .int 0])), (q7, ar cI 7), (q15, ar cI 6), (q23, ar cI 6), (q31, ar cI 6)]) H := hP
  have hD : va_D A ([(h0, .inr (4, [.ref q7, .ref q15, .ref q23, .ref q31, .null, .null, .null, .null, .int 0, .int 0, .int 0, .int 0, .null, .null, .null, .null, .int 0, .int 0, .int 0, .null, .int 0, .int 0, .int 0, .null, .int 0, .int 0, .int 0, .int 0, .null, .null, .int 0, .int 0])), (q7, ar cI 7), (q15, ar cI 6), (q23, ar cI 6), (q31, ar cI 6)]) := hD
  refine lv_aload_n hx hb dX4_init_36 rfl (lv_at hl 0 rfl) ?_
  refine lv_iconst (v := 5) hx hb dX4_init_37 (by decide) ?_
  refine vn_int (N' := 5) (c2 := 5) (s2 := 30) hx hb (hg (.arrayClass .int) (gw_mem 148 (by decide +kernel) (by decide +kernel))) hK hP hD hS hA (by decide) (by decide) (Nat.le_of_ble_eq_true rfl) (Nat.le_of_ble_eq_true rfl) (Nat.le_of_ble_eq_true rfl) dX4_init_38 (Nat.le_of_ble_eq_true rfl) (Nat.le_of_ble_eq_true rfl) (fun q38 H hP hD hS => ?_)
  have hP : va_P D vwCl ([(h0, .inr (4, [.ref q7, .ref q15, .ref q23, .ref q31, .null, .null, .null, .null, .int 0, .int 0, .int 0, .int 0, .null, .null, .null, .null, .int 0, .int 0, .int 0, .null, .int 0, .int 0, .int 0, .null, .int 0, .int 0, .int 0, .int 0, .null, .null, .int 0, .int 0])), (q7, ar cI 7), (q15, ar cI 6), (q23, ar cI 6), (q31, ar cI 6), (q38, ar cI 5)]) H := hP
  have hD : va_D A ([(h0, .inr (4, [.ref q7, .ref q15, .ref q23, .ref q31, .null, .null, .null, .null, .int 0, .int 0, .int 0, .int 0, .null, .null, .null, .null, .int 0, .int 0, .int 0, .null, .int 0, .int 0, .int 0, .null, .int 0, .int 0, .int 0, .int 0, .null, .null, .int 0, .int 0])), (q7, ar cI 7), (q15, ar cI 6), (q23, ar cI 6), (q31, ar cI 6), (q38, ar cI 5)]) := hD
  refine va_putF (D := D) (ci := 4) (v := .ref q38) (ty := .array .int) (C := RX4) (T := TX4) (N := 32) hx hb hg gin4 tyX4 tyX4_ok nmX4 hown hK hP hD hS 0 rfl rfl 4 (by decide) (hg (.fieldLink RX4 22 RX4 "fear" "[I") (gw_mem 721 (by decide +kernel) (by decide +kernel))) (fun _ h9 => h9) rfl hin rfl (by decide +kernel) rfl rfl (Nat.le_of_ble_eq_true rfl) dX4_init_40 (fun H locs hP hD hS => ?_)
  have hP : va_P D vwCl ([(h0, .inr (4, [.ref q7, .ref q15, .ref q23, .ref q31, .ref q38, .null, .null, .null, .int 0, .int 0, .int 0, .int 0, .null, .null, .null, .null, .int 0, .int 0, .int 0, .null, .int 0, .int 0, .int 0, .null, .int 0, .int 0, .int 0, .int 0, .null, .null, .int 0, .int 0])), (q7, ar cI 7), (q15, ar cI 6), (q23, ar cI 6), (q31, ar cI 6), (q38, ar cI 5)]) H := hP
  have hD : va_D A ([(h0, .inr (4, [.ref q7, .ref q15, .ref q23, .ref q31, .ref q38, .null, .null, .null, .int 0, .int 0, .int 0, .int 0, .null, .null, .null, .null, .int 0, .int 0, .int 0, .null, .int 0, .int 0, .int 0, .null, .int 0, .int 0, .int 0, .int 0, .null, .null, .int 0, .int 0])), (q7, ar cI 7), (q15, ar cI 6), (q23, ar cI 6), (q31, ar cI 6), (q38, ar cI 5)]) := hD
  refine lv_aload_n hx hb dX4_init_43 rfl (lv_at hl 0 rfl) ?_
  refine lv_iconst (v := 5) hx hb dX4_init_44 (by decide) ?_
  refine vn_int (N' := 5) (c2 := 6) (s2 := 35) hx hb (hg (.arrayClass .int) (gw_mem 148 (by decide +kernel) (by decide +kernel))) hK hP hD hS hA (by decide) (by decide) (Nat.le_of_ble_eq_true rfl) (Nat.le_of_ble_eq_true rfl) (Nat.le_of_ble_eq_true rfl) dX4_init_45 (Nat.le_of_ble_eq_true rfl) (Nat.le_of_ble_eq_true rfl) (fun q45 H hP hD hS => ?_)
  have hP : va_P D vwCl ([(h0, .inr (4, [.ref q7, .ref q15, .ref q23, .ref q31, .ref q38, .null, .null, .null, .int 0, .int 0, .int 0, .int 0, .null, .null, .null, .null, .int 0, .int 0, .int 0, .null, .int 0, .int 0, .int 0, .null, .int 0, .int 0, .int 0, .int 0, .null, .null, .int 0, .int 0])), (q7, ar cI 7), (q15, ar cI 6), (q23, ar cI 6), (q31, ar cI 6), (q38, ar cI 5), (q45, ar cI 5)]) H := hP
  have hD : va_D A ([(h0, .inr (4, [.ref q7, .ref q15, .ref q23, .ref q31, .ref q38, .null, .null, .null, .int 0, .int 0, .int 0, .int 0, .null, .null, .null, .null, .int 0, .int 0, .int 0, .null, .int 0, .int 0, .int 0, .null, .int 0, .int 0, .int 0, .int 0, .null, .null, .int 0, .int 0])), (q7, ar cI 7), (q15, ar cI 6), (q23, ar cI 6), (q31, ar cI 6), (q38, ar cI 5), (q45, ar cI 5)]) := hD
  refine va_putF (D := D) (ci := 4) (v := .ref q45) (ty := .array .int) (C := RX4) (T := TX4) (N := 32) hx hb hg gin4 tyX4 tyX4_ok nmX4 hown hK hP hD hS 0 rfl rfl 5 (by decide) (hg (.fieldLink RX4 25 RX4 "sore" "[I") (gw_mem 722 (by decide +kernel) (by decide +kernel))) (fun _ h9 => h9) rfl hin rfl (by decide +kernel) rfl rfl (Nat.le_of_ble_eq_true rfl) dX4_init_47 (fun H locs hP hD hS => ?_)
  have hP : va_P D vwCl ([(h0, .inr (4, [.ref q7, .ref q15, .ref q23, .ref q31, .ref q38, .ref q45, .null, .null, .int 0, .int 0, .int 0, .int 0, .null, .null, .null, .null, .int 0, .int 0, .int 0, .null, .int 0, .int 0, .int 0, .null, .int 0, .int 0, .int 0, .int 0, .null, .null, .int 0, .int 0])), (q7, ar cI 7), (q15, ar cI 6), (q23, ar cI 6), (q31, ar cI 6), (q38, ar cI 5), (q45, ar cI 5)]) H := hP
  have hD : va_D A ([(h0, .inr (4, [.ref q7, .ref q15, .ref q23, .ref q31, .ref q38, .ref q45, .null, .null, .int 0, .int 0, .int 0, .int 0, .null, .null, .null, .null, .int 0, .int 0, .int 0, .null, .int 0, .int 0, .int 0, .null, .int 0, .int 0, .int 0, .int 0, .null, .null, .int 0, .int 0])), (q7, ar cI 7), (q15, ar cI 6), (q23, ar cI 6), (q31, ar cI 6), (q38, ar cI 5), (q45, ar cI 5)]) := hD
  refine lv_aload_n hx hb dX4_init_50 rfl (lv_at hl 0 rfl) ?_
  refine lv_iconst (v := 5) hx hb dX4_init_51 (by decide) ?_
  refine vn_int (N' := 5) (c2 := 7) (s2 := 40) hx hb (hg (.arrayClass .int) (gw_mem 148 (by decide +kernel) (by decide +kernel))) hK hP hD hS hA (by decide) (by decide) (Nat.le_of_ble_eq_true rfl) (Nat.le_of_ble_eq_true rfl) (Nat.le_of_ble_eq_true rfl) dX4_init_52 (Nat.le_of_ble_eq_true rfl) (Nat.le_of_ble_eq_true rfl) (fun q52 H hP hD hS => ?_)
  have hP : va_P D vwCl ([(h0, .inr (4, [.ref q7, .ref q15, .ref q23, .ref q31, .ref q38, .ref q45, .null, .null, .int 0, .int 0, .int 0, .int 0, .null, .null, .null, .null, .int 0, .int 0, .int 0, .null, .int 0, .int 0, .int 0, .null, .int 0, .int 0, .int 0, .int 0, .null, .null, .int 0, .int 0])), (q7, ar cI 7), (q15, ar cI 6), (q23, ar cI 6), (q31, ar cI 6), (q38, ar cI 5), (q45, ar cI 5), (q52, ar cI 5)]) H := hP
  have hD : va_D A ([(h0, .inr (4, [.ref q7, .ref q15, .ref q23, .ref q31, .ref q38, .ref q45, .null, .null, .int 0, .int 0, .int 0, .int 0, .null, .null, .null, .null, .int 0, .int 0, .int 0, .null, .int 0, .int 0, .int 0, .null, .int 0, .int 0, .int 0, .int 0, .null, .null, .int 0, .int 0])), (q7, ar cI 7), (q15, ar cI 6), (q23, ar cI 6), (q31, ar cI 6), (q38, ar cI 5), (q45, ar cI 5), (q52, ar cI 5)]) := hD
  refine va_putF (D := D) (ci := 4) (v := .ref q52) (ty := .array .int) (C := RX4) (T := TX4) (N := 32) hx hb hg gin4 tyX4 tyX4_ok nmX4 hown hK hP hD hS 0 rfl rfl 6 (by decide) (hg (.fieldLink RX4 28 RX4 "said" "[I") (gw_mem 723 (by decide +kernel) (by decide +kernel))) (fun _ h9 => h9) rfl hin rfl (by decide +kernel) rfl rfl (Nat.le_of_ble_eq_true rfl) dX4_init_54 (fun H locs hP hD hS => ?_)
  have hP : va_P D vwCl ([(h0, .inr (4, [.ref q7, .ref q15, .ref q23, .ref q31, .ref q38, .ref q45, .ref q52, .null, .int 0, .int 0, .int 0, .int 0, .null, .null, .null, .null, .int 0, .int 0, .int 0, .null, .int 0, .int 0, .int 0, .null, .int 0, .int 0, .int 0, .int 0, .null, .null, .int 0, .int 0])), (q7, ar cI 7), (q15, ar cI 6), (q23, ar cI 6), (q31, ar cI 6), (q38, ar cI 5), (q45, ar cI 5), (q52, ar cI 5)]) H := hP
  have hD : va_D A ([(h0, .inr (4, [.ref q7, .ref q15, .ref q23, .ref q31, .ref q38, .ref q45, .ref q52, .null, .int 0, .int 0, .int 0, .int 0, .null, .null, .null, .null, .int 0, .int 0, .int 0, .null, .int 0, .int 0, .int 0, .null, .int 0, .int 0, .int 0, .int 0, .null, .null, .int 0, .int 0])), (q7, ar cI 7), (q15, ar cI 6), (q23, ar cI 6), (q31, ar cI 6), (q38, ar cI 5), (q45, ar cI 5), (q52, ar cI 5)]) := hD
  refine lv_aload_n hx hb dX4_init_57 rfl (lv_at hl 0 rfl) ?_
  refine lv_iconst (v := 5) hx hb dX4_init_58 (by decide) ?_
  refine vn_int (N' := 5) (c2 := 8) (s2 := 45) hx hb (hg (.arrayClass .int) (gw_mem 148 (by decide +kernel) (by decide +kernel))) hK hP hD hS hA (by decide) (by decide) (Nat.le_of_ble_eq_true rfl) (Nat.le_of_ble_eq_true rfl) (Nat.le_of_ble_eq_true rfl) dX4_init_59 (Nat.le_of_ble_eq_true rfl) (Nat.le_of_ble_eq_true rfl) (fun q59 H hP hD hS => ?_)
  have hP : va_P D vwCl ([(h0, .inr (4, [.ref q7, .ref q15, .ref q23, .ref q31, .ref q38, .ref q45, .ref q52, .null, .int 0, .int 0, .int 0, .int 0, .null, .null, .null, .null, .int 0, .int 0, .int 0, .null, .int 0, .int 0, .int 0, .null, .int 0, .int 0, .int 0, .int 0, .null, .null, .int 0, .int 0])), (q7, ar cI 7), (q15, ar cI 6), (q23, ar cI 6), (q31, ar cI 6), (q38, ar cI 5), (q45, ar cI 5), (q52, ar cI 5), (q59, ar cI 5)]) H := hP
  have hD : va_D A ([(h0, .inr (4, [.ref q7, .ref q15, .ref q23, .ref q31, .ref q38, .ref q45, .ref q52, .null, .int 0, .int 0, .int 0, .int 0, .null, .null, .null, .null, .int 0, .int 0, .int 0, .null, .int 0, .int 0, .int 0, .null, .int 0, .int 0, .int 0, .int 0, .null, .null, .int 0, .int 0])), (q7, ar cI 7), (q15, ar cI 6), (q23, ar cI 6), (q31, ar cI 6), (q38, ar cI 5), (q45, ar cI 5), (q52, ar cI 5), (q59, ar cI 5)]) := hD
  refine va_putF (D := D) (ci := 4) (v := .ref q59) (ty := .array .int) (C := RX4) (T := TX4) (N := 32) hx hb hg gin4 tyX4 tyX4_ok nmX4 hown hK hP hD hS 0 rfl rfl 7 (by decide) (hg (.fieldLink RX4 31 RX4 "worn" "[I") (gw_mem 724 (by decide +kernel) (by decide +kernel))) (fun _ h9 => h9) rfl hin rfl (by decide +kernel) rfl rfl (Nat.le_of_ble_eq_true rfl) dX4_init_61 (fun H locs hP hD hS => ?_)
  have hP : va_P D vwCl ([(h0, .inr (4, [.ref q7, .ref q15, .ref q23, .ref q31, .ref q38, .ref q45, .ref q52, .ref q59, .int 0, .int 0, .int 0, .int 0, .null, .null, .null, .null, .int 0, .int 0, .int 0, .null, .int 0, .int 0, .int 0, .null, .int 0, .int 0, .int 0, .int 0, .null, .null, .int 0, .int 0])), (q7, ar cI 7), (q15, ar cI 6), (q23, ar cI 6), (q31, ar cI 6), (q38, ar cI 5), (q45, ar cI 5), (q52, ar cI 5), (q59, ar cI 5)]) H := hP
  have hD : va_D A ([(h0, .inr (4, [.ref q7, .ref q15, .ref q23, .ref q31, .ref q38, .ref q45, .ref q52, .ref q59, .int 0, .int 0, .int 0, .int 0, .null, .null, .null, .null, .int 0, .int 0, .int 0, .null, .int 0, .int 0, .int 0, .null, .int 0, .int 0, .int 0, .int 0, .null, .null, .int 0, .int 0])), (q7, ar cI 7), (q15, ar cI 6), (q23, ar cI 6), (q31, ar cI 6), (q38, ar cI 5), (q45, ar cI 5), (q52, ar cI 5), (q59, ar cI 5)]) := hD
  refine lv_aload_n hx hb dX4_init_64 rfl (lv_at hl 0 rfl) ?_
  refine lv_bipush (v := 96) hx hb dX4_init_65 (by decide) ?_
  refine vn_int (N' := 96) (c2 := 9) (s2 := 141) hx hb (hg (.arrayClass .int) (gw_mem 148 (by decide +kernel) (by decide +kernel))) hK hP hD hS hA (by decide) (by decide) (Nat.le_of_ble_eq_true rfl) (Nat.le_of_ble_eq_true rfl) (Nat.le_of_ble_eq_true rfl) dX4_init_67 (Nat.le_of_ble_eq_true rfl) (Nat.le_of_ble_eq_true rfl) (fun q67 H hP hD hS => ?_)
  have hP : va_P D vwCl ([(h0, .inr (4, [.ref q7, .ref q15, .ref q23, .ref q31, .ref q38, .ref q45, .ref q52, .ref q59, .int 0, .int 0, .int 0, .int 0, .null, .null, .null, .null, .int 0, .int 0, .int 0, .null, .int 0, .int 0, .int 0, .null, .int 0, .int 0, .int 0, .int 0, .null, .null, .int 0, .int 0])), (q7, ar cI 7), (q15, ar cI 6), (q23, ar cI 6), (q31, ar cI 6), (q38, ar cI 5), (q45, ar cI 5), (q52, ar cI 5), (q59, ar cI 5), (q67, ar cI 96)]) H := hP
  have hD : va_D A ([(h0, .inr (4, [.ref q7, .ref q15, .ref q23, .ref q31, .ref q38, .ref q45, .ref q52, .ref q59, .int 0, .int 0, .int 0, .int 0, .null, .null, .null, .null, .int 0, .int 0, .int 0, .null, .int 0, .int 0, .int 0, .null, .int 0, .int 0, .int 0, .int 0, .null, .null, .int 0, .int 0])), (q7, ar cI 7), (q15, ar cI 6), (q23, ar cI 6), (q31, ar cI 6), (q38, ar cI 5), (q45, ar cI 5), (q52, ar cI 5), (q59, ar cI 5), (q67, ar cI 96)]) := hD
  refine va_putF (D := D) (ci := 4) (v := .ref q67) (ty := .array .int) (C := RX4) (T := TX4) (N := 32) hx hb hg gin4 tyX4 tyX4_ok nmX4 hown hK hP hD hS 0 rfl rfl 12 (by decide) (hg (.fieldLink RX4 34 RX4 "tape" "[I") (gw_mem 729 (by decide +kernel) (by decide +kernel))) (fun _ h9 => h9) rfl hin rfl (by decide +kernel) rfl rfl (Nat.le_of_ble_eq_true rfl) dX4_init_69 (fun H locs hP hD hS => ?_)
  have hP : va_P D vwCl ([(h0, .inr (4, [.ref q7, .ref q15, .ref q23, .ref q31, .ref q38, .ref q45, .ref q52, .ref q59, .int 0, .int 0, .int 0, .int 0, .ref q67, .null, .null, .null, .int 0, .int 0, .int 0, .null, .int 0, .int 0, .int 0, .null, .int 0, .int 0, .int 0, .int 0, .null, .null, .int 0, .int 0])), (q7, ar cI 7), (q15, ar cI 6), (q23, ar cI 6), (q31, ar cI 6), (q38, ar cI 5), (q45, ar cI 5), (q52, ar cI 5), (q59, ar cI 5), (q67, ar cI 96)]) H := hP
  have hD : va_D A ([(h0, .inr (4, [.ref q7, .ref q15, .ref q23, .ref q31, .ref q38, .ref q45, .ref q52, .ref q59, .int 0, .int 0, .int 0, .int 0, .ref q67, .null, .null, .null, .int 0, .int 0, .int 0, .null, .int 0, .int 0, .int 0, .null, .int 0, .int 0, .int 0, .int 0, .null, .null, .int 0, .int 0])), (q7, ar cI 7), (q15, ar cI 6), (q23, ar cI 6), (q31, ar cI 6), (q38, ar cI 5), (q45, ar cI 5), (q52, ar cI 5), (q59, ar cI 5), (q67, ar cI 96)]) := hD
  refine lv_aload_n hx hb dX4_init_72 rfl (lv_at hl 0 rfl) ?_
  refine lv_bipush (v := 48) hx hb dX4_init_73 (by decide) ?_
  refine vn_int (N' := 48) (c2 := 10) (s2 := 189) hx hb (hg (.arrayClass .int) (gw_mem 148 (by decide +kernel) (by decide +kernel))) hK hP hD hS hA (by decide) (by decide) (Nat.le_of_ble_eq_true rfl) (Nat.le_of_ble_eq_true rfl) (Nat.le_of_ble_eq_true rfl) dX4_init_75 (Nat.le_of_ble_eq_true rfl) (Nat.le_of_ble_eq_true rfl) (fun q75 H hP hD hS => ?_)
  have hP : va_P D vwCl ([(h0, .inr (4, [.ref q7, .ref q15, .ref q23, .ref q31, .ref q38, .ref q45, .ref q52, .ref q59, .int 0, .int 0, .int 0, .int 0, .ref q67, .null, .null, .null, .int 0, .int 0, .int 0, .null, .int 0, .int 0, .int 0, .null, .int 0, .int 0, .int 0, .int 0, .null, .null, .int 0, .int 0])), (q7, ar cI 7), (q15, ar cI 6), (q23, ar cI 6), (q31, ar cI 6), (q38, ar cI 5), (q45, ar cI 5), (q52, ar cI 5), (q59, ar cI 5), (q67, ar cI 96), (q75, ar cI 48)]) H := hP
  have hD : va_D A ([(h0, .inr (4, [.ref q7, .ref q15, .ref q23, .ref q31, .ref q38, .ref q45, .ref q52, .ref q59, .int 0, .int 0, .int 0, .int 0, .ref q67, .null, .null, .null, .int 0, .int 0, .int 0, .null, .int 0, .int 0, .int 0, .null, .int 0, .int 0, .int 0, .int 0, .null, .null, .int 0, .int 0])), (q7, ar cI 7), (q15, ar cI 6), (q23, ar cI 6), (q31, ar cI 6), (q38, ar cI 5), (q45, ar cI 5), (q52, ar cI 5), (q59, ar cI 5), (q67, ar cI 96), (q75, ar cI 48)]) := hD
  refine va_putF (D := D) (ci := 4) (v := .ref q75) (ty := .array .int) (C := RX4) (T := TX4) (N := 32) hx hb hg gin4 tyX4 tyX4_ok nmX4 hown hK hP hD hS 0 rfl rfl 13 (by decide) (hg (.fieldLink RX4 37 RX4 "letter" "[I") (gw_mem 730 (by decide +kernel) (by decide +kernel))) (fun _ h9 => h9) rfl hin rfl (by decide +kernel) rfl rfl (Nat.le_of_ble_eq_true rfl) dX4_init_77 (fun H locs hP hD hS => ?_)
  have hP : va_P D vwCl ([(h0, .inr (4, [.ref q7, .ref q15, .ref q23, .ref q31, .ref q38, .ref q45, .ref q52, .ref q59, .int 0, .int 0, .int 0, .int 0, .ref q67, .ref q75, .null, .null, .int 0, .int 0, .int 0, .null, .int 0, .int 0, .int 0, .null, .int 0, .int 0, .int 0, .int 0, .null, .null, .int 0, .int 0])), (q7, ar cI 7), (q15, ar cI 6), (q23, ar cI 6), (q31, ar cI 6), (q38, ar cI 5), (q45, ar cI 5), (q52, ar cI 5), (q59, ar cI 5), (q67, ar cI 96), (q75, ar cI 48)]) H := hP
  have hD : va_D A ([(h0, .inr (4, [.ref q7, .ref q15, .ref q23, .ref q31, .ref q38, .ref q45, .ref q52, .ref q59, .int 0, .int 0, .int 0, .int 0, .ref q67, .ref q75, .null, .null, .int 0, .int 0, .int 0, .null, .int 0, .int 0, .int 0, .null, .int 0, .int 0, .int 0, .int 0, .null, .null, .int 0, .int 0])), (q7, ar cI 7), (q15, ar cI 6), (q23, ar cI 6), (q31, ar cI 6), (q38, ar cI 5), (q45, ar cI 5), (q52, ar cI 5), (q59, ar cI 5), (q67, ar cI 96), (q75, ar cI 48)]) := hD
  refine lv_aload_n hx hb dX4_init_80 rfl (lv_at hl 0 rfl) ?_
  refine lv_bipush (v := 48) hx hb dX4_init_81 (by decide) ?_
  refine vn_int (N' := 48) (c2 := 11) (s2 := 237) hx hb (hg (.arrayClass .int) (gw_mem 148 (by decide +kernel) (by decide +kernel))) hK hP hD hS hA (by decide) (by decide) (Nat.le_of_ble_eq_true rfl) (Nat.le_of_ble_eq_true rfl) (Nat.le_of_ble_eq_true rfl) dX4_init_83 (Nat.le_of_ble_eq_true rfl) (Nat.le_of_ble_eq_true rfl) (fun q83 H hP hD hS => ?_)
  have hP : va_P D vwCl ([(h0, .inr (4, [.ref q7, .ref q15, .ref q23, .ref q31, .ref q38, .ref q45, .ref q52, .ref q59, .int 0, .int 0, .int 0, .int 0, .ref q67, .ref q75, .null, .null, .int 0, .int 0, .int 0, .null, .int 0, .int 0, .int 0, .null, .int 0, .int 0, .int 0, .int 0, .null, .null, .int 0, .int 0])), (q7, ar cI 7), (q15, ar cI 6), (q23, ar cI 6), (q31, ar cI 6), (q38, ar cI 5), (q45, ar cI 5), (q52, ar cI 5), (q59, ar cI 5), (q67, ar cI 96), (q75, ar cI 48), (q83, ar cI 48)]) H := hP
  have hD : va_D A ([(h0, .inr (4, [.ref q7, .ref q15, .ref q23, .ref q31, .ref q38, .ref q45, .ref q52, .ref q59, .int 0, .int 0, .int 0, .int 0, .ref q67, .ref q75, .null, .null, .int 0, .int 0, .int 0, .null, .int 0, .int 0, .int 0, .null, .int 0, .int 0, .int 0, .int 0, .null, .null, .int 0, .int 0])), (q7, ar cI 7), (q15, ar cI 6), (q23, ar cI 6), (q31, ar cI 6), (q38, ar cI 5), (q45, ar cI 5), (q52, ar cI 5), (q59, ar cI 5), (q67, ar cI 96), (q75, ar cI 48), (q83, ar cI 48)]) := hD
  refine va_putF (D := D) (ci := 4) (v := .ref q83) (ty := .array .int) (C := RX4) (T := TX4) (N := 32) hx hb hg gin4 tyX4 tyX4_ok nmX4 hown hK hP hD hS 0 rfl rfl 14 (by decide) (hg (.fieldLink RX4 40 RX4 "letterAt" "[I") (gw_mem 731 (by decide +kernel) (by decide +kernel))) (fun _ h9 => h9) rfl hin rfl (by decide +kernel) rfl rfl (Nat.le_of_ble_eq_true rfl) dX4_init_85 (fun H locs hP hD hS => ?_)
  have hP : va_P D vwCl ([(h0, .inr (4, [.ref q7, .ref q15, .ref q23, .ref q31, .ref q38, .ref q45, .ref q52, .ref q59, .int 0, .int 0, .int 0, .int 0, .ref q67, .ref q75, .ref q83, .null, .int 0, .int 0, .int 0, .null, .int 0, .int 0, .int 0, .null, .int 0, .int 0, .int 0, .int 0, .null, .null, .int 0, .int 0])), (q7, ar cI 7), (q15, ar cI 6), (q23, ar cI 6), (q31, ar cI 6), (q38, ar cI 5), (q45, ar cI 5), (q52, ar cI 5), (q59, ar cI 5), (q67, ar cI 96), (q75, ar cI 48), (q83, ar cI 48)]) H := hP
  have hD : va_D A ([(h0, .inr (4, [.ref q7, .ref q15, .ref q23, .ref q31, .ref q38, .ref q45, .ref q52, .ref q59, .int 0, .int 0, .int 0, .int 0, .ref q67, .ref q75, .ref q83, .null, .int 0, .int 0, .int 0, .null, .int 0, .int 0, .int 0, .null, .int 0, .int 0, .int 0, .int 0, .null, .null, .int 0, .int 0])), (q7, ar cI 7), (q15, ar cI 6), (q23, ar cI 6), (q31, ar cI 6), (q38, ar cI 5), (q45, ar cI 5), (q52, ar cI 5), (q59, ar cI 5), (q67, ar cI 96), (q75, ar cI 48), (q83, ar cI 48)]) := hD
  refine lv_aload_n hx hb dX4_init_88 rfl (lv_at hl 0 rfl) ?_
  refine lv_bipush (v := 96) hx hb dX4_init_89 (by decide) ?_
  refine vn_int (N' := 96) (c2 := 12) (s2 := 333) hx hb (hg (.arrayClass .int) (gw_mem 148 (by decide +kernel) (by decide +kernel))) hK hP hD hS hA (by decide) (by decide) (Nat.le_of_ble_eq_true rfl) (Nat.le_of_ble_eq_true rfl) (Nat.le_of_ble_eq_true rfl) dX4_init_91 (Nat.le_of_ble_eq_true rfl) (Nat.le_of_ble_eq_true rfl) (fun q91 H hP hD hS => ?_)
  have hP : va_P D vwCl ([(h0, .inr (4, [.ref q7, .ref q15, .ref q23, .ref q31, .ref q38, .ref q45, .ref q52, .ref q59, .int 0, .int 0, .int 0, .int 0, .ref q67, .ref q75, .ref q83, .null, .int 0, .int 0, .int 0, .null, .int 0, .int 0, .int 0, .null, .int 0, .int 0, .int 0, .int 0, .null, .null, .int 0, .int 0])), (q7, ar cI 7), (q15, ar cI 6), (q23, ar cI 6), (q31, ar cI 6), (q38, ar cI 5), (q45, ar cI 5), (q52, ar cI 5), (q59, ar cI 5), (q67, ar cI 96), (q75, ar cI 48), (q83, ar cI 48), (q91, ar cI 96)]) H := hP
  have hD : va_D A ([(h0, .inr (4, [.ref q7, .ref q15, .ref q23, .ref q31, .ref q38, .ref q45, .ref q52, .ref q59, .int 0, .int 0, .int 0, .int 0, .ref q67, .ref q75, .ref q83, .null, .int 0, .int 0, .int 0, .null, .int 0, .int 0, .int 0, .null, .int 0, .int 0, .int 0, .int 0, .null, .null, .int 0, .int 0])), (q7, ar cI 7), (q15, ar cI 6), (q23, ar cI 6), (q31, ar cI 6), (q38, ar cI 5), (q45, ar cI 5), (q52, ar cI 5), (q59, ar cI 5), (q67, ar cI 96), (q75, ar cI 48), (q83, ar cI 48), (q91, ar cI 96)]) := hD
  refine va_putF (D := D) (ci := 4) (v := .ref q91) (ty := .array .int) (C := RX4) (T := TX4) (N := 32) hx hb hg gin4 tyX4 tyX4_ok nmX4 hown hK hP hD hS 0 rfl rfl 15 (by decide) (hg (.fieldLink RX4 43 RX4 "told" "[I") (gw_mem 732 (by decide +kernel) (by decide +kernel))) (fun _ h9 => h9) rfl hin rfl (by decide +kernel) rfl rfl (Nat.le_of_ble_eq_true rfl) dX4_init_93 (fun H locs hP hD hS => ?_)
  have hP : va_P D vwCl ([(h0, .inr (4, [.ref q7, .ref q15, .ref q23, .ref q31, .ref q38, .ref q45, .ref q52, .ref q59, .int 0, .int 0, .int 0, .int 0, .ref q67, .ref q75, .ref q83, .ref q91, .int 0, .int 0, .int 0, .null, .int 0, .int 0, .int 0, .null, .int 0, .int 0, .int 0, .int 0, .null, .null, .int 0, .int 0])), (q7, ar cI 7), (q15, ar cI 6), (q23, ar cI 6), (q31, ar cI 6), (q38, ar cI 5), (q45, ar cI 5), (q52, ar cI 5), (q59, ar cI 5), (q67, ar cI 96), (q75, ar cI 48), (q83, ar cI 48), (q91, ar cI 96)]) H := hP
  have hD : va_D A ([(h0, .inr (4, [.ref q7, .ref q15, .ref q23, .ref q31, .ref q38, .ref q45, .ref q52, .ref q59, .int 0, .int 0, .int 0, .int 0, .ref q67, .ref q75, .ref q83, .ref q91, .int 0, .int 0, .int 0, .null, .int 0, .int 0, .int 0, .null, .int 0, .int 0, .int 0, .int 0, .null, .null, .int 0, .int 0])), (q7, ar cI 7), (q15, ar cI 6), (q23, ar cI 6), (q31, ar cI 6), (q38, ar cI 5), (q45, ar cI 5), (q52, ar cI 5), (q59, ar cI 5), (q67, ar cI 96), (q75, ar cI 48), (q83, ar cI 48), (q91, ar cI 96)]) := hD
  refine lv_aload_n hx hb dX4_init_96 rfl (lv_at hl 0 rfl) ?_
  refine lv_bipush (v := 126) hx hb dX4_init_97 (by decide) ?_
  refine vn_int (N' := 126) (c2 := 13) (s2 := 459) hx hb (hg (.arrayClass .int) (gw_mem 148 (by decide +kernel) (by decide +kernel))) hK hP hD hS hA (by decide) (by decide) (Nat.le_of_ble_eq_true rfl) (Nat.le_of_ble_eq_true rfl) (Nat.le_of_ble_eq_true rfl) dX4_init_99 (Nat.le_of_ble_eq_true rfl) (Nat.le_of_ble_eq_true rfl) (fun q99 H hP hD hS => ?_)
  have hP : va_P D vwCl ([(h0, .inr (4, [.ref q7, .ref q15, .ref q23, .ref q31, .ref q38, .ref q45, .ref q52, .ref q59, .int 0, .int 0, .int 0, .int 0, .ref q67, .ref q75, .ref q83, .ref q91, .int 0, .int 0, .int 0, .null, .int 0, .int 0, .int 0, .null, .int 0, .int 0, .int 0, .int 0, .null, .null, .int 0, .int 0])), (q7, ar cI 7), (q15, ar cI 6), (q23, ar cI 6), (q31, ar cI 6), (q38, ar cI 5), (q45, ar cI 5), (q52, ar cI 5), (q59, ar cI 5), (q67, ar cI 96), (q75, ar cI 48), (q83, ar cI 48), (q91, ar cI 96), (q99, ar cI 126)]) H := hP
  have hD : va_D A ([(h0, .inr (4, [.ref q7, .ref q15, .ref q23, .ref q31, .ref q38, .ref q45, .ref q52, .ref q59, .int 0, .int 0, .int 0, .int 0, .ref q67, .ref q75, .ref q83, .ref q91, .int 0, .int 0, .int 0, .null, .int 0, .int 0, .int 0, .null, .int 0, .int 0, .int 0, .int 0, .null, .null, .int 0, .int 0])), (q7, ar cI 7), (q15, ar cI 6), (q23, ar cI 6), (q31, ar cI 6), (q38, ar cI 5), (q45, ar cI 5), (q52, ar cI 5), (q59, ar cI 5), (q67, ar cI 96), (q75, ar cI 48), (q83, ar cI 48), (q91, ar cI 96), (q99, ar cI 126)]) := hD
  refine va_putF (D := D) (ci := 4) (v := .ref q99) (ty := .array .int) (C := RX4) (T := TX4) (N := 32) hx hb hg gin4 tyX4 tyX4_ok nmX4 hown hK hP hD hS 0 rfl rfl 19 (by decide) (hg (.fieldLink RX4 46 RX4 "kept" "[I") (gw_mem 736 (by decide +kernel) (by decide +kernel))) (fun _ h9 => h9) rfl hin rfl (by decide +kernel) rfl rfl (Nat.le_of_ble_eq_true rfl) dX4_init_101 (fun H locs hP hD hS => ?_)
  have hP : va_P D vwCl ([(h0, .inr (4, [.ref q7, .ref q15, .ref q23, .ref q31, .ref q38, .ref q45, .ref q52, .ref q59, .int 0, .int 0, .int 0, .int 0, .ref q67, .ref q75, .ref q83, .ref q91, .int 0, .int 0, .int 0, .ref q99, .int 0, .int 0, .int 0, .null, .int 0, .int 0, .int 0, .int 0, .null, .null, .int 0, .int 0])), (q7, ar cI 7), (q15, ar cI 6), (q23, ar cI 6), (q31, ar cI 6), (q38, ar cI 5), (q45, ar cI 5), (q52, ar cI 5), (q59, ar cI 5), (q67, ar cI 96), (q75, ar cI 48), (q83, ar cI 48), (q91, ar cI 96), (q99, ar cI 126)]) H := hP
  have hD : va_D A ([(h0, .inr (4, [.ref q7, .ref q15, .ref q23, .ref q31, .ref q38, .ref q45, .ref q52, .ref q59, .int 0, .int 0, .int 0, .int 0, .ref q67, .ref q75, .ref q83, .ref q91, .int 0, .int 0, .int 0, .ref q99, .int 0, .int 0, .int 0, .null, .int 0, .int 0, .int 0, .int 0, .null, .null, .int 0, .int 0])), (q7, ar cI 7), (q15, ar cI 6), (q23, ar cI 6), (q31, ar cI 6), (q38, ar cI 5), (q45, ar cI 5), (q52, ar cI 5), (q59, ar cI 5), (q67, ar cI 96), (q75, ar cI 48), (q83, ar cI 48), (q91, ar cI 96), (q99, ar cI 126)]) := hD
  refine lv_aload_n hx hb dX4_init_104 rfl (lv_at hl 0 rfl) ?_
  refine lv_bipush (v := 6) hx hb dX4_init_105 (by decide) ?_
  refine lv_bipush (v := 64) hx hb dX4_init_107 (by decide) ?_
  have hP : va_P D vwCl ([(h0, .inr (4, [.ref q7, .ref q15, .ref q23, .ref q31, .ref q38, .ref q45, .ref q52, .ref q59, .int 0, .int 0, .int 0, .int 0, .ref q67, .ref q75, .ref q83, .ref q91, .int 0, .int 0, .int 0, .ref q99, .int 0, .int 0, .int 0, .null, .int 0, .int 0, .int 0, .int 0, .null, .null, .int 0, .int 0])), (q7, ar cI 7), (q15, ar cI 6), (q23, ar cI 6), (q31, ar cI 6), (q38, ar cI 5), (q45, ar cI 5), (q52, ar cI 5), (q59, ar cI 5), (q67, ar cI 96), (q75, ar cI 48), (q83, ar cI 48), (q91, ar cI 96), (q99, ar cI 126)] ++ va_pl [] (fun _ => ar cI 0)) H := by rw [show va_pl [] (fun _ => ar cI 0) = [] from rfl, List.append_nil]; exact hP
  have hD : va_D A ([(h0, .inr (4, [.ref q7, .ref q15, .ref q23, .ref q31, .ref q38, .ref q45, .ref q52, .ref q59, .int 0, .int 0, .int 0, .int 0, .ref q67, .ref q75, .ref q83, .ref q91, .int 0, .int 0, .int 0, .ref q99, .int 0, .int 0, .int 0, .null, .int 0, .int 0, .int 0, .int 0, .null, .null, .int 0, .int 0])), (q7, ar cI 7), (q15, ar cI 6), (q23, ar cI 6), (q31, ar cI 6), (q38, ar cI 5), (q45, ar cI 5), (q52, ar cI 5), (q59, ar cI 5), (q67, ar cI 96), (q75, ar cI 48), (q83, ar cI 48), (q91, ar cI 96), (q99, ar cI 126)] ++ va_pl [] (fun _ => ar cI 0)) := by rw [show va_pl [] (fun _ => ar cI 0) = [] from rfl, List.append_nil]; exact hD
  refine va_mna (N' := 6) (K' := 64) (z := (64, .inl (fun _ => (0 : Int32)))) (ty := .int) (cy := cI) hx hb hown (hg (.classLink RX4 49 "[[I") (gw_mem 715 (by decide +kernel) (by decide +kernel))) hov (hg (.arrayClass .int) (gw_mem 148 (by decide +kernel) (by decide +kernel))) (hK.2 0 (cI, .int) rfl).2 hK hP hD hS hA (by decide) (by decide) (by decide) (by decide) (Nat.le_of_ble_eq_true rfl) (Nat.le_of_ble_eq_true rfl) (Nat.le_of_ble_eq_true rfl) rfl rfl (Nat.le_of_ble_eq_true rfl) (Nat.le_of_ble_eq_true rfl) (fun _ => arrV_new _ _ _) dX4_init_109 (fun q109 r109 cAA H _ _ hKA hP hD hS => ?_)
  rw [rows6] at hP hD
  have hP : va_P D vwCl ([(h0, .inr (4, [.ref q7, .ref q15, .ref q23, .ref q31, .ref q38, .ref q45, .ref q52, .ref q59, .int 0, .int 0, .int 0, .int 0, .ref q67, .ref q75, .ref q83, .ref q91, .int 0, .int 0, .int 0, .ref q99, .int 0, .int 0, .int 0, .null, .int 0, .int 0, .int 0, .int 0, .null, .null, .int 0, .int 0])), (q7, ar cI 7), (q15, ar cI 6), (q23, ar cI 6), (q31, ar cI 6), (q38, ar cI 5), (q45, ar cI 5), (q52, ar cI 5), (q59, ar cI 5), (q67, ar cI 96), (q75, ar cI 48), (q83, ar cI 48), (q91, ar cI 96), (q99, ar cI 126), (q109, .inl (cAA, 6, .inr (.inr (.inr (.inr fun i => if i < 6 then some (r109 i) else none))))), (r109 0, ar cI 64), (r109 1, ar cI 64), (r109 2, ar cI 64), (r109 3, ar cI 64), (r109 4, ar cI 64), (r109 5, ar cI 64)]) H := hP
  have hD : va_D A ([(h0, .inr (4, [.ref q7, .ref q15, .ref q23, .ref q31, .ref q38, .ref q45, .ref q52, .ref q59, .int 0, .int 0, .int 0, .int 0, .ref q67, .ref q75, .ref q83, .ref q91, .int 0, .int 0, .int 0, .ref q99, .int 0, .int 0, .int 0, .null, .int 0, .int 0, .int 0, .int 0, .null, .null, .int 0, .int 0])), (q7, ar cI 7), (q15, ar cI 6), (q23, ar cI 6), (q31, ar cI 6), (q38, ar cI 5), (q45, ar cI 5), (q52, ar cI 5), (q59, ar cI 5), (q67, ar cI 96), (q75, ar cI 48), (q83, ar cI 48), (q91, ar cI 96), (q99, ar cI 126), (q109, .inl (cAA, 6, .inr (.inr (.inr (.inr fun i => if i < 6 then some (r109 i) else none))))), (r109 0, ar cI 64), (r109 1, ar cI 64), (r109 2, ar cI 64), (r109 3, ar cI 64), (r109 4, ar cI 64), (r109 5, ar cI 64)]) := hD
  refine W.widen (k := 20) (n := 849) (Nat.le_of_ble_eq_true rfl) (Nat.le_of_ble_eq_true rfl) ?_
  refine va_putF (D := D) (ci := 4) (v := .ref q109) (ty := .array (.array .int)) (C := RX4) (T := TX4) (N := 32) hx hb hg gin4 tyX4 tyX4_ok nmX4 hown hK hP hD hS 0 rfl rfl 23 (by decide) (hg (.fieldLink RX4 51 RX4 "dressed" "[[I") (gw_mem 740 (by decide +kernel) (by decide +kernel))) (fun _ h9 => h9) rfl hin rfl (by decide +kernel) rfl rfl (Nat.le_of_ble_eq_true rfl) dX4_init_113 (fun H locs hP hD hS => ?_)
  have hP : va_P D vwCl ([(h0, .inr (4, [.ref q7, .ref q15, .ref q23, .ref q31, .ref q38, .ref q45, .ref q52, .ref q59, .int 0, .int 0, .int 0, .int 0, .ref q67, .ref q75, .ref q83, .ref q91, .int 0, .int 0, .int 0, .ref q99, .int 0, .int 0, .int 0, .ref q109, .int 0, .int 0, .int 0, .int 0, .null, .null, .int 0, .int 0])), (q7, ar cI 7), (q15, ar cI 6), (q23, ar cI 6), (q31, ar cI 6), (q38, ar cI 5), (q45, ar cI 5), (q52, ar cI 5), (q59, ar cI 5), (q67, ar cI 96), (q75, ar cI 48), (q83, ar cI 48), (q91, ar cI 96), (q99, ar cI 126), (q109, .inl (cAA, 6, .inr (.inr (.inr (.inr fun i => if i < 6 then some (r109 i) else none))))), (r109 0, ar cI 64), (r109 1, ar cI 64), (r109 2, ar cI 64), (r109 3, ar cI 64), (r109 4, ar cI 64), (r109 5, ar cI 64)]) H := hP
  have hD : va_D A ([(h0, .inr (4, [.ref q7, .ref q15, .ref q23, .ref q31, .ref q38, .ref q45, .ref q52, .ref q59, .int 0, .int 0, .int 0, .int 0, .ref q67, .ref q75, .ref q83, .ref q91, .int 0, .int 0, .int 0, .ref q99, .int 0, .int 0, .int 0, .ref q109, .int 0, .int 0, .int 0, .int 0, .null, .null, .int 0, .int 0])), (q7, ar cI 7), (q15, ar cI 6), (q23, ar cI 6), (q31, ar cI 6), (q38, ar cI 5), (q45, ar cI 5), (q52, ar cI 5), (q59, ar cI 5), (q67, ar cI 96), (q75, ar cI 48), (q83, ar cI 48), (q91, ar cI 96), (q99, ar cI 126), (q109, .inl (cAA, 6, .inr (.inr (.inr (.inr fun i => if i < 6 then some (r109 i) else none))))), (r109 0, ar cI 64), (r109 1, ar cI 64), (r109 2, ar cI 64), (r109 3, ar cI 64), (r109 4, ar cI 64), (r109 5, ar cI 64)]) := hD
  refine lv_aload_n hx hb dX4_init_116 rfl (lv_at hl 0 rfl) ?_
  refine lv_bipush (v := 8) hx hb dX4_init_117 (by decide) ?_
  refine vn_int (N' := 8) (c2 := 21) (s2 := 857) hx hb (hg (.arrayClass .int) (gw_mem 148 (by decide +kernel) (by decide +kernel))) hK hP hD hS hA (by decide) (by decide) (Nat.le_of_ble_eq_true rfl) (Nat.le_of_ble_eq_true rfl) (Nat.le_of_ble_eq_true rfl) dX4_init_119 (Nat.le_of_ble_eq_true rfl) (Nat.le_of_ble_eq_true rfl) (fun q119 H hP hD hS => ?_)
  have hP : va_P D vwCl ([(h0, .inr (4, [.ref q7, .ref q15, .ref q23, .ref q31, .ref q38, .ref q45, .ref q52, .ref q59, .int 0, .int 0, .int 0, .int 0, .ref q67, .ref q75, .ref q83, .ref q91, .int 0, .int 0, .int 0, .ref q99, .int 0, .int 0, .int 0, .ref q109, .int 0, .int 0, .int 0, .int 0, .null, .null, .int 0, .int 0])), (q7, ar cI 7), (q15, ar cI 6), (q23, ar cI 6), (q31, ar cI 6), (q38, ar cI 5), (q45, ar cI 5), (q52, ar cI 5), (q59, ar cI 5), (q67, ar cI 96), (q75, ar cI 48), (q83, ar cI 48), (q91, ar cI 96), (q99, ar cI 126), (q109, .inl (cAA, 6, .inr (.inr (.inr (.inr fun i => if i < 6 then some (r109 i) else none))))), (r109 0, ar cI 64), (r109 1, ar cI 64), (r109 2, ar cI 64), (r109 3, ar cI 64), (r109 4, ar cI 64), (r109 5, ar cI 64), (q119, ar cI 8)]) H := hP
  have hD : va_D A ([(h0, .inr (4, [.ref q7, .ref q15, .ref q23, .ref q31, .ref q38, .ref q45, .ref q52, .ref q59, .int 0, .int 0, .int 0, .int 0, .ref q67, .ref q75, .ref q83, .ref q91, .int 0, .int 0, .int 0, .ref q99, .int 0, .int 0, .int 0, .ref q109, .int 0, .int 0, .int 0, .int 0, .null, .null, .int 0, .int 0])), (q7, ar cI 7), (q15, ar cI 6), (q23, ar cI 6), (q31, ar cI 6), (q38, ar cI 5), (q45, ar cI 5), (q52, ar cI 5), (q59, ar cI 5), (q67, ar cI 96), (q75, ar cI 48), (q83, ar cI 48), (q91, ar cI 96), (q99, ar cI 126), (q109, .inl (cAA, 6, .inr (.inr (.inr (.inr fun i => if i < 6 then some (r109 i) else none))))), (r109 0, ar cI 64), (r109 1, ar cI 64), (r109 2, ar cI 64), (r109 3, ar cI 64), (r109 4, ar cI 64), (r109 5, ar cI 64), (q119, ar cI 8)]) := hD
  refine va_putF (D := D) (ci := 4) (v := .ref q119) (ty := .array .int) (C := RX4) (T := TX4) (N := 32) hx hb hg gin4 tyX4 tyX4_ok nmX4 hown hK hP hD hS 0 rfl rfl 28 (by decide) (hg (.fieldLink RX4 54 RX4 "gets" "[I") (gw_mem 745 (by decide +kernel) (by decide +kernel))) (fun _ h9 => h9) rfl hin rfl (by decide +kernel) rfl rfl (Nat.le_of_ble_eq_true rfl) dX4_init_121 (fun H locs hP hD hS => ?_)
  have hP : va_P D vwCl ([(h0, .inr (4, [.ref q7, .ref q15, .ref q23, .ref q31, .ref q38, .ref q45, .ref q52, .ref q59, .int 0, .int 0, .int 0, .int 0, .ref q67, .ref q75, .ref q83, .ref q91, .int 0, .int 0, .int 0, .ref q99, .int 0, .int 0, .int 0, .ref q109, .int 0, .int 0, .int 0, .int 0, .ref q119, .null, .int 0, .int 0])), (q7, ar cI 7), (q15, ar cI 6), (q23, ar cI 6), (q31, ar cI 6), (q38, ar cI 5), (q45, ar cI 5), (q52, ar cI 5), (q59, ar cI 5), (q67, ar cI 96), (q75, ar cI 48), (q83, ar cI 48), (q91, ar cI 96), (q99, ar cI 126), (q109, .inl (cAA, 6, .inr (.inr (.inr (.inr fun i => if i < 6 then some (r109 i) else none))))), (r109 0, ar cI 64), (r109 1, ar cI 64), (r109 2, ar cI 64), (r109 3, ar cI 64), (r109 4, ar cI 64), (r109 5, ar cI 64), (q119, ar cI 8)]) H := hP
  have hD : va_D A ([(h0, .inr (4, [.ref q7, .ref q15, .ref q23, .ref q31, .ref q38, .ref q45, .ref q52, .ref q59, .int 0, .int 0, .int 0, .int 0, .ref q67, .ref q75, .ref q83, .ref q91, .int 0, .int 0, .int 0, .ref q99, .int 0, .int 0, .int 0, .ref q109, .int 0, .int 0, .int 0, .int 0, .ref q119, .null, .int 0, .int 0])), (q7, ar cI 7), (q15, ar cI 6), (q23, ar cI 6), (q31, ar cI 6), (q38, ar cI 5), (q45, ar cI 5), (q52, ar cI 5), (q59, ar cI 5), (q67, ar cI 96), (q75, ar cI 48), (q83, ar cI 48), (q91, ar cI 96), (q99, ar cI 126), (q109, .inl (cAA, 6, .inr (.inr (.inr (.inr fun i => if i < 6 then some (r109 i) else none))))), (r109 0, ar cI 64), (r109 1, ar cI 64), (r109 2, ar cI 64), (r109 3, ar cI 64), (r109 4, ar cI 64), (r109 5, ar cI 64), (q119, ar cI 8)]) := hD
  refine lv_aload_n hx hb dX4_init_124 rfl (lv_at hl 0 rfl) ?_
  refine lv_bipush (v := 16) hx hb dX4_init_125 (by decide) ?_
  refine vn_int (N' := 16) (c2 := 22) (s2 := 873) hx hb (hg (.arrayClass .int) (gw_mem 148 (by decide +kernel) (by decide +kernel))) hK hP hD hS hA (by decide) (by decide) (Nat.le_of_ble_eq_true rfl) (Nat.le_of_ble_eq_true rfl) (Nat.le_of_ble_eq_true rfl) dX4_init_127 (Nat.le_of_ble_eq_true rfl) (Nat.le_of_ble_eq_true rfl) (fun q127 H hP hD hS => ?_)
  have hP : va_P D vwCl ([(h0, .inr (4, [.ref q7, .ref q15, .ref q23, .ref q31, .ref q38, .ref q45, .ref q52, .ref q59, .int 0, .int 0, .int 0, .int 0, .ref q67, .ref q75, .ref q83, .ref q91, .int 0, .int 0, .int 0, .ref q99, .int 0, .int 0, .int 0, .ref q109, .int 0, .int 0, .int 0, .int 0, .ref q119, .null, .int 0, .int 0])), (q7, ar cI 7), (q15, ar cI 6), (q23, ar cI 6), (q31, ar cI 6), (q38, ar cI 5), (q45, ar cI 5), (q52, ar cI 5), (q59, ar cI 5), (q67, ar cI 96), (q75, ar cI 48), (q83, ar cI 48), (q91, ar cI 96), (q99, ar cI 126), (q109, .inl (cAA, 6, .inr (.inr (.inr (.inr fun i => if i < 6 then some (r109 i) else none))))), (r109 0, ar cI 64), (r109 1, ar cI 64), (r109 2, ar cI 64), (r109 3, ar cI 64), (r109 4, ar cI 64), (r109 5, ar cI 64), (q119, ar cI 8), (q127, ar cI 16)]) H := hP
  have hD : va_D A ([(h0, .inr (4, [.ref q7, .ref q15, .ref q23, .ref q31, .ref q38, .ref q45, .ref q52, .ref q59, .int 0, .int 0, .int 0, .int 0, .ref q67, .ref q75, .ref q83, .ref q91, .int 0, .int 0, .int 0, .ref q99, .int 0, .int 0, .int 0, .ref q109, .int 0, .int 0, .int 0, .int 0, .ref q119, .null, .int 0, .int 0])), (q7, ar cI 7), (q15, ar cI 6), (q23, ar cI 6), (q31, ar cI 6), (q38, ar cI 5), (q45, ar cI 5), (q52, ar cI 5), (q59, ar cI 5), (q67, ar cI 96), (q75, ar cI 48), (q83, ar cI 48), (q91, ar cI 96), (q99, ar cI 126), (q109, .inl (cAA, 6, .inr (.inr (.inr (.inr fun i => if i < 6 then some (r109 i) else none))))), (r109 0, ar cI 64), (r109 1, ar cI 64), (r109 2, ar cI 64), (r109 3, ar cI 64), (r109 4, ar cI 64), (r109 5, ar cI 64), (q119, ar cI 8), (q127, ar cI 16)]) := hD
  refine va_putF (D := D) (ci := 4) (v := .ref q127) (ty := .array .int) (C := RX4) (T := TX4) (N := 32) hx hb hg gin4 tyX4 tyX4_ok nmX4 hown hK hP hD hS 0 rfl rfl 29 (by decide) (hg (.fieldLink RX4 57 RX4 "row" "[I") (gw_mem 746 (by decide +kernel) (by decide +kernel))) (fun _ h9 => h9) rfl hin rfl (by decide +kernel) rfl rfl (Nat.le_of_ble_eq_true rfl) dX4_init_129 (fun H locs hP hD hS => ?_)
  have hP : va_P D vwCl ([(h0, .inr (4, [.ref q7, .ref q15, .ref q23, .ref q31, .ref q38, .ref q45, .ref q52, .ref q59, .int 0, .int 0, .int 0, .int 0, .ref q67, .ref q75, .ref q83, .ref q91, .int 0, .int 0, .int 0, .ref q99, .int 0, .int 0, .int 0, .ref q109, .int 0, .int 0, .int 0, .int 0, .ref q119, .ref q127, .int 0, .int 0])), (q7, ar cI 7), (q15, ar cI 6), (q23, ar cI 6), (q31, ar cI 6), (q38, ar cI 5), (q45, ar cI 5), (q52, ar cI 5), (q59, ar cI 5), (q67, ar cI 96), (q75, ar cI 48), (q83, ar cI 48), (q91, ar cI 96), (q99, ar cI 126), (q109, .inl (cAA, 6, .inr (.inr (.inr (.inr fun i => if i < 6 then some (r109 i) else none))))), (r109 0, ar cI 64), (r109 1, ar cI 64), (r109 2, ar cI 64), (r109 3, ar cI 64), (r109 4, ar cI 64), (r109 5, ar cI 64), (q119, ar cI 8), (q127, ar cI 16)]) H := hP
  have hD : va_D A ([(h0, .inr (4, [.ref q7, .ref q15, .ref q23, .ref q31, .ref q38, .ref q45, .ref q52, .ref q59, .int 0, .int 0, .int 0, .int 0, .ref q67, .ref q75, .ref q83, .ref q91, .int 0, .int 0, .int 0, .ref q99, .int 0, .int 0, .int 0, .ref q109, .int 0, .int 0, .int 0, .int 0, .ref q119, .ref q127, .int 0, .int 0])), (q7, ar cI 7), (q15, ar cI 6), (q23, ar cI 6), (q31, ar cI 6), (q38, ar cI 5), (q45, ar cI 5), (q52, ar cI 5), (q59, ar cI 5), (q67, ar cI 96), (q75, ar cI 48), (q83, ar cI 48), (q91, ar cI 96), (q99, ar cI 126), (q109, .inl (cAA, 6, .inr (.inr (.inr (.inr fun i => if i < 6 then some (r109 i) else none))))), (r109 0, ar cI 64), (r109 1, ar cI 64), (r109 2, ar cI 64), (r109 3, ar cI 64), (r109 4, ar cI 64), (r109 5, ar cI 64), (q119, ar cI 8), (q127, ar cI 16)]) := hD
  refine lv_aload_n hx hb dX4_init_132 rfl (lv_at hl 0 rfl) ?_
  refine lv_iconst (v := 0) hx hb dX4_init_133 (by decide) ?_
  refine va_put (D := D) (ci := 4) (v := .int 0) (ty := .int) (C := RX4) (T := TX4) (N := 32) hx hb hg gin4 tyX4 tyX4_ok nmX4 hown hK hP hD hS 0 rfl rfl 8 (by decide) (hg (.fieldLink RX4 60 RX4 "suits" "I") (gw_mem 725 (by decide +kernel) (by decide +kernel))) (fun _ h9 => h9) rfl (by decide +kernel) rfl rfl (Nat.le_of_ble_eq_true rfl) dX4_init_134 (fun H locs hP hD hS => ?_)
  have hP : va_P D vwCl ([(h0, .inr (4, [.ref q7, .ref q15, .ref q23, .ref q31, .ref q38, .ref q45, .ref q52, .ref q59, .int 0, .int 0, .int 0, .int 0, .ref q67, .ref q75, .ref q83, .ref q91, .int 0, .int 0, .int 0, .ref q99, .int 0, .int 0, .int 0, .ref q109, .int 0, .int 0, .int 0, .int 0, .ref q119, .ref q127, .int 0, .int 0])), (q7, ar cI 7), (q15, ar cI 6), (q23, ar cI 6), (q31, ar cI 6), (q38, ar cI 5), (q45, ar cI 5), (q52, ar cI 5), (q59, ar cI 5), (q67, ar cI 96), (q75, ar cI 48), (q83, ar cI 48), (q91, ar cI 96), (q99, ar cI 126), (q109, .inl (cAA, 6, .inr (.inr (.inr (.inr fun i => if i < 6 then some (r109 i) else none))))), (r109 0, ar cI 64), (r109 1, ar cI 64), (r109 2, ar cI 64), (r109 3, ar cI 64), (r109 4, ar cI 64), (r109 5, ar cI 64), (q119, ar cI 8), (q127, ar cI 16)]) H := hP
  have hD : va_D A ([(h0, .inr (4, [.ref q7, .ref q15, .ref q23, .ref q31, .ref q38, .ref q45, .ref q52, .ref q59, .int 0, .int 0, .int 0, .int 0, .ref q67, .ref q75, .ref q83, .ref q91, .int 0, .int 0, .int 0, .ref q99, .int 0, .int 0, .int 0, .ref q109, .int 0, .int 0, .int 0, .int 0, .ref q119, .ref q127, .int 0, .int 0])), (q7, ar cI 7), (q15, ar cI 6), (q23, ar cI 6), (q31, ar cI 6), (q38, ar cI 5), (q45, ar cI 5), (q52, ar cI 5), (q59, ar cI 5), (q67, ar cI 96), (q75, ar cI 48), (q83, ar cI 48), (q91, ar cI 96), (q99, ar cI 126), (q109, .inl (cAA, 6, .inr (.inr (.inr (.inr fun i => if i < 6 then some (r109 i) else none))))), (r109 0, ar cI 64), (r109 1, ar cI 64), (r109 2, ar cI 64), (r109 3, ar cI 64), (r109 4, ar cI 64), (r109 5, ar cI 64), (q119, ar cI 8), (q127, ar cI 16)]) := hD
  have er : (fun i => if i < 6 then some (r109 i) else none) = (fun i => if i < 6 then some ([q7, q15, q23, q31, q38, q45, q52, q59, q67, q75, q83, q91, q99, q109, r109 0, r109 1, r109 2, r109 3, r109 4, r109 5, q119, q127].getD (14 + i) 0) else none) := by
    funext i
    by_cases h : i < 6
    · rw [if_pos h, if_pos h]
      rcases (show i = 0 ∨ i = 1 ∨ i = 2 ∨ i = 3 ∨ i = 4 ∨ i = 5 by omega) with rfl | rfl | rfl | rfl | rfl | rfl <;> rfl
    · rw [if_neg h, if_neg h]
  rw [er] at hP hD
  exact W.vret hx hb hr (fun t ht hW => ⟨⟨(fun k => [q7, q15, q23, q31, q38, q45, q52, q59, q67, q75, q83, q91, q99, q109, r109 0, r109 1, r109 2, r109 3, r109 4, r109 5, q119, q127].getD k 0, cAA), rfl, trivial, by rw [ht]; exact hP, hD, va_K.moved hW.alike (hKA.sub (tys' := [(cAA, .array .int)]) [2] rfl)⟩, hS.F ht⟩) hS.2.2 dX4_init_137
abbrev oX3 : va_E := .inr (3, [.null, .null, .null, .int 0, .null, .null, .null, .int 0, .null, .null, .null, .null])
def wX3 (cI cC : ClassId) (h0 : Nat) (u : Nat → Nat) : va_W := [(h0, .inr (3, [.ref (u 1), .ref (u 9), .ref (u 17), .int 0, .ref (u 25), .ref (u 27), .ref (u 30), .int 0, .ref (u 31), .ref (u 32), .ref (u 33), .ref (u 34)])), ((u 1), .inr (0, [.ref (u 2), .ref (u 3), .ref (u 4), .ref (u 5), .ref (u 6), .ref (u 7), .ref (u 8), .int 0, .int 0, .int 0, .int 0])), ((u 2), ar cI 6), ((u 3), ar cI 6), ((u 4), ar cI 6), ((u 5), ar cI 5), ((u 6), ar cI 5), ((u 7), ar cI 5), ((u 8), ar cI 5), ((u 9), .inr (0, [.ref (u 10), .ref (u 11), .ref (u 12), .ref (u 13), .ref (u 14), .ref (u 15), .ref (u 16), .int 0, .int 0, .int 0, .int 0])), ((u 10), ar cI 6), ((u 11), ar cI 6), ((u 12), ar cI 6), ((u 13), ar cI 5), ((u 14), ar cI 5), ((u 15), ar cI 5), ((u 16), ar cI 5), ((u 17), .inr (0, [.ref (u 18), .ref (u 19), .ref (u 20), .ref (u 21), .ref (u 22), .ref (u 23), .ref (u 24), .int 0, .int 0, .int 0, .int 0])), ((u 18), ar cI 6), ((u 19), ar cI 6), ((u 20), ar cI 6), ((u 21), ar cI 5), ((u 22), ar cI 5), ((u 23), ar cI 5), ((u 24), ar cI 5), ((u 25), .inr (2, [.ref (u 26), .int 0])), ((u 26), ar cC 96), ((u 27), .inr (1, [.ref (u 28), .ref (u 29)])), ((u 28), ar cI 384), ((u 29), ar cI 5), ((u 30), ar cI 16), ((u 31), ar cI 7), ((u 32), ar cI 69), ((u 33), ar cI 4), ((u 34), ar cI 4)]
set_option maxRecDepth 100000 in
set_option maxHeartbeats 4000000 in
theorem i_X3 (l : Launch) (D : va_G) (cI cC : ClassId) (h0 sz : Nat) : Met l yX3_init (.code yX3_init cX3_init 1 none :: gw) ({ frames := 2, cells := 34, slots := 736, locals := 32 }) (va_Pc [.ref h0] (fun U => U.heap.size = sz ∧ va_P D vwCl [(h0, oX3)] U.heap ∧ va_K D vwCl (tA cI cC) U ∧ va_D (fun _ => True) [(h0, oX3)] ∧ va_Nw (.methodLinkNest RX3 9 yX0_init RX3) U ∧ va_Nw (.methodLinkNest RX3 28 yX2_init RX3) U ∧ va_Nw (.methodLinkNest RX3 35 yX1_init RX3) U)) (va_Qv (fun _ : Nat → Nat => True) (fun u t => va_P D vwCl (wX3 cI cC h0 u) t.heap ∧ va_D (va_A [(h0, oX3)] sz) (wX3 cI cC h0 u)) (va_A [(h0, oX3)] sz)) 34 736 (va_A [(h0, oX3)] sz) := by
  refine Met.ofW (cc := cX3_init) (maxL := 1) (ret := none) (by decide +kernel) rfl ?_
  intro p e s m args below meth c s₁ B hml hv
  obtain ⟨rfl, hsz, hP, hK, hD0, hn_X0, hn_X2, hn_X1⟩ := hv
  have hx := B.exec
  have hb := B.bytes
  have hr := B.returns
  have hts := atoms_spec (ws := (.code yX3_init cX3_init 1 none :: gw)) B.pre
  have hg : ∀ w ∈ gw, w.before #[.ref h0] s = true := fun w hw => hts w (List.mem_cons_of_mem _ hw)
  have hown : s.vm.findClass RX3 = some m.cls := findClass_of_methodNamed B.named
  have hlocks := B.notSynchronized
  have hin : meth.name = "<init>" := (name_of_methodNamed B.named B.method).1
  subst hsz
  have hD := hD0.self (sz := s.heap.size)
  generalize hAe : va_A [(h0, oX3)] s.heap.size = A at hD ⊢
  have hA : ∀ q : Nat, s.heap.size ≤ q → A q := fun q h => by rw [← hAe]; exact Or.inr h
  have hS : va_S A s.heap s.heap [] := va_S.rf
  have hl := lv_entry ([.ref h0]) (n := 1) (Nat.le_of_ble_eq_true rfl)
  rw [lg_entry_eq]
  generalize (lg_sl ([.ref h0]) ++ List.replicate (1 - (lg_sl ([.ref h0])).length) Slot.unset).toArray = ls at hl ⊢
  have hl : lv_has ls 1 [(0, .ref h0)] := hl
  refine lv_aload_n hx hb dX3_init_0 rfl (lv_at hl 0 rfl) ?_
  refine W.objInit hx hb hown (hg (.methodLink RX3 1 objectInit) (gw_mem 86 (by decide +kernel) (by decide +kernel))) (hg (.instanceMethod objectInit) (gw_mem 87 (by decide +kernel) (by decide +kernel))) (hg (.code objectInit ⟨#[0xb1]⟩ 1 none) (gw_mem 88 (by decide +kernel) (by decide +kernel))) rfl (by rw [hml]; exact hl.1) rfl dX3_init_1 (Nat.le_of_ble_eq_true rfl) (Nat.le_of_ble_eq_true rfl) ?_
  refine W.eq (g2 := F0 m 4 ls []) rfl ?_
  refine lv_aload_n hx hb dX3_init_4 rfl (lv_at hl 0 rfl) ?_
  refine va_new (ci := 0) (fs := [.null, .null, .null, .null, .null, .null, .null, .int 0, .int 0, .int 0, .int 0]) (C := RX0) (T := TX0) (N := 11) hx hb hg gin0 tyX0 tyX0_ok hown (hg (.classLink RX3 7 RX0) (gw_mem 89 (by decide +kernel) (by decide +kernel))) (hg (.instantiable RX0 11) (gw_mem 90 (by decide +kernel) (by decide +kernel))) (hg (.initialized RX0) (gw_mem 70 (by decide +kernel) (by decide +kernel))) hK hP hD hS hA rfl (fun j hj => by revert j; decide +kernel) (Nat.le_of_ble_eq_true rfl) (Nat.le_of_ble_eq_true rfl) dX3_init_5 (fun q5 H hP hD hS => ?_)
  have hP : va_P D vwCl (((h0, .inr (3, [.null, .null, .null, .int 0, .null, .null, .null, .int 0, .null, .null, .null, .null])) :: ([])) ++ [(q5, oX0)]) H := hP
  have hD : va_D A (((h0, .inr (3, [.null, .null, .null, .int 0, .null, .null, .null, .int 0, .null, .null, .null, .null])) :: ([])) ++ [(q5, oX0)]) := hD
  refine W.widen (k := 1) (n := 11) (Nat.le_of_ble_eq_true rfl) (Nat.le_of_ble_eq_true rfl) ?_
  refine lv_dup hx hb dX3_init_8 rfl ?_
  have hFc := vf_last hD hS hA
  refine va_callv (va_runIN (As := []) (rest := [.ref q5, .ref h0]) ⟨hx, hb, hml, hown, hg⟩ (i_X0 l D cI cC q5 H.size) ⟨va_cnB (host := RX3) 0 hg (fun w hw => gw_gi (gw_mem 93 (by decide +kernel) (by decide +kernel)) w hw) rfl rfl rfl hn_X0 (hg (.initialized RX0) (gw_mem 70 (by decide +kernel) (by decide +kernel))) (by decide +kernel) ⟨(Nat.le_of_ble_eq_true rfl), (Nat.le_of_ble_eq_true rfl)⟩, rfl, hg (.instanceMethod yX0_init) (gw_mem 92 (by decide +kernel) (by decide +kernel))⟩ ⟨fun a U g mk q => by obtain ⟨q0, q1, qP, qK, qD⟩ := q; exact ⟨q0, q1, qP, va_K.moved (u := U) (U := U.calling g mk a) (Vm.Alike.refl U.vm) qK, qD⟩, fun U hU hW => ⟨rfl, by rw [hU], by rw [hU]; exact vq_last hP, va_K.moved hW.alike hK, vd_last (A := A)⟩⟩ rfl rfl hl.1 rfl (lv_room (Nat.le_of_ble_eq_true rfl)) dX3_init_9 ⟨(Nat.le_of_ble_eq_true rfl), (Nat.le_of_ble_eq_true rfl)⟩) hS (fun q _ h => hFc q h) hFc (fun u9 t H1 locs ht hvm _ hB hz1 hk1 hS => ?_)
  obtain ⟨hP1, hD1⟩ := hB
  rw [ht] at hP1
  obtain ⟨hP, hD⟩ := vj_last hP hD hk1 hFc hP1 hD1
  clear hP1 hD1 hFc hk1 ht
  generalize H1 = H at hP hS ⊢
  refine W.widen (k := 8) (n := 49) (Nat.le_of_ble_eq_true rfl) (Nat.le_of_ble_eq_true rfl) ?_
  have hP : va_P D vwCl ((h0, .inr (3, [.null, .null, .null, .int 0, .null, .null, .null, .int 0, .null, .null, .null, .null])) :: (wX0 cI cC q5 u9)) H := hP
  have hD : va_D A ((h0, .inr (3, [.null, .null, .null, .int 0, .null, .null, .null, .int 0, .null, .null, .null, .null])) :: (wX0 cI cC q5 u9)) := hD
  refine va_putF (D := D) (ci := 3) (v := .ref q5) (ty := .object "ArmourOfTheShy$City") (C := RX3) (T := TX3) (N := 12) hx hb hg gin3 tyX3 tyX3_ok nmX3 hown hK hP hD hS 0 rfl rfl 0 (by decide) (hg (.fieldLink RX3 10 RX3 "now" "LArmourOfTheShy$City;") (gw_mem 177 (by decide +kernel) (by decide +kernel))) (fun _ h9 => h9) rfl hin rfl (by decide +kernel) rfl rfl (Nat.le_of_ble_eq_true rfl) dX3_init_12 (fun H locs hP hD hS => ?_)
  have hP : va_P D vwCl ((h0, .inr (3, [.ref q5, .null, .null, .int 0, .null, .null, .null, .int 0, .null, .null, .null, .null])) :: (wX0 cI cC q5 u9)) H := hP
  have hD : va_D A ((h0, .inr (3, [.ref q5, .null, .null, .int 0, .null, .null, .null, .int 0, .null, .null, .null, .null])) :: (wX0 cI cC q5 u9)) := hD
  refine lv_aload_n hx hb dX3_init_15 rfl (lv_at hl 0 rfl) ?_
  refine va_new (ci := 0) (fs := [.null, .null, .null, .null, .null, .null, .null, .int 0, .int 0, .int 0, .int 0]) (C := RX0) (T := TX0) (N := 11) hx hb hg gin0 tyX0 tyX0_ok hown (hg (.classLink RX3 7 RX0) (gw_mem 89 (by decide +kernel) (by decide +kernel))) (hg (.instantiable RX0 11) (gw_mem 90 (by decide +kernel) (by decide +kernel))) (hg (.initialized RX0) (gw_mem 70 (by decide +kernel) (by decide +kernel))) hK hP hD hS hA rfl (fun j hj => by revert j; decide +kernel) (Nat.le_of_ble_eq_true rfl) (Nat.le_of_ble_eq_true rfl) dX3_init_16 (fun q16 H hP hD hS => ?_)
  have hP : va_P D vwCl (((h0, .inr (3, [.ref q5, .null, .null, .int 0, .null, .null, .null, .int 0, .null, .null, .null, .null])) :: (wX0 cI cC q5 u9)) ++ [(q16, oX0)]) H := hP
  have hD : va_D A (((h0, .inr (3, [.ref q5, .null, .null, .int 0, .null, .null, .null, .int 0, .null, .null, .null, .null])) :: (wX0 cI cC q5 u9)) ++ [(q16, oX0)]) := hD
  refine W.widen (k := 9) (n := 60) (Nat.le_of_ble_eq_true rfl) (Nat.le_of_ble_eq_true rfl) ?_
  refine lv_dup hx hb dX3_init_19 rfl ?_
  have hFc := vf_last hD hS hA
  refine va_callv (va_runIN (As := []) (rest := [.ref q16, .ref h0]) ⟨hx, hb, hml, hown, hg⟩ (i_X0 l D cI cC q16 H.size) ⟨va_cnB (host := RX3) 0 hg (fun w hw => gw_gi (gw_mem 93 (by decide +kernel) (by decide +kernel)) w hw) rfl rfl rfl hn_X0 (hg (.initialized RX0) (gw_mem 70 (by decide +kernel) (by decide +kernel))) (by decide +kernel) ⟨(Nat.le_of_ble_eq_true rfl), (Nat.le_of_ble_eq_true rfl)⟩, rfl, hg (.instanceMethod yX0_init) (gw_mem 92 (by decide +kernel) (by decide +kernel))⟩ ⟨fun a U g mk q => by obtain ⟨q0, q1, qP, qK, qD⟩ := q; exact ⟨q0, q1, qP, va_K.moved (u := U) (U := U.calling g mk a) (Vm.Alike.refl U.vm) qK, qD⟩, fun U hU hW => ⟨rfl, by rw [hU], by rw [hU]; exact vq_last hP, va_K.moved hW.alike hK, vd_last (A := A)⟩⟩ rfl rfl hl.1 rfl (lv_room (Nat.le_of_ble_eq_true rfl)) dX3_init_20 ⟨(Nat.le_of_ble_eq_true rfl), (Nat.le_of_ble_eq_true rfl)⟩) hS (fun q _ h => hFc q h) hFc (fun u20 t H1 locs ht hvm _ hB hz1 hk1 hS => ?_)
  obtain ⟨hP1, hD1⟩ := hB
  rw [ht] at hP1
  obtain ⟨hP, hD⟩ := vj_last hP hD hk1 hFc hP1 hD1
  clear hP1 hD1 hFc hk1 ht
  generalize H1 = H at hP hS ⊢
  refine W.widen (k := 16) (n := 98) (Nat.le_of_ble_eq_true rfl) (Nat.le_of_ble_eq_true rfl) ?_
  have hP : va_P D vwCl ((h0, .inr (3, [.ref q5, .null, .null, .int 0, .null, .null, .null, .int 0, .null, .null, .null, .null])) :: (wX0 cI cC q5 u9 ++ wX0 cI cC q16 u20)) H := hP
  have hD : va_D A ((h0, .inr (3, [.ref q5, .null, .null, .int 0, .null, .null, .null, .int 0, .null, .null, .null, .null])) :: (wX0 cI cC q5 u9 ++ wX0 cI cC q16 u20)) := hD
  refine va_putF (D := D) (ci := 3) (v := .ref q16) (ty := .object "ArmourOfTheShy$City") (C := RX3) (T := TX3) (N := 12) hx hb hg gin3 tyX3 tyX3_ok nmX3 hown hK hP hD hS 0 rfl rfl 1 (by decide) (hg (.fieldLink RX3 16 RX3 "thought" "LArmourOfTheShy$City;") (gw_mem 178 (by decide +kernel) (by decide +kernel))) (fun _ h9 => h9) rfl hin rfl (by decide +kernel) rfl rfl (Nat.le_of_ble_eq_true rfl) dX3_init_23 (fun H locs hP hD hS => ?_)
  have hP : va_P D vwCl ((h0, .inr (3, [.ref q5, .ref q16, .null, .int 0, .null, .null, .null, .int 0, .null, .null, .null, .null])) :: (wX0 cI cC q5 u9 ++ wX0 cI cC q16 u20)) H := hP
  have hD : va_D A ((h0, .inr (3, [.ref q5, .ref q16, .null, .int 0, .null, .null, .null, .int 0, .null, .null, .null, .null])) :: (wX0 cI cC q5 u9 ++ wX0 cI cC q16 u20)) := hD
  refine lv_aload_n hx hb dX3_init_26 rfl (lv_at hl 0 rfl) ?_
  refine va_new (ci := 0) (fs := [.null, .null, .null, .null, .null, .null, .null, .int 0, .int 0, .int 0, .int 0]) (C := RX0) (T := TX0) (N := 11) hx hb hg gin0 tyX0 tyX0_ok hown (hg (.classLink RX3 7 RX0) (gw_mem 89 (by decide +kernel) (by decide +kernel))) (hg (.instantiable RX0 11) (gw_mem 90 (by decide +kernel) (by decide +kernel))) (hg (.initialized RX0) (gw_mem 70 (by decide +kernel) (by decide +kernel))) hK hP hD hS hA rfl (fun j hj => by revert j; decide +kernel) (Nat.le_of_ble_eq_true rfl) (Nat.le_of_ble_eq_true rfl) dX3_init_27 (fun q27 H hP hD hS => ?_)
  have hP : va_P D vwCl (((h0, .inr (3, [.ref q5, .ref q16, .null, .int 0, .null, .null, .null, .int 0, .null, .null, .null, .null])) :: (wX0 cI cC q5 u9 ++ wX0 cI cC q16 u20)) ++ [(q27, oX0)]) H := hP
  have hD : va_D A (((h0, .inr (3, [.ref q5, .ref q16, .null, .int 0, .null, .null, .null, .int 0, .null, .null, .null, .null])) :: (wX0 cI cC q5 u9 ++ wX0 cI cC q16 u20)) ++ [(q27, oX0)]) := hD
  refine W.widen (k := 17) (n := 109) (Nat.le_of_ble_eq_true rfl) (Nat.le_of_ble_eq_true rfl) ?_
  refine lv_dup hx hb dX3_init_30 rfl ?_
  have hFc := vf_last hD hS hA
  refine va_callv (va_runIN (As := []) (rest := [.ref q27, .ref h0]) ⟨hx, hb, hml, hown, hg⟩ (i_X0 l D cI cC q27 H.size) ⟨va_cnB (host := RX3) 0 hg (fun w hw => gw_gi (gw_mem 93 (by decide +kernel) (by decide +kernel)) w hw) rfl rfl rfl hn_X0 (hg (.initialized RX0) (gw_mem 70 (by decide +kernel) (by decide +kernel))) (by decide +kernel) ⟨(Nat.le_of_ble_eq_true rfl), (Nat.le_of_ble_eq_true rfl)⟩, rfl, hg (.instanceMethod yX0_init) (gw_mem 92 (by decide +kernel) (by decide +kernel))⟩ ⟨fun a U g mk q => by obtain ⟨q0, q1, qP, qK, qD⟩ := q; exact ⟨q0, q1, qP, va_K.moved (u := U) (U := U.calling g mk a) (Vm.Alike.refl U.vm) qK, qD⟩, fun U hU hW => ⟨rfl, by rw [hU], by rw [hU]; exact vq_last hP, va_K.moved hW.alike hK, vd_last (A := A)⟩⟩ rfl rfl hl.1 rfl (lv_room (Nat.le_of_ble_eq_true rfl)) dX3_init_31 ⟨(Nat.le_of_ble_eq_true rfl), (Nat.le_of_ble_eq_true rfl)⟩) hS (fun q _ h => hFc q h) hFc (fun u31 t H1 locs ht hvm _ hB hz1 hk1 hS => ?_)
  obtain ⟨hP1, hD1⟩ := hB
  rw [ht] at hP1
  obtain ⟨hP, hD⟩ := vj_last hP hD hk1 hFc hP1 hD1
  clear hP1 hD1 hFc hk1 ht
  generalize H1 = H at hP hS ⊢
  refine W.widen (k := 24) (n := 147) (Nat.le_of_ble_eq_true rfl) (Nat.le_of_ble_eq_true rfl) ?_
  have hP : va_P D vwCl ((h0, .inr (3, [.ref q5, .ref q16, .null, .int 0, .null, .null, .null, .int 0, .null, .null, .null, .null])) :: (wX0 cI cC q5 u9 ++ wX0 cI cC q16 u20 ++ wX0 cI cC q27 u31)) H := hP
  have hD : va_D A ((h0, .inr (3, [.ref q5, .ref q16, .null, .int 0, .null, .null, .null, .int 0, .null, .null, .null, .null])) :: (wX0 cI cC q5 u9 ++ wX0 cI cC q16 u20 ++ wX0 cI cC q27 u31)) := hD
  refine va_putF (D := D) (ci := 3) (v := .ref q27) (ty := .object "ArmourOfTheShy$City") (C := RX3) (T := TX3) (N := 12) hx hb hg gin3 tyX3 tyX3_ok nmX3 hown hK hP hD hS 0 rfl rfl 2 (by decide) (hg (.fieldLink RX3 19 RX3 "kept" "LArmourOfTheShy$City;") (gw_mem 179 (by decide +kernel) (by decide +kernel))) (fun _ h9 => h9) rfl hin rfl (by decide +kernel) rfl rfl (Nat.le_of_ble_eq_true rfl) dX3_init_34 (fun H locs hP hD hS => ?_)
  have hP : va_P D vwCl ((h0, .inr (3, [.ref q5, .ref q16, .ref q27, .int 0, .null, .null, .null, .int 0, .null, .null, .null, .null])) :: (wX0 cI cC q5 u9 ++ wX0 cI cC q16 u20 ++ wX0 cI cC q27 u31)) H := hP
  have hD : va_D A ((h0, .inr (3, [.ref q5, .ref q16, .ref q27, .int 0, .null, .null, .null, .int 0, .null, .null, .null, .null])) :: (wX0 cI cC q5 u9 ++ wX0 cI cC q16 u20 ++ wX0 cI cC q27 u31)) := hD
  refine lv_aload_n hx hb dX3_init_37 rfl (lv_at hl 0 rfl) ?_
  refine lv_iconst (v := 0) hx hb dX3_init_38 (by decide) ?_
  refine va_put (D := D) (ci := 3) (v := .int 0) (ty := .boolean) (C := RX3) (T := TX3) (N := 12) hx hb hg gin3 tyX3 tyX3_ok nmX3 hown hK hP hD hS 0 rfl rfl 3 (by decide) (hg (.fieldLink RX3 22 RX3 "isKept" "Z") (gw_mem 180 (by decide +kernel) (by decide +kernel))) (fun _ h9 => h9) rfl (by decide +kernel) rfl rfl (Nat.le_of_ble_eq_true rfl) dX3_init_39 (fun H locs hP hD hS => ?_)
  have hP : va_P D vwCl ((h0, .inr (3, [.ref q5, .ref q16, .ref q27, .int 0, .null, .null, .null, .int 0, .null, .null, .null, .null])) :: (wX0 cI cC q5 u9 ++ wX0 cI cC q16 u20 ++ wX0 cI cC q27 u31)) H := hP
  have hD : va_D A ((h0, .inr (3, [.ref q5, .ref q16, .ref q27, .int 0, .null, .null, .null, .int 0, .null, .null, .null, .null])) :: (wX0 cI cC q5 u9 ++ wX0 cI cC q16 u20 ++ wX0 cI cC q27 u31)) := hD
  refine lv_aload_n hx hb dX3_init_42 rfl (lv_at hl 0 rfl) ?_
  refine va_new (ci := 2) (fs := [.null, .int 0]) (C := RX2) (T := TX2) (N := 2) hx hb hg gin2 tyX2 tyX2_ok hown (hg (.classLink RX3 26 RX2) (gw_mem 149 (by decide +kernel) (by decide +kernel))) (hg (.instantiable RX2 2) (gw_mem 150 (by decide +kernel) (by decide +kernel))) (hg (.initialized RX2) (gw_mem 71 (by decide +kernel) (by decide +kernel))) hK hP hD hS hA rfl (fun j hj => by revert j; decide +kernel) (Nat.le_of_ble_eq_true rfl) (Nat.le_of_ble_eq_true rfl) dX3_init_43 (fun q43 H hP hD hS => ?_)
  have hP : va_P D vwCl (((h0, .inr (3, [.ref q5, .ref q16, .ref q27, .int 0, .null, .null, .null, .int 0, .null, .null, .null, .null])) :: (wX0 cI cC q5 u9 ++ wX0 cI cC q16 u20 ++ wX0 cI cC q27 u31)) ++ [(q43, oX2)]) H := hP
  have hD : va_D A (((h0, .inr (3, [.ref q5, .ref q16, .ref q27, .int 0, .null, .null, .null, .int 0, .null, .null, .null, .null])) :: (wX0 cI cC q5 u9 ++ wX0 cI cC q16 u20 ++ wX0 cI cC q27 u31)) ++ [(q43, oX2)]) := hD
  refine W.widen (k := 25) (n := 149) (Nat.le_of_ble_eq_true rfl) (Nat.le_of_ble_eq_true rfl) ?_
  refine lv_dup hx hb dX3_init_46 rfl ?_
  have hFc := vf_last hD hS hA
  refine va_callv (va_runIN (As := []) (rest := [.ref q43, .ref h0]) ⟨hx, hb, hml, hown, hg⟩ (i_X2 l D cI cC q43 H.size) ⟨va_cnB (host := RX3) 0 hg (fun w hw => gw_gi (gw_mem 153 (by decide +kernel) (by decide +kernel)) w hw) rfl rfl rfl hn_X2 (hg (.initialized RX2) (gw_mem 71 (by decide +kernel) (by decide +kernel))) (by decide +kernel) ⟨(Nat.le_of_ble_eq_true rfl), (Nat.le_of_ble_eq_true rfl)⟩, rfl, hg (.instanceMethod yX2_init) (gw_mem 152 (by decide +kernel) (by decide +kernel))⟩ ⟨fun a U g mk q => by obtain ⟨q0, q1, qP, qK, qD⟩ := q; exact ⟨q0, q1, qP, va_K.moved (u := U) (U := U.calling g mk a) (Vm.Alike.refl U.vm) qK, qD⟩, fun U hU hW => ⟨rfl, by rw [hU], by rw [hU]; exact vq_last hP, va_K.moved hW.alike hK, vd_last (A := A)⟩⟩ rfl rfl hl.1 rfl (lv_room (Nat.le_of_ble_eq_true rfl)) dX3_init_47 ⟨(Nat.le_of_ble_eq_true rfl), (Nat.le_of_ble_eq_true rfl)⟩) hS (fun q _ h => hFc q h) hFc (fun u47 t H1 locs ht hvm _ hB hz1 hk1 hS => ?_)
  obtain ⟨hP1, hD1⟩ := hB
  rw [ht] at hP1
  obtain ⟨hP, hD⟩ := vj_last hP hD hk1 hFc hP1 hD1
  clear hP1 hD1 hFc hk1 ht
  generalize H1 = H at hP hS ⊢
  refine W.widen (k := 26) (n := 245) (Nat.le_of_ble_eq_true rfl) (Nat.le_of_ble_eq_true rfl) ?_
  have hP : va_P D vwCl ((h0, .inr (3, [.ref q5, .ref q16, .ref q27, .int 0, .null, .null, .null, .int 0, .null, .null, .null, .null])) :: (wX0 cI cC q5 u9 ++ wX0 cI cC q16 u20 ++ wX0 cI cC q27 u31 ++ wX2 cI cC q43 u47)) H := hP
  have hD : va_D A ((h0, .inr (3, [.ref q5, .ref q16, .ref q27, .int 0, .null, .null, .null, .int 0, .null, .null, .null, .null])) :: (wX0 cI cC q5 u9 ++ wX0 cI cC q16 u20 ++ wX0 cI cC q27 u31 ++ wX2 cI cC q43 u47)) := hD
  refine va_putF (D := D) (ci := 3) (v := .ref q43) (ty := .object "ArmourOfTheShy$Letters") (C := RX3) (T := TX3) (N := 12) hx hb hg gin3 tyX3 tyX3_ok nmX3 hown hK hP hD hS 0 rfl rfl 4 (by decide) (hg (.fieldLink RX3 29 RX3 "letters" "LArmourOfTheShy$Letters;") (gw_mem 181 (by decide +kernel) (by decide +kernel))) (fun _ h9 => h9) rfl hin rfl (by decide +kernel) rfl rfl (Nat.le_of_ble_eq_true rfl) dX3_init_50 (fun H locs hP hD hS => ?_)
  have hP : va_P D vwCl ((h0, .inr (3, [.ref q5, .ref q16, .ref q27, .int 0, .ref q43, .null, .null, .int 0, .null, .null, .null, .null])) :: (wX0 cI cC q5 u9 ++ wX0 cI cC q16 u20 ++ wX0 cI cC q27 u31 ++ wX2 cI cC q43 u47)) H := hP
  have hD : va_D A ((h0, .inr (3, [.ref q5, .ref q16, .ref q27, .int 0, .ref q43, .null, .null, .int 0, .null, .null, .null, .null])) :: (wX0 cI cC q5 u9 ++ wX0 cI cC q16 u20 ++ wX0 cI cC q27 u31 ++ wX2 cI cC q43 u47)) := hD
  refine lv_aload_n hx hb dX3_init_53 rfl (lv_at hl 0 rfl) ?_
  refine va_new (ci := 1) (fs := [.null, .null]) (C := RX1) (T := TX1) (N := 2) hx hb hg gin1 tyX1 tyX1_ok hown (hg (.classLink RX3 33 RX1) (gw_mem 164 (by decide +kernel) (by decide +kernel))) (hg (.instantiable RX1 2) (gw_mem 165 (by decide +kernel) (by decide +kernel))) (hg (.initialized RX1) (gw_mem 72 (by decide +kernel) (by decide +kernel))) hK hP hD hS hA rfl (fun j hj => by revert j; decide +kernel) (Nat.le_of_ble_eq_true rfl) (Nat.le_of_ble_eq_true rfl) dX3_init_54 (fun q54 H hP hD hS => ?_)
  have hP : va_P D vwCl (((h0, .inr (3, [.ref q5, .ref q16, .ref q27, .int 0, .ref q43, .null, .null, .int 0, .null, .null, .null, .null])) :: (wX0 cI cC q5 u9 ++ wX0 cI cC q16 u20 ++ wX0 cI cC q27 u31 ++ wX2 cI cC q43 u47)) ++ [(q54, oX1)]) H := hP
  have hD : va_D A (((h0, .inr (3, [.ref q5, .ref q16, .ref q27, .int 0, .ref q43, .null, .null, .int 0, .null, .null, .null, .null])) :: (wX0 cI cC q5 u9 ++ wX0 cI cC q16 u20 ++ wX0 cI cC q27 u31 ++ wX2 cI cC q43 u47)) ++ [(q54, oX1)]) := hD
  refine W.widen (k := 27) (n := 247) (Nat.le_of_ble_eq_true rfl) (Nat.le_of_ble_eq_true rfl) ?_
  refine lv_dup hx hb dX3_init_57 rfl ?_
  have hFc := vf_last hD hS hA
  refine va_callv (va_runIN (As := []) (rest := [.ref q54, .ref h0]) ⟨hx, hb, hml, hown, hg⟩ (i_X1 l D cI cC q54 H.size) ⟨va_cnB (host := RX3) 0 hg (fun w hw => gw_gi (gw_mem 168 (by decide +kernel) (by decide +kernel)) w hw) rfl rfl rfl hn_X1 (hg (.initialized RX1) (gw_mem 72 (by decide +kernel) (by decide +kernel))) (by decide +kernel) ⟨(Nat.le_of_ble_eq_true rfl), (Nat.le_of_ble_eq_true rfl)⟩, rfl, hg (.instanceMethod yX1_init) (gw_mem 167 (by decide +kernel) (by decide +kernel))⟩ ⟨fun a U g mk q => by obtain ⟨q0, q1, qP, qK, qD⟩ := q; exact ⟨q0, q1, qP, va_K.moved (u := U) (U := U.calling g mk a) (Vm.Alike.refl U.vm) qK, qD⟩, fun U hU hW => ⟨rfl, by rw [hU], by rw [hU]; exact vq_last hP, va_K.moved hW.alike hK, vd_last (A := A)⟩⟩ rfl rfl hl.1 rfl (lv_room (Nat.le_of_ble_eq_true rfl)) dX3_init_58 ⟨(Nat.le_of_ble_eq_true rfl), (Nat.le_of_ble_eq_true rfl)⟩) hS (fun q _ h => hFc q h) hFc (fun u58 t H1 locs ht hvm _ hB hz1 hk1 hS => ?_)
  obtain ⟨hP1, hD1⟩ := hB
  rw [ht] at hP1
  obtain ⟨hP, hD⟩ := vj_last hP hD hk1 hFc hP1 hD1
  clear hP1 hD1 hFc hk1 ht
  generalize H1 = H at hP hS ⊢
  refine W.widen (k := 29) (n := 636) (Nat.le_of_ble_eq_true rfl) (Nat.le_of_ble_eq_true rfl) ?_
  have hP : va_P D vwCl ((h0, .inr (3, [.ref q5, .ref q16, .ref q27, .int 0, .ref q43, .null, .null, .int 0, .null, .null, .null, .null])) :: (wX0 cI cC q5 u9 ++ wX0 cI cC q16 u20 ++ wX0 cI cC q27 u31 ++ wX2 cI cC q43 u47 ++ wX1 cI cC q54 u58)) H := hP
  have hD : va_D A ((h0, .inr (3, [.ref q5, .ref q16, .ref q27, .int 0, .ref q43, .null, .null, .int 0, .null, .null, .null, .null])) :: (wX0 cI cC q5 u9 ++ wX0 cI cC q16 u20 ++ wX0 cI cC q27 u31 ++ wX2 cI cC q43 u47 ++ wX1 cI cC q54 u58)) := hD
  refine va_putF (D := D) (ci := 3) (v := .ref q54) (ty := .object "ArmourOfTheShy$Dresser") (C := RX3) (T := TX3) (N := 12) hx hb hg gin3 tyX3 tyX3_ok nmX3 hown hK hP hD hS 0 rfl rfl 5 (by decide) (hg (.fieldLink RX3 36 RX3 "dresser" "LArmourOfTheShy$Dresser;") (gw_mem 182 (by decide +kernel) (by decide +kernel))) (fun _ h9 => h9) rfl hin rfl (by decide +kernel) rfl rfl (Nat.le_of_ble_eq_true rfl) dX3_init_61 (fun H locs hP hD hS => ?_)
  have hP : va_P D vwCl ((h0, .inr (3, [.ref q5, .ref q16, .ref q27, .int 0, .ref q43, .ref q54, .null, .int 0, .null, .null, .null, .null])) :: (wX0 cI cC q5 u9 ++ wX0 cI cC q16 u20 ++ wX0 cI cC q27 u31 ++ wX2 cI cC q43 u47 ++ wX1 cI cC q54 u58)) H := hP
  have hD : va_D A ((h0, .inr (3, [.ref q5, .ref q16, .ref q27, .int 0, .ref q43, .ref q54, .null, .int 0, .null, .null, .null, .null])) :: (wX0 cI cC q5 u9 ++ wX0 cI cC q16 u20 ++ wX0 cI cC q27 u31 ++ wX2 cI cC q43 u47 ++ wX1 cI cC q54 u58)) := hD
  refine lv_aload_n hx hb dX3_init_64 rfl (lv_at hl 0 rfl) ?_
  refine lv_bipush (v := 16) hx hb dX3_init_65 (by decide) ?_
  refine vn_int (N' := 16) (c2 := 30) (s2 := 652) hx hb (hg (.arrayClass .int) (gw_mem 148 (by decide +kernel) (by decide +kernel))) hK hP hD hS hA (by decide) (by decide) (Nat.le_of_ble_eq_true rfl) (Nat.le_of_ble_eq_true rfl) (Nat.le_of_ble_eq_true rfl) dX3_init_67 (Nat.le_of_ble_eq_true rfl) (Nat.le_of_ble_eq_true rfl) (fun q67 H hP hD hS => ?_)
  have hP : va_P D vwCl ((h0, .inr (3, [.ref q5, .ref q16, .ref q27, .int 0, .ref q43, .ref q54, .null, .int 0, .null, .null, .null, .null])) :: (wX0 cI cC q5 u9 ++ wX0 cI cC q16 u20 ++ wX0 cI cC q27 u31 ++ wX2 cI cC q43 u47 ++ wX1 cI cC q54 u58 ++ [(q67, ar cI 16)])) H := hP
  have hD : va_D A ((h0, .inr (3, [.ref q5, .ref q16, .ref q27, .int 0, .ref q43, .ref q54, .null, .int 0, .null, .null, .null, .null])) :: (wX0 cI cC q5 u9 ++ wX0 cI cC q16 u20 ++ wX0 cI cC q27 u31 ++ wX2 cI cC q43 u47 ++ wX1 cI cC q54 u58 ++ [(q67, ar cI 16)])) := hD
  refine va_putF (D := D) (ci := 3) (v := .ref q67) (ty := .array .int) (C := RX3) (T := TX3) (N := 12) hx hb hg gin3 tyX3 tyX3_ok nmX3 hown hK hP hD hS 0 rfl rfl 6 (by decide) (hg (.fieldLink RX3 40 RX3 "told" "[I") (gw_mem 183 (by decide +kernel) (by decide +kernel))) (fun _ h9 => h9) rfl hin rfl (by decide +kernel) rfl rfl (Nat.le_of_ble_eq_true rfl) dX3_init_69 (fun H locs hP hD hS => ?_)
  have hP : va_P D vwCl ((h0, .inr (3, [.ref q5, .ref q16, .ref q27, .int 0, .ref q43, .ref q54, .ref q67, .int 0, .null, .null, .null, .null])) :: (wX0 cI cC q5 u9 ++ wX0 cI cC q16 u20 ++ wX0 cI cC q27 u31 ++ wX2 cI cC q43 u47 ++ wX1 cI cC q54 u58 ++ [(q67, ar cI 16)])) H := hP
  have hD : va_D A ((h0, .inr (3, [.ref q5, .ref q16, .ref q27, .int 0, .ref q43, .ref q54, .ref q67, .int 0, .null, .null, .null, .null])) :: (wX0 cI cC q5 u9 ++ wX0 cI cC q16 u20 ++ wX0 cI cC q27 u31 ++ wX2 cI cC q43 u47 ++ wX1 cI cC q54 u58 ++ [(q67, ar cI 16)])) := hD
  refine lv_aload_n hx hb dX3_init_72 rfl (lv_at hl 0 rfl) ?_
  refine lv_iconst (v := 0) hx hb dX3_init_73 (by decide) ?_
  refine va_put (D := D) (ci := 3) (v := .int 0) (ty := .int) (C := RX3) (T := TX3) (N := 12) hx hb hg gin3 tyX3 tyX3_ok nmX3 hown hK hP hD hS 0 rfl rfl 7 (by decide) (hg (.fieldLink RX3 44 RX3 "toldCount" "I") (gw_mem 184 (by decide +kernel) (by decide +kernel))) (fun _ h9 => h9) rfl (by decide +kernel) rfl rfl (Nat.le_of_ble_eq_true rfl) dX3_init_74 (fun H locs hP hD hS => ?_)
  have hP : va_P D vwCl ((h0, .inr (3, [.ref q5, .ref q16, .ref q27, .int 0, .ref q43, .ref q54, .ref q67, .int 0, .null, .null, .null, .null])) :: (wX0 cI cC q5 u9 ++ wX0 cI cC q16 u20 ++ wX0 cI cC q27 u31 ++ wX2 cI cC q43 u47 ++ wX1 cI cC q54 u58 ++ [(q67, ar cI 16)])) H := hP
  have hD : va_D A ((h0, .inr (3, [.ref q5, .ref q16, .ref q27, .int 0, .ref q43, .ref q54, .ref q67, .int 0, .null, .null, .null, .null])) :: (wX0 cI cC q5 u9 ++ wX0 cI cC q16 u20 ++ wX0 cI cC q27 u31 ++ wX2 cI cC q43 u47 ++ wX1 cI cC q54 u58 ++ [(q67, ar cI 16)])) := hD
  refine lv_aload_n hx hb dX3_init_77 rfl (lv_at hl 0 rfl) ?_
  refine lv_bipush (v := 7) hx hb dX3_init_78 (by decide) ?_
  refine vn_int (N' := 7) (c2 := 31) (s2 := 659) hx hb (hg (.arrayClass .int) (gw_mem 148 (by decide +kernel) (by decide +kernel))) hK hP hD hS hA (by decide) (by decide) (Nat.le_of_ble_eq_true rfl) (Nat.le_of_ble_eq_true rfl) (Nat.le_of_ble_eq_true rfl) dX3_init_80 (Nat.le_of_ble_eq_true rfl) (Nat.le_of_ble_eq_true rfl) (fun q80 H hP hD hS => ?_)
  have hP : va_P D vwCl ((h0, .inr (3, [.ref q5, .ref q16, .ref q27, .int 0, .ref q43, .ref q54, .ref q67, .int 0, .null, .null, .null, .null])) :: (wX0 cI cC q5 u9 ++ wX0 cI cC q16 u20 ++ wX0 cI cC q27 u31 ++ wX2 cI cC q43 u47 ++ wX1 cI cC q54 u58 ++ [(q67, ar cI 16)] ++ [(q80, ar cI 7)])) H := hP
  have hD : va_D A ((h0, .inr (3, [.ref q5, .ref q16, .ref q27, .int 0, .ref q43, .ref q54, .ref q67, .int 0, .null, .null, .null, .null])) :: (wX0 cI cC q5 u9 ++ wX0 cI cC q16 u20 ++ wX0 cI cC q27 u31 ++ wX2 cI cC q43 u47 ++ wX1 cI cC q54 u58 ++ [(q67, ar cI 16)] ++ [(q80, ar cI 7)])) := hD
  refine va_putF (D := D) (ci := 3) (v := .ref q80) (ty := .array .int) (C := RX3) (T := TX3) (N := 12) hx hb hg gin3 tyX3 tyX3_ok nmX3 hown hK hP hD hS 0 rfl rfl 8 (by decide) (hg (.fieldLink RX3 48 RX3 "refusals" "[I") (gw_mem 185 (by decide +kernel) (by decide +kernel))) (fun _ h9 => h9) rfl hin rfl (by decide +kernel) rfl rfl (Nat.le_of_ble_eq_true rfl) dX3_init_82 (fun H locs hP hD hS => ?_)
  have hP : va_P D vwCl ((h0, .inr (3, [.ref q5, .ref q16, .ref q27, .int 0, .ref q43, .ref q54, .ref q67, .int 0, .ref q80, .null, .null, .null])) :: (wX0 cI cC q5 u9 ++ wX0 cI cC q16 u20 ++ wX0 cI cC q27 u31 ++ wX2 cI cC q43 u47 ++ wX1 cI cC q54 u58 ++ [(q67, ar cI 16)] ++ [(q80, ar cI 7)])) H := hP
  have hD : va_D A ((h0, .inr (3, [.ref q5, .ref q16, .ref q27, .int 0, .ref q43, .ref q54, .ref q67, .int 0, .ref q80, .null, .null, .null])) :: (wX0 cI cC q5 u9 ++ wX0 cI cC q16 u20 ++ wX0 cI cC q27 u31 ++ wX2 cI cC q43 u47 ++ wX1 cI cC q54 u58 ++ [(q67, ar cI 16)] ++ [(q80, ar cI 7)])) := hD
  refine lv_aload_n hx hb dX3_init_85 rfl (lv_at hl 0 rfl) ?_
  refine lv_bipush (v := 69) hx hb dX3_init_86 (by decide) ?_
  refine vn_int (N' := 69) (c2 := 32) (s2 := 728) hx hb (hg (.arrayClass .int) (gw_mem 148 (by decide +kernel) (by decide +kernel))) hK hP hD hS hA (by decide) (by decide) (Nat.le_of_ble_eq_true rfl) (Nat.le_of_ble_eq_true rfl) (Nat.le_of_ble_eq_true rfl) dX3_init_88 (Nat.le_of_ble_eq_true rfl) (Nat.le_of_ble_eq_true rfl) (fun q88 H hP hD hS => ?_)
  have hP : va_P D vwCl ((h0, .inr (3, [.ref q5, .ref q16, .ref q27, .int 0, .ref q43, .ref q54, .ref q67, .int 0, .ref q80, .null, .null, .null])) :: (wX0 cI cC q5 u9 ++ wX0 cI cC q16 u20 ++ wX0 cI cC q27 u31 ++ wX2 cI cC q43 u47 ++ wX1 cI cC q54 u58 ++ [(q67, ar cI 16)] ++ [(q80, ar cI 7)] ++ [(q88, ar cI 69)])) H := hP
  have hD : va_D A ((h0, .inr (3, [.ref q5, .ref q16, .ref q27, .int 0, .ref q43, .ref q54, .ref q67, .int 0, .ref q80, .null, .null, .null])) :: (wX0 cI cC q5 u9 ++ wX0 cI cC q16 u20 ++ wX0 cI cC q27 u31 ++ wX2 cI cC q43 u47 ++ wX1 cI cC q54 u58 ++ [(q67, ar cI 16)] ++ [(q80, ar cI 7)] ++ [(q88, ar cI 69)])) := hD
  refine va_putF (D := D) (ci := 3) (v := .ref q88) (ty := .array .int) (C := RX3) (T := TX3) (N := 12) hx hb hg gin3 tyX3 tyX3_ok nmX3 hown hK hP hD hS 0 rfl rfl 9 (by decide) (hg (.fieldLink RX3 51 RX3 "totals" "[I") (gw_mem 186 (by decide +kernel) (by decide +kernel))) (fun _ h9 => h9) rfl hin rfl (by decide +kernel) rfl rfl (Nat.le_of_ble_eq_true rfl) dX3_init_90 (fun H locs hP hD hS => ?_)
  have hP : va_P D vwCl ((h0, .inr (3, [.ref q5, .ref q16, .ref q27, .int 0, .ref q43, .ref q54, .ref q67, .int 0, .ref q80, .ref q88, .null, .null])) :: (wX0 cI cC q5 u9 ++ wX0 cI cC q16 u20 ++ wX0 cI cC q27 u31 ++ wX2 cI cC q43 u47 ++ wX1 cI cC q54 u58 ++ [(q67, ar cI 16)] ++ [(q80, ar cI 7)] ++ [(q88, ar cI 69)])) H := hP
  have hD : va_D A ((h0, .inr (3, [.ref q5, .ref q16, .ref q27, .int 0, .ref q43, .ref q54, .ref q67, .int 0, .ref q80, .ref q88, .null, .null])) :: (wX0 cI cC q5 u9 ++ wX0 cI cC q16 u20 ++ wX0 cI cC q27 u31 ++ wX2 cI cC q43 u47 ++ wX1 cI cC q54 u58 ++ [(q67, ar cI 16)] ++ [(q80, ar cI 7)] ++ [(q88, ar cI 69)])) := hD
  refine lv_aload_n hx hb dX3_init_93 rfl (lv_at hl 0 rfl) ?_
  refine lv_iconst (v := 4) hx hb dX3_init_94 (by decide) ?_
  refine vn_int (N' := 4) (c2 := 33) (s2 := 732) hx hb (hg (.arrayClass .int) (gw_mem 148 (by decide +kernel) (by decide +kernel))) hK hP hD hS hA (by decide) (by decide) (Nat.le_of_ble_eq_true rfl) (Nat.le_of_ble_eq_true rfl) (Nat.le_of_ble_eq_true rfl) dX3_init_95 (Nat.le_of_ble_eq_true rfl) (Nat.le_of_ble_eq_true rfl) (fun q95 H hP hD hS => ?_)
  have hP : va_P D vwCl ((h0, .inr (3, [.ref q5, .ref q16, .ref q27, .int 0, .ref q43, .ref q54, .ref q67, .int 0, .ref q80, .ref q88, .null, .null])) :: (wX0 cI cC q5 u9 ++ wX0 cI cC q16 u20 ++ wX0 cI cC q27 u31 ++ wX2 cI cC q43 u47 ++ wX1 cI cC q54 u58 ++ [(q67, ar cI 16)] ++ [(q80, ar cI 7)] ++ [(q88, ar cI 69)] ++ [(q95, ar cI 4)])) H := hP
  have hD : va_D A ((h0, .inr (3, [.ref q5, .ref q16, .ref q27, .int 0, .ref q43, .ref q54, .ref q67, .int 0, .ref q80, .ref q88, .null, .null])) :: (wX0 cI cC q5 u9 ++ wX0 cI cC q16 u20 ++ wX0 cI cC q27 u31 ++ wX2 cI cC q43 u47 ++ wX1 cI cC q54 u58 ++ [(q67, ar cI 16)] ++ [(q80, ar cI 7)] ++ [(q88, ar cI 69)] ++ [(q95, ar cI 4)])) := hD
  refine va_putF (D := D) (ci := 3) (v := .ref q95) (ty := .array .int) (C := RX3) (T := TX3) (N := 12) hx hb hg gin3 tyX3 tyX3_ok nmX3 hown hK hP hD hS 0 rfl rfl 10 (by decide) (hg (.fieldLink RX3 54 RX3 "firstWish" "[I") (gw_mem 187 (by decide +kernel) (by decide +kernel))) (fun _ h9 => h9) rfl hin rfl (by decide +kernel) rfl rfl (Nat.le_of_ble_eq_true rfl) dX3_init_97 (fun H locs hP hD hS => ?_)
  have hP : va_P D vwCl ((h0, .inr (3, [.ref q5, .ref q16, .ref q27, .int 0, .ref q43, .ref q54, .ref q67, .int 0, .ref q80, .ref q88, .ref q95, .null])) :: (wX0 cI cC q5 u9 ++ wX0 cI cC q16 u20 ++ wX0 cI cC q27 u31 ++ wX2 cI cC q43 u47 ++ wX1 cI cC q54 u58 ++ [(q67, ar cI 16)] ++ [(q80, ar cI 7)] ++ [(q88, ar cI 69)] ++ [(q95, ar cI 4)])) H := hP
  have hD : va_D A ((h0, .inr (3, [.ref q5, .ref q16, .ref q27, .int 0, .ref q43, .ref q54, .ref q67, .int 0, .ref q80, .ref q88, .ref q95, .null])) :: (wX0 cI cC q5 u9 ++ wX0 cI cC q16 u20 ++ wX0 cI cC q27 u31 ++ wX2 cI cC q43 u47 ++ wX1 cI cC q54 u58 ++ [(q67, ar cI 16)] ++ [(q80, ar cI 7)] ++ [(q88, ar cI 69)] ++ [(q95, ar cI 4)])) := hD
  refine lv_aload_n hx hb dX3_init_100 rfl (lv_at hl 0 rfl) ?_
  refine lv_iconst (v := 4) hx hb dX3_init_101 (by decide) ?_
  refine vn_int (N' := 4) (c2 := 34) (s2 := 736) hx hb (hg (.arrayClass .int) (gw_mem 148 (by decide +kernel) (by decide +kernel))) hK hP hD hS hA (by decide) (by decide) (Nat.le_of_ble_eq_true rfl) (Nat.le_of_ble_eq_true rfl) (Nat.le_of_ble_eq_true rfl) dX3_init_102 (Nat.le_of_ble_eq_true rfl) (Nat.le_of_ble_eq_true rfl) (fun q102 H hP hD hS => ?_)
  have hP : va_P D vwCl ((h0, .inr (3, [.ref q5, .ref q16, .ref q27, .int 0, .ref q43, .ref q54, .ref q67, .int 0, .ref q80, .ref q88, .ref q95, .null])) :: (wX0 cI cC q5 u9 ++ wX0 cI cC q16 u20 ++ wX0 cI cC q27 u31 ++ wX2 cI cC q43 u47 ++ wX1 cI cC q54 u58 ++ [(q67, ar cI 16)] ++ [(q80, ar cI 7)] ++ [(q88, ar cI 69)] ++ [(q95, ar cI 4)] ++ [(q102, ar cI 4)])) H := hP
  have hD : va_D A ((h0, .inr (3, [.ref q5, .ref q16, .ref q27, .int 0, .ref q43, .ref q54, .ref q67, .int 0, .ref q80, .ref q88, .ref q95, .null])) :: (wX0 cI cC q5 u9 ++ wX0 cI cC q16 u20 ++ wX0 cI cC q27 u31 ++ wX2 cI cC q43 u47 ++ wX1 cI cC q54 u58 ++ [(q67, ar cI 16)] ++ [(q80, ar cI 7)] ++ [(q88, ar cI 69)] ++ [(q95, ar cI 4)] ++ [(q102, ar cI 4)])) := hD
  refine va_putF (D := D) (ci := 3) (v := .ref q102) (ty := .array .int) (C := RX3) (T := TX3) (N := 12) hx hb hg gin3 tyX3 tyX3_ok nmX3 hown hK hP hD hS 0 rfl rfl 11 (by decide) (hg (.fieldLink RX3 57 RX3 "otherWish" "[I") (gw_mem 188 (by decide +kernel) (by decide +kernel))) (fun _ h9 => h9) rfl hin rfl (by decide +kernel) rfl rfl (Nat.le_of_ble_eq_true rfl) dX3_init_104 (fun H locs hP hD hS => ?_)
  have hP : va_P D vwCl ((h0, .inr (3, [.ref q5, .ref q16, .ref q27, .int 0, .ref q43, .ref q54, .ref q67, .int 0, .ref q80, .ref q88, .ref q95, .ref q102])) :: (wX0 cI cC q5 u9 ++ wX0 cI cC q16 u20 ++ wX0 cI cC q27 u31 ++ wX2 cI cC q43 u47 ++ wX1 cI cC q54 u58 ++ [(q67, ar cI 16)] ++ [(q80, ar cI 7)] ++ [(q88, ar cI 69)] ++ [(q95, ar cI 4)] ++ [(q102, ar cI 4)])) H := hP
  have hD : va_D A ((h0, .inr (3, [.ref q5, .ref q16, .ref q27, .int 0, .ref q43, .ref q54, .ref q67, .int 0, .ref q80, .ref q88, .ref q95, .ref q102])) :: (wX0 cI cC q5 u9 ++ wX0 cI cC q16 u20 ++ wX0 cI cC q27 u31 ++ wX2 cI cC q43 u47 ++ wX1 cI cC q54 u58 ++ [(q67, ar cI 16)] ++ [(q80, ar cI 7)] ++ [(q88, ar cI 69)] ++ [(q95, ar cI 4)] ++ [(q102, ar cI 4)])) := hD
  exact W.vret hx hb hr (fun t ht hW => ⟨⟨fun k => [0, q5, u9 0, u9 1, u9 2, u9 3, u9 4, u9 5, u9 6, q16, u20 0, u20 1, u20 2, u20 3, u20 4, u20 5, u20 6, q27, u31 0, u31 1, u31 2, u31 3, u31 4, u31 5, u31 6, q43, u47 0, q54, u58 0, u58 1, q67, q80, q88, q95, q102].getD k 0, rfl, trivial, by rw [ht]; exact hP, hD⟩, hS.F ht⟩) hS.2.2 dX3_init_107
