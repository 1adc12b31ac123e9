set_option maxRecDepth 100000 in
set_option maxHeartbeats 4000000 in
theorem st_100 {s : State} {b : Nat} (hts : ∀ w ∈ lw_tbl, w.before #[Value.ref b] s = true) (hgv : (Jvm.Cond.and given_1 narrow_1).before #[Value.ref b] s = true) : ∃ t : Nat, va_Z "ArmourOfTheShy" "PRICE" "[I" (.ref t) (fun q => s.heap.size ≤ q) s s.heap ∧ va_T .int t 6 (fun j => .int (gtab 100 j)) (fun q => s.heap.size ≤ q) s s.heap := by
  have h := flat_of_before _ hgv
  have hA : ∀ a : Nat, a < s.heap.size → ¬ s.heap.size ≤ a := fun a h => by omega
  have hel : ∀ j : Nat, j < 6 → (Term.elem (.static "ArmourOfTheShy" "PRICE" "[I") (.int (Int32.ofNat j))).eval #[Value.ref b] s none [] s = some (.int (gtab 100 j)) := by
    intro j hj
    rcases (show j = 0 ∨ j = 1 ∨ j = 2 ∨ j = 3 ∨ j = 4 ∨ j = 5 by omega) with rfl | rfl | rfl | rfl | rfl | rfl
    · exact va_eqt (h (.eq (.elem (.static "ArmourOfTheShy" "PRICE" "[I") (.int 0)) (.int 3)) (by decide +kernel))
    · exact va_eqt (h (.eq (.elem (.static "ArmourOfTheShy" "PRICE" "[I") (.int 1)) (.int 2)) (by decide +kernel))
    · exact va_eqt (h (.eq (.elem (.static "ArmourOfTheShy" "PRICE" "[I") (.int 2)) (.int 1)) (by decide +kernel))
    · exact va_eqt (h (.eq (.elem (.static "ArmourOfTheShy" "PRICE" "[I") (.int 3)) (.int 6)) (by decide +kernel))
    · exact va_eqt (h (.eq (.elem (.static "ArmourOfTheShy" "PRICE" "[I") (.int 4)) (.int 6)) (by decide +kernel))
    · exact va_eqt (h (.eq (.elem (.static "ArmourOfTheShy" "PRICE" "[I") (.int 5)) (.int 0)) (by decide +kernel))
  obtain ⟨t, ht, hT⟩ := va_Tof (tm := (.static "ArmourOfTheShy" "PRICE" "[I")) (ty := .int) (N := 6) (f := fun j => .int (gtab 100 j)) (A := (fun q => s.heap.size ≤ q)) (by decide) (h (.arrayOf (.static "ArmourOfTheShy" "PRICE" "[I") .int) (by decide +kernel)) (va_eqt (h (.eq (.length (.static "ArmourOfTheShy" "PRICE" "[I")) (.int 6)) (by decide +kernel))) hel hA
  exact ⟨t, va_Zof (hts (.laysStatic "ArmourOfTheShy" "PRICE" "[I") (List.mem_of_getElem? (i := 392) (by decide +kernel))) (hts (.initialized "ArmourOfTheShy") (List.mem_of_getElem? (i := 69) (by decide +kernel))) ht hA, hT⟩
set_option maxRecDepth 100000 in
set_option maxHeartbeats 4000000 in
theorem st_101 {s : State} {b : Nat} (hts : ∀ w ∈ lw_tbl, w.before #[Value.ref b] s = true) (hgv : (Jvm.Cond.and given_1 narrow_1).before #[Value.ref b] s = true) : ∃ t : Nat, va_Z "ArmourOfTheShy" "COVER_HALVES" "[I" (.ref t) (fun q => s.heap.size ≤ q) s s.heap ∧ va_T .int t 6 (fun j => .int (gtab 101 j)) (fun q => s.heap.size ≤ q) s s.heap := by
  have h := flat_of_before _ hgv
  have hA : ∀ a : Nat, a < s.heap.size → ¬ s.heap.size ≤ a := fun a h => by omega
  have hel : ∀ j : Nat, j < 6 → (Term.elem (.static "ArmourOfTheShy" "COVER_HALVES" "[I") (.int (Int32.ofNat j))).eval #[Value.ref b] s none [] s = some (.int (gtab 101 j)) := by
    intro j hj
    rcases (show j = 0 ∨ j = 1 ∨ j = 2 ∨ j = 3 ∨ j = 4 ∨ j = 5 by omega) with rfl | rfl | rfl | rfl | rfl | rfl
    · exact va_eqt (h (.eq (.elem (.static "ArmourOfTheShy" "COVER_HALVES" "[I") (.int 0)) (.int 2)) (by decide +kernel))
    · exact va_eqt (h (.eq (.elem (.static "ArmourOfTheShy" "COVER_HALVES" "[I") (.int 1)) (.int 2)) (by decide +kernel))
    · exact va_eqt (h (.eq (.elem (.static "ArmourOfTheShy" "COVER_HALVES" "[I") (.int 2)) (.int 1)) (by decide +kernel))
    · exact va_eqt (h (.eq (.elem (.static "ArmourOfTheShy" "COVER_HALVES" "[I") (.int 3)) (.int 4)) (by decide +kernel))
    · exact va_eqt (h (.eq (.elem (.static "ArmourOfTheShy" "COVER_HALVES" "[I") (.int 4)) (.int 4)) (by decide +kernel))
    · exact va_eqt (h (.eq (.elem (.static "ArmourOfTheShy" "COVER_HALVES" "[I") (.int 5)) (.int 2)) (by decide +kernel))
  obtain ⟨t, ht, hT⟩ := va_Tof (tm := (.static "ArmourOfTheShy" "COVER_HALVES" "[I")) (ty := .int) (N := 6) (f := fun j => .int (gtab 101 j)) (A := (fun q => s.heap.size ≤ q)) (by decide) (h (.arrayOf (.static "ArmourOfTheShy" "COVER_HALVES" "[I") .int) (by decide +kernel)) (va_eqt (h (.eq (.length (.static "ArmourOfTheShy" "COVER_HALVES" "[I")) (.int 6)) (by decide +kernel))) hel hA
  exact ⟨t, va_Zof (hts (.laysStatic "ArmourOfTheShy" "COVER_HALVES" "[I") (List.mem_of_getElem? (i := 407) (by decide +kernel))) (hts (.initialized "ArmourOfTheShy") (List.mem_of_getElem? (i := 69) (by decide +kernel))) ht hA, hT⟩
set_option maxRecDepth 100000 in
set_option maxHeartbeats 4000000 in
theorem st_102 {s : State} {b : Nat} (hts : ∀ w ∈ lw_tbl, w.before #[Value.ref b] s = true) (hgv : (Jvm.Cond.and given_1 narrow_1).before #[Value.ref b] s = true) : ∃ t : Nat, va_Z "ArmourOfTheShy" "COVER_MORE" "[I" (.ref t) (fun q => s.heap.size ≤ q) s s.heap ∧ va_T .int t 6 (fun j => .int (gtab 102 j)) (fun q => s.heap.size ≤ q) s s.heap := by
  have h := flat_of_before _ hgv
  have hA : ∀ a : Nat, a < s.heap.size → ¬ s.heap.size ≤ a := fun a h => by omega
  have hel : ∀ j : Nat, j < 6 → (Term.elem (.static "ArmourOfTheShy" "COVER_MORE" "[I") (.int (Int32.ofNat j))).eval #[Value.ref b] s none [] s = some (.int (gtab 102 j)) := by
    intro j hj
    rcases (show j = 0 ∨ j = 1 ∨ j = 2 ∨ j = 3 ∨ j = 4 ∨ j = 5 by omega) with rfl | rfl | rfl | rfl | rfl | rfl
    · exact va_eqt (h (.eq (.elem (.static "ArmourOfTheShy" "COVER_MORE" "[I") (.int 0)) (.int 0)) (by decide +kernel))
    · exact va_eqt (h (.eq (.elem (.static "ArmourOfTheShy" "COVER_MORE" "[I") (.int 1)) (.int (-2))) (by decide +kernel))
    · exact va_eqt (h (.eq (.elem (.static "ArmourOfTheShy" "COVER_MORE" "[I") (.int 2)) (.int 0)) (by decide +kernel))
    · exact va_eqt (h (.eq (.elem (.static "ArmourOfTheShy" "COVER_MORE" "[I") (.int 3)) (.int 0)) (by decide +kernel))
    · exact va_eqt (h (.eq (.elem (.static "ArmourOfTheShy" "COVER_MORE" "[I") (.int 4)) (.int 5)) (by decide +kernel))
    · exact va_eqt (h (.eq (.elem (.static "ArmourOfTheShy" "COVER_MORE" "[I") (.int 5)) (.int (-2))) (by decide +kernel))
  obtain ⟨t, ht, hT⟩ := va_Tof (tm := (.static "ArmourOfTheShy" "COVER_MORE" "[I")) (ty := .int) (N := 6) (f := fun j => .int (gtab 102 j)) (A := (fun q => s.heap.size ≤ q)) (by decide) (h (.arrayOf (.static "ArmourOfTheShy" "COVER_MORE" "[I") .int) (by decide +kernel)) (va_eqt (h (.eq (.length (.static "ArmourOfTheShy" "COVER_MORE" "[I")) (.int 6)) (by decide +kernel))) hel hA
  exact ⟨t, va_Zof (hts (.laysStatic "ArmourOfTheShy" "COVER_MORE" "[I") (List.mem_of_getElem? (i := 409) (by decide +kernel))) (hts (.initialized "ArmourOfTheShy") (List.mem_of_getElem? (i := 69) (by decide +kernel))) ht hA, hT⟩
set_option maxRecDepth 100000 in
set_option maxHeartbeats 4000000 in
theorem st_103 {s : State} {b : Nat} (hts : ∀ w ∈ lw_tbl, w.before #[Value.ref b] s = true) (hgv : (Jvm.Cond.and given_1 narrow_1).before #[Value.ref b] s = true) : ∃ t : Nat, va_Z "ArmourOfTheShy" "CHAFE" "[I" (.ref t) (fun q => s.heap.size ≤ q) s s.heap ∧ va_T .int t 6 (fun j => .int (gtab 103 j)) (fun q => s.heap.size ≤ q) s s.heap := by
  have h := flat_of_before _ hgv
  have hA : ∀ a : Nat, a < s.heap.size → ¬ s.heap.size ≤ a := fun a h => by omega
  have hel : ∀ j : Nat, j < 6 → (Term.elem (.static "ArmourOfTheShy" "CHAFE" "[I") (.int (Int32.ofNat j))).eval #[Value.ref b] s none [] s = some (.int (gtab 103 j)) := by
    intro j hj
    rcases (show j = 0 ∨ j = 1 ∨ j = 2 ∨ j = 3 ∨ j = 4 ∨ j = 5 by omega) with rfl | rfl | rfl | rfl | rfl | rfl
    · exact va_eqt (h (.eq (.elem (.static "ArmourOfTheShy" "CHAFE" "[I") (.int 0)) (.int 2)) (by decide +kernel))
    · exact va_eqt (h (.eq (.elem (.static "ArmourOfTheShy" "CHAFE" "[I") (.int 1)) (.int 1)) (by decide +kernel))
    · exact va_eqt (h (.eq (.elem (.static "ArmourOfTheShy" "CHAFE" "[I") (.int 2)) (.int 0)) (by decide +kernel))
    · exact va_eqt (h (.eq (.elem (.static "ArmourOfTheShy" "CHAFE" "[I") (.int 3)) (.int 3)) (by decide +kernel))
    · exact va_eqt (h (.eq (.elem (.static "ArmourOfTheShy" "CHAFE" "[I") (.int 4)) (.int 3)) (by decide +kernel))
    · exact va_eqt (h (.eq (.elem (.static "ArmourOfTheShy" "CHAFE" "[I") (.int 5)) (.int 1)) (by decide +kernel))
  obtain ⟨t, ht, hT⟩ := va_Tof (tm := (.static "ArmourOfTheShy" "CHAFE" "[I")) (ty := .int) (N := 6) (f := fun j => .int (gtab 103 j)) (A := (fun q => s.heap.size ≤ q)) (by decide) (h (.arrayOf (.static "ArmourOfTheShy" "CHAFE" "[I") .int) (by decide +kernel)) (va_eqt (h (.eq (.length (.static "ArmourOfTheShy" "CHAFE" "[I")) (.int 6)) (by decide +kernel))) hel hA
  exact ⟨t, va_Zof (hts (.laysStatic "ArmourOfTheShy" "CHAFE" "[I") (List.mem_of_getElem? (i := 423) (by decide +kernel))) (hts (.initialized "ArmourOfTheShy") (List.mem_of_getElem? (i := 69) (by decide +kernel))) ht hA, hT⟩
set_option maxRecDepth 100000 in
set_option maxHeartbeats 4000000 in
theorem st_s {s : State} {b : Nat} (hts : ∀ w ∈ lw_tbl, w.before #[Value.ref b] s = true) (hgv : (Jvm.Cond.and given_1 narrow_1).before #[Value.ref b] s = true) : ∃ a t : Nat, vk_R RX2 27 "pmgfbo" a s ∧ va_O "java/lang/String" a (fun q => s.heap.size ≤ q) s s.heap ∧ va_OF "java/lang/String" "value" "[B" (.ref t) a (fun q => s.heap.size ≤ q) s s.heap ∧ va_OF "java/lang/String" "coder" "B" (.int 0) a (fun q => s.heap.size ≤ q) s s.heap ∧ va_T .byte t 6 (fun j => .int (gtab 105 j)) (fun q => s.heap.size ≤ q) s s.heap ∧ va_Z "java/lang/String" "COMPACT_STRINGS" "Z" (.int 1) (fun q => s.heap.size ≤ q) s s.heap := by
  have h := flat_of_before _ hgv
  have hA : ∀ a : Nat, a < s.heap.size → ¬ s.heap.size ≤ a := fun a h => by omega
  have hex := h (.exactly (.string "ArmourOfTheShy$Letters" 27) "java/lang/String") (by decide +kernel)
  obtain ⟨a, c, cA, kA, q1, -⟩ := Cond.exactly_spec (args := #[Value.ref b]) (first := s) (o := none) (s := s) (idx := []) (t := (.string "ArmourOfTheShy$Letters" 27)) (cls := "java/lang/String") hex
  have hel : ∀ j : Nat, j < 6 → (Term.elem (.field (.string "ArmourOfTheShy$Letters" 27) "java/lang/String" "value" "[B") (.int (Int32.ofNat j))).eval #[Value.ref b] s none [] s = some (.int (gtab 105 j)) := by
    intro j hj
    rcases (show j = 0 ∨ j = 1 ∨ j = 2 ∨ j = 3 ∨ j = 4 ∨ j = 5 by omega) with rfl | rfl | rfl | rfl | rfl | rfl
    · exact va_eqt (h (.eq (.elem (.field (.string "ArmourOfTheShy$Letters" 27) "java/lang/String" "value" "[B") (.int 0)) (.int 112)) (by decide +kernel))
    · exact va_eqt (h (.eq (.elem (.field (.string "ArmourOfTheShy$Letters" 27) "java/lang/String" "value" "[B") (.int 1)) (.int 109)) (by decide +kernel))
    · exact va_eqt (h (.eq (.elem (.field (.string "ArmourOfTheShy$Letters" 27) "java/lang/String" "value" "[B") (.int 2)) (.int 103)) (by decide +kernel))
    · exact va_eqt (h (.eq (.elem (.field (.string "ArmourOfTheShy$Letters" 27) "java/lang/String" "value" "[B") (.int 3)) (.int 102)) (by decide +kernel))
    · exact va_eqt (h (.eq (.elem (.field (.string "ArmourOfTheShy$Letters" 27) "java/lang/String" "value" "[B") (.int 4)) (.int 98)) (by decide +kernel))
    · exact va_eqt (h (.eq (.elem (.field (.string "ArmourOfTheShy$Letters" 27) "java/lang/String" "value" "[B") (.int 5)) (.int 111)) (by decide +kernel))
  obtain ⟨t, ht, hT⟩ := va_Tof (tm := (.field (.string "ArmourOfTheShy$Letters" 27) "java/lang/String" "value" "[B")) (ty := .byte) (N := 6) (f := fun j => .int (gtab 105 j)) (A := (fun q => s.heap.size ≤ q)) (by decide) (h (.arrayOf (.field (.string "ArmourOfTheShy$Letters" 27) "java/lang/String" "value" "[B") .byte) (by decide +kernel)) (va_eqt (h (.eq (.length (.field (.string "ArmourOfTheShy$Letters" 27) "java/lang/String" "value" "[B")) (.int 6)) (by decide +kernel))) hel hA
  exact ⟨a, t, vk_R.of (hts (.stringRef "ArmourOfTheShy$Letters" 27 "pmgfbo") (List.mem_of_getElem? (i := 244) (by decide +kernel))) q1, va_Oof hex q1 hA, vk_OFof q1 ht hA, vk_OFof q1 (va_eqt (h (.eq (.field (.string "ArmourOfTheShy$Letters" 27) "java/lang/String" "coder" "B") (.int 0)) (by decide +kernel))) hA, hT, va_Zof (hts (.laysStatic "java/lang/String" "COMPACT_STRINGS" "Z") (List.mem_of_getElem? (i := 258) (by decide +kernel))) (hts (.initialized "java/lang/String") (List.mem_of_getElem? (i := 74) (by decide +kernel))) (va_eqt (h (.eq (.static "java/lang/String" "COMPACT_STRINGS" "Z") (.int 1)) (by decide +kernel))) hA⟩
set_option maxRecDepth 100000 in
set_option maxHeartbeats 4000000 in
theorem st_ro {s : State} {b : Nat} (hts : ∀ w ∈ lw_tbl, w.before #[Value.ref b] s = true) (hgv : (Jvm.Cond.and given_1 narrow_1).before #[Value.ref b] s = true) : ∃ t : Nat → Nat, ∀ ad : Nat → Nat, (∀ q, 100 ≤ q → q ≤ 105 → ad q = t q) → (∀ k, k < 58 → s.heap.size ≤ ad k) → gRO ad s s.heap := by
  obtain ⟨t0, a0, b0⟩ := st_100 hts hgv
  obtain ⟨t1, a1, b1⟩ := st_101 hts hgv
  obtain ⟨t2, a2, b2⟩ := st_102 hts hgv
  obtain ⟨t3, a3, b3⟩ := st_103 hts hgv
  obtain ⟨t4, t5, z1, z2, z3, z4, z5, z6⟩ := st_s hts hgv
  refine ⟨fun q => if q = 100 then t0 else if q = 101 then t1 else if q = 102 then t2 else if q = 103 then t3 else if q = 104 then t4 else t5, fun ad he hk => ?_⟩
  have hB : ∀ q, gA ad q → s.heap.size ≤ q := by
    rintro q ⟨k, hk1, rfl⟩
    exact hk k hk1
  have e0 : ad 100 = t0 := he 100 (by decide) (by decide)
  have e1 : ad 101 = t1 := he 101 (by decide) (by decide)
  have e2 : ad 102 = t2 := he 102 (by decide) (by decide)
  have e3 : ad 103 = t3 := he 103 (by decide) (by decide)
  have e4 : ad 104 = t4 := he 104 (by decide) (by decide)
  have e5 : ad 105 = t5 := he 105 (by decide) (by decide)
  refine ⟨fun q h1 h2 => ?_, ?_⟩
  · rcases (show q = 100 ∨ q = 101 ∨ q = 102 ∨ q = 103 by omega) with rfl | rfl | rfl | rfl
    · unfold gROq
      rw [e0]
      exact ⟨a0.narrow hB, b0.narrow hB, va_Nw.of rfl (hts (.fieldLinkNest "ArmourOfTheShy$City" 90 "ArmourOfTheShy" "PRICE" "[I" "ArmourOfTheShy") (List.mem_of_getElem? (i := 391) (by decide +kernel)))⟩
    · unfold gROq
      rw [e1]
      exact ⟨a1.narrow hB, b1.narrow hB, va_Nw.of rfl (hts (.fieldLinkNest "ArmourOfTheShy$City" 60 "ArmourOfTheShy" "COVER_HALVES" "[I" "ArmourOfTheShy") (List.mem_of_getElem? (i := 406) (by decide +kernel)))⟩
    · unfold gROq
      rw [e2]
      exact ⟨a2.narrow hB, b2.narrow hB, va_Nw.of rfl (hts (.fieldLinkNest "ArmourOfTheShy$City" 63 "ArmourOfTheShy" "COVER_MORE" "[I" "ArmourOfTheShy") (List.mem_of_getElem? (i := 408) (by decide +kernel)))⟩
    · unfold gROq
      rw [e3]
      exact ⟨a3.narrow hB, b3.narrow hB, va_Nw.of rfl (hts (.fieldLinkNest "ArmourOfTheShy$City" 66 "ArmourOfTheShy" "CHAFE" "[I" "ArmourOfTheShy") (List.mem_of_getElem? (i := 422) (by decide +kernel)))⟩
  · unfold gROs
    rw [e4, e5]
    exact ⟨z1, z2.narrow hB, z3.narrow hB, z4.narrow hB, z5.narrow hB, z6.narrow hB⟩
