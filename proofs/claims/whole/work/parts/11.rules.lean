abbrev gJ : Type := Nat → List Value → List Value → gG → Prop
theorem glo_of1 {ad : Nat → Nat} {n i : Nat} {ls : List Value} {la la2 : Array Slot} {v : Value} (h : glo ad n ls la) (h' : lv_has la2 n ((i, gtv ad v) :: (gprs ad ls).filter (fun q => !(q.1 == i) && !(q.1 + 1 == i && q.2.category == 2)))) : glo ad n (gst1 ls i v) la2 := by
  refine ⟨h'.1, h'.2.1, by simp [gst1, gclr_len, h.2.2.1], fun j w hj hn => ?_⟩
  unfold gst1 at hj
  rw [List.getElem?_set] at hj
  split at hj
  · next hij =>
    split at hj
    · cases hj
      subst hij
      exact h'.2.2 _ List.mem_cons_self
    · cases hj
  · next hij =>
    obtain ⟨h1, h2⟩ := gclr_at hj hn
    refine h'.2.2 (j, gtv ad w) (List.mem_cons_of_mem _ (List.mem_filter.mpr ⟨gprs_mem h1 hn, ?_⟩))
    have e1 : (j == i) = false := by simp; omega
    rw [show ((j, gtv ad w).1 == i) = false from e1]
    by_cases hq : j + 1 = i
    · have : ¬ w.category = 2 := fun q => h2 ⟨hq, q⟩
      simp [gtv_cat, this]
    · simp [hq]
theorem glo_of2 {ad : Nat → Nat} {n i : Nat} {ls : List Value} {la la2 : Array Slot} {v : Value} (h : glo ad n ls la) (h' : lv_has la2 n ((i, gtv ad v) :: (gprs ad ls).filter (fun q => !(q.1 == i) && (!(q.1 == i + 1) && !(q.1 + 1 == i && q.2.category == 2))))) : glo ad n (gst2 ls i v) la2 := by
  refine ⟨h'.1, h'.2.1, by simp [gst2, gclr_len, h.2.2.1], fun j w hj hn => ?_⟩
  unfold gst2 at hj
  rw [List.getElem?_set] at hj
  split at hj
  · split at hj
    · cases hj; exact absurd rfl hn
    · cases hj
  · next hij1 =>
    rw [List.getElem?_set] at hj
    split at hj
    · next hij =>
      split at hj
      · cases hj
        subst hij
        exact h'.2.2 _ List.mem_cons_self
      · cases hj
    · next hij =>
      obtain ⟨h1, h2⟩ := gclr_at hj hn
      refine h'.2.2 (j, gtv ad w) (List.mem_cons_of_mem _ (List.mem_filter.mpr ⟨gprs_mem h1 hn, ?_⟩))
      have e1 : (j == i) = false := by simp; omega
      have e2 : (j == i + 1) = false := by simp; omega
      rw [show ((j, gtv ad w).1 == i) = false from e1, show ((j, gtv ad w).1 == i + 1) = false from e2]
      by_cases hq : j + 1 = i
      · have : ¬ w.category = 2 := fun q => h2 ⟨hq, q⟩
        simp [gtv_cat, this]
      · simp [hq]
/-- a field by its place in a class's pool -/
def gfld (own : String) (idx ci j : Nat) : Prop := ∃ r : vw_C, vwCl[ci]? = some r ∧ j < r.2.2 ∧ Cond.fieldLink own idx (r.2.1 j).1 (r.2.1 j).2.1 (r.2.1 j).2.2.1 ∈ gw
def gfldW (own : String) (idx ci j : Nat) (ty : FieldType) : Prop := ∃ r : vw_C, vwCl[ci]? = some r ∧ j < r.2.2 ∧ Cond.fieldLink own idx (r.2.1 j).1 (r.2.1 j).2.1 (r.2.1 j).2.2.1 ∈ gw ∧ (r.2.1 j).2.2.2 = false ∧ parseFieldDescriptor (r.2.1 j).2.2.1 = some ty
def gmath (own : String) (idx : Nat) (y : MethodName) (b : ByteArray) : Prop := Cond.methodLink own idx y ∈ gw ∧ Cond.static y ∈ gw ∧ Cond.initialized "java/lang/Math" ∈ gw ∧ Cond.code y b 2 (some .int) ∈ gw
/-- a call by its place in a class's pool -/
def gcl (own : String) (idx : Nat) (M : gM) (n : Nat) : Prop := Cond.methodLink own idx M.1 ∈ gw ∧ Cond.code M.1 M.2.1 M.2.2.1 M.2.2.2.1 ∈ gw ∧ Cond.initialized M.1.cls ∈ gw ∧ (M.1.cls ≠ "java/lang/invoke/MethodHandle" ∧ M.1.cls ≠ "java/lang/invoke/VarHandle" ∧ (parseMethodDescriptor M.1.desc).map (fun d => d.parameters.length) = some n)
def gclV (own : String) (idx : Nat) (M : gM) (n : Nat) : Prop := gcl own idx M n ∧ Cond.instanceMethod M.1 ∈ gw ∧ Cond.selects M.1.cls M.1 M.1 ∈ gw
def gclS (own : String) (idx : Nat) (M : gM) (n : Nat) : Prop := gcl own idx M n ∧ Cond.static M.1 ∈ gw
/-- the class of the object in a cell -/
def gcls (k : Nat) (C : String) : Prop := (∃ (ci : Nat) (fl : List (Option Nat)) (r : vw_C), gshL[k]? = some (.inl (ci, fl)) ∧ vwCl[ci]? = some r ∧ r.1 = C) ∨ (k = 104 ∧ C = "java/lang/String")

def q_iconst (own : String) (cc : ByteArray) (fr lo : Nat) (G : gJ) : Prop := ∀ (pc : Nat) (ls st : List Value) (g : gG) (n : Int) (v : Int32), (decode cc pc = .ok (.iconst n, 1)) → (Int32.ofInt n = v) → (G (pc + 1) ls (.int v :: st) g) → G pc ls (st) g
def q_bipush (own : String) (cc : ByteArray) (fr lo : Nat) (G : gJ) : Prop := ∀ (pc : Nat) (ls st : List Value) (g : gG) (n : Int) (v : Int32), (decode cc pc = .ok (.bipush n, 2)) → ((Int8.ofInt n).toInt32 = v) → (G (pc + 2) ls (.int v :: st) g) → G pc ls (st) g
def q_sipush (own : String) (cc : ByteArray) (fr lo : Nat) (G : gJ) : Prop := ∀ (pc : Nat) (ls st : List Value) (g : gG) (n : Int) (v : Int32), (decode cc pc = .ok (.sipush n, 3)) → ((Int16.ofInt n).toInt32 = v) → (G (pc + 3) ls (.int v :: st) g) → G pc ls (st) g
def q_lconst (own : String) (cc : ByteArray) (fr lo : Nat) (G : gJ) : Prop := ∀ (pc : Nat) (ls st : List Value) (g : gG) (n : Fin 2) (v : Int64), (decode cc pc = .ok (.lconst n, 1)) → (Int64.ofNat (n : Nat) = v) → (G (pc + 1) ls (.long v :: st) g) → G pc ls (st) g
def q_iload_n (own : String) (cc : ByteArray) (fr lo : Nat) (G : gJ) : Prop := ∀ (pc : Nat) (ls st : List Value) (g : gG) (i : Fin 4) (x : Int32), (decode cc pc = .ok (.iload_n i, 1)) → (ls[(i : Nat)]? = some (.int x)) → (G (pc + 1) ls (.int x :: st) g) → G pc ls (st) g
def q_iload (own : String) (cc : ByteArray) (fr lo : Nat) (G : gJ) : Prop := ∀ (pc : Nat) (ls st : List Value) (g : gG) (i : Nat) (x : Int32), (decode cc pc = .ok (.iload i, 2)) → (ls[i]? = some (.int x)) → (G (pc + 2) ls (.int x :: st) g) → G pc ls (st) g
def q_aload_n (own : String) (cc : ByteArray) (fr lo : Nat) (G : gJ) : Prop := ∀ (pc : Nat) (ls st : List Value) (g : gG) (i : Fin 4) (x : Nat), (decode cc pc = .ok (.aload_n i, 1)) → (ls[(i : Nat)]? = some (.ref x)) → (G (pc + 1) ls (.ref x :: st) g) → G pc ls (st) g
def q_aload (own : String) (cc : ByteArray) (fr lo : Nat) (G : gJ) : Prop := ∀ (pc : Nat) (ls st : List Value) (g : gG) (i : Nat) (x : Nat), (decode cc pc = .ok (.aload i, 2)) → (ls[i]? = some (.ref x)) → (G (pc + 2) ls (.ref x :: st) g) → G pc ls (st) g
def q_lload_n (own : String) (cc : ByteArray) (fr lo : Nat) (G : gJ) : Prop := ∀ (pc : Nat) (ls st : List Value) (g : gG) (i : Fin 4) (x : Int64), (decode cc pc = .ok (.lload_n i, 1)) → (ls[(i : Nat)]? = some (.long x)) → (G (pc + 1) ls (.long x :: st) g) → G pc ls (st) g
def q_lload (own : String) (cc : ByteArray) (fr lo : Nat) (G : gJ) : Prop := ∀ (pc : Nat) (ls st : List Value) (g : gG) (i : Nat) (x : Int64), (decode cc pc = .ok (.lload i, 2)) → (ls[i]? = some (.long x)) → (G (pc + 2) ls (.long x :: st) g) → G pc ls (st) g
def q_istore_n (own : String) (cc : ByteArray) (fr lo : Nat) (G : gJ) : Prop := ∀ (pc : Nat) (ls st : List Value) (g : gG) (i : Fin 4) (x : Int32) (ls2 : List Value), (decode cc pc = .ok (.istore_n i, 1)) → ((i : Nat) < ls.length) → (gst1 ls (i : Nat) (.int x) = ls2) → (G (pc + 1) ls2 st g) → G pc ls (.int x :: st) g
def q_istore (own : String) (cc : ByteArray) (fr lo : Nat) (G : gJ) : Prop := ∀ (pc : Nat) (ls st : List Value) (g : gG) (i : Nat) (x : Int32) (ls2 : List Value), (decode cc pc = .ok (.istore i, 2)) → (i < ls.length) → (gst1 ls i (.int x) = ls2) → (G (pc + 2) ls2 st g) → G pc ls (.int x :: st) g
def q_astore_n (own : String) (cc : ByteArray) (fr lo : Nat) (G : gJ) : Prop := ∀ (pc : Nat) (ls st : List Value) (g : gG) (i : Fin 4) (x : Nat) (ls2 : List Value), (decode cc pc = .ok (.astore_n i, 1)) → ((i : Nat) < ls.length) → (gst1 ls (i : Nat) (.ref x) = ls2) → (G (pc + 1) ls2 st g) → G pc ls (.ref x :: st) g
def q_astore (own : String) (cc : ByteArray) (fr lo : Nat) (G : gJ) : Prop := ∀ (pc : Nat) (ls st : List Value) (g : gG) (i : Nat) (x : Nat) (ls2 : List Value), (decode cc pc = .ok (.astore i, 2)) → (i < ls.length) → (gst1 ls i (.ref x) = ls2) → (G (pc + 2) ls2 st g) → G pc ls (.ref x :: st) g
def q_lstore_n (own : String) (cc : ByteArray) (fr lo : Nat) (G : gJ) : Prop := ∀ (pc : Nat) (ls st : List Value) (g : gG) (i : Fin 4) (x : Int64) (ls2 : List Value), (decode cc pc = .ok (.lstore_n i, 1)) → ((i : Nat) + 1 < ls.length) → (gst2 ls (i : Nat) (.long x) = ls2) → (G (pc + 1) ls2 st g) → G pc ls (.long x :: st) g
def q_lstore (own : String) (cc : ByteArray) (fr lo : Nat) (G : gJ) : Prop := ∀ (pc : Nat) (ls st : List Value) (g : gG) (i : Nat) (x : Int64) (ls2 : List Value), (decode cc pc = .ok (.lstore i, 2)) → (i + 1 < ls.length) → (gst2 ls i (.long x) = ls2) → (G (pc + 2) ls2 st g) → G pc ls (.long x :: st) g
def q_iinc (own : String) (cc : ByteArray) (fr lo : Nat) (G : gJ) : Prop := ∀ (pc : Nat) (ls st : List Value) (g : gG) (i : Nat) (n : Int) (x : Int32) (y : Int32) (ls2 : List Value), (decode cc pc = .ok (.iinc i n, 3)) → (ls[i]? = some (.int x)) → (x + Int32.ofInt n = y) → (gst1 ls i (.int y) = ls2) → (G (pc + 3) ls2 st g) → G pc ls (st) g
def q_iadd (own : String) (cc : ByteArray) (fr lo : Nat) (G : gJ) : Prop := ∀ (pc : Nat) (ls st : List Value) (g : gG) (x : Int32) (y : Int32), (decode cc pc = .ok (.iadd, 1)) → (G (pc + 1) ls (.int (x + y) :: st) g) → G pc ls (.int y :: .int x :: st) g
def q_isub (own : String) (cc : ByteArray) (fr lo : Nat) (G : gJ) : Prop := ∀ (pc : Nat) (ls st : List Value) (g : gG) (x : Int32) (y : Int32), (decode cc pc = .ok (.isub, 1)) → (G (pc + 1) ls (.int (x - y) :: st) g) → G pc ls (.int y :: .int x :: st) g
def q_imul (own : String) (cc : ByteArray) (fr lo : Nat) (G : gJ) : Prop := ∀ (pc : Nat) (ls st : List Value) (g : gG) (x : Int32) (y : Int32), (decode cc pc = .ok (.imul, 1)) → (G (pc + 1) ls (.int (x * y) :: st) g) → G pc ls (.int y :: .int x :: st) g
def q_iand (own : String) (cc : ByteArray) (fr lo : Nat) (G : gJ) : Prop := ∀ (pc : Nat) (ls st : List Value) (g : gG) (x : Int32) (y : Int32), (decode cc pc = .ok (.iand, 1)) → (G (pc + 1) ls (.int (x &&& y) :: st) g) → G pc ls (.int y :: .int x :: st) g
def q_ior (own : String) (cc : ByteArray) (fr lo : Nat) (G : gJ) : Prop := ∀ (pc : Nat) (ls st : List Value) (g : gG) (x : Int32) (y : Int32), (decode cc pc = .ok (.ior, 1)) → (G (pc + 1) ls (.int (x ||| y) :: st) g) → G pc ls (.int y :: .int x :: st) g
def q_ixor (own : String) (cc : ByteArray) (fr lo : Nat) (G : gJ) : Prop := ∀ (pc : Nat) (ls st : List Value) (g : gG) (x : Int32) (y : Int32), (decode cc pc = .ok (.ixor, 1)) → (G (pc + 1) ls (.int (x ^^^ y) :: st) g) → G pc ls (.int y :: .int x :: st) g
def q_ishl (own : String) (cc : ByteArray) (fr lo : Nat) (G : gJ) : Prop := ∀ (pc : Nat) (ls st : List Value) (g : gG) (x : Int32) (y : Int32), (decode cc pc = .ok (.ishl, 1)) → (G (pc + 1) ls (.int (x <<< (y &&& 31)) :: st) g) → G pc ls (.int y :: .int x :: st) g
def q_ishr (own : String) (cc : ByteArray) (fr lo : Nat) (G : gJ) : Prop := ∀ (pc : Nat) (ls st : List Value) (g : gG) (x : Int32) (y : Int32), (decode cc pc = .ok (.ishr, 1)) → (G (pc + 1) ls (.int (x >>> (y &&& 31)) :: st) g) → G pc ls (.int y :: .int x :: st) g
def q_ineg (own : String) (cc : ByteArray) (fr lo : Nat) (G : gJ) : Prop := ∀ (pc : Nat) (ls st : List Value) (g : gG) (x : Int32), (decode cc pc = .ok (.ineg, 1)) → (G (pc + 1) ls (.int (-x) :: st) g) → G pc ls (.int x :: st) g
def q_idiv (own : String) (cc : ByteArray) (fr lo : Nat) (G : gJ) : Prop := ∀ (pc : Nat) (ls st : List Value) (g : gG) (x : Int32) (y : Int32), (decode cc pc = .ok (.idiv, 1)) → (¬ y = 0) → (G (pc + 1) ls (.int (x / y) :: st) g) → G pc ls (.int y :: .int x :: st) g
def q_irem (own : String) (cc : ByteArray) (fr lo : Nat) (G : gJ) : Prop := ∀ (pc : Nat) (ls st : List Value) (g : gG) (x : Int32) (y : Int32), (decode cc pc = .ok (.irem, 1)) → (¬ y = 0) → (G (pc + 1) ls (.int (x - x / y * y) :: st) g) → G pc ls (.int y :: .int x :: st) g
def q_ladd (own : String) (cc : ByteArray) (fr lo : Nat) (G : gJ) : Prop := ∀ (pc : Nat) (ls st : List Value) (g : gG) (x : Int64) (y : Int64), (decode cc pc = .ok (.ladd, 1)) → (G (pc + 1) ls (.long (x + y) :: st) g) → G pc ls (.long y :: .long x :: st) g
def q_lsub (own : String) (cc : ByteArray) (fr lo : Nat) (G : gJ) : Prop := ∀ (pc : Nat) (ls st : List Value) (g : gG) (x : Int64) (y : Int64), (decode cc pc = .ok (.lsub, 1)) → (G (pc + 1) ls (.long (x - y) :: st) g) → G pc ls (.long y :: .long x :: st) g
def q_lmul (own : String) (cc : ByteArray) (fr lo : Nat) (G : gJ) : Prop := ∀ (pc : Nat) (ls st : List Value) (g : gG) (x : Int64) (y : Int64), (decode cc pc = .ok (.lmul, 1)) → (G (pc + 1) ls (.long (x * y) :: st) g) → G pc ls (.long y :: .long x :: st) g
def q_ldiv (own : String) (cc : ByteArray) (fr lo : Nat) (G : gJ) : Prop := ∀ (pc : Nat) (ls st : List Value) (g : gG) (x : Int64) (y : Int64), (decode cc pc = .ok (.ldiv, 1)) → (¬ y = 0) → (G (pc + 1) ls (.long (x / y) :: st) g) → G pc ls (.long y :: .long x :: st) g
def q_lrem (own : String) (cc : ByteArray) (fr lo : Nat) (G : gJ) : Prop := ∀ (pc : Nat) (ls st : List Value) (g : gG) (x : Int64) (y : Int64), (decode cc pc = .ok (.lrem, 1)) → (¬ y = 0) → (G (pc + 1) ls (.long (x - x / y * y) :: st) g) → G pc ls (.long y :: .long x :: st) g
def q_i2l (own : String) (cc : ByteArray) (fr lo : Nat) (G : gJ) : Prop := ∀ (pc : Nat) (ls st : List Value) (g : gG) (x : Int32), (decode cc pc = .ok (.i2l, 1)) → (G (pc + 1) ls (.long x.toInt64 :: st) g) → G pc ls (.int x :: st) g
def q_i2b (own : String) (cc : ByteArray) (fr lo : Nat) (G : gJ) : Prop := ∀ (pc : Nat) (ls st : List Value) (g : gG) (x : Int32), (decode cc pc = .ok (.i2b, 1)) → (G (pc + 1) ls (.int x.toInt8.toInt32 :: st) g) → G pc ls (.int x :: st) g
def q_iushr (own : String) (cc : ByteArray) (fr lo : Nat) (G : gJ) : Prop := ∀ (pc : Nat) (ls st : List Value) (g : gG) (x : Int32) (y : Int32), (decode cc pc = .ok (.iushr, 1)) → (G (pc + 1) ls (.int (x.toUInt32 >>> (y.toUInt32 &&& Int32.toUInt32 31)).toInt32 :: st) g) → G pc ls (.int y :: .int x :: st) g
def q_i2c (own : String) (cc : ByteArray) (fr lo : Nat) (G : gJ) : Prop := ∀ (pc : Nat) (ls st : List Value) (g : gG) (x : Int32), (decode cc pc = .ok (.i2c, 1)) → (G (pc + 1) ls (.int (x.toUInt32 % 65536).toInt32 :: st) g) → G pc ls (.int x :: st) g
def q_lcmp (own : String) (cc : ByteArray) (fr lo : Nat) (G : gJ) : Prop := ∀ (pc : Nat) (ls st : List Value) (g : gG) (x : Int64) (y : Int64), (decode cc pc = .ok (.lcmp, 1)) → (G (pc + 1) ls (.int (lg_cmp x y) :: st) g) → G pc ls (.long y :: .long x :: st) g
def q_dup (own : String) (cc : ByteArray) (fr lo : Nat) (G : gJ) : Prop := ∀ (pc : Nat) (ls st : List Value) (g : gG) (v : Value), (decode cc pc = .ok (.dup, 1)) → (v.category = 1) → (G (pc + 1) ls (v :: v :: st) g) → G pc ls (v :: st) g
def q_pop (own : String) (cc : ByteArray) (fr lo : Nat) (G : gJ) : Prop := ∀ (pc : Nat) (ls st : List Value) (g : gG) (v : Value), (decode cc pc = .ok (.pop, 1)) → (v.category = 1) → (G (pc + 1) ls (st) g) → G pc ls (v :: st) g
def q_dup2 (own : String) (cc : ByteArray) (fr lo : Nat) (G : gJ) : Prop := ∀ (pc : Nat) (ls st : List Value) (g : gG) (v : Value) (w : Value), (decode cc pc = .ok (.dup2, 1)) → (v.category = 1) → (w.category = 1) → (G (pc + 1) ls (v :: w :: v :: w :: st) g) → G pc ls (v :: w :: st) g
def q_if_eq (own : String) (cc : ByteArray) (fr lo : Nat) (G : gJ) : Prop := ∀ (pc : Nat) (ls st : List Value) (g : gG) (x : Int32) (o : Int) (tgt : Nat), (decode cc pc = .ok (.ifCond .eq o, 3)) → ((pc : Int) + o = (tgt : Int)) → (x = 0 → G tgt ls st g) → (¬ x = 0 → G (pc + 3) ls st g) → G pc ls (.int x :: st) g
def q_if_ne (own : String) (cc : ByteArray) (fr lo : Nat) (G : gJ) : Prop := ∀ (pc : Nat) (ls st : List Value) (g : gG) (x : Int32) (o : Int) (tgt : Nat), (decode cc pc = .ok (.ifCond .ne o, 3)) → ((pc : Int) + o = (tgt : Int)) → (¬ x = 0 → G tgt ls st g) → (x = 0 → G (pc + 3) ls st g) → G pc ls (.int x :: st) g
def q_if_lt (own : String) (cc : ByteArray) (fr lo : Nat) (G : gJ) : Prop := ∀ (pc : Nat) (ls st : List Value) (g : gG) (x : Int32) (o : Int) (tgt : Nat), (decode cc pc = .ok (.ifCond .lt o, 3)) → ((pc : Int) + o = (tgt : Int)) → (x < 0 → G tgt ls st g) → (¬ x < 0 → G (pc + 3) ls st g) → G pc ls (.int x :: st) g
def q_if_ge (own : String) (cc : ByteArray) (fr lo : Nat) (G : gJ) : Prop := ∀ (pc : Nat) (ls st : List Value) (g : gG) (x : Int32) (o : Int) (tgt : Nat), (decode cc pc = .ok (.ifCond .ge o, 3)) → ((pc : Int) + o = (tgt : Int)) → (0 ≤ x → G tgt ls st g) → (¬ 0 ≤ x → G (pc + 3) ls st g) → G pc ls (.int x :: st) g
def q_if_gt (own : String) (cc : ByteArray) (fr lo : Nat) (G : gJ) : Prop := ∀ (pc : Nat) (ls st : List Value) (g : gG) (x : Int32) (o : Int) (tgt : Nat), (decode cc pc = .ok (.ifCond .gt o, 3)) → ((pc : Int) + o = (tgt : Int)) → (0 < x → G tgt ls st g) → (¬ 0 < x → G (pc + 3) ls st g) → G pc ls (.int x :: st) g
def q_if_le (own : String) (cc : ByteArray) (fr lo : Nat) (G : gJ) : Prop := ∀ (pc : Nat) (ls st : List Value) (g : gG) (x : Int32) (o : Int) (tgt : Nat), (decode cc pc = .ok (.ifCond .le o, 3)) → ((pc : Int) + o = (tgt : Int)) → (x ≤ 0 → G tgt ls st g) → (¬ x ≤ 0 → G (pc + 3) ls st g) → G pc ls (.int x :: st) g
def q_icmp_eq (own : String) (cc : ByteArray) (fr lo : Nat) (G : gJ) : Prop := ∀ (pc : Nat) (ls st : List Value) (g : gG) (x : Int32) (y : Int32) (o : Int) (tgt : Nat), (decode cc pc = .ok (.if_icmp .eq o, 3)) → ((pc : Int) + o = (tgt : Int)) → (x = y → G tgt ls st g) → (¬ x = y → G (pc + 3) ls st g) → G pc ls (.int y :: .int x :: st) g
def q_icmp_ne (own : String) (cc : ByteArray) (fr lo : Nat) (G : gJ) : Prop := ∀ (pc : Nat) (ls st : List Value) (g : gG) (x : Int32) (y : Int32) (o : Int) (tgt : Nat), (decode cc pc = .ok (.if_icmp .ne o, 3)) → ((pc : Int) + o = (tgt : Int)) → (¬ x = y → G tgt ls st g) → (x = y → G (pc + 3) ls st g) → G pc ls (.int y :: .int x :: st) g
def q_icmp_lt (own : String) (cc : ByteArray) (fr lo : Nat) (G : gJ) : Prop := ∀ (pc : Nat) (ls st : List Value) (g : gG) (x : Int32) (y : Int32) (o : Int) (tgt : Nat), (decode cc pc = .ok (.if_icmp .lt o, 3)) → ((pc : Int) + o = (tgt : Int)) → (x < y → G tgt ls st g) → (¬ x < y → G (pc + 3) ls st g) → G pc ls (.int y :: .int x :: st) g
def q_icmp_ge (own : String) (cc : ByteArray) (fr lo : Nat) (G : gJ) : Prop := ∀ (pc : Nat) (ls st : List Value) (g : gG) (x : Int32) (y : Int32) (o : Int) (tgt : Nat), (decode cc pc = .ok (.if_icmp .ge o, 3)) → ((pc : Int) + o = (tgt : Int)) → (y ≤ x → G tgt ls st g) → (¬ y ≤ x → G (pc + 3) ls st g) → G pc ls (.int y :: .int x :: st) g
def q_icmp_gt (own : String) (cc : ByteArray) (fr lo : Nat) (G : gJ) : Prop := ∀ (pc : Nat) (ls st : List Value) (g : gG) (x : Int32) (y : Int32) (o : Int) (tgt : Nat), (decode cc pc = .ok (.if_icmp .gt o, 3)) → ((pc : Int) + o = (tgt : Int)) → (y < x → G tgt ls st g) → (¬ y < x → G (pc + 3) ls st g) → G pc ls (.int y :: .int x :: st) g
def q_icmp_le (own : String) (cc : ByteArray) (fr lo : Nat) (G : gJ) : Prop := ∀ (pc : Nat) (ls st : List Value) (g : gG) (x : Int32) (y : Int32) (o : Int) (tgt : Nat), (decode cc pc = .ok (.if_icmp .le o, 3)) → ((pc : Int) + o = (tgt : Int)) → (x ≤ y → G tgt ls st g) → (¬ x ≤ y → G (pc + 3) ls st g) → G pc ls (.int y :: .int x :: st) g
def q_goto (own : String) (cc : ByteArray) (fr lo : Nat) (G : gJ) : Prop := ∀ (pc : Nat) (ls st : List Value) (g : gG) (o : Int) (tgt : Nat), (decode cc pc = .ok (.goto o, 3)) → ((pc : Int) + o = (tgt : Int)) → (G tgt ls st g) → G pc ls (st) g
def q_tabOut (own : String) (cc : ByteArray) (fr lo : Nat) (G : gJ) : Prop := ∀ (pc : Nat) (ls st : List Value) (g : gG) (d : Int) (lo_ : Int) (hi_ : Int) (offs : Array Int) (len : Nat) (x : Int32) (tgt : Nat), (decode cc pc = .ok (.tableswitch d lo_ hi_ offs, len)) → (x.toInt < lo_ ∨ hi_ < x.toInt) → ((pc : Int) + d = (tgt : Int)) → (G tgt ls st g) → G pc ls (.int x :: st) g
def q_tabIn (own : String) (cc : ByteArray) (fr lo : Nat) (G : gJ) : Prop := ∀ (pc : Nat) (ls st : List Value) (g : gG) (d : Int) (lo_ : Int) (hi_ : Int) (offs : Array Int) (len : Nat) (x : Int32) (o : Int) (tgt : Nat), (decode cc pc = .ok (.tableswitch d lo_ hi_ offs, len)) → (¬ x.toInt < lo_) → (¬ hi_ < x.toInt) → (offs[(x.toInt - lo_).toNat]? = some o) → ((pc : Int) + o = (tgt : Int)) → (G tgt ls st g) → G pc ls (.int x :: st) g
def q_lookup (own : String) (cc : ByteArray) (fr lo : Nat) (G : gJ) : Prop := ∀ (pc : Nat) (ls st : List Value) (g : gG) (d : Int) (ps : Array (Int × Int)) (len : Nat) (x : Int32) (o : Int) (tgt : Nat), (decode cc pc = .ok (.lookupswitch d ps, len)) → ((ps.toList.zip (ps.toList.drop 1)).all (fun (a, next) => a.1 < next.1) = true) → (Op.lookupswitch.offset ps.toList d x.toInt = o) → ((pc : Int) + o = (tgt : Int)) → (G tgt ls st g) → G pc ls (.int x :: st) g
def q_ldc (own : String) (cc : ByteArray) (fr lo : Nat) (G : gJ) : Prop := ∀ (pc : Nat) (ls st : List Value) (g : gG) (idx : Nat) (v : Int32), (decode cc pc = .ok (.ldc idx, 2)) → (Cond.constant own idx v ∈ gw) → (G (pc + 2) ls (.int v :: st) g) → G pc ls (st) g
def q_ldc_w (own : String) (cc : ByteArray) (fr lo : Nat) (G : gJ) : Prop := ∀ (pc : Nat) (ls st : List Value) (g : gG) (idx : Nat) (v : Int32), (decode cc pc = .ok (.ldc_w idx, 3)) → (Cond.constant own idx v ∈ gw) → (G (pc + 3) ls (.int v :: st) g) → G pc ls (st) g
def q_ldc2 (own : String) (cc : ByteArray) (fr lo : Nat) (G : gJ) : Prop := ∀ (pc : Nat) (ls st : List Value) (g : gG) (idx : Nat) (v : Int64), (decode cc pc = .ok (.ldc2_w idx, 3)) → (Cond.constantLong own idx v ∈ gw) → (G (pc + 3) ls (.long v :: st) g) → G pc ls (st) g
def q_ldcS (own : String) (cc : ByteArray) (fr lo : Nat) (G : gJ) : Prop := ∀ (pc : Nat) (ls st : List Value) (g : gG), (decode cc pc = .ok (.ldc 27, 2)) → (own = RX2) → (G (pc + 2) ls (.ref 104 :: st) g) → G pc ls (st) g
def q_getI (own : String) (cc : ByteArray) (fr lo : Nat) (G : gJ) : Prop := ∀ (pc : Nat) (ls st : List Value) (g : gG) (idx : Nat) (ci : Nat) (j : Nat) (kk : Nat) (fl : List (Option Nat)), (decode cc pc = .ok (.getfield idx, 3)) → (gfld own idx ci j) → (gshL[kk]? = some (.inl (ci, fl))) → (fl[j]? = some none) → (G (pc + 3) ls (.int (g kk j) :: st) g) → G pc ls (.ref kk :: st) g
def q_getR (own : String) (cc : ByteArray) (fr lo : Nat) (G : gJ) : Prop := ∀ (pc : Nat) (ls st : List Value) (g : gG) (idx : Nat) (ci : Nat) (j : Nat) (kk : Nat) (fl : List (Option Nat)) (q : Nat), (decode cc pc = .ok (.getfield idx, 3)) → (gfld own idx ci j) → (gshL[kk]? = some (.inl (ci, fl))) → (fl[j]? = some (some q)) → (G (pc + 3) ls (.ref q :: st) g) → G pc ls (.ref kk :: st) g
def q_putI (own : String) (cc : ByteArray) (fr lo : Nat) (G : gJ) : Prop := ∀ (pc : Nat) (ls st : List Value) (g : gG) (idx : Nat) (ci : Nat) (j : Nat) (kk : Nat) (fl : List (Option Nat)) (x : Int32) (ty : FieldType), (decode cc pc = .ok (.putfield idx, 3)) → (gfldW own idx ci j ty) → (gshL[kk]? = some (.inl (ci, fl))) → (fl[j]? = some none) → (narrow ty (.int x) = .int x) → (fits ty (.int x) = true) → (G (pc + 3) ls st (gup g kk j x)) → G pc ls (.int x :: .ref kk :: st) g
def q_iaload (own : String) (cc : ByteArray) (fr lo : Nat) (G : gJ) : Prop := ∀ (pc : Nat) (ls st : List Value) (g : gG) (kk : Nat) (n : Nat) (i : Int32), (decode cc pc = .ok (.iaload, 1)) → (gshL[kk]? = some (.inr (0, n))) → (vp_in i n) → (G (pc + 1) ls (.int (g kk i.toNatClampNeg) :: st) g) → G pc ls (.int i :: .ref kk :: st) g
def q_caload (own : String) (cc : ByteArray) (fr lo : Nat) (G : gJ) : Prop := ∀ (pc : Nat) (ls st : List Value) (g : gG) (kk : Nat) (n : Nat) (i : Int32), (decode cc pc = .ok (.caload, 1)) → (gshL[kk]? = some (.inr (1, n))) → (vp_in i n) → (G (pc + 1) ls (.int (g kk i.toNatClampNeg) :: st) g) → G pc ls (.int i :: .ref kk :: st) g
def q_iastore (own : String) (cc : ByteArray) (fr lo : Nat) (G : gJ) : Prop := ∀ (pc : Nat) (ls st : List Value) (g : gG) (kk : Nat) (n : Nat) (i : Int32) (x : Int32), (decode cc pc = .ok (.iastore, 1)) → (gshL[kk]? = some (.inr (0, n))) → (vp_in i n) → (G (pc + 1) ls st (gup g kk i.toNatClampNeg x)) → G pc ls (.int x :: .int i :: .ref kk :: st) g
def q_castore (own : String) (cc : ByteArray) (fr lo : Nat) (G : gJ) : Prop := ∀ (pc : Nat) (ls st : List Value) (g : gG) (kk : Nat) (n : Nat) (i : Int32) (x : Int32), (decode cc pc = .ok (.castore, 1)) → (gshL[kk]? = some (.inr (1, n))) → (vp_in i n) → (G (pc + 1) ls st (gup g kk i.toNatClampNeg (vp_nar .char x))) → G pc ls (.int x :: .int i :: .ref kk :: st) g
def q_aaload (own : String) (cc : ByteArray) (fr lo : Nat) (G : gJ) : Prop := ∀ (pc : Nat) (ls st : List Value) (g : gG) (kk : Nat) (n : Nat) (i : Int32), (decode cc pc = .ok (.aaload, 1)) → (gshL[kk]? = some (.inr (2, n))) → (vp_in i n) → (G (pc + 1) ls (.ref (kk + 1 + i.toNatClampNeg) :: st) g) → G pc ls (.int i :: .ref kk :: st) g
def q_alen (own : String) (cc : ByteArray) (fr lo : Nat) (G : gJ) : Prop := ∀ (pc : Nat) (ls st : List Value) (g : gG) (kk : Nat) (t : Nat) (n : Nat), (decode cc pc = .ok (.arraylength, 1)) → (gshL[kk]? = some (.inr (t, n))) → (t < 3) → (n < 2147483648) → (G (pc + 1) ls (.int (nI n) :: st) g) → G pc ls (.ref kk :: st) g
def q_gets (own : String) (cc : ByteArray) (fr lo : Nat) (G : gJ) : Prop := ∀ (pc : Nat) (ls st : List Value) (g : gG) (idx : Nat) (q : Nat), (decode cc pc = .ok (.getstatic idx, 3)) → (100 ≤ q ∧ q < 104) → ((own = RX0 ∧ idx = gnx q) ∨ Cond.fieldLink own idx "ArmourOfTheShy" (gsn q) "[I" ∈ gw) → (G (pc + 3) ls (.ref q :: st) g) → G pc ls (st) g
def q_getsC (own : String) (cc : ByteArray) (fr lo : Nat) (G : gJ) : Prop := ∀ (pc : Nat) (ls st : List Value) (g : gG) (idx : Nat), (decode cc pc = .ok (.getstatic idx, 3)) → (Cond.fieldLink own idx "java/lang/String" "COMPACT_STRINGS" "Z" ∈ gw) → (G (pc + 3) ls (.int 1 :: st) g) → G pc ls (st) g
def q_tabld (own : String) (cc : ByteArray) (fr lo : Nat) (G : gJ) : Prop := ∀ (pc : Nat) (ls st : List Value) (g : gG) (q : Nat) (i : Int32), (decode cc pc = .ok (.iaload, 1)) → (100 ≤ q ∧ q < 104) → (vp_in i 6) → (G (pc + 1) ls (.int (gtab q i.toNatClampNeg) :: st) g) → G pc ls (.int i :: .ref q :: st) g
def q_strld (own : String) (cc : ByteArray) (fr lo : Nat) (G : gJ) : Prop := ∀ (pc : Nat) (ls st : List Value) (g : gG) (i : Int32), (decode cc pc = .ok (.baload, 1)) → (vp_in i 6) → (G (pc + 1) ls (.int (gtab 105 i.toNatClampNeg) :: st) g) → G pc ls (.int i :: .ref 105 :: st) g
def q_strlen (own : String) (cc : ByteArray) (fr lo : Nat) (G : gJ) : Prop := ∀ (pc : Nat) (ls st : List Value) (g : gG), (decode cc pc = .ok (.arraylength, 1)) → (G (pc + 1) ls (.int 6 :: st) g) → G pc ls (.ref 105 :: st) g
def q_strV (own : String) (cc : ByteArray) (fr lo : Nat) (G : gJ) : Prop := ∀ (pc : Nat) (ls st : List Value) (g : gG) (idx : Nat), (decode cc pc = .ok (.getfield idx, 3)) → (Cond.fieldLink own idx "java/lang/String" "value" "[B" ∈ gw) → (G (pc + 3) ls (.ref 105 :: st) g) → G pc ls (.ref 104 :: st) g
def q_strC (own : String) (cc : ByteArray) (fr lo : Nat) (G : gJ) : Prop := ∀ (pc : Nat) (ls st : List Value) (g : gG) (idx : Nat), (decode cc pc = .ok (.getfield idx, 3)) → (Cond.fieldLink own idx "java/lang/String" "coder" "B" ∈ gw) → (G (pc + 3) ls (.int 0 :: st) g) → G pc ls (.ref 104 :: st) g
def q_mmax (own : String) (cc : ByteArray) (fr lo : Nat) (G : gJ) : Prop := ∀ (pc : Nat) (ls st : List Value) (g : gG) (idx : Nat) (x : Int32) (y : Int32), (decode cc pc = .ok (.invokestatic idx, 3)) → (gmath own idx Lib.Math.max.name Lib.Math.max.code) → (1 ≤ fr ∧ (st.map fun v => v.category).sum + 13 ≤ lo) → (G (pc + 3) ls (.int (if x < y then y else x) :: st) g) → G pc ls (.int y :: .int x :: st) g
def q_mmin (own : String) (cc : ByteArray) (fr lo : Nat) (G : gJ) : Prop := ∀ (pc : Nat) (ls st : List Value) (g : gG) (idx : Nat) (x : Int32) (y : Int32), (decode cc pc = .ok (.invokestatic idx, 3)) → (gmath own idx Lib.Math.min.name Lib.Math.min.code) → (1 ≤ fr ∧ (st.map fun v => v.category).sum + 13 ≤ lo) → (G (pc + 3) ls (.int (if y < x then y else x) :: st) g) → G pc ls (.int y :: .int x :: st) g
def q_acopy (own : String) (cc : ByteArray) (fr lo : Nat) (G : gJ) : Prop := ∀ (pc : Nat) (ls st : List Value) (g : gG) (idx : Nat) (k0 : Nat) (k1 : Nat) (n0 : Nat) (n1 : Nat) (n : Int32), (decode cc pc = .ok (.invokestatic idx, 3)) → (Cond.methodLink own idx arraycopyName ∈ gw) → (gshL[k0]? = some (.inr (0, n0))) → (gshL[k1]? = some (.inr (0, n1))) → (¬ n < 0 ∧ n.toNatClampNeg ≤ n0 ∧ n.toNatClampNeg ≤ n1) → (1 ≤ fr ∧ (st.map fun v => v.category).sum + 18 ≤ lo) → (G (pc + 3) ls st (gcp g k0 k1 n.toNatClampNeg)) → G pc ls (.int n :: .int 0 :: .ref k1 :: .int 0 :: .ref k0 :: st) g
def q_callV (own : String) (cc : ByteArray) (fr lo : Nat) (G : gJ) : Prop := ∀ (pc : Nat) (ls st : List Value) (g : gG) (idx : Nat) (M : gM) (kk : Nat) (As : List Value) (st2 : List Value) (Qc : Option Value → gG → Prop), (decode cc pc = .ok (.invokevirtual idx, 3)) → (gclV own idx M As.length) → (gcls kk M.1.cls) → (As.reverse ++ .ref kk :: st = st2) → (M.2.2.2.2.1 + 1 ≤ fr ∧ 8 + (M.2.2.1 + 11) + M.2.2.2.2.2 ≤ lo ∧ (st.map fun v => v.category).sum ≤ 8) → (gC M (.ref kk :: As) g Qc) → (∀ (r : Option Value) (g1 : gG), Qc r g1 → G (pc + 3) ls (r.toList ++ st) g1) → G pc ls (st2) g
def q_callS (own : String) (cc : ByteArray) (fr lo : Nat) (G : gJ) : Prop := ∀ (pc : Nat) (ls st : List Value) (g : gG) (idx : Nat) (M : gM) (As : List Value) (st2 : List Value) (Qc : Option Value → gG → Prop), (decode cc pc = .ok (.invokestatic idx, 3)) → (gclS own idx M As.length) → (As.reverse ++ st = st2) → (M.2.2.2.2.1 + 1 ≤ fr ∧ 8 + (M.2.2.1 + 11) + M.2.2.2.2.2 ≤ lo ∧ (st.map fun v => v.category).sum ≤ 8) → (gC M As g Qc) → (∀ (r : Option Value) (g1 : gG), Qc r g1 → G (pc + 3) ls (r.toList ++ st) g1) → G pc ls (st2) g
def gR (own : String) (cc : ByteArray) (fr lo : Nat) (G : gJ) : Prop := q_iconst own cc fr lo G ∧ q_bipush own cc fr lo G ∧ q_sipush own cc fr lo G ∧ q_lconst own cc fr lo G ∧ q_iload_n own cc fr lo G ∧ q_iload own cc fr lo G ∧ q_aload_n own cc fr lo G ∧ q_aload own cc fr lo G ∧ q_lload_n own cc fr lo G ∧ q_lload own cc fr lo G ∧ q_istore_n own cc fr lo G ∧ q_istore own cc fr lo G ∧ q_astore_n own cc fr lo G ∧ q_astore own cc fr lo G ∧ q_lstore_n own cc fr lo G ∧ q_lstore own cc fr lo G ∧ q_iinc own cc fr lo G ∧ q_iadd own cc fr lo G ∧ q_isub own cc fr lo G ∧ q_imul own cc fr lo G ∧ q_iand own cc fr lo G ∧ q_ior own cc fr lo G ∧ q_ixor own cc fr lo G ∧ q_ishl own cc fr lo G ∧ q_ishr own cc fr lo G ∧ q_ineg own cc fr lo G ∧ q_idiv own cc fr lo G ∧ q_irem own cc fr lo G ∧ q_ladd own cc fr lo G ∧ q_lsub own cc fr lo G ∧ q_lmul own cc fr lo G ∧ q_ldiv own cc fr lo G ∧ q_lrem own cc fr lo G ∧ q_i2l own cc fr lo G ∧ q_i2b own cc fr lo G ∧ q_iushr own cc fr lo G ∧ q_i2c own cc fr lo G ∧ q_lcmp own cc fr lo G ∧ q_dup own cc fr lo G ∧ q_pop own cc fr lo G ∧ q_dup2 own cc fr lo G ∧ q_if_eq own cc fr lo G ∧ q_if_ne own cc fr lo G ∧ q_if_lt own cc fr lo G ∧ q_if_ge own cc fr lo G ∧ q_if_gt own cc fr lo G ∧ q_if_le own cc fr lo G ∧ q_icmp_eq own cc fr lo G ∧ q_icmp_ne own cc fr lo G ∧ q_icmp_lt own cc fr lo G ∧ q_icmp_ge own cc fr lo G ∧ q_icmp_gt own cc fr lo G ∧ q_icmp_le own cc fr lo G ∧ q_goto own cc fr lo G ∧ q_tabOut own cc fr lo G ∧ q_tabIn own cc fr lo G ∧ q_lookup own cc fr lo G ∧ q_ldc own cc fr lo G ∧ q_ldc_w own cc fr lo G ∧ q_ldc2 own cc fr lo G ∧ q_ldcS own cc fr lo G ∧ q_getI own cc fr lo G ∧ q_getR own cc fr lo G ∧ q_putI own cc fr lo G ∧ q_iaload own cc fr lo G ∧ q_caload own cc fr lo G ∧ q_iastore own cc fr lo G ∧ q_castore own cc fr lo G ∧ q_aaload own cc fr lo G ∧ q_alen own cc fr lo G ∧ q_gets own cc fr lo G ∧ q_getsC own cc fr lo G ∧ q_tabld own cc fr lo G ∧ q_strld own cc fr lo G ∧ q_strlen own cc fr lo G ∧ q_strV own cc fr lo G ∧ q_strC own cc fr lo G ∧ q_mmax own cc fr lo G ∧ q_mmin own cc fr lo G ∧ q_acopy own cc fr lo G ∧ q_callV own cc fr lo G ∧ q_callS own cc fr lo G
section GU
variable {own : String} {cc : ByteArray} {fr lo : Nat} {G : gJ}
theorem r_iconst (h : gR own cc fr lo G) {pc : Nat} {ls st : List Value} {g : gG} {n : Int} {v : Int32} (hd : decode cc pc = .ok (.iconst n, 1)) (hv : Int32.ofInt n = v) (k : G (pc + 1) ls (.int v :: st) g) : G pc ls (st) g := h.1 pc ls st g n v hd hv k
theorem r_bipush (h : gR own cc fr lo G) {pc : Nat} {ls st : List Value} {g : gG} {n : Int} {v : Int32} (hd : decode cc pc = .ok (.bipush n, 2)) (hv : (Int8.ofInt n).toInt32 = v) (k : G (pc + 2) ls (.int v :: st) g) : G pc ls (st) g := h.2.1 pc ls st g n v hd hv k
theorem r_sipush (h : gR own cc fr lo G) {pc : Nat} {ls st : List Value} {g : gG} {n : Int} {v : Int32} (hd : decode cc pc = .ok (.sipush n, 3)) (hv : (Int16.ofInt n).toInt32 = v) (k : G (pc + 3) ls (.int v :: st) g) : G pc ls (st) g := h.2.2.1 pc ls st g n v hd hv k
theorem r_lconst (h : gR own cc fr lo G) {pc : Nat} {ls st : List Value} {g : gG} {n : Fin 2} {v : Int64} (hd : decode cc pc = .ok (.lconst n, 1)) (hv : Int64.ofNat (n : Nat) = v) (k : G (pc + 1) ls (.long v :: st) g) : G pc ls (st) g := h.2.2.2.1 pc ls st g n v hd hv k
theorem r_iload_n (h : gR own cc fr lo G) {pc : Nat} {ls st : List Value} {g : gG} {i : Fin 4} {x : Int32} (hd : decode cc pc = .ok (.iload_n i, 1)) (hi : ls[(i : Nat)]? = some (.int x)) (k : G (pc + 1) ls (.int x :: st) g) : G pc ls (st) g := h.2.2.2.2.1 pc ls st g i x hd hi k
theorem r_iload (h : gR own cc fr lo G) {pc : Nat} {ls st : List Value} {g : gG} {i : Nat} {x : Int32} (hd : decode cc pc = .ok (.iload i, 2)) (hi : ls[i]? = some (.int x)) (k : G (pc + 2) ls (.int x :: st) g) : G pc ls (st) g := h.2.2.2.2.2.1 pc ls st g i x hd hi k
theorem r_aload_n (h : gR own cc fr lo G) {pc : Nat} {ls st : List Value} {g : gG} {i : Fin 4} {x : Nat} (hd : decode cc pc = .ok (.aload_n i, 1)) (hi : ls[(i : Nat)]? = some (.ref x)) (k : G (pc + 1) ls (.ref x :: st) g) : G pc ls (st) g := h.2.2.2.2.2.2.1 pc ls st g i x hd hi k
theorem r_aload (h : gR own cc fr lo G) {pc : Nat} {ls st : List Value} {g : gG} {i : Nat} {x : Nat} (hd : decode cc pc = .ok (.aload i, 2)) (hi : ls[i]? = some (.ref x)) (k : G (pc + 2) ls (.ref x :: st) g) : G pc ls (st) g := h.2.2.2.2.2.2.2.1 pc ls st g i x hd hi k
theorem r_lload_n (h : gR own cc fr lo G) {pc : Nat} {ls st : List Value} {g : gG} {i : Fin 4} {x : Int64} (hd : decode cc pc = .ok (.lload_n i, 1)) (hi : ls[(i : Nat)]? = some (.long x)) (k : G (pc + 1) ls (.long x :: st) g) : G pc ls (st) g := h.2.2.2.2.2.2.2.2.1 pc ls st g i x hd hi k
theorem r_lload (h : gR own cc fr lo G) {pc : Nat} {ls st : List Value} {g : gG} {i : Nat} {x : Int64} (hd : decode cc pc = .ok (.lload i, 2)) (hi : ls[i]? = some (.long x)) (k : G (pc + 2) ls (.long x :: st) g) : G pc ls (st) g := h.2.2.2.2.2.2.2.2.2.1 pc ls st g i x hd hi k
theorem r_istore_n (h : gR own cc fr lo G) {pc : Nat} {ls st : List Value} {g : gG} {i : Fin 4} {x : Int32} {ls2 : List Value} (hd : decode cc pc = .ok (.istore_n i, 1)) (hi : (i : Nat) < ls.length) (hs : gst1 ls (i : Nat) (.int x) = ls2) (k : G (pc + 1) ls2 st g) : G pc ls (.int x :: st) g := h.2.2.2.2.2.2.2.2.2.2.1 pc ls st g i x ls2 hd hi hs k
theorem r_istore (h : gR own cc fr lo G) {pc : Nat} {ls st : List Value} {g : gG} {i : Nat} {x : Int32} {ls2 : List Value} (hd : decode cc pc = .ok (.istore i, 2)) (hi : i < ls.length) (hs : gst1 ls i (.int x) = ls2) (k : G (pc + 2) ls2 st g) : G pc ls (.int x :: st) g := h.2.2.2.2.2.2.2.2.2.2.2.1 pc ls st g i x ls2 hd hi hs k
theorem r_astore_n (h : gR own cc fr lo G) {pc : Nat} {ls st : List Value} {g : gG} {i : Fin 4} {x : Nat} {ls2 : List Value} (hd : decode cc pc = .ok (.astore_n i, 1)) (hi : (i : Nat) < ls.length) (hs : gst1 ls (i : Nat) (.ref x) = ls2) (k : G (pc + 1) ls2 st g) : G pc ls (.ref x :: st) g := h.2.2.2.2.2.2.2.2.2.2.2.2.1 pc ls st g i x ls2 hd hi hs k
theorem r_astore (h : gR own cc fr lo G) {pc : Nat} {ls st : List Value} {g : gG} {i : Nat} {x : Nat} {ls2 : List Value} (hd : decode cc pc = .ok (.astore i, 2)) (hi : i < ls.length) (hs : gst1 ls i (.ref x) = ls2) (k : G (pc + 2) ls2 st g) : G pc ls (.ref x :: st) g := h.2.2.2.2.2.2.2.2.2.2.2.2.2.1 pc ls st g i x ls2 hd hi hs k
theorem r_lstore_n (h : gR own cc fr lo G) {pc : Nat} {ls st : List Value} {g : gG} {i : Fin 4} {x : Int64} {ls2 : List Value} (hd : decode cc pc = .ok (.lstore_n i, 1)) (hi : (i : Nat) + 1 < ls.length) (hs : gst2 ls (i : Nat) (.long x) = ls2) (k : G (pc + 1) ls2 st g) : G pc ls (.long x :: st) g := h.2.2.2.2.2.2.2.2.2.2.2.2.2.2.1 pc ls st g i x ls2 hd hi hs k
theorem r_lstore (h : gR own cc fr lo G) {pc : Nat} {ls st : List Value} {g : gG} {i : Nat} {x : Int64} {ls2 : List Value} (hd : decode cc pc = .ok (.lstore i, 2)) (hi : i + 1 < ls.length) (hs : gst2 ls i (.long x) = ls2) (k : G (pc + 2) ls2 st g) : G pc ls (.long x :: st) g := h.2.2.2.2.2.2.2.2.2.2.2.2.2.2.2.1 pc ls st g i x ls2 hd hi hs k
theorem r_iinc (h : gR own cc fr lo G) {pc : Nat} {ls st : List Value} {g : gG} {i : Nat} {n : Int} {x : Int32} {y : Int32} {ls2 : List Value} (hd : decode cc pc = .ok (.iinc i n, 3)) (hi : ls[i]? = some (.int x)) (hv : x + Int32.ofInt n = y) (hs : gst1 ls i (.int y) = ls2) (k : G (pc + 3) ls2 st g) : G pc ls (st) g := h.2.2.2.2.2.2.2.2.2.2.2.2.2.2.2.2.1 pc ls st g i n x y ls2 hd hi hv hs k
theorem r_iadd (h : gR own cc fr lo G) {pc : Nat} {ls st : List Value} {g : gG} {x : Int32} {y : Int32} (hd : decode cc pc = .ok (.iadd, 1)) (k : G (pc + 1) ls (.int (x + y) :: st) g) : G pc ls (.int y :: .int x :: st) g := h.2.2.2.2.2.2.2.2.2.2.2.2.2.2.2.2.2.1 pc ls st g x y hd k
theorem r_isub (h : gR own cc fr lo G) {pc : Nat} {ls st : List Value} {g : gG} {x : Int32} {y : Int32} (hd : decode cc pc = .ok (.isub, 1)) (k : G (pc + 1) ls (.int (x - y) :: st) g) : G pc ls (.int y :: .int x :: st) g := h.2.2.2.2.2.2.2.2.2.2.2.2.2.2.2.2.2.2.1 pc ls st g x y hd k
theorem r_imul (h : gR own cc fr lo G) {pc : Nat} {ls st : List Value} {g : gG} {x : Int32} {y : Int32} (hd : decode cc pc = .ok (.imul, 1)) (k : G (pc + 1) ls (.int (x * y) :: st) g) : G pc ls (.int y :: .int x :: st) g := h.2.2.2.2.2.2.2.2.2.2.2.2.2.2.2.2.2.2.2.1 pc ls st g x y hd k
theorem r_iand (h : gR own cc fr lo G) {pc : Nat} {ls st : List Value} {g : gG} {x : Int32} {y : Int32} (hd : decode cc pc = .ok (.iand, 1)) (k : G (pc + 1) ls (.int (x &&& y) :: st) g) : G pc ls (.int y :: .int x :: st) g := h.2.2.2.2.2.2.2.2.2.2.2.2.2.2.2.2.2.2.2.2.1 pc ls st g x y hd k
theorem r_ior (h : gR own cc fr lo G) {pc : Nat} {ls st : List Value} {g : gG} {x : Int32} {y : Int32} (hd : decode cc pc = .ok (.ior, 1)) (k : G (pc + 1) ls (.int (x ||| y) :: st) g) : G pc ls (.int y :: .int x :: st) g := h.2.2.2.2.2.2.2.2.2.2.2.2.2.2.2.2.2.2.2.2.2.1 pc ls st g x y hd k
theorem r_ixor (h : gR own cc fr lo G) {pc : Nat} {ls st : List Value} {g : gG} {x : Int32} {y : Int32} (hd : decode cc pc = .ok (.ixor, 1)) (k : G (pc + 1) ls (.int (x ^^^ y) :: st) g) : G pc ls (.int y :: .int x :: st) g := h.2.2.2.2.2.2.2.2.2.2.2.2.2.2.2.2.2.2.2.2.2.2.1 pc ls st g x y hd k
theorem r_ishl (h : gR own cc fr lo G) {pc : Nat} {ls st : List Value} {g : gG} {x : Int32} {y : Int32} (hd : decode cc pc = .ok (.ishl, 1)) (k : G (pc + 1) ls (.int (x <<< (y &&& 31)) :: st) g) : G pc ls (.int y :: .int x :: st) g := h.2.2.2.2.2.2.2.2.2.2.2.2.2.2.2.2.2.2.2.2.2.2.2.1 pc ls st g x y hd k
theorem r_ishr (h : gR own cc fr lo G) {pc : Nat} {ls st : List Value} {g : gG} {x : Int32} {y : Int32} (hd : decode cc pc = .ok (.ishr, 1)) (k : G (pc + 1) ls (.int (x >>> (y &&& 31)) :: st) g) : G pc ls (.int y :: .int x :: st) g := h.2.2.2.2.2.2.2.2.2.2.2.2.2.2.2.2.2.2.2.2.2.2.2.2.1 pc ls st g x y hd k
theorem r_ineg (h : gR own cc fr lo G) {pc : Nat} {ls st : List Value} {g : gG} {x : Int32} (hd : decode cc pc = .ok (.ineg, 1)) (k : G (pc + 1) ls (.int (-x) :: st) g) : G pc ls (.int x :: st) g := h.2.2.2.2.2.2.2.2.2.2.2.2.2.2.2.2.2.2.2.2.2.2.2.2.2.1 pc ls st g x hd k
theorem r_idiv (h : gR own cc fr lo G) {pc : Nat} {ls st : List Value} {g : gG} {x : Int32} {y : Int32} (hd : decode cc pc = .ok (.idiv, 1)) (hy : ¬ y = 0) (k : G (pc + 1) ls (.int (x / y) :: st) g) : G pc ls (.int y :: .int x :: st) g := h.2.2.2.2.2.2.2.2.2.2.2.2.2.2.2.2.2.2.2.2.2.2.2.2.2.2.1 pc ls st g x y hd hy k
theorem r_irem (h : gR own cc fr lo G) {pc : Nat} {ls st : List Value} {g : gG} {x : Int32} {y : Int32} (hd : decode cc pc = .ok (.irem, 1)) (hy : ¬ y = 0) (k : G (pc + 1) ls (.int (x - x / y * y) :: st) g) : G pc ls (.int y :: .int x :: st) g := h.2.2.2.2.2.2.2.2.2.2.2.2.2.2.2.2.2.2.2.2.2.2.2.2.2.2.2.1 pc ls st g x y hd hy k
theorem r_ladd (h : gR own cc fr lo G) {pc : Nat} {ls st : List Value} {g : gG} {x : Int64} {y : Int64} (hd : decode cc pc = .ok (.ladd, 1)) (k : G (pc + 1) ls (.long (x + y) :: st) g) : G pc ls (.long y :: .long x :: st) g := h.2.2.2.2.2.2.2.2.2.2.2.2.2.2.2.2.2.2.2.2.2.2.2.2.2.2.2.2.1 pc ls st g x y hd k
theorem r_lsub (h : gR own cc fr lo G) {pc : Nat} {ls st : List Value} {g : gG} {x : Int64} {y : Int64} (hd : decode cc pc = .ok (.lsub, 1)) (k : G (pc + 1) ls (.long (x - y) :: st) g) : G pc ls (.long y :: .long x :: st) g := h.2.2.2.2.2.2.2.2.2.2.2.2.2.2.2.2.2.2.2.2.2.2.2.2.2.2.2.2.2.1 pc ls st g x y hd k
theorem r_lmul (h : gR own cc fr lo G) {pc : Nat} {ls st : List Value} {g : gG} {x : Int64} {y : Int64} (hd : decode cc pc = .ok (.lmul, 1)) (k : G (pc + 1) ls (.long (x * y) :: st) g) : G pc ls (.long y :: .long x :: st) g := h.2.2.2.2.2.2.2.2.2.2.2.2.2.2.2.2.2.2.2.2.2.2.2.2.2.2.2.2.2.2.1 pc ls st g x y hd k
theorem r_ldiv (h : gR own cc fr lo G) {pc : Nat} {ls st : List Value} {g : gG} {x : Int64} {y : Int64} (hd : decode cc pc = .ok (.ldiv, 1)) (hy : ¬ y = 0) (k : G (pc + 1) ls (.long (x / y) :: st) g) : G pc ls (.long y :: .long x :: st) g := h.2.2.2.2.2.2.2.2.2.2.2.2.2.2.2.2.2.2.2.2.2.2.2.2.2.2.2.2.2.2.2.1 pc ls st g x y hd hy k
theorem r_lrem (h : gR own cc fr lo G) {pc : Nat} {ls st : List Value} {g : gG} {x : Int64} {y : Int64} (hd : decode cc pc = .ok (.lrem, 1)) (hy : ¬ y = 0) (k : G (pc + 1) ls (.long (x - x / y * y) :: st) g) : G pc ls (.long y :: .long x :: st) g := h.2.2.2.2.2.2.2.2.2.2.2.2.2.2.2.2.2.2.2.2.2.2.2.2.2.2.2.2.2.2.2.2.1 pc ls st g x y hd hy k
theorem r_i2l (h : gR own cc fr lo G) {pc : Nat} {ls st : List Value} {g : gG} {x : Int32} (hd : decode cc pc = .ok (.i2l, 1)) (k : G (pc + 1) ls (.long x.toInt64 :: st) g) : G pc ls (.int x :: st) g := h.2.2.2.2.2.2.2.2.2.2.2.2.2.2.2.2.2.2.2.2.2.2.2.2.2.2.2.2.2.2.2.2.2.1 pc ls st g x hd k
theorem r_i2b (h : gR own cc fr lo G) {pc : Nat} {ls st : List Value} {g : gG} {x : Int32} (hd : decode cc pc = .ok (.i2b, 1)) (k : G (pc + 1) ls (.int x.toInt8.toInt32 :: st) g) : G pc ls (.int x :: st) g := h.2.2.2.2.2.2.2.2.2.2.2.2.2.2.2.2.2.2.2.2.2.2.2.2.2.2.2.2.2.2.2.2.2.2.1 pc ls st g x hd k
theorem r_iushr (h : gR own cc fr lo G) {pc : Nat} {ls st : List Value} {g : gG} {x : Int32} {y : Int32} (hd : decode cc pc = .ok (.iushr, 1)) (k : G (pc + 1) ls (.int (x.toUInt32 >>> (y.toUInt32 &&& Int32.toUInt32 31)).toInt32 :: st) g) : G pc ls (.int y :: .int x :: st) g := h.2.2.2.2.2.2.2.2.2.2.2.2.2.2.2.2.2.2.2.2.2.2.2.2.2.2.2.2.2.2.2.2.2.2.2.1 pc ls st g x y hd k
theorem r_i2c (h : gR own cc fr lo G) {pc : Nat} {ls st : List Value} {g : gG} {x : Int32} (hd : decode cc pc = .ok (.i2c, 1)) (k : G (pc + 1) ls (.int (x.toUInt32 % 65536).toInt32 :: st) g) : G pc ls (.int x :: st) g := h.2.2.2.2.2.2.2.2.2.2.2.2.2.2.2.2.2.2.2.2.2.2.2.2.2.2.2.2.2.2.2.2.2.2.2.2.1 pc ls st g x hd k
theorem r_lcmp (h : gR own cc fr lo G) {pc : Nat} {ls st : List Value} {g : gG} {x : Int64} {y : Int64} (hd : decode cc pc = .ok (.lcmp, 1)) (k : G (pc + 1) ls (.int (lg_cmp x y) :: st) g) : G pc ls (.long y :: .long x :: st) g := h.2.2.2.2.2.2.2.2.2.2.2.2.2.2.2.2.2.2.2.2.2.2.2.2.2.2.2.2.2.2.2.2.2.2.2.2.2.1 pc ls st g x y hd k
theorem r_dup (h : gR own cc fr lo G) {pc : Nat} {ls st : List Value} {g : gG} {v : Value} (hd : decode cc pc = .ok (.dup, 1)) (hv : v.category = 1) (k : G (pc + 1) ls (v :: v :: st) g) : G pc ls (v :: st) g := h.2.2.2.2.2.2.2.2.2.2.2.2.2.2.2.2.2.2.2.2.2.2.2.2.2.2.2.2.2.2.2.2.2.2.2.2.2.2.1 pc ls st g v hd hv k
theorem r_pop (h : gR own cc fr lo G) {pc : Nat} {ls st : List Value} {g : gG} {v : Value} (hd : decode cc pc = .ok (.pop, 1)) (hv : v.category = 1) (k : G (pc + 1) ls (st) g) : G pc ls (v :: st) g := h.2.2.2.2.2.2.2.2.2.2.2.2.2.2.2.2.2.2.2.2.2.2.2.2.2.2.2.2.2.2.2.2.2.2.2.2.2.2.2.1 pc ls st g v hd hv k
theorem r_dup2 (h : gR own cc fr lo G) {pc : Nat} {ls st : List Value} {g : gG} {v : Value} {w : Value} (hd : decode cc pc = .ok (.dup2, 1)) (hv : v.category = 1) (hw : w.category = 1) (k : G (pc + 1) ls (v :: w :: v :: w :: st) g) : G pc ls (v :: w :: st) g := h.2.2.2.2.2.2.2.2.2.2.2.2.2.2.2.2.2.2.2.2.2.2.2.2.2.2.2.2.2.2.2.2.2.2.2.2.2.2.2.2.1 pc ls st g v w hd hv hw k
theorem r_if_eq (h : gR own cc fr lo G) {pc : Nat} {ls st : List Value} {g : gG} {x : Int32} {o : Int} {tgt : Nat} (hd : decode cc pc = .ok (.ifCond .eq o, 3)) (ht : (pc : Int) + o = (tgt : Int)) (kt : x = 0 → G tgt ls st g) (kf : ¬ x = 0 → G (pc + 3) ls st g) : G pc ls (.int x :: st) g := h.2.2.2.2.2.2.2.2.2.2.2.2.2.2.2.2.2.2.2.2.2.2.2.2.2.2.2.2.2.2.2.2.2.2.2.2.2.2.2.2.2.1 pc ls st g x o tgt hd ht kt kf
theorem r_if_ne (h : gR own cc fr lo G) {pc : Nat} {ls st : List Value} {g : gG} {x : Int32} {o : Int} {tgt : Nat} (hd : decode cc pc = .ok (.ifCond .ne o, 3)) (ht : (pc : Int) + o = (tgt : Int)) (kt : ¬ x = 0 → G tgt ls st g) (kf : x = 0 → G (pc + 3) ls st g) : G pc ls (.int x :: st) g := h.2.2.2.2.2.2.2.2.2.2.2.2.2.2.2.2.2.2.2.2.2.2.2.2.2.2.2.2.2.2.2.2.2.2.2.2.2.2.2.2.2.2.1 pc ls st g x o tgt hd ht kt kf
theorem r_if_lt (h : gR own cc fr lo G) {pc : Nat} {ls st : List Value} {g : gG} {x : Int32} {o : Int} {tgt : Nat} (hd : decode cc pc = .ok (.ifCond .lt o, 3)) (ht : (pc : Int) + o = (tgt : Int)) (kt : x < 0 → G tgt ls st g) (kf : ¬ x < 0 → G (pc + 3) ls st g) : G pc ls (.int x :: st) g := h.2.2.2.2.2.2.2.2.2.2.2.2.2.2.2.2.2.2.2.2.2.2.2.2.2.2.2.2.2.2.2.2.2.2.2.2.2.2.2.2.2.2.2.1 pc ls st g x o tgt hd ht kt kf
theorem r_if_ge (h : gR own cc fr lo G) {pc : Nat} {ls st : List Value} {g : gG} {x : Int32} {o : Int} {tgt : Nat} (hd : decode cc pc = .ok (.ifCond .ge o, 3)) (ht : (pc : Int) + o = (tgt : Int)) (kt : 0 ≤ x → G tgt ls st g) (kf : ¬ 0 ≤ x → G (pc + 3) ls st g) : G pc ls (.int x :: st) g := h.2.2.2.2.2.2.2.2.2.2.2.2.2.2.2.2.2.2.2.2.2.2.2.2.2.2.2.2.2.2.2.2.2.2.2.2.2.2.2.2.2.2.2.2.1 pc ls st g x o tgt hd ht kt kf
theorem r_if_gt (h : gR own cc fr lo G) {pc : Nat} {ls st : List Value} {g : gG} {x : Int32} {o : Int} {tgt : Nat} (hd : decode cc pc = .ok (.ifCond .gt o, 3)) (ht : (pc : Int) + o = (tgt : Int)) (kt : 0 < x → G tgt ls st g) (kf : ¬ 0 < x → G (pc + 3) ls st g) : G pc ls (.int x :: st) g := h.2.2.2.2.2.2.2.2.2.2.2.2.2.2.2.2.2.2.2.2.2.2.2.2.2.2.2.2.2.2.2.2.2.2.2.2.2.2.2.2.2.2.2.2.2.1 pc ls st g x o tgt hd ht kt kf
theorem r_if_le (h : gR own cc fr lo G) {pc : Nat} {ls st : List Value} {g : gG} {x : Int32} {o : Int} {tgt : Nat} (hd : decode cc pc = .ok (.ifCond .le o, 3)) (ht : (pc : Int) + o = (tgt : Int)) (kt : x ≤ 0 → G tgt ls st g) (kf : ¬ x ≤ 0 → G (pc + 3) ls st g) : G pc ls (.int x :: st) g := h.2.2.2.2.2.2.2.2.2.2.2.2.2.2.2.2.2.2.2.2.2.2.2.2.2.2.2.2.2.2.2.2.2.2.2.2.2.2.2.2.2.2.2.2.2.2.1 pc ls st g x o tgt hd ht kt kf
theorem r_icmp_eq (h : gR own cc fr lo G) {pc : Nat} {ls st : List Value} {g : gG} {x : Int32} {y : Int32} {o : Int} {tgt : Nat} (hd : decode cc pc = .ok (.if_icmp .eq o, 3)) (ht : (pc : Int) + o = (tgt : Int)) (kt : x = y → G tgt ls st g) (kf : ¬ x = y → G (pc + 3) ls st g) : G pc ls (.int y :: .int x :: st) g := h.2.2.2.2.2.2.2.2.2.2.2.2.2.2.2.2.2.2.2.2.2.2.2.2.2.2.2.2.2.2.2.2.2.2.2.2.2.2.2.2.2.2.2.2.2.2.2.1 pc ls st g x y o tgt hd ht kt kf
theorem r_icmp_ne (h : gR own cc fr lo G) {pc : Nat} {ls st : List Value} {g : gG} {x : Int32} {y : Int32} {o : Int} {tgt : Nat} (hd : decode cc pc = .ok (.if_icmp .ne o, 3)) (ht : (pc : Int) + o = (tgt : Int)) (kt : ¬ x = y → G tgt ls st g) (kf : x = y → G (pc + 3) ls st g) : G pc ls (.int y :: .int x :: st) g := h.2.2.2.2.2.2.2.2.2.2.2.2.2.2.2.2.2.2.2.2.2.2.2.2.2.2.2.2.2.2.2.2.2.2.2.2.2.2.2.2.2.2.2.2.2.2.2.2.1 pc ls st g x y o tgt hd ht kt kf
theorem r_icmp_lt (h : gR own cc fr lo G) {pc : Nat} {ls st : List Value} {g : gG} {x : Int32} {y : Int32} {o : Int} {tgt : Nat} (hd : decode cc pc = .ok (.if_icmp .lt o, 3)) (ht : (pc : Int) + o = (tgt : Int)) (kt : x < y → G tgt ls st g) (kf : ¬ x < y → G (pc + 3) ls st g) : G pc ls (.int y :: .int x :: st) g := h.2.2.2.2.2.2.2.2.2.2.2.2.2.2.2.2.2.2.2.2.2.2.2.2.2.2.2.2.2.2.2.2.2.2.2.2.2.2.2.2.2.2.2.2.2.2.2.2.2.1 pc ls st g x y o tgt hd ht kt kf
theorem r_icmp_ge (h : gR own cc fr lo G) {pc : Nat} {ls st : List Value} {g : gG} {x : Int32} {y : Int32} {o : Int} {tgt : Nat} (hd : decode cc pc = .ok (.if_icmp .ge o, 3)) (ht : (pc : Int) + o = (tgt : Int)) (kt : y ≤ x → G tgt ls st g) (kf : ¬ y ≤ x → G (pc + 3) ls st g) : G pc ls (.int y :: .int x :: st) g := h.2.2.2.2.2.2.2.2.2.2.2.2.2.2.2.2.2.2.2.2.2.2.2.2.2.2.2.2.2.2.2.2.2.2.2.2.2.2.2.2.2.2.2.2.2.2.2.2.2.2.1 pc ls st g x y o tgt hd ht kt kf
theorem r_icmp_gt (h : gR own cc fr lo G) {pc : Nat} {ls st : List Value} {g : gG} {x : Int32} {y : Int32} {o : Int} {tgt : Nat} (hd : decode cc pc = .ok (.if_icmp .gt o, 3)) (ht : (pc : Int) + o = (tgt : Int)) (kt : y < x → G tgt ls st g) (kf : ¬ y < x → G (pc + 3) ls st g) : G pc ls (.int y :: .int x :: st) g := h.2.2.2.2.2.2.2.2.2.2.2.2.2.2.2.2.2.2.2.2.2.2.2.2.2.2.2.2.2.2.2.2.2.2.2.2.2.2.2.2.2.2.2.2.2.2.2.2.2.2.2.1 pc ls st g x y o tgt hd ht kt kf
theorem r_icmp_le (h : gR own cc fr lo G) {pc : Nat} {ls st : List Value} {g : gG} {x : Int32} {y : Int32} {o : Int} {tgt : Nat} (hd : decode cc pc = .ok (.if_icmp .le o, 3)) (ht : (pc : Int) + o = (tgt : Int)) (kt : x ≤ y → G tgt ls st g) (kf : ¬ x ≤ y → G (pc + 3) ls st g) : G pc ls (.int y :: .int x :: st) g := h.2.2.2.2.2.2.2.2.2.2.2.2.2.2.2.2.2.2.2.2.2.2.2.2.2.2.2.2.2.2.2.2.2.2.2.2.2.2.2.2.2.2.2.2.2.2.2.2.2.2.2.2.1 pc ls st g x y o tgt hd ht kt kf
theorem r_goto (h : gR own cc fr lo G) {pc : Nat} {ls st : List Value} {g : gG} {o : Int} {tgt : Nat} (hd : decode cc pc = .ok (.goto o, 3)) (ht : (pc : Int) + o = (tgt : Int)) (k : G tgt ls st g) : G pc ls (st) g := h.2.2.2.2.2.2.2.2.2.2.2.2.2.2.2.2.2.2.2.2.2.2.2.2.2.2.2.2.2.2.2.2.2.2.2.2.2.2.2.2.2.2.2.2.2.2.2.2.2.2.2.2.2.1 pc ls st g o tgt hd ht k
theorem r_tabOut (h : gR own cc fr lo G) {pc : Nat} {ls st : List Value} {g : gG} {d : Int} {lo_ : Int} {hi_ : Int} {offs : Array Int} {len : Nat} {x : Int32} {tgt : Nat} (hd : decode cc pc = .ok (.tableswitch d lo_ hi_ offs, len)) (hx : x.toInt < lo_ ∨ hi_ < x.toInt) (ht : (pc : Int) + d = (tgt : Int)) (k : G tgt ls st g) : G pc ls (.int x :: st) g := h.2.2.2.2.2.2.2.2.2.2.2.2.2.2.2.2.2.2.2.2.2.2.2.2.2.2.2.2.2.2.2.2.2.2.2.2.2.2.2.2.2.2.2.2.2.2.2.2.2.2.2.2.2.2.1 pc ls st g d lo_ hi_ offs len x tgt hd hx ht k
theorem r_tabIn (h : gR own cc fr lo G) {pc : Nat} {ls st : List Value} {g : gG} {d : Int} {lo_ : Int} {hi_ : Int} {offs : Array Int} {len : Nat} {x : Int32} {o : Int} {tgt : Nat} (hd : decode cc pc = .ok (.tableswitch d lo_ hi_ offs, len)) (h1 : ¬ x.toInt < lo_) (h2 : ¬ hi_ < x.toInt) (ho : offs[(x.toInt - lo_).toNat]? = some o) (ht : (pc : Int) + o = (tgt : Int)) (k : G tgt ls st g) : G pc ls (.int x :: st) g := h.2.2.2.2.2.2.2.2.2.2.2.2.2.2.2.2.2.2.2.2.2.2.2.2.2.2.2.2.2.2.2.2.2.2.2.2.2.2.2.2.2.2.2.2.2.2.2.2.2.2.2.2.2.2.2.1 pc ls st g d lo_ hi_ offs len x o tgt hd h1 h2 ho ht k
theorem r_lookup (h : gR own cc fr lo G) {pc : Nat} {ls st : List Value} {g : gG} {d : Int} {ps : Array (Int × Int)} {len : Nat} {x : Int32} {o : Int} {tgt : Nat} (hd : decode cc pc = .ok (.lookupswitch d ps, len)) (hp : (ps.toList.zip (ps.toList.drop 1)).all (fun (a, next) => a.1 < next.1) = true) (ho : Op.lookupswitch.offset ps.toList d x.toInt = o) (ht : (pc : Int) + o = (tgt : Int)) (k : G tgt ls st g) : G pc ls (.int x :: st) g := h.2.2.2.2.2.2.2.2.2.2.2.2.2.2.2.2.2.2.2.2.2.2.2.2.2.2.2.2.2.2.2.2.2.2.2.2.2.2.2.2.2.2.2.2.2.2.2.2.2.2.2.2.2.2.2.2.1 pc ls st g d ps len x o tgt hd hp ho ht k
theorem r_ldc (h : gR own cc fr lo G) {pc : Nat} {ls st : List Value} {g : gG} {idx : Nat} {v : Int32} (hd : decode cc pc = .ok (.ldc idx, 2)) (hc : Cond.constant own idx v ∈ gw) (k : G (pc + 2) ls (.int v :: st) g) : G pc ls (st) g := h.2.2.2.2.2.2.2.2.2.2.2.2.2.2.2.2.2.2.2.2.2.2.2.2.2.2.2.2.2.2.2.2.2.2.2.2.2.2.2.2.2.2.2.2.2.2.2.2.2.2.2.2.2.2.2.2.2.1 pc ls st g idx v hd hc k
theorem r_ldc_w (h : gR own cc fr lo G) {pc : Nat} {ls st : List Value} {g : gG} {idx : Nat} {v : Int32} (hd : decode cc pc = .ok (.ldc_w idx, 3)) (hc : Cond.constant own idx v ∈ gw) (k : G (pc + 3) ls (.int v :: st) g) : G pc ls (st) g := h.2.2.2.2.2.2.2.2.2.2.2.2.2.2.2.2.2.2.2.2.2.2.2.2.2.2.2.2.2.2.2.2.2.2.2.2.2.2.2.2.2.2.2.2.2.2.2.2.2.2.2.2.2.2.2.2.2.2.1 pc ls st g idx v hd hc k
theorem r_ldc2 (h : gR own cc fr lo G) {pc : Nat} {ls st : List Value} {g : gG} {idx : Nat} {v : Int64} (hd : decode cc pc = .ok (.ldc2_w idx, 3)) (hc : Cond.constantLong own idx v ∈ gw) (k : G (pc + 3) ls (.long v :: st) g) : G pc ls (st) g := h.2.2.2.2.2.2.2.2.2.2.2.2.2.2.2.2.2.2.2.2.2.2.2.2.2.2.2.2.2.2.2.2.2.2.2.2.2.2.2.2.2.2.2.2.2.2.2.2.2.2.2.2.2.2.2.2.2.2.2.1 pc ls st g idx v hd hc k
theorem r_ldcS (h : gR own cc fr lo G) {pc : Nat} {ls st : List Value} {g : gG} (hd : decode cc pc = .ok (.ldc 27, 2)) (ho : own = RX2) (k : G (pc + 2) ls (.ref 104 :: st) g) : G pc ls (st) g := h.2.2.2.2.2.2.2.2.2.2.2.2.2.2.2.2.2.2.2.2.2.2.2.2.2.2.2.2.2.2.2.2.2.2.2.2.2.2.2.2.2.2.2.2.2.2.2.2.2.2.2.2.2.2.2.2.2.2.2.2.1 pc ls st g  hd ho k
theorem r_getI (h : gR own cc fr lo G) {pc : Nat} {ls st : List Value} {g : gG} {idx : Nat} {ci : Nat} {j : Nat} {kk : Nat} {fl : List (Option Nat)} (hd : decode cc pc = .ok (.getfield idx, 3)) (hf : gfld own idx ci j) (hk : gshL[kk]? = some (.inl (ci, fl))) (hj : fl[j]? = some none) (k : G (pc + 3) ls (.int (g kk j) :: st) g) : G pc ls (.ref kk :: st) g := h.2.2.2.2.2.2.2.2.2.2.2.2.2.2.2.2.2.2.2.2.2.2.2.2.2.2.2.2.2.2.2.2.2.2.2.2.2.2.2.2.2.2.2.2.2.2.2.2.2.2.2.2.2.2.2.2.2.2.2.2.2.1 pc ls st g idx ci j kk fl hd hf hk hj k
theorem r_getR (h : gR own cc fr lo G) {pc : Nat} {ls st : List Value} {g : gG} {idx : Nat} {ci : Nat} {j : Nat} {kk : Nat} {fl : List (Option Nat)} {q : Nat} (hd : decode cc pc = .ok (.getfield idx, 3)) (hf : gfld own idx ci j) (hk : gshL[kk]? = some (.inl (ci, fl))) (hj : fl[j]? = some (some q)) (k : G (pc + 3) ls (.ref q :: st) g) : G pc ls (.ref kk :: st) g := h.2.2.2.2.2.2.2.2.2.2.2.2.2.2.2.2.2.2.2.2.2.2.2.2.2.2.2.2.2.2.2.2.2.2.2.2.2.2.2.2.2.2.2.2.2.2.2.2.2.2.2.2.2.2.2.2.2.2.2.2.2.2.1 pc ls st g idx ci j kk fl q hd hf hk hj k
theorem r_putI (h : gR own cc fr lo G) {pc : Nat} {ls st : List Value} {g : gG} {idx : Nat} {ci : Nat} {j : Nat} {kk : Nat} {fl : List (Option Nat)} {x : Int32} {ty : FieldType} (hd : decode cc pc = .ok (.putfield idx, 3)) (hf : gfldW own idx ci j ty) (hk : gshL[kk]? = some (.inl (ci, fl))) (hj : fl[j]? = some none) (hn : narrow ty (.int x) = .int x) (hfit : fits ty (.int x) = true) (k : G (pc + 3) ls st (gup g kk j x)) : G pc ls (.int x :: .ref kk :: st) g := h.2.2.2.2.2.2.2.2.2.2.2.2.2.2.2.2.2.2.2.2.2.2.2.2.2.2.2.2.2.2.2.2.2.2.2.2.2.2.2.2.2.2.2.2.2.2.2.2.2.2.2.2.2.2.2.2.2.2.2.2.2.2.2.1 pc ls st g idx ci j kk fl x ty hd hf hk hj hn hfit k
theorem r_iaload (h : gR own cc fr lo G) {pc : Nat} {ls st : List Value} {g : gG} {kk : Nat} {n : Nat} {i : Int32} (hd : decode cc pc = .ok (.iaload, 1)) (hk : gshL[kk]? = some (.inr (0, n))) (hi : vp_in i n) (k : G (pc + 1) ls (.int (g kk i.toNatClampNeg) :: st) g) : G pc ls (.int i :: .ref kk :: st) g := h.2.2.2.2.2.2.2.2.2.2.2.2.2.2.2.2.2.2.2.2.2.2.2.2.2.2.2.2.2.2.2.2.2.2.2.2.2.2.2.2.2.2.2.2.2.2.2.2.2.2.2.2.2.2.2.2.2.2.2.2.2.2.2.2.1 pc ls st g kk n i hd hk hi k
theorem r_caload (h : gR own cc fr lo G) {pc : Nat} {ls st : List Value} {g : gG} {kk : Nat} {n : Nat} {i : Int32} (hd : decode cc pc = .ok (.caload, 1)) (hk : gshL[kk]? = some (.inr (1, n))) (hi : vp_in i n) (k : G (pc + 1) ls (.int (g kk i.toNatClampNeg) :: st) g) : G pc ls (.int i :: .ref kk :: st) g := h.2.2.2.2.2.2.2.2.2.2.2.2.2.2.2.2.2.2.2.2.2.2.2.2.2.2.2.2.2.2.2.2.2.2.2.2.2.2.2.2.2.2.2.2.2.2.2.2.2.2.2.2.2.2.2.2.2.2.2.2.2.2.2.2.2.1 pc ls st g kk n i hd hk hi k
theorem r_iastore (h : gR own cc fr lo G) {pc : Nat} {ls st : List Value} {g : gG} {kk : Nat} {n : Nat} {i : Int32} {x : Int32} (hd : decode cc pc = .ok (.iastore, 1)) (hk : gshL[kk]? = some (.inr (0, n))) (hi : vp_in i n) (k : G (pc + 1) ls st (gup g kk i.toNatClampNeg x)) : G pc ls (.int x :: .int i :: .ref kk :: st) g := h.2.2.2.2.2.2.2.2.2.2.2.2.2.2.2.2.2.2.2.2.2.2.2.2.2.2.2.2.2.2.2.2.2.2.2.2.2.2.2.2.2.2.2.2.2.2.2.2.2.2.2.2.2.2.2.2.2.2.2.2.2.2.2.2.2.2.1 pc ls st g kk n i x hd hk hi k
theorem r_castore (h : gR own cc fr lo G) {pc : Nat} {ls st : List Value} {g : gG} {kk : Nat} {n : Nat} {i : Int32} {x : Int32} (hd : decode cc pc = .ok (.castore, 1)) (hk : gshL[kk]? = some (.inr (1, n))) (hi : vp_in i n) (k : G (pc + 1) ls st (gup g kk i.toNatClampNeg (vp_nar .char x))) : G pc ls (.int x :: .int i :: .ref kk :: st) g := h.2.2.2.2.2.2.2.2.2.2.2.2.2.2.2.2.2.2.2.2.2.2.2.2.2.2.2.2.2.2.2.2.2.2.2.2.2.2.2.2.2.2.2.2.2.2.2.2.2.2.2.2.2.2.2.2.2.2.2.2.2.2.2.2.2.2.2.1 pc ls st g kk n i x hd hk hi k
theorem r_aaload (h : gR own cc fr lo G) {pc : Nat} {ls st : List Value} {g : gG} {kk : Nat} {n : Nat} {i : Int32} (hd : decode cc pc = .ok (.aaload, 1)) (hk : gshL[kk]? = some (.inr (2, n))) (hi : vp_in i n) (k : G (pc + 1) ls (.ref (kk + 1 + i.toNatClampNeg) :: st) g) : G pc ls (.int i :: .ref kk :: st) g := h.2.2.2.2.2.2.2.2.2.2.2.2.2.2.2.2.2.2.2.2.2.2.2.2.2.2.2.2.2.2.2.2.2.2.2.2.2.2.2.2.2.2.2.2.2.2.2.2.2.2.2.2.2.2.2.2.2.2.2.2.2.2.2.2.2.2.2.2.1 pc ls st g kk n i hd hk hi k
theorem r_alen (h : gR own cc fr lo G) {pc : Nat} {ls st : List Value} {g : gG} {kk : Nat} {t : Nat} {n : Nat} (hd : decode cc pc = .ok (.arraylength, 1)) (hk : gshL[kk]? = some (.inr (t, n))) (ht : t < 3) (hn : n < 2147483648) (k : G (pc + 1) ls (.int (nI n) :: st) g) : G pc ls (.ref kk :: st) g := h.2.2.2.2.2.2.2.2.2.2.2.2.2.2.2.2.2.2.2.2.2.2.2.2.2.2.2.2.2.2.2.2.2.2.2.2.2.2.2.2.2.2.2.2.2.2.2.2.2.2.2.2.2.2.2.2.2.2.2.2.2.2.2.2.2.2.2.2.2.1 pc ls st g kk t n hd hk ht hn k
theorem r_gets (h : gR own cc fr lo G) {pc : Nat} {ls st : List Value} {g : gG} {idx : Nat} {q : Nat} (hd : decode cc pc = .ok (.getstatic idx, 3)) (hq : 100 ≤ q ∧ q < 104) (hf : (own = RX0 ∧ idx = gnx q) ∨ Cond.fieldLink own idx "ArmourOfTheShy" (gsn q) "[I" ∈ gw) (k : G (pc + 3) ls (.ref q :: st) g) : G pc ls (st) g := h.2.2.2.2.2.2.2.2.2.2.2.2.2.2.2.2.2.2.2.2.2.2.2.2.2.2.2.2.2.2.2.2.2.2.2.2.2.2.2.2.2.2.2.2.2.2.2.2.2.2.2.2.2.2.2.2.2.2.2.2.2.2.2.2.2.2.2.2.2.2.1 pc ls st g idx q hd hq hf k
theorem r_getsC (h : gR own cc fr lo G) {pc : Nat} {ls st : List Value} {g : gG} {idx : Nat} (hd : decode cc pc = .ok (.getstatic idx, 3)) (hf : Cond.fieldLink own idx "java/lang/String" "COMPACT_STRINGS" "Z" ∈ gw) (k : G (pc + 3) ls (.int 1 :: st) g) : G pc ls (st) g := h.2.2.2.2.2.2.2.2.2.2.2.2.2.2.2.2.2.2.2.2.2.2.2.2.2.2.2.2.2.2.2.2.2.2.2.2.2.2.2.2.2.2.2.2.2.2.2.2.2.2.2.2.2.2.2.2.2.2.2.2.2.2.2.2.2.2.2.2.2.2.2.1 pc ls st g idx hd hf k
theorem r_tabld (h : gR own cc fr lo G) {pc : Nat} {ls st : List Value} {g : gG} {q : Nat} {i : Int32} (hd : decode cc pc = .ok (.iaload, 1)) (hq : 100 ≤ q ∧ q < 104) (hi : vp_in i 6) (k : G (pc + 1) ls (.int (gtab q i.toNatClampNeg) :: st) g) : G pc ls (.int i :: .ref q :: st) g := h.2.2.2.2.2.2.2.2.2.2.2.2.2.2.2.2.2.2.2.2.2.2.2.2.2.2.2.2.2.2.2.2.2.2.2.2.2.2.2.2.2.2.2.2.2.2.2.2.2.2.2.2.2.2.2.2.2.2.2.2.2.2.2.2.2.2.2.2.2.2.2.2.1 pc ls st g q i hd hq hi k
theorem r_strld (h : gR own cc fr lo G) {pc : Nat} {ls st : List Value} {g : gG} {i : Int32} (hd : decode cc pc = .ok (.baload, 1)) (hi : vp_in i 6) (k : G (pc + 1) ls (.int (gtab 105 i.toNatClampNeg) :: st) g) : G pc ls (.int i :: .ref 105 :: st) g := h.2.2.2.2.2.2.2.2.2.2.2.2.2.2.2.2.2.2.2.2.2.2.2.2.2.2.2.2.2.2.2.2.2.2.2.2.2.2.2.2.2.2.2.2.2.2.2.2.2.2.2.2.2.2.2.2.2.2.2.2.2.2.2.2.2.2.2.2.2.2.2.2.2.1 pc ls st g i hd hi k
theorem r_strlen (h : gR own cc fr lo G) {pc : Nat} {ls st : List Value} {g : gG} (hd : decode cc pc = .ok (.arraylength, 1)) (k : G (pc + 1) ls (.int 6 :: st) g) : G pc ls (.ref 105 :: st) g := h.2.2.2.2.2.2.2.2.2.2.2.2.2.2.2.2.2.2.2.2.2.2.2.2.2.2.2.2.2.2.2.2.2.2.2.2.2.2.2.2.2.2.2.2.2.2.2.2.2.2.2.2.2.2.2.2.2.2.2.2.2.2.2.2.2.2.2.2.2.2.2.2.2.2.1 pc ls st g  hd k
theorem r_strV (h : gR own cc fr lo G) {pc : Nat} {ls st : List Value} {g : gG} {idx : Nat} (hd : decode cc pc = .ok (.getfield idx, 3)) (hf : Cond.fieldLink own idx "java/lang/String" "value" "[B" ∈ gw) (k : G (pc + 3) ls (.ref 105 :: st) g) : G pc ls (.ref 104 :: st) g := h.2.2.2.2.2.2.2.2.2.2.2.2.2.2.2.2.2.2.2.2.2.2.2.2.2.2.2.2.2.2.2.2.2.2.2.2.2.2.2.2.2.2.2.2.2.2.2.2.2.2.2.2.2.2.2.2.2.2.2.2.2.2.2.2.2.2.2.2.2.2.2.2.2.2.2.1 pc ls st g idx hd hf k
theorem r_strC (h : gR own cc fr lo G) {pc : Nat} {ls st : List Value} {g : gG} {idx : Nat} (hd : decode cc pc = .ok (.getfield idx, 3)) (hf : Cond.fieldLink own idx "java/lang/String" "coder" "B" ∈ gw) (k : G (pc + 3) ls (.int 0 :: st) g) : G pc ls (.ref 104 :: st) g := h.2.2.2.2.2.2.2.2.2.2.2.2.2.2.2.2.2.2.2.2.2.2.2.2.2.2.2.2.2.2.2.2.2.2.2.2.2.2.2.2.2.2.2.2.2.2.2.2.2.2.2.2.2.2.2.2.2.2.2.2.2.2.2.2.2.2.2.2.2.2.2.2.2.2.2.2.1 pc ls st g idx hd hf k
theorem r_mmax (h : gR own cc fr lo G) {pc : Nat} {ls st : List Value} {g : gG} {idx : Nat} {x : Int32} {y : Int32} (hd : decode cc pc = .ok (.invokestatic idx, 3)) (hf : gmath own idx Lib.Math.max.name Lib.Math.max.code) (hr : 1 ≤ fr ∧ (st.map fun v => v.category).sum + 13 ≤ lo) (k : G (pc + 3) ls (.int (if x < y then y else x) :: st) g) : G pc ls (.int y :: .int x :: st) g := h.2.2.2.2.2.2.2.2.2.2.2.2.2.2.2.2.2.2.2.2.2.2.2.2.2.2.2.2.2.2.2.2.2.2.2.2.2.2.2.2.2.2.2.2.2.2.2.2.2.2.2.2.2.2.2.2.2.2.2.2.2.2.2.2.2.2.2.2.2.2.2.2.2.2.2.2.2.1 pc ls st g idx x y hd hf hr k
theorem r_mmin (h : gR own cc fr lo G) {pc : Nat} {ls st : List Value} {g : gG} {idx : Nat} {x : Int32} {y : Int32} (hd : decode cc pc = .ok (.invokestatic idx, 3)) (hf : gmath own idx Lib.Math.min.name Lib.Math.min.code) (hr : 1 ≤ fr ∧ (st.map fun v => v.category).sum + 13 ≤ lo) (k : G (pc + 3) ls (.int (if y < x then y else x) :: st) g) : G pc ls (.int y :: .int x :: st) g := h.2.2.2.2.2.2.2.2.2.2.2.2.2.2.2.2.2.2.2.2.2.2.2.2.2.2.2.2.2.2.2.2.2.2.2.2.2.2.2.2.2.2.2.2.2.2.2.2.2.2.2.2.2.2.2.2.2.2.2.2.2.2.2.2.2.2.2.2.2.2.2.2.2.2.2.2.2.2.1 pc ls st g idx x y hd hf hr k
theorem r_acopy (h : gR own cc fr lo G) {pc : Nat} {ls st : List Value} {g : gG} {idx : Nat} {k0 : Nat} {k1 : Nat} {n0 : Nat} {n1 : Nat} {n : Int32} (hd : decode cc pc = .ok (.invokestatic idx, 3)) (hf : Cond.methodLink own idx arraycopyName ∈ gw) (hk0 : gshL[k0]? = some (.inr (0, n0))) (hk1 : gshL[k1]? = some (.inr (0, n1))) (hn : ¬ n < 0 ∧ n.toNatClampNeg ≤ n0 ∧ n.toNatClampNeg ≤ n1) (hr : 1 ≤ fr ∧ (st.map fun v => v.category).sum + 18 ≤ lo) (k : G (pc + 3) ls st (gcp g k0 k1 n.toNatClampNeg)) : G pc ls (.int n :: .int 0 :: .ref k1 :: .int 0 :: .ref k0 :: st) g := h.2.2.2.2.2.2.2.2.2.2.2.2.2.2.2.2.2.2.2.2.2.2.2.2.2.2.2.2.2.2.2.2.2.2.2.2.2.2.2.2.2.2.2.2.2.2.2.2.2.2.2.2.2.2.2.2.2.2.2.2.2.2.2.2.2.2.2.2.2.2.2.2.2.2.2.2.2.2.2.1 pc ls st g idx k0 k1 n0 n1 n hd hf hk0 hk1 hn hr k
theorem r_callV (h : gR own cc fr lo G) {pc : Nat} {ls st : List Value} {g : gG} {idx : Nat} {M : gM} {kk : Nat} {As : List Value} {st2 : List Value} {Qc : Option Value → gG → Prop} (hd : decode cc pc = .ok (.invokevirtual idx, 3)) (hM : gclV own idx M As.length) (hk : gcls kk M.1.cls) (hs : As.reverse ++ .ref kk :: st = st2) (hr : M.2.2.2.2.1 + 1 ≤ fr ∧ 8 + (M.2.2.1 + 11) + M.2.2.2.2.2 ≤ lo ∧ (st.map fun v => v.category).sum ≤ 8) (hc : gC M (.ref kk :: As) g Qc) (k : ∀ (r : Option Value) (g1 : gG), Qc r g1 → G (pc + 3) ls (r.toList ++ st) g1) : G pc ls (st2) g := h.2.2.2.2.2.2.2.2.2.2.2.2.2.2.2.2.2.2.2.2.2.2.2.2.2.2.2.2.2.2.2.2.2.2.2.2.2.2.2.2.2.2.2.2.2.2.2.2.2.2.2.2.2.2.2.2.2.2.2.2.2.2.2.2.2.2.2.2.2.2.2.2.2.2.2.2.2.2.2.2.1 pc ls st g idx M kk As st2 Qc hd hM hk hs hr hc k
theorem r_callS (h : gR own cc fr lo G) {pc : Nat} {ls st : List Value} {g : gG} {idx : Nat} {M : gM} {As : List Value} {st2 : List Value} {Qc : Option Value → gG → Prop} (hd : decode cc pc = .ok (.invokestatic idx, 3)) (hM : gclS own idx M As.length) (hs : As.reverse ++ st = st2) (hr : M.2.2.2.2.1 + 1 ≤ fr ∧ 8 + (M.2.2.1 + 11) + M.2.2.2.2.2 ≤ lo ∧ (st.map fun v => v.category).sum ≤ 8) (hc : gC M As g Qc) (k : ∀ (r : Option Value) (g1 : gG), Qc r g1 → G (pc + 3) ls (r.toList ++ st) g1) : G pc ls (st2) g := h.2.2.2.2.2.2.2.2.2.2.2.2.2.2.2.2.2.2.2.2.2.2.2.2.2.2.2.2.2.2.2.2.2.2.2.2.2.2.2.2.2.2.2.2.2.2.2.2.2.2.2.2.2.2.2.2.2.2.2.2.2.2.2.2.2.2.2.2.2.2.2.2.2.2.2.2.2.2.2.2.2 pc ls st g idx M As st2 Qc hd hM hs hr hc k
end GU
theorem gup_ne {g : gG} {k j a : Nat} {x : Int32} (h : a ≠ k) : gup g k j x a = g a := by
  funext b
  unfold gup
  rw [if_neg (fun q => h q.1)]
theorem gup_row (g : gG) (k j : Nat) (x : Int32) : gup g k j x k = upd (g k) j x := by
  funext b
  unfold gup upd
  by_cases h : b = j <;> simp [h]
theorem gce_upd {ad : Nat → Nat} {cA : Nat → ClassId} {g : gG} {k n j : Nat} {x : Int32} (t : Nat) (ht : t ≠ 2) : gce ad cA (gup g k j x) k (.inr (t, n)) = .inl (cA t, n, .inl (upd (g k) j x)) := by
  unfold gce
  dsimp only
  rw [if_neg ht, gup_row]
/-- the rows of vwCl's fields are among the words -/
theorem gin {ci : Nat} {r : vw_C} (h : vwCl[ci]? = some r) : ∀ w ∈ u_ws r.1 r.2.1 r.2.2, w ∈ gw := by
  match ci, h with
  | 0, h => cases h; exact gin0
  | 1, h => cases h; exact gin1
  | 2, h => cases h; exact gin2
  | 3, h => cases h; exact gin3
  | 4, h => cases h; exact gin4
  | k + 5, h => simp [vwCl] at h
def gcx (own : String) (cc : ByteArray) (n : Nat) (p : Program) (s : State) (m : MethodId) (args : Array Value) (c : Code) (D : va_G) (cA : Nat → ClassId) (ad : Nat → Nat) : Prop :=
  p.tables.exec = Jvm.exec ∧ c.code = cc ∧ c.maxLocals = n ∧ s.vm.findClass own = some m.cls ∧ (∀ w ∈ gw, w.before args s = true) ∧ va_K D vwCl (gtys cA) s ∧ ginj ad ∧ gRO ad s s.heap
def gvw (n : Nat) (p : Program) (l : Launch) (e : Env) (R : Room) (s : State) (m : MethodId) (args : Array Value) (below : List Frame) (meth : Method) (c : Code) (D : va_G) (cA : Nat → ClassId) (ad : Nat → Nat) (cells slots : Nat) (Qf : State → Prop) : gJ := fun pc ls st g => ∀ (H : Heap) (locs : List Loc) (la : Array Slot), va_P D vwCl (gws ad cA g) H → va_S (gA ad) s.heap H locs → glo ad n ls la → W p l e R s m args below meth c H locs cells slots Qf (F0 m pc la (st.map (gtv ad)))
section GV1
variable {p : Program} {l : Launch} {e : Env} {R : Room} {s : State} {m : MethodId} {args : Array Value} {below : List Frame} {meth : Method} {c : Code} {D : va_G} {cA : Nat → ClassId} {ad : Nat → Nat} {cells slots nL : Nat} {Qf : State → Prop} {own : String} {cc : ByteArray} {fr lo : Nat} {H : Heap} {locs : List Loc} {la : Array Slot} {pc : Nat} {st : List Value} {g : gG}
theorem s_get (h : gcx own cc nL p s m args c D cA ad) {idx ci j kk : Nat} {fl : List (Option Nat)} {o : Option Nat} {v : Value} (hd : decode cc pc = .ok (.getfield idx, 3)) (hf : gfld own idx ci j) (hk : gshL[kk]? = some (.inl (ci, fl))) (hj : fl[j]? = some o) (hv : gfo ad g kk j o = v) (hP : va_P D vwCl (gws ad cA g) H)
    (k : W p l e R s m args below meth c H locs cells slots Qf (F0 m (pc + 3) la (v :: st.map (gtv ad)))) : W p l e R s m args below meth c H locs cells slots Qf (F0 m pc la (.ref (ad kk) :: st.map (gtv ad))) := by
  obtain ⟨⟨C, T, N⟩, h1, h2, h3⟩ := hf
  refine va_get h.1 h.2.1 h.2.2.2.2.1 (gin h1) h.2.2.2.1 h.2.2.2.2.2.1 hP kk (gws_at hk) h1 j h2 (h.2.2.2.2.1 _ h3) (fun _ q => q) ?_ hd k
  rw [List.getElem?_mapIdx, hj, ← hv]
  rfl
theorem s_put (h : gcx own cc nL p s m args c D cA ad) {idx ci j kk : Nat} {fl : List (Option Nat)} {x : Int32} {ty : FieldType} (hd : decode cc pc = .ok (.putfield idx, 3)) (hf : gfldW own idx ci j ty) (hk : gshL[kk]? = some (.inl (ci, fl))) (hj : fl[j]? = some none) (hn : narrow ty (.int x) = .int x) (hfit : fits ty (.int x) = true) (hP : va_P D vwCl (gws ad cA g) H) (hS : va_S (gA ad) s.heap H locs)
    (k : ∀ (H1 : Heap) (locs1 : List Loc), va_P D vwCl (gws ad cA (gup g kk j x)) H1 → va_S (gA ad) s.heap H1 locs1 → W p l e R s m args below meth c H1 locs1 cells slots Qf (F0 m (pc + 3) la (st.map (gtv ad)))) : W p l e R s m args below meth c H locs cells slots Qf (F0 m pc la (.int x :: .ref (ad kk) :: st.map (gtv ad))) := by
  obtain ⟨⟨C, T, N⟩, h1, h2, h3, h4, h5⟩ := hf
  have hty : ∃ ty0 : Nat → FieldType, (∀ k, k < N → parseFieldDescriptor (T k).2.2.1 = some (ty0 k)) ∧ ∀ a, a < N → ∀ b, b < N → a ≠ b → (T a).2.1 ≠ (T b).2.1 := gtyok h1
  obtain ⟨ty0, t1, t2⟩ := hty
  refine va_put h.1 h.2.1 h.2.2.2.2.1 (gin h1) ty0 t1 t2 h.2.2.2.1 h.2.2.2.2.2.1 hP (gD h.2.2.2.2.2.2.1) hS kk (gws_at hk) h1 j h2 (h.2.2.2.2.1 _ h3) (fun _ q => q) h4 h5 hn hfit ?_ hd (fun H1 locs1 hP1 _ hS1 => k H1 locs1 ?_ hS1)
  · rw [List.length_mapIdx]
    exact (List.getElem?_eq_some_iff.mp hj).1
  · rw [gws_set (g' := gup g kk j x) hk ?_ (fun a ha => gup_ne ha)] at hP1
    · exact hP1
    · unfold gce
      dsimp only
      congr 2
      apply List.ext_getElem?
      intro i
      rw [List.getElem?_set, List.getElem?_mapIdx, List.getElem?_mapIdx, List.length_mapIdx]
      by_cases hi : j = i
      · subst hi
        rw [if_pos rfl, if_pos (List.getElem?_eq_some_iff.mp hj).1, hj]
        simp [gfo, gup]
      · rw [if_neg hi]
        cases fl[i]? with
        | none => rfl
        | some o => cases o <;> simp [gfo, gup, Ne.symm hi]
theorem s_aald (h : gcx own cc nL p s m args c D cA ad) {kk n : Nat} {i : Int32} (hd : decode cc pc = .ok (.aaload, 1)) (hk : gshL[kk]? = some (.inr (2, n))) (hi : vp_in i n) (hP : va_P D vwCl (gws ad cA g) H)
    (k : W p l e R s m args below meth c H locs cells slots Qf (F0 m (pc + 1) la (.ref (ad (kk + 1 + i.toNatClampNeg)) :: st.map (gtv ad)))) : W p l e R s m args below meth c H locs cells slots Qf (F0 m pc la (.int i :: .ref (ad kk) :: st.map (gtv ad))) := by
  have hlt : i.toNatClampNeg < n := Nat.not_le.mp fun q => hi (Or.inr q)
  have hc : H[ad kk]? = some (arrV (cA 2) n (fun j => va_rf (if j < n then some (ad (kk + 1 + j)) else none))) := hP kk _ (gws_at hk)
  refine W.aald (v := .ref (ad (kk + 1 + i.toNatClampNeg))) (ty := .array .int) h.1 h.2.1 hc ((h.2.2.2.2.2.1.2 2 _ rfl).1 n _) rfl (fun q => by cases q) (by rw [arrV_size]; exact hi) ?_ rfl rfl hd k
  rw [arrV_read _ _ hlt, if_pos hlt]
  rfl
theorem s_alen (h : gcx own cc nL p s m args c D cA ad) {kk t n : Nat} (hd : decode cc pc = .ok (.arraylength, 1)) (hk : gshL[kk]? = some (.inr (t, n))) (ht : t < 3) (hn : n < 2147483648) (hP : va_P D vwCl (gws ad cA g) H)
    (k : W p l e R s m args below meth c H locs cells slots Qf (F0 m (pc + 1) la (.int (nI n) :: st.map (gtv ad)))) : W p l e R s m args below meth c H locs cells slots Qf (F0 m pc la (.ref (ad kk) :: st.map (gtv ad))) := by
  match t, ht, hk with
  | 0, _, hk => exact va_alen h.1 h.2.1 h.2.2.2.2.2.1 hP kk 0 (gws_at hk) rfl rfl hd k
  | 1, _, hk => exact va_alen h.1 h.2.1 h.2.2.2.2.2.1 hP kk 1 (gws_at hk) rfl rfl hd k
  | 2, _, hk => exact va_alen h.1 h.2.1 h.2.2.2.2.2.1 hP kk 2 (gws_at hk) rfl rfl hd k
theorem s_gets (h : gcx own cc nL p s m args c D cA ad) {idx q : Nat} (hd : decode cc pc = .ok (.getstatic idx, 3)) (hq : 100 ≤ q ∧ q < 104) (hf : (own = RX0 ∧ idx = gnx q) ∨ Cond.fieldLink own idx "ArmourOfTheShy" (gsn q) "[I" ∈ gw) (hS : va_S (gA ad) s.heap H locs)
    (k : W p l e R s m args below meth c H locs cells slots Qf (F0 m (pc + 3) la (.ref (ad q) :: st.map (gtv ad)))) : W p l e R s m args below meth c H locs cells slots Qf (F0 m pc la (st.map (gtv ad))) := by
  obtain ⟨hZ, -, hN⟩ := h.2.2.2.2.2.2.2.1 q hq.1 hq.2
  rcases hf with ⟨rfl, rfl⟩ | hf
  · exact va_getsN h.1 h.2.1 hZ hS h.2.2.2.1 (va_Nw.use rfl hN) (fun _ q => q) hd k
  · exact va_gets h.1 h.2.1 hZ hS h.2.2.2.1 (h.2.2.2.2.1 _ hf) (fun _ q => q) hd k
theorem s_tabld (h : gcx own cc nL p s m args c D cA ad) {q : Nat} {i : Int32} (hd : decode cc pc = .ok (.iaload, 1)) (hq : 100 ≤ q ∧ q < 104) (hi : vp_in i 6) (hS : va_S (gA ad) s.heap H locs)
    (k : W p l e R s m args below meth c H locs cells slots Qf (F0 m (pc + 1) la (.int (gtab q i.toNatClampNeg) :: st.map (gtv ad)))) : W p l e R s m args below meth c H locs cells slots Qf (F0 m pc la (.int i :: .ref (ad q) :: st.map (gtv ad))) := by
  obtain ⟨-, hT, -⟩ := h.2.2.2.2.2.2.2.1 q hq.1 hq.2
  obtain ⟨cell, h1, h2, h3, h4, h5, h6, h7⟩ := hT.kept hS.2.1
  have hlt : i.toNatClampNeg < 6 := Nat.not_le.mp fun q => hi (Or.inr q)
  exact W.iald (v := .int (gtab q i.toNatClampNeg)) h.1 h.2.1 h1 h2 h3 (fun z => z.elim (fun a => hi (Or.inl a)) (fun a => absurd (Nat.le_trans h4 a) (by omega))) (h6 _ hlt) rfl rfl hd k
theorem s_strld (h : gcx own cc nL p s m args c D cA ad) {i : Int32} (hd : decode cc pc = .ok (.baload, 1)) (hi : vp_in i 6) (hS : va_S (gA ad) s.heap H locs)
    (k : W p l e R s m args below meth c H locs cells slots Qf (F0 m (pc + 1) la (.int (gtab 105 i.toNatClampNeg) :: st.map (gtv ad)))) : W p l e R s m args below meth c H locs cells slots Qf (F0 m pc la (.int i :: .ref (ad 105) :: st.map (gtv ad))) := by
  obtain ⟨cell, h1, h2, h3, h4, h5, h6, h7⟩ := h.2.2.2.2.2.2.2.2.2.2.2.2.1.kept hS.2.1
  have hlt : i.toNatClampNeg < 6 := Nat.not_le.mp fun q => hi (Or.inr q)
  exact W.bald (v := .int (gtab 105 i.toNatClampNeg)) h.1 h.2.1 h1 h2 h3 (fun z => z.elim (fun a => hi (Or.inl a)) (fun a => absurd (Nat.le_trans h4 a) (by omega))) (h6 _ hlt) rfl rfl hd k
theorem s_strlen (h : gcx own cc nL p s m args c D cA ad) (hd : decode cc pc = .ok (.arraylength, 1)) (hS : va_S (gA ad) s.heap H locs)
    (k : W p l e R s m args below meth c H locs cells slots Qf (F0 m (pc + 1) la (.int 6 :: st.map (gtv ad)))) : W p l e R s m args below meth c H locs cells slots Qf (F0 m pc la (.ref (ad 105) :: st.map (gtv ad))) := by
  obtain ⟨cell, h1, h2, h3, h4, h5, h6, h7⟩ := h.2.2.2.2.2.2.2.2.2.2.2.2.1.kept hS.2.1
  exact W.alen (n := 6) h.1 h.2.1 h1 h2 h5 rfl rfl hd k
theorem s_acopy (h : gcx own cc nL p s m args c D cA ad) (hR : fr ≤ R.frames ∧ lo ≤ R.locals ∧ cells ≤ R.cells ∧ slots ≤ R.slots) {idx k0 k1 n0 n1 : Nat} {n : Int32} (hd : decode cc pc = .ok (.invokestatic idx, 3)) (hf : Cond.methodLink own idx arraycopyName ∈ gw) (hk0 : gshL[k0]? = some (.inr (0, n0))) (hk1 : gshL[k1]? = some (.inr (0, n1))) (hn : ¬ n < 0 ∧ n.toNatClampNeg ≤ n0 ∧ n.toNatClampNeg ≤ n1) (hr : 1 ≤ fr ∧ (st.map fun v => v.category).sum + 18 ≤ lo) (hl : la.size = nL) (hP : va_P D vwCl (gws ad cA g) H) (hS : va_S (gA ad) s.heap H locs)
    (k : ∀ (H1 : Heap) (locs1 : List Loc), va_P D vwCl (gws ad cA (gcp g k0 k1 n.toNatClampNeg)) H1 → va_S (gA ad) s.heap H1 locs1 → W p l e R s m args below meth c H1 locs1 cells slots Qf (F0 m (pc + 3) la (st.map (gtv ad)))) : W p l e R s m args below meth c H locs cells slots Qf (F0 m pc la (.int n :: .int 0 :: .ref (ad k1) :: .int 0 :: .ref (ad k0) :: st.map (gtv ad))) := by
  have z0 : (0 : Int32).toNatClampNeg = 0 := by decide
  refine va_copyi h.1 h.2.1 (by rw [h.2.2.1, hl]) h.2.2.2.1 (h.2.2.2.2.1 _ hf) (h.2.2.2.2.1 _ gw_acn) (h.2.2.2.2.1 _ gw_acs) (h.2.2.2.2.1 _ gw_sys) h.2.2.2.2.2.1 hP (gD h.2.2.2.2.2.2.1) hS k0 k1 0 0 (gws_at hk0) (gws_at hk1) rfl rfl rfl (by decide) (by decide) hn.1 (by rw [z0, Nat.zero_add]; exact hn.2.1) (by rw [z0, Nat.zero_add]; exact hn.2.2) (fun i _ => rfl) (Nat.le_trans hr.1 hR.1) ?_ hd (fun H1 locs1 hP1 _ hS1 => k H1 locs1 ?_ hS1)
  · rw [gtv_cats]
    exact Nat.le_trans hr.2 hR.2.1
  · rw [gws_set (g' := gcp g k0 k1 n.toNatClampNeg) hk1 ?_ (fun a ha => ?_)] at hP1
    · exact hP1
    · have e : gcp g k0 k1 n.toNatClampNeg k1 = va_cpy (g k0) (g k1) 0 0 n.toNatClampNeg := by
        funext b
        unfold gcp va_cpy
        simp
      rw [z0, ← e]
      rfl
    · funext b
      unfold gcp
      rw [if_neg (fun q => ha q.1)]
theorem gpre_to (h : gcx own cc nL p s m args c D cA ad) (hP : va_P D vwCl (gws ad cA g) H) (hS : va_S (gA ad) s.heap H locs) {U : State} (hU : U.heap = H) (hW : s.WarmedH U.vm) : gPre D cA ad g U := by
  refine ⟨by rw [hU]; exact hP, va_K.moved hW.alike h.2.2.2.2.2.1, h.2.2.2.2.2.2.1, ?_⟩
  rw [hU]
  exact (h.2.2.2.2.2.2.2.kept hS.2.1).warm hW
theorem gcl_B (h : gcx own cc nL p s m args c D cA ad) {idx n : Nat} {M : gM} (hM : gcl own idx M n) (hr : M.2.2.2.2.1 + 1 ≤ R.frames ∧ 8 + (M.2.2.1 + 11) + M.2.2.2.2.2 ≤ R.locals) : CallB R s args own idx M.1 M.2.1 M.2.2.1 M.2.2.2.1 (.code M.1 M.2.1 M.2.2.1 M.2.2.2.1 :: gw) (groom M.2.2.2.2.1 M.2.2.2.2.2) 0 0 n := by
  obtain ⟨h1, h2, h3, h4⟩ := hM
  refine callB_of n h.2.2.2.2.1 (fun w hw => ?_) rfl rfl rfl (h.2.2.2.2.1 _ h3) (h.2.2.2.2.1 _ h1) h4 hr
  rcases List.mem_cons.mp hw with rfl | hw
  · exact ⟨h2, gw_good h2⟩
  · exact ⟨hw, gw_good hw⟩
theorem s_run {y : JFrame} {rest : List Value} {Qa : State → Outcome → State → Prop} {Q : Option Value → gG → Prop} (hrun : va_Run p l e R s m args below meth c H locs cells slots 0 0 (F0 m pc la (rest)) (st.map (gtv ad)) Qa (gA ad)) (hQ : ∀ st0 o t, Qa st0 o t → gQc D cA ad Q #[] st0 o t) (hS : va_S (gA ad) s.heap H locs)
    (k : ∀ (r : Option Value) (g1 : gG), Q r g1 → ∀ (H1 : Heap) (locs1 : List Loc), va_P D vwCl (gws ad cA g1) H1 → va_S (gA ad) s.heap H1 locs1 → W p l e R s m args below meth c H1 locs1 cells slots Qf (F0 m (pc + 3) la ((r.toList ++ st).map (gtv ad)))) : W p l e R s m args below meth c H locs cells slots Qf (F0 m pc la rest) := by
  intro T hT X
  obtain ⟨v, st₀, t, T', L, h0, X', hL, e1, e2, hq, go⟩ := hrun T hT X
  obtain ⟨⟨r, g1, hr, hq1, hP1⟩, hF⟩ := hQ _ _ _ hq
  have hv : v = r.map (gtv ad) := by cases hr; rfl
  have hS1 : va_S (gA ad) s.heap t.heap (locs ++ L) := by
    refine ⟨Nat.le_trans hS.1 (by rw [← h0]; exact hF.1), fun q a b => ?_, fun q hq => ?_⟩
    · rw [hF.2 q (by rw [h0]; exact Nat.lt_of_lt_of_le a hS.1) b, h0]
      exact hS.2.1 q a b
    · rcases List.mem_append.mp hq with z | z
      · exact hS.2.2 q z
      · exact hL q z
  obtain ⟨t2, a1, b1⟩ := k r g1 hq1 t.heap (locs ++ L) hP1 hS1 T' e1 X'
  refine ⟨t2, go t2 ?_, b1⟩
  have e3 : v.toList ++ st.map (gtv ad) = (r.toList ++ st).map (gtv ad) := by
    rw [hv, List.map_append]
    cases r <;> rfl
  rw [e3]
  exact a1
theorem s_callV (h : gcx own cc nL p s m args c D cA ad) (hR : fr ≤ R.frames ∧ lo ≤ R.locals ∧ cells ≤ R.cells ∧ slots ≤ R.slots) {idx kk : Nat} {M : gM} {As : List Value} {Q : Option Value → gG → Prop} (hd : decode cc pc = .ok (.invokevirtual idx, 3)) (hM : gclV own idx M As.length) (hk : gcls kk M.1.cls) (hr : M.2.2.2.2.1 + 1 ≤ fr ∧ 8 + (M.2.2.1 + 11) + M.2.2.2.2.2 ≤ lo ∧ (st.map fun v => v.category).sum ≤ 8) (hc : gC M (.ref kk :: As) g Q) (hl : la.size = nL) (hP : va_P D vwCl (gws ad cA g) H) (hS : va_S (gA ad) s.heap H locs)
    (k : ∀ (r : Option Value) (g1 : gG), Q r g1 → ∀ (H1 : Heap) (locs1 : List Loc), va_P D vwCl (gws ad cA g1) H1 → va_S (gA ad) s.heap H1 locs1 → W p l e R s m args below meth c H1 locs1 cells slots Qf (F0 m (pc + 3) la ((r.toList ++ st).map (gtv ad)))) : W p l e R s m args below meth c H locs cells slots Qf (F0 m pc la ((As.reverse ++ .ref kk :: st).map (gtv ad))) := by
  have hrv : ∃ cellB : Cell, H[ad kk]? = some cellB ∧ cellB.vm.isStatics = false ∧ s.vm.findClass M.1.cls = some cellB.cls := by
    rcases hk with ⟨ci, fl, r, h1, h2, h3⟩ | ⟨rfl, h2⟩
    · obtain ⟨r', h1', cell, q1, q2, q3, q4⟩ := hP kk _ (gws_at h1)
      refine ⟨cell, q1, by rw [q3]; rfl, ?_⟩
      rw [q2, ← h3]
      exact (h.2.2.2.2.2.1.1 ci r h2).2.1
    · obtain ⟨cell, a1, a2, a3, a4⟩ := h.2.2.2.2.2.2.2.2.2.1.kept hS.2.1
      exact ⟨cell, a1, a2, by rw [h2]; exact a3⟩
  have hrun := va_runV (H := H) (locs := locs) (cells := cells) (slots := slots) (below := below) (meth := meth) (e := e) (b := ad kk) (As := As.map (gtv ad)) (rest := st.map (gtv ad)) (C := M.1.cls) (g := F0 m pc la ((As.reverse ++ .ref kk :: st).map (gtv ad))) (⟨h.1, h.2.1, h.2.2.1, h.2.2.2.1, h.2.2.2.2.1⟩ : CallFix p m c cc nL s args gw own) (hc l D cA ad) ⟨gcl_B (R := R) h hM.1 ⟨Nat.le_trans hr.1 hR.1, Nat.le_trans hr.2.1 hR.2.1⟩, h.2.2.2.2.1 _ hM.2.1, h.2.2.2.2.1 _ hM.2.2⟩ ⟨gPc_blind, hrv, fun U hU hW => ⟨rfl, gpre_to h hP hS hU hW⟩⟩ rfl (by simp) hl (by simp [gtv]) (lv_room (by rw [gtv_cats]; exact hr.2.2)) hd ⟨hR.2.2.1, hR.2.2.2⟩
  exact s_run (y := F0 m pc la []) hrun (fun st0 o t q => q) hS k
theorem s_callS (h : gcx own cc nL p s m args c D cA ad) (hR : fr ≤ R.frames ∧ lo ≤ R.locals ∧ cells ≤ R.cells ∧ slots ≤ R.slots) {idx : Nat} {M : gM} {As : List Value} {Q : Option Value → gG → Prop} (hd : decode cc pc = .ok (.invokestatic idx, 3)) (hM : gclS own idx M As.length) (hr : M.2.2.2.2.1 + 1 ≤ fr ∧ 8 + (M.2.2.1 + 11) + M.2.2.2.2.2 ≤ lo ∧ (st.map fun v => v.category).sum ≤ 8) (hc : gC M As g Q) (hl : la.size = nL) (hP : va_P D vwCl (gws ad cA g) H) (hS : va_S (gA ad) s.heap H locs)
    (k : ∀ (r : Option Value) (g1 : gG), Q r g1 → ∀ (H1 : Heap) (locs1 : List Loc), va_P D vwCl (gws ad cA g1) H1 → va_S (gA ad) s.heap H1 locs1 → W p l e R s m args below meth c H1 locs1 cells slots Qf (F0 m (pc + 3) la ((r.toList ++ st).map (gtv ad)))) : W p l e R s m args below meth c H locs cells slots Qf (F0 m pc la ((As.reverse ++ st).map (gtv ad))) := by
  have hrun := va_runS (H := H) (locs := locs) (cells := cells) (slots := slots) (below := below) (meth := meth) (e := e) (As := As.map (gtv ad)) (rest := st.map (gtv ad)) (g := F0 m pc la ((As.reverse ++ st).map (gtv ad))) (⟨h.1, h.2.1, h.2.2.1, h.2.2.2.1, h.2.2.2.2.1⟩ : CallFix p m c cc nL s args gw own) (hc l D cA ad) ⟨gcl_B (R := R) h hM.1 ⟨Nat.le_trans hr.1 hR.1, Nat.le_trans hr.2.1 hR.2.1⟩, h.2.2.2.2.1 _ hM.2⟩ ⟨gPc_blind, fun U hU hW => ⟨rfl, gpre_to h hP hS hU hW⟩⟩ rfl (by simp) hl (by simp [gtv]) (lv_room (by rw [gtv_cats]; exact hr.2.2)) hd ⟨hR.2.2.1, hR.2.2.2⟩
  exact s_run (y := F0 m pc la []) hrun (fun st0 o t q => q) hS k
end GV1

section GV2
variable {p : Program} {l : Launch} {e : Env} {R : Room} {s : State} {m : MethodId} {args : Array Value} {below : List Frame} {meth : Method} {c : Code} {D : va_G} {cA : Nat → ClassId} {ad : Nat → Nat} {cells slots nL : Nat} {Qf : State → Prop} {own : String} {cc : ByteArray} {fr lo : Nat}
theorem s_q_iconst (h : gcx own cc nL p s m args c D cA ad) (hR : fr ≤ R.frames ∧ lo ≤ R.locals ∧ cells ≤ R.cells ∧ slots ≤ R.slots) : q_iconst own cc fr lo (gvw nL p l e R s m args below meth c D cA ad cells slots Qf) := by
  intro pc ls st g n v hd hv k H locs la hP hS hl
  exact lv_iconst h.1 h.2.1 hd hv (k H locs la hP hS hl)
theorem s_q_bipush (h : gcx own cc nL p s m args c D cA ad) (hR : fr ≤ R.frames ∧ lo ≤ R.locals ∧ cells ≤ R.cells ∧ slots ≤ R.slots) : q_bipush own cc fr lo (gvw nL p l e R s m args below meth c D cA ad cells slots Qf) := by
  intro pc ls st g n v hd hv k H locs la hP hS hl
  exact lv_bipush h.1 h.2.1 hd hv (k H locs la hP hS hl)
theorem s_q_sipush (h : gcx own cc nL p s m args c D cA ad) (hR : fr ≤ R.frames ∧ lo ≤ R.locals ∧ cells ≤ R.cells ∧ slots ≤ R.slots) : q_sipush own cc fr lo (gvw nL p l e R s m args below meth c D cA ad cells slots Qf) := by
  intro pc ls st g n v hd hv k H locs la hP hS hl
  exact lv_sipush h.1 h.2.1 hd hv (k H locs la hP hS hl)
theorem s_q_lconst (h : gcx own cc nL p s m args c D cA ad) (hR : fr ≤ R.frames ∧ lo ≤ R.locals ∧ cells ≤ R.cells ∧ slots ≤ R.slots) : q_lconst own cc fr lo (gvw nL p l e R s m args below meth c D cA ad cells slots Qf) := by
  intro pc ls st g n v hd hv k H locs la hP hS hl
  exact lv_lconst h.1 h.2.1 hd hv (k H locs la hP hS hl)
theorem s_q_iload_n (h : gcx own cc nL p s m args c D cA ad) (hR : fr ≤ R.frames ∧ lo ≤ R.locals ∧ cells ≤ R.cells ∧ slots ≤ R.slots) : q_iload_n own cc fr lo (gvw nL p l e R s m args below meth c D cA ad cells slots Qf) := by
  intro pc ls st g i x hd hi k H locs la hP hS hl
  exact lv_iload_n h.1 h.2.1 hd rfl (hl.2.2.2 _ _ hi (fun q => by cases q)) (k H locs la hP hS hl)
theorem s_q_iload (h : gcx own cc nL p s m args c D cA ad) (hR : fr ≤ R.frames ∧ lo ≤ R.locals ∧ cells ≤ R.cells ∧ slots ≤ R.slots) : q_iload own cc fr lo (gvw nL p l e R s m args below meth c D cA ad cells slots Qf) := by
  intro pc ls st g i x hd hi k H locs la hP hS hl
  exact lv_iload h.1 h.2.1 hd (hl.2.2.2 _ _ hi (fun q => by cases q)) (k H locs la hP hS hl)
theorem s_q_aload_n (h : gcx own cc nL p s m args c D cA ad) (hR : fr ≤ R.frames ∧ lo ≤ R.locals ∧ cells ≤ R.cells ∧ slots ≤ R.slots) : q_aload_n own cc fr lo (gvw nL p l e R s m args below meth c D cA ad cells slots Qf) := by
  intro pc ls st g i x hd hi k H locs la hP hS hl
  exact lv_aload_n h.1 h.2.1 hd rfl (hl.2.2.2 _ _ hi (fun q => by cases q)) (k H locs la hP hS hl)
theorem s_q_aload (h : gcx own cc nL p s m args c D cA ad) (hR : fr ≤ R.frames ∧ lo ≤ R.locals ∧ cells ≤ R.cells ∧ slots ≤ R.slots) : q_aload own cc fr lo (gvw nL p l e R s m args below meth c D cA ad cells slots Qf) := by
  intro pc ls st g i x hd hi k H locs la hP hS hl
  exact lv_aload h.1 h.2.1 hd (hl.2.2.2 _ _ hi (fun q => by cases q)) (k H locs la hP hS hl)
theorem s_q_lload_n (h : gcx own cc nL p s m args c D cA ad) (hR : fr ≤ R.frames ∧ lo ≤ R.locals ∧ cells ≤ R.cells ∧ slots ≤ R.slots) : q_lload_n own cc fr lo (gvw nL p l e R s m args below meth c D cA ad cells slots Qf) := by
  intro pc ls st g i x hd hi k H locs la hP hS hl
  exact lv_lload_n h.1 h.2.1 hd rfl (hl.2.2.2 _ _ hi (fun q => by cases q)) (k H locs la hP hS hl)
theorem s_q_lload (h : gcx own cc nL p s m args c D cA ad) (hR : fr ≤ R.frames ∧ lo ≤ R.locals ∧ cells ≤ R.cells ∧ slots ≤ R.slots) : q_lload own cc fr lo (gvw nL p l e R s m args below meth c D cA ad cells slots Qf) := by
  intro pc ls st g i x hd hi k H locs la hP hS hl
  exact lv_lload h.1 h.2.1 hd (hl.2.2.2 _ _ hi (fun q => by cases q)) (k H locs la hP hS hl)
theorem s_q_istore_n (h : gcx own cc nL p s m args c D cA ad) (hR : fr ≤ R.frames ∧ lo ≤ R.locals ∧ cells ≤ R.cells ∧ slots ≤ R.slots) : q_istore_n own cc fr lo (gvw nL p l e R s m args below meth c D cA ad cells slots Qf) := by
  intro pc ls st g i x ls2 hd hi hs k H locs la hP hS hl
  subst hs; exact lv_istore_n h.1 h.2.1 hd rfl hl.has (by rw [hl.2.2.1] at hi; exact hi) rfl (fun la2 h2 => k H locs la2 hP hS (glo_of1 (v := .int x) hl h2))
theorem s_q_istore (h : gcx own cc nL p s m args c D cA ad) (hR : fr ≤ R.frames ∧ lo ≤ R.locals ∧ cells ≤ R.cells ∧ slots ≤ R.slots) : q_istore own cc fr lo (gvw nL p l e R s m args below meth c D cA ad cells slots Qf) := by
  intro pc ls st g i x ls2 hd hi hs k H locs la hP hS hl
  subst hs; exact lv_istore h.1 h.2.1 hd hl.has (by rw [hl.2.2.1] at hi; exact hi) rfl (fun la2 h2 => k H locs la2 hP hS (glo_of1 (v := .int x) hl h2))
theorem s_q_astore_n (h : gcx own cc nL p s m args c D cA ad) (hR : fr ≤ R.frames ∧ lo ≤ R.locals ∧ cells ≤ R.cells ∧ slots ≤ R.slots) : q_astore_n own cc fr lo (gvw nL p l e R s m args below meth c D cA ad cells slots Qf) := by
  intro pc ls st g i x ls2 hd hi hs k H locs la hP hS hl
  subst hs; exact lv_astore_n h.1 h.2.1 hd rfl hl.has (by rw [hl.2.2.1] at hi; exact hi) rfl (fun la2 h2 => k H locs la2 hP hS (glo_of1 (v := .ref x) hl h2))
theorem s_q_astore (h : gcx own cc nL p s m args c D cA ad) (hR : fr ≤ R.frames ∧ lo ≤ R.locals ∧ cells ≤ R.cells ∧ slots ≤ R.slots) : q_astore own cc fr lo (gvw nL p l e R s m args below meth c D cA ad cells slots Qf) := by
  intro pc ls st g i x ls2 hd hi hs k H locs la hP hS hl
  subst hs; exact lv_astore h.1 h.2.1 hd hl.has (by rw [hl.2.2.1] at hi; exact hi) rfl (fun la2 h2 => k H locs la2 hP hS (glo_of1 (v := .ref x) hl h2))
theorem s_q_lstore_n (h : gcx own cc nL p s m args c D cA ad) (hR : fr ≤ R.frames ∧ lo ≤ R.locals ∧ cells ≤ R.cells ∧ slots ≤ R.slots) : q_lstore_n own cc fr lo (gvw nL p l e R s m args below meth c D cA ad cells slots Qf) := by
  intro pc ls st g i x ls2 hd hi hs k H locs la hP hS hl
  subst hs; exact lv_lstore_n h.1 h.2.1 hd rfl hl.has (by rw [hl.2.2.1] at hi; exact hi) rfl (fun la2 h2 => k H locs la2 hP hS (glo_of2 (v := .long x) hl h2))
theorem s_q_lstore (h : gcx own cc nL p s m args c D cA ad) (hR : fr ≤ R.frames ∧ lo ≤ R.locals ∧ cells ≤ R.cells ∧ slots ≤ R.slots) : q_lstore own cc fr lo (gvw nL p l e R s m args below meth c D cA ad cells slots Qf) := by
  intro pc ls st g i x ls2 hd hi hs k H locs la hP hS hl
  subst hs; exact lv_lstore h.1 h.2.1 hd hl.has (by rw [hl.2.2.1] at hi; exact hi) rfl (fun la2 h2 => k H locs la2 hP hS (glo_of2 (v := .long x) hl h2))
theorem s_q_iinc (h : gcx own cc nL p s m args c D cA ad) (hR : fr ≤ R.frames ∧ lo ≤ R.locals ∧ cells ≤ R.cells ∧ slots ≤ R.slots) : q_iinc own cc fr lo (gvw nL p l e R s m args below meth c D cA ad cells slots Qf) := by
  intro pc ls st g i n x y ls2 hd hi hv hs k H locs la hP hS hl
  subst hs; obtain ⟨j, hj⟩ := List.getElem?_of_mem (gprs_mem (ad := ad) hi (fun q => by cases q)); exact lv_iinc h.1 h.2.1 hd hl.has hj hv (by rw [← hl.2.2.1]; exact (List.getElem?_eq_some_iff.mp hi).1) rfl (fun la2 h2 => k H locs la2 hP hS (glo_of1 (v := .int y) hl h2))
theorem s_q_iadd (h : gcx own cc nL p s m args c D cA ad) (hR : fr ≤ R.frames ∧ lo ≤ R.locals ∧ cells ≤ R.cells ∧ slots ≤ R.slots) : q_iadd own cc fr lo (gvw nL p l e R s m args below meth c D cA ad cells slots Qf) := by
  intro pc ls st g x y hd k H locs la hP hS hl
  exact lv_iadd h.1 h.2.1 hd (k H locs la hP hS hl)
theorem s_q_isub (h : gcx own cc nL p s m args c D cA ad) (hR : fr ≤ R.frames ∧ lo ≤ R.locals ∧ cells ≤ R.cells ∧ slots ≤ R.slots) : q_isub own cc fr lo (gvw nL p l e R s m args below meth c D cA ad cells slots Qf) := by
  intro pc ls st g x y hd k H locs la hP hS hl
  exact lv_isub h.1 h.2.1 hd (k H locs la hP hS hl)
theorem s_q_imul (h : gcx own cc nL p s m args c D cA ad) (hR : fr ≤ R.frames ∧ lo ≤ R.locals ∧ cells ≤ R.cells ∧ slots ≤ R.slots) : q_imul own cc fr lo (gvw nL p l e R s m args below meth c D cA ad cells slots Qf) := by
  intro pc ls st g x y hd k H locs la hP hS hl
  exact lv_imul h.1 h.2.1 hd (k H locs la hP hS hl)
theorem s_q_iand (h : gcx own cc nL p s m args c D cA ad) (hR : fr ≤ R.frames ∧ lo ≤ R.locals ∧ cells ≤ R.cells ∧ slots ≤ R.slots) : q_iand own cc fr lo (gvw nL p l e R s m args below meth c D cA ad cells slots Qf) := by
  intro pc ls st g x y hd k H locs la hP hS hl
  exact lv_iand h.1 h.2.1 hd (k H locs la hP hS hl)
theorem s_q_ior (h : gcx own cc nL p s m args c D cA ad) (hR : fr ≤ R.frames ∧ lo ≤ R.locals ∧ cells ≤ R.cells ∧ slots ≤ R.slots) : q_ior own cc fr lo (gvw nL p l e R s m args below meth c D cA ad cells slots Qf) := by
  intro pc ls st g x y hd k H locs la hP hS hl
  exact lv_ior h.1 h.2.1 hd (k H locs la hP hS hl)
theorem s_q_ixor (h : gcx own cc nL p s m args c D cA ad) (hR : fr ≤ R.frames ∧ lo ≤ R.locals ∧ cells ≤ R.cells ∧ slots ≤ R.slots) : q_ixor own cc fr lo (gvw nL p l e R s m args below meth c D cA ad cells slots Qf) := by
  intro pc ls st g x y hd k H locs la hP hS hl
  exact lv_ixor h.1 h.2.1 hd (k H locs la hP hS hl)
theorem s_q_ishl (h : gcx own cc nL p s m args c D cA ad) (hR : fr ≤ R.frames ∧ lo ≤ R.locals ∧ cells ≤ R.cells ∧ slots ≤ R.slots) : q_ishl own cc fr lo (gvw nL p l e R s m args below meth c D cA ad cells slots Qf) := by
  intro pc ls st g x y hd k H locs la hP hS hl
  exact lv_ishl h.1 h.2.1 hd (k H locs la hP hS hl)
theorem s_q_ishr (h : gcx own cc nL p s m args c D cA ad) (hR : fr ≤ R.frames ∧ lo ≤ R.locals ∧ cells ≤ R.cells ∧ slots ≤ R.slots) : q_ishr own cc fr lo (gvw nL p l e R s m args below meth c D cA ad cells slots Qf) := by
  intro pc ls st g x y hd k H locs la hP hS hl
  exact lv_ishr h.1 h.2.1 hd (k H locs la hP hS hl)
theorem s_q_ineg (h : gcx own cc nL p s m args c D cA ad) (hR : fr ≤ R.frames ∧ lo ≤ R.locals ∧ cells ≤ R.cells ∧ slots ≤ R.slots) : q_ineg own cc fr lo (gvw nL p l e R s m args below meth c D cA ad cells slots Qf) := by
  intro pc ls st g x hd k H locs la hP hS hl
  exact lv_ineg h.1 h.2.1 hd (k H locs la hP hS hl)
theorem s_q_idiv (h : gcx own cc nL p s m args c D cA ad) (hR : fr ≤ R.frames ∧ lo ≤ R.locals ∧ cells ≤ R.cells ∧ slots ≤ R.slots) : q_idiv own cc fr lo (gvw nL p l e R s m args below meth c D cA ad cells slots Qf) := by
  intro pc ls st g x y hd hy k H locs la hP hS hl
  exact lv_idiv h.1 h.2.1 hd hy (k H locs la hP hS hl)
theorem s_q_irem (h : gcx own cc nL p s m args c D cA ad) (hR : fr ≤ R.frames ∧ lo ≤ R.locals ∧ cells ≤ R.cells ∧ slots ≤ R.slots) : q_irem own cc fr lo (gvw nL p l e R s m args below meth c D cA ad cells slots Qf) := by
  intro pc ls st g x y hd hy k H locs la hP hS hl
  exact lv_irem h.1 h.2.1 hd hy (k H locs la hP hS hl)
theorem s_q_ladd (h : gcx own cc nL p s m args c D cA ad) (hR : fr ≤ R.frames ∧ lo ≤ R.locals ∧ cells ≤ R.cells ∧ slots ≤ R.slots) : q_ladd own cc fr lo (gvw nL p l e R s m args below meth c D cA ad cells slots Qf) := by
  intro pc ls st g x y hd k H locs la hP hS hl
  exact lv_ladd h.1 h.2.1 hd (k H locs la hP hS hl)
theorem s_q_lsub (h : gcx own cc nL p s m args c D cA ad) (hR : fr ≤ R.frames ∧ lo ≤ R.locals ∧ cells ≤ R.cells ∧ slots ≤ R.slots) : q_lsub own cc fr lo (gvw nL p l e R s m args below meth c D cA ad cells slots Qf) := by
  intro pc ls st g x y hd k H locs la hP hS hl
  exact lv_lsub h.1 h.2.1 hd (k H locs la hP hS hl)
theorem s_q_lmul (h : gcx own cc nL p s m args c D cA ad) (hR : fr ≤ R.frames ∧ lo ≤ R.locals ∧ cells ≤ R.cells ∧ slots ≤ R.slots) : q_lmul own cc fr lo (gvw nL p l e R s m args below meth c D cA ad cells slots Qf) := by
  intro pc ls st g x y hd k H locs la hP hS hl
  exact lv_lmul h.1 h.2.1 hd (k H locs la hP hS hl)
theorem s_q_ldiv (h : gcx own cc nL p s m args c D cA ad) (hR : fr ≤ R.frames ∧ lo ≤ R.locals ∧ cells ≤ R.cells ∧ slots ≤ R.slots) : q_ldiv own cc fr lo (gvw nL p l e R s m args below meth c D cA ad cells slots Qf) := by
  intro pc ls st g x y hd hy k H locs la hP hS hl
  exact lv_ldiv h.1 h.2.1 hd hy (k H locs la hP hS hl)
theorem s_q_lrem (h : gcx own cc nL p s m args c D cA ad) (hR : fr ≤ R.frames ∧ lo ≤ R.locals ∧ cells ≤ R.cells ∧ slots ≤ R.slots) : q_lrem own cc fr lo (gvw nL p l e R s m args below meth c D cA ad cells slots Qf) := by
  intro pc ls st g x y hd hy k H locs la hP hS hl
  exact lv_lrem h.1 h.2.1 hd hy (k H locs la hP hS hl)
theorem s_q_i2l (h : gcx own cc nL p s m args c D cA ad) (hR : fr ≤ R.frames ∧ lo ≤ R.locals ∧ cells ≤ R.cells ∧ slots ≤ R.slots) : q_i2l own cc fr lo (gvw nL p l e R s m args below meth c D cA ad cells slots Qf) := by
  intro pc ls st g x hd k H locs la hP hS hl
  exact lv_i2l h.1 h.2.1 hd rfl (k H locs la hP hS hl)
theorem s_q_i2b (h : gcx own cc nL p s m args c D cA ad) (hR : fr ≤ R.frames ∧ lo ≤ R.locals ∧ cells ≤ R.cells ∧ slots ≤ R.slots) : q_i2b own cc fr lo (gvw nL p l e R s m args below meth c D cA ad cells slots Qf) := by
  intro pc ls st g x hd k H locs la hP hS hl
  exact lv_i2b h.1 h.2.1 hd rfl (k H locs la hP hS hl)
theorem s_q_iushr (h : gcx own cc nL p s m args c D cA ad) (hR : fr ≤ R.frames ∧ lo ≤ R.locals ∧ cells ≤ R.cells ∧ slots ≤ R.slots) : q_iushr own cc fr lo (gvw nL p l e R s m args below meth c D cA ad cells slots Qf) := by
  intro pc ls st g x y hd k H locs la hP hS hl
  exact lv_iushr h.1 h.2.1 hd rfl (k H locs la hP hS hl)
theorem s_q_i2c (h : gcx own cc nL p s m args c D cA ad) (hR : fr ≤ R.frames ∧ lo ≤ R.locals ∧ cells ≤ R.cells ∧ slots ≤ R.slots) : q_i2c own cc fr lo (gvw nL p l e R s m args below meth c D cA ad cells slots Qf) := by
  intro pc ls st g x hd k H locs la hP hS hl
  exact lv_i2c h.1 h.2.1 hd rfl (k H locs la hP hS hl)
theorem s_q_lcmp (h : gcx own cc nL p s m args c D cA ad) (hR : fr ≤ R.frames ∧ lo ≤ R.locals ∧ cells ≤ R.cells ∧ slots ≤ R.slots) : q_lcmp own cc fr lo (gvw nL p l e R s m args below meth c D cA ad cells slots Qf) := by
  intro pc ls st g x y hd k H locs la hP hS hl
  exact W.lcmp h.1 h.2.1 hd (k H locs la hP hS hl)
theorem s_q_dup (h : gcx own cc nL p s m args c D cA ad) (hR : fr ≤ R.frames ∧ lo ≤ R.locals ∧ cells ≤ R.cells ∧ slots ≤ R.slots) : q_dup own cc fr lo (gvw nL p l e R s m args below meth c D cA ad cells slots Qf) := by
  intro pc ls st g v hd hv k H locs la hP hS hl
  exact lv_dup h.1 h.2.1 hd (by rw [gtv_cat]; exact hv) (k H locs la hP hS hl)
theorem s_q_pop (h : gcx own cc nL p s m args c D cA ad) (hR : fr ≤ R.frames ∧ lo ≤ R.locals ∧ cells ≤ R.cells ∧ slots ≤ R.slots) : q_pop own cc fr lo (gvw nL p l e R s m args below meth c D cA ad cells slots Qf) := by
  intro pc ls st g v hd hv k H locs la hP hS hl
  exact lv_pop h.1 h.2.1 hd (by rw [gtv_cat]; exact hv) (k H locs la hP hS hl)
theorem s_q_dup2 (h : gcx own cc nL p s m args c D cA ad) (hR : fr ≤ R.frames ∧ lo ≤ R.locals ∧ cells ≤ R.cells ∧ slots ≤ R.slots) : q_dup2 own cc fr lo (gvw nL p l e R s m args below meth c D cA ad cells slots Qf) := by
  intro pc ls st g v w hd hv hw k H locs la hP hS hl
  exact lv_dup2_11 h.1 h.2.1 hd (by rw [gtv_cat]; exact hv) (by rw [gtv_cat]; exact hw) (k H locs la hP hS hl)
theorem s_q_if_eq (h : gcx own cc nL p s m args c D cA ad) (hR : fr ≤ R.frames ∧ lo ≤ R.locals ∧ cells ≤ R.cells ∧ slots ≤ R.slots) : q_if_eq own cc fr lo (gvw nL p l e R s m args below meth c D cA ad cells slots Qf) := by
  intro pc ls st g x o tgt hd ht kt kf H locs la hP hS hl
  exact lv_if_eq h.1 h.2.1 hd ht (fun q => kt q H locs la hP hS hl) (fun q => kf q H locs la hP hS hl)
theorem s_q_if_ne (h : gcx own cc nL p s m args c D cA ad) (hR : fr ≤ R.frames ∧ lo ≤ R.locals ∧ cells ≤ R.cells ∧ slots ≤ R.slots) : q_if_ne own cc fr lo (gvw nL p l e R s m args below meth c D cA ad cells slots Qf) := by
  intro pc ls st g x o tgt hd ht kt kf H locs la hP hS hl
  exact lv_if_ne h.1 h.2.1 hd ht (fun q => kt q H locs la hP hS hl) (fun q => kf q H locs la hP hS hl)
theorem s_q_if_lt (h : gcx own cc nL p s m args c D cA ad) (hR : fr ≤ R.frames ∧ lo ≤ R.locals ∧ cells ≤ R.cells ∧ slots ≤ R.slots) : q_if_lt own cc fr lo (gvw nL p l e R s m args below meth c D cA ad cells slots Qf) := by
  intro pc ls st g x o tgt hd ht kt kf H locs la hP hS hl
  exact lv_if_lt h.1 h.2.1 hd ht (fun q => kt q H locs la hP hS hl) (fun q => kf q H locs la hP hS hl)
theorem s_q_if_ge (h : gcx own cc nL p s m args c D cA ad) (hR : fr ≤ R.frames ∧ lo ≤ R.locals ∧ cells ≤ R.cells ∧ slots ≤ R.slots) : q_if_ge own cc fr lo (gvw nL p l e R s m args below meth c D cA ad cells slots Qf) := by
  intro pc ls st g x o tgt hd ht kt kf H locs la hP hS hl
  exact lv_if_ge h.1 h.2.1 hd ht (fun q => kt q H locs la hP hS hl) (fun q => kf q H locs la hP hS hl)
theorem s_q_if_gt (h : gcx own cc nL p s m args c D cA ad) (hR : fr ≤ R.frames ∧ lo ≤ R.locals ∧ cells ≤ R.cells ∧ slots ≤ R.slots) : q_if_gt own cc fr lo (gvw nL p l e R s m args below meth c D cA ad cells slots Qf) := by
  intro pc ls st g x o tgt hd ht kt kf H locs la hP hS hl
  exact lv_if_gt h.1 h.2.1 hd ht (fun q => kt q H locs la hP hS hl) (fun q => kf q H locs la hP hS hl)
theorem s_q_if_le (h : gcx own cc nL p s m args c D cA ad) (hR : fr ≤ R.frames ∧ lo ≤ R.locals ∧ cells ≤ R.cells ∧ slots ≤ R.slots) : q_if_le own cc fr lo (gvw nL p l e R s m args below meth c D cA ad cells slots Qf) := by
  intro pc ls st g x o tgt hd ht kt kf H locs la hP hS hl
  exact lv_if_le h.1 h.2.1 hd ht (fun q => kt q H locs la hP hS hl) (fun q => kf q H locs la hP hS hl)
theorem s_q_icmp_eq (h : gcx own cc nL p s m args c D cA ad) (hR : fr ≤ R.frames ∧ lo ≤ R.locals ∧ cells ≤ R.cells ∧ slots ≤ R.slots) : q_icmp_eq own cc fr lo (gvw nL p l e R s m args below meth c D cA ad cells slots Qf) := by
  intro pc ls st g x y o tgt hd ht kt kf H locs la hP hS hl
  exact lv_icmp_eq h.1 h.2.1 hd ht (fun q => kt q H locs la hP hS hl) (fun q => kf q H locs la hP hS hl)
theorem s_q_icmp_ne (h : gcx own cc nL p s m args c D cA ad) (hR : fr ≤ R.frames ∧ lo ≤ R.locals ∧ cells ≤ R.cells ∧ slots ≤ R.slots) : q_icmp_ne own cc fr lo (gvw nL p l e R s m args below meth c D cA ad cells slots Qf) := by
  intro pc ls st g x y o tgt hd ht kt kf H locs la hP hS hl
  exact lv_icmp_ne h.1 h.2.1 hd ht (fun q => kt q H locs la hP hS hl) (fun q => kf q H locs la hP hS hl)
theorem s_q_icmp_lt (h : gcx own cc nL p s m args c D cA ad) (hR : fr ≤ R.frames ∧ lo ≤ R.locals ∧ cells ≤ R.cells ∧ slots ≤ R.slots) : q_icmp_lt own cc fr lo (gvw nL p l e R s m args below meth c D cA ad cells slots Qf) := by
  intro pc ls st g x y o tgt hd ht kt kf H locs la hP hS hl
  exact lv_icmp_lt h.1 h.2.1 hd ht (fun q => kt q H locs la hP hS hl) (fun q => kf q H locs la hP hS hl)
theorem s_q_icmp_ge (h : gcx own cc nL p s m args c D cA ad) (hR : fr ≤ R.frames ∧ lo ≤ R.locals ∧ cells ≤ R.cells ∧ slots ≤ R.slots) : q_icmp_ge own cc fr lo (gvw nL p l e R s m args below meth c D cA ad cells slots Qf) := by
  intro pc ls st g x y o tgt hd ht kt kf H locs la hP hS hl
  exact lv_icmp_ge h.1 h.2.1 hd ht (fun q => kt q H locs la hP hS hl) (fun q => kf q H locs la hP hS hl)
theorem s_q_icmp_gt (h : gcx own cc nL p s m args c D cA ad) (hR : fr ≤ R.frames ∧ lo ≤ R.locals ∧ cells ≤ R.cells ∧ slots ≤ R.slots) : q_icmp_gt own cc fr lo (gvw nL p l e R s m args below meth c D cA ad cells slots Qf) := by
  intro pc ls st g x y o tgt hd ht kt kf H locs la hP hS hl
  exact lv_icmp_gt h.1 h.2.1 hd ht (fun q => kt q H locs la hP hS hl) (fun q => kf q H locs la hP hS hl)
theorem s_q_icmp_le (h : gcx own cc nL p s m args c D cA ad) (hR : fr ≤ R.frames ∧ lo ≤ R.locals ∧ cells ≤ R.cells ∧ slots ≤ R.slots) : q_icmp_le own cc fr lo (gvw nL p l e R s m args below meth c D cA ad cells slots Qf) := by
  intro pc ls st g x y o tgt hd ht kt kf H locs la hP hS hl
  exact lv_icmp_le h.1 h.2.1 hd ht (fun q => kt q H locs la hP hS hl) (fun q => kf q H locs la hP hS hl)
theorem s_q_goto (h : gcx own cc nL p s m args c D cA ad) (hR : fr ≤ R.frames ∧ lo ≤ R.locals ∧ cells ≤ R.cells ∧ slots ≤ R.slots) : q_goto own cc fr lo (gvw nL p l e R s m args below meth c D cA ad cells slots Qf) := by
  intro pc ls st g o tgt hd ht k H locs la hP hS hl
  exact lv_goto h.1 h.2.1 hd ht (k H locs la hP hS hl)
theorem s_q_tabOut (h : gcx own cc nL p s m args c D cA ad) (hR : fr ≤ R.frames ∧ lo ≤ R.locals ∧ cells ≤ R.cells ∧ slots ≤ R.slots) : q_tabOut own cc fr lo (gvw nL p l e R s m args below meth c D cA ad cells slots Qf) := by
  intro pc ls st g d lo_ hi_ offs len x tgt hd hx ht k H locs la hP hS hl
  exact lv_tableOut h.1 h.2.1 hd hx ht (k H locs la hP hS hl)
theorem s_q_tabIn (h : gcx own cc nL p s m args c D cA ad) (hR : fr ≤ R.frames ∧ lo ≤ R.locals ∧ cells ≤ R.cells ∧ slots ≤ R.slots) : q_tabIn own cc fr lo (gvw nL p l e R s m args below meth c D cA ad cells slots Qf) := by
  intro pc ls st g d lo_ hi_ offs len x o tgt hd h1 h2 ho ht k H locs la hP hS hl
  exact lv_tableIn h.1 h.2.1 hd h1 h2 ho ht (k H locs la hP hS hl)
theorem s_q_lookup (h : gcx own cc nL p s m args c D cA ad) (hR : fr ≤ R.frames ∧ lo ≤ R.locals ∧ cells ≤ R.cells ∧ slots ≤ R.slots) : q_lookup own cc fr lo (gvw nL p l e R s m args below meth c D cA ad cells slots Qf) := by
  intro pc ls st g d ps len x o tgt hd hp ho ht k H locs la hP hS hl
  exact lv_lookup h.1 h.2.1 hd hp ho ht (k H locs la hP hS hl)
theorem s_q_ldc (h : gcx own cc nL p s m args c D cA ad) (hR : fr ≤ R.frames ∧ lo ≤ R.locals ∧ cells ≤ R.cells ∧ slots ≤ R.slots) : q_ldc own cc fr lo (gvw nL p l e R s m args below meth c D cA ad cells slots Qf) := by
  intro pc ls st g idx v hd hc k H locs la hP hS hl
  exact lv_ldc h.1 h.2.1 h.2.2.2.1 (h.2.2.2.2.1 _ hc) hd (k H locs la hP hS hl)
theorem s_q_ldc_w (h : gcx own cc nL p s m args c D cA ad) (hR : fr ≤ R.frames ∧ lo ≤ R.locals ∧ cells ≤ R.cells ∧ slots ≤ R.slots) : q_ldc_w own cc fr lo (gvw nL p l e R s m args below meth c D cA ad cells slots Qf) := by
  intro pc ls st g idx v hd hc k H locs la hP hS hl
  exact lv_ldcw h.1 h.2.1 h.2.2.2.1 (h.2.2.2.2.1 _ hc) hd (k H locs la hP hS hl)
theorem s_q_ldc2 (h : gcx own cc nL p s m args c D cA ad) (hR : fr ≤ R.frames ∧ lo ≤ R.locals ∧ cells ≤ R.cells ∧ slots ≤ R.slots) : q_ldc2 own cc fr lo (gvw nL p l e R s m args below meth c D cA ad cells slots Qf) := by
  intro pc ls st g idx v hd hc k H locs la hP hS hl
  exact lv_ldc2 h.1 h.2.1 h.2.2.2.1 (h.2.2.2.2.1 _ hc) hd (k H locs la hP hS hl)
theorem s_q_ldcS (h : gcx own cc nL p s m args c D cA ad) (hR : fr ≤ R.frames ∧ lo ≤ R.locals ∧ cells ≤ R.cells ∧ slots ≤ R.slots) : q_ldcS own cc fr lo (gvw nL p l e R s m args below meth c D cA ad cells slots Qf) := by
  intro pc ls st g  hd ho k H locs la hP hS hl
  exact va_ldcS h.1 h.2.1 h.2.2.2.1 (by rw [ho]; exact h.2.2.2.2.2.2.2.2.1) hd (k H locs la hP hS hl)
theorem s_q_getI (h : gcx own cc nL p s m args c D cA ad) (hR : fr ≤ R.frames ∧ lo ≤ R.locals ∧ cells ≤ R.cells ∧ slots ≤ R.slots) : q_getI own cc fr lo (gvw nL p l e R s m args below meth c D cA ad cells slots Qf) := by
  intro pc ls st g idx ci j kk fl hd hf hk hj k H locs la hP hS hl
  exact s_get h hd hf hk hj rfl hP (k H locs la hP hS hl)
theorem s_q_getR (h : gcx own cc nL p s m args c D cA ad) (hR : fr ≤ R.frames ∧ lo ≤ R.locals ∧ cells ≤ R.cells ∧ slots ≤ R.slots) : q_getR own cc fr lo (gvw nL p l e R s m args below meth c D cA ad cells slots Qf) := by
  intro pc ls st g idx ci j kk fl q hd hf hk hj k H locs la hP hS hl
  exact s_get h hd hf hk hj rfl hP (k H locs la hP hS hl)
theorem s_q_putI (h : gcx own cc nL p s m args c D cA ad) (hR : fr ≤ R.frames ∧ lo ≤ R.locals ∧ cells ≤ R.cells ∧ slots ≤ R.slots) : q_putI own cc fr lo (gvw nL p l e R s m args below meth c D cA ad cells slots Qf) := by
  intro pc ls st g idx ci j kk fl x ty hd hf hk hj hn hfit k H locs la hP hS hl
  exact s_put h hd hf hk hj hn hfit hP hS (fun H1 locs1 hP1 hS1 => k H1 locs1 la hP1 hS1 hl)
theorem s_q_iaload (h : gcx own cc nL p s m args c D cA ad) (hR : fr ≤ R.frames ∧ lo ≤ R.locals ∧ cells ≤ R.cells ∧ slots ≤ R.slots) : q_iaload own cc fr lo (gvw nL p l e R s m args below meth c D cA ad cells slots Qf) := by
  intro pc ls st g kk n i hd hk hi k H locs la hP hS hl
  exact va_iald h.1 h.2.1 h.2.2.2.2.2.1 hP kk 0 (gws_at hk) rfl hi hd (k H locs la hP hS hl)
theorem s_q_caload (h : gcx own cc nL p s m args c D cA ad) (hR : fr ≤ R.frames ∧ lo ≤ R.locals ∧ cells ≤ R.cells ∧ slots ≤ R.slots) : q_caload own cc fr lo (gvw nL p l e R s m args below meth c D cA ad cells slots Qf) := by
  intro pc ls st g kk n i hd hk hi k H locs la hP hS hl
  exact va_cald h.1 h.2.1 h.2.2.2.2.2.1 hP kk 1 (gws_at hk) rfl hi hd (k H locs la hP hS hl)
theorem s_q_iastore (h : gcx own cc nL p s m args c D cA ad) (hR : fr ≤ R.frames ∧ lo ≤ R.locals ∧ cells ≤ R.cells ∧ slots ≤ R.slots) : q_iastore own cc fr lo (gvw nL p l e R s m args below meth c D cA ad cells slots Qf) := by
  intro pc ls st g kk n i x hd hk hi k H locs la hP hS hl
  exact va_iast h.1 h.2.1 h.2.2.2.2.2.1 hP (gD h.2.2.2.2.2.2.1) hS kk 0 (gws_at hk) rfl hi hd (fun H1 locs1 hP1 _ hS1 => k H1 locs1 la (by rw [gws_set (g' := gup g kk i.toNatClampNeg x) hk (gce_upd 0 (by decide)) (fun a ha => gup_ne ha)] at hP1; exact hP1) hS1 hl)
theorem s_q_castore (h : gcx own cc nL p s m args c D cA ad) (hR : fr ≤ R.frames ∧ lo ≤ R.locals ∧ cells ≤ R.cells ∧ slots ≤ R.slots) : q_castore own cc fr lo (gvw nL p l e R s m args below meth c D cA ad cells slots Qf) := by
  intro pc ls st g kk n i x hd hk hi k H locs la hP hS hl
  exact va_cast h.1 h.2.1 h.2.2.2.2.2.1 hP (gD h.2.2.2.2.2.2.1) hS kk 1 (gws_at hk) rfl hi hd (fun H1 locs1 hP1 _ hS1 => k H1 locs1 la (by rw [gws_set (g' := gup g kk i.toNatClampNeg (vp_nar .char x)) hk (gce_upd 1 (by decide)) (fun a ha => gup_ne ha)] at hP1; exact hP1) hS1 hl)
theorem s_q_aaload (h : gcx own cc nL p s m args c D cA ad) (hR : fr ≤ R.frames ∧ lo ≤ R.locals ∧ cells ≤ R.cells ∧ slots ≤ R.slots) : q_aaload own cc fr lo (gvw nL p l e R s m args below meth c D cA ad cells slots Qf) := by
  intro pc ls st g kk n i hd hk hi k H locs la hP hS hl
  exact s_aald h hd hk hi hP (k H locs la hP hS hl)
theorem s_q_alen (h : gcx own cc nL p s m args c D cA ad) (hR : fr ≤ R.frames ∧ lo ≤ R.locals ∧ cells ≤ R.cells ∧ slots ≤ R.slots) : q_alen own cc fr lo (gvw nL p l e R s m args below meth c D cA ad cells slots Qf) := by
  intro pc ls st g kk t n hd hk ht hn k H locs la hP hS hl
  exact s_alen h hd hk ht hn hP (k H locs la hP hS hl)
theorem s_q_gets (h : gcx own cc nL p s m args c D cA ad) (hR : fr ≤ R.frames ∧ lo ≤ R.locals ∧ cells ≤ R.cells ∧ slots ≤ R.slots) : q_gets own cc fr lo (gvw nL p l e R s m args below meth c D cA ad cells slots Qf) := by
  intro pc ls st g idx q hd hq hf k H locs la hP hS hl
  exact s_gets h hd hq hf hS (k H locs la hP hS hl)
theorem s_q_getsC (h : gcx own cc nL p s m args c D cA ad) (hR : fr ≤ R.frames ∧ lo ≤ R.locals ∧ cells ≤ R.cells ∧ slots ≤ R.slots) : q_getsC own cc fr lo (gvw nL p l e R s m args below meth c D cA ad cells slots Qf) := by
  intro pc ls st g idx hd hf k H locs la hP hS hl
  exact va_gets h.1 h.2.1 h.2.2.2.2.2.2.2.2.2.2.2.2.2 hS h.2.2.2.1 (h.2.2.2.2.1 _ hf) (fun _ q => q) hd (k H locs la hP hS hl)
theorem s_q_tabld (h : gcx own cc nL p s m args c D cA ad) (hR : fr ≤ R.frames ∧ lo ≤ R.locals ∧ cells ≤ R.cells ∧ slots ≤ R.slots) : q_tabld own cc fr lo (gvw nL p l e R s m args below meth c D cA ad cells slots Qf) := by
  intro pc ls st g q i hd hq hi k H locs la hP hS hl
  exact s_tabld h hd hq hi hS (k H locs la hP hS hl)
theorem s_q_strld (h : gcx own cc nL p s m args c D cA ad) (hR : fr ≤ R.frames ∧ lo ≤ R.locals ∧ cells ≤ R.cells ∧ slots ≤ R.slots) : q_strld own cc fr lo (gvw nL p l e R s m args below meth c D cA ad cells slots Qf) := by
  intro pc ls st g i hd hi k H locs la hP hS hl
  exact s_strld h hd hi hS (k H locs la hP hS hl)
theorem s_q_strlen (h : gcx own cc nL p s m args c D cA ad) (hR : fr ≤ R.frames ∧ lo ≤ R.locals ∧ cells ≤ R.cells ∧ slots ≤ R.slots) : q_strlen own cc fr lo (gvw nL p l e R s m args below meth c D cA ad cells slots Qf) := by
  intro pc ls st g  hd k H locs la hP hS hl
  exact s_strlen h hd hS (k H locs la hP hS hl)
theorem s_q_strV (h : gcx own cc nL p s m args c D cA ad) (hR : fr ≤ R.frames ∧ lo ≤ R.locals ∧ cells ≤ R.cells ∧ slots ≤ R.slots) : q_strV own cc fr lo (gvw nL p l e R s m args below meth c D cA ad cells slots Qf) := by
  intro pc ls st g idx hd hf k H locs la hP hS hl
  exact vk_getf h.1 h.2.1 h.2.2.2.2.2.2.2.2.2.2.1 hS h.2.2.2.1 (h.2.2.2.2.1 _ hf) (fun _ q => q) hd (k H locs la hP hS hl)
theorem s_q_strC (h : gcx own cc nL p s m args c D cA ad) (hR : fr ≤ R.frames ∧ lo ≤ R.locals ∧ cells ≤ R.cells ∧ slots ≤ R.slots) : q_strC own cc fr lo (gvw nL p l e R s m args below meth c D cA ad cells slots Qf) := by
  intro pc ls st g idx hd hf k H locs la hP hS hl
  exact vk_getf h.1 h.2.1 h.2.2.2.2.2.2.2.2.2.2.2.1 hS h.2.2.2.1 (h.2.2.2.2.1 _ hf) (fun _ q => q) hd (k H locs la hP hS hl)
theorem s_q_mmax (h : gcx own cc nL p s m args c D cA ad) (hR : fr ≤ R.frames ∧ lo ≤ R.locals ∧ cells ≤ R.cells ∧ slots ≤ R.slots) : q_mmax own cc fr lo (gvw nL p l e R s m args below meth c D cA ad cells slots Qf) := by
  intro pc ls st g idx x y hd hf hr k H locs la hP hS hl
  exact va_mmax h.1 h.2.1 (by rw [h.2.2.1, hl.1]) h.2.2.2.1 (h.2.2.2.2.1 _ hf.1) (h.2.2.2.2.1 _ hf.2.1) (h.2.2.2.2.1 _ hf.2.2.1) (h.2.2.2.2.1 _ hf.2.2.2) (Nat.le_trans hr.1 hR.1) (by rw [gtv_cats]; exact Nat.le_trans hr.2 hR.2.1) hR.2.2.1 hR.2.2.2 hd (k H locs la hP hS hl)
theorem s_q_mmin (h : gcx own cc nL p s m args c D cA ad) (hR : fr ≤ R.frames ∧ lo ≤ R.locals ∧ cells ≤ R.cells ∧ slots ≤ R.slots) : q_mmin own cc fr lo (gvw nL p l e R s m args below meth c D cA ad cells slots Qf) := by
  intro pc ls st g idx x y hd hf hr k H locs la hP hS hl
  exact va_mmin h.1 h.2.1 (by rw [h.2.2.1, hl.1]) h.2.2.2.1 (h.2.2.2.2.1 _ hf.1) (h.2.2.2.2.1 _ hf.2.1) (h.2.2.2.2.1 _ hf.2.2.1) (h.2.2.2.2.1 _ hf.2.2.2) (Nat.le_trans hr.1 hR.1) (by rw [gtv_cats]; exact Nat.le_trans hr.2 hR.2.1) hR.2.2.1 hR.2.2.2 hd (k H locs la hP hS hl)
theorem s_q_acopy (h : gcx own cc nL p s m args c D cA ad) (hR : fr ≤ R.frames ∧ lo ≤ R.locals ∧ cells ≤ R.cells ∧ slots ≤ R.slots) : q_acopy own cc fr lo (gvw nL p l e R s m args below meth c D cA ad cells slots Qf) := by
  intro pc ls st g idx k0 k1 n0 n1 n hd hf hk0 hk1 hn hr k H locs la hP hS hl
  exact s_acopy h hR hd hf hk0 hk1 hn hr hl.1 hP hS (fun H1 locs1 hP1 hS1 => k H1 locs1 la hP1 hS1 hl)
theorem s_q_callV (h : gcx own cc nL p s m args c D cA ad) (hR : fr ≤ R.frames ∧ lo ≤ R.locals ∧ cells ≤ R.cells ∧ slots ≤ R.slots) : q_callV own cc fr lo (gvw nL p l e R s m args below meth c D cA ad cells slots Qf) := by
  intro pc ls st g idx M kk As st2 Qc hd hM hk hs hr hc k H locs la hP hS hl
  subst hs; exact s_callV h hR hd hM hk hr hc hl.1 hP hS (fun r g1 q H1 locs1 hP1 hS1 => k r g1 q H1 locs1 la hP1 hS1 hl)
theorem s_q_callS (h : gcx own cc nL p s m args c D cA ad) (hR : fr ≤ R.frames ∧ lo ≤ R.locals ∧ cells ≤ R.cells ∧ slots ≤ R.slots) : q_callS own cc fr lo (gvw nL p l e R s m args below meth c D cA ad cells slots Qf) := by
  intro pc ls st g idx M As st2 Qc hd hM hs hr hc k H locs la hP hS hl
  subst hs; exact s_callS h hR hd hM hr hc hl.1 hP hS (fun r g1 q H1 locs1 hP1 hS1 => k r g1 q H1 locs1 la hP1 hS1 hl)
theorem gR_sound (h : gcx own cc nL p s m args c D cA ad) (hR : fr ≤ R.frames ∧ lo ≤ R.locals ∧ cells ≤ R.cells ∧ slots ≤ R.slots) : gR own cc fr lo (gvw nL p l e R s m args below meth c D cA ad cells slots Qf) := ⟨s_q_iconst h hR, s_q_bipush h hR, s_q_sipush h hR, s_q_lconst h hR, s_q_iload_n h hR, s_q_iload h hR, s_q_aload_n h hR, s_q_aload h hR, s_q_lload_n h hR, s_q_lload h hR, s_q_istore_n h hR, s_q_istore h hR, s_q_astore_n h hR, s_q_astore h hR, s_q_lstore_n h hR, s_q_lstore h hR, s_q_iinc h hR, s_q_iadd h hR, s_q_isub h hR, s_q_imul h hR, s_q_iand h hR, s_q_ior h hR, s_q_ixor h hR, s_q_ishl h hR, s_q_ishr h hR, s_q_ineg h hR, s_q_idiv h hR, s_q_irem h hR, s_q_ladd h hR, s_q_lsub h hR, s_q_lmul h hR, s_q_ldiv h hR, s_q_lrem h hR, s_q_i2l h hR, s_q_i2b h hR, s_q_iushr h hR, s_q_i2c h hR, s_q_lcmp h hR, s_q_dup h hR, s_q_pop h hR, s_q_dup2 h hR, s_q_if_eq h hR, s_q_if_ne h hR, s_q_if_lt h hR, s_q_if_ge h hR, s_q_if_gt h hR, s_q_if_le h hR, s_q_icmp_eq h hR, s_q_icmp_ne h hR, s_q_icmp_lt h hR, s_q_icmp_ge h hR, s_q_icmp_gt h hR, s_q_icmp_le h hR, s_q_goto h hR, s_q_tabOut h hR, s_q_tabIn h hR, s_q_lookup h hR, s_q_ldc h hR, s_q_ldc_w h hR, s_q_ldc2 h hR, s_q_ldcS h hR, s_q_getI h hR, s_q_getR h hR, s_q_putI h hR, s_q_iaload h hR, s_q_caload h hR, s_q_iastore h hR, s_q_castore h hR, s_q_aaload h hR, s_q_alen h hR, s_q_gets h hR, s_q_getsC h hR, s_q_tabld h hR, s_q_strld h hR, s_q_strlen h hR, s_q_strV h hR, s_q_strC h hR, s_q_mmax h hR, s_q_mmin h hR, s_q_acopy h hR, s_q_callV h hR, s_q_callS h hR⟩
end GV2
/-- the ends of a method -/
def gRet (cc : ByteArray) (rt : Option FieldType) (Q : Option Value → gG → Prop) (G : gJ) : Prop :=
  (∀ (pc : Nat) (ls : List Value) (g : gG) (x : Int32) (ty : FieldType), decode cc pc = .ok (.ireturn, 1) → rt = some ty → narrow ty (.int x) = .int x → Q (some (.int x)) g → G pc ls [.int x] g) ∧
  (∀ (pc : Nat) (ls : List Value) (g : gG) (x : Int64), decode cc pc = .ok (.lreturn, 1) → rt = some .long → Q (some (.long x)) g → G pc ls [.long x] g) ∧
  (∀ (pc : Nat) (ls : List Value) (g : gG), decode cc pc = .ok (.return_, 1) → rt = none → Q none g → G pc ls [] g)
section GT
variable {cc : ByteArray} {rt : Option FieldType} {Q : Option Value → gG → Prop} {G : gJ} {pc : Nat} {ls : List Value} {g : gG}
theorem r_iret (h : gRet cc rt Q G) {x : Int32} {ty : FieldType} (hd : decode cc pc = .ok (.ireturn, 1)) (hr : rt = some ty) (hn : narrow ty (.int x) = .int x) (k : Q (some (.int x)) g) : G pc ls [.int x] g := h.1 pc ls g x ty hd hr hn k
theorem r_lret (h : gRet cc rt Q G) {x : Int64} (hd : decode cc pc = .ok (.lreturn, 1)) (hr : rt = some .long) (k : Q (some (.long x)) g) : G pc ls [.long x] g := h.2.1 pc ls g x hd hr k
theorem r_vret (h : gRet cc rt Q G) (hd : decode cc pc = .ok (.return_, 1)) (hr : rt = none) (k : Q none g) : G pc ls [] g := h.2.2 pc ls g hd hr k
end GT
theorem gC_of {M : gM} {av ls0 : List Value} {g : gG} {Q : Option Value → gG → Prop} (hy : plainName M.1.cls = true) (hls : gent av M.2.2.1 = ls0) (hn : (gargs av).length ≤ M.2.2.1) (body : ∀ G : gJ, gR M.1.cls M.2.1 M.2.2.2.2.1 M.2.2.2.2.2 G → gRet M.2.1 M.2.2.2.1 Q G → G 0 ls0 [] g) : gC M av g Q := by
  intro l D cA ad
  refine Met.ofW (cc := M.2.1) (maxL := M.2.2.1) (ret := M.2.2.2.1) hy rfl ?_
  intro p e s m args below meth c s₁ B hml hv
  obtain ⟨rfl, hP, hK, hinj, hro⟩ := hv
  have hts : ∀ w ∈ gw, w.before (av.map (gtv ad)).toArray s = true := fun w hw => atoms_spec (ws := Cond.code M.1 M.2.1 M.2.2.1 M.2.2.2.1 :: gw) B.pre w (List.mem_cons_of_mem _ hw)
  have hown : s.vm.findClass M.1.cls = some m.cls := findClass_of_methodNamed B.named
  have hx := B.exec
  have hb := B.bytes
  have hr := B.returns
  have hlocks := B.notSynchronized
  have cx : gcx M.1.cls M.2.1 M.2.2.1 p s m (av.map (gtv ad)).toArray c D cA ad := ⟨hx, hb, hml, hown, hts, hK, hinj, hro⟩
  have hG := body (gvw M.2.2.1 p l e (groom M.2.2.2.2.1 M.2.2.2.2.2) s m (av.map (gtv ad)).toArray below meth c D cA ad 0 0 (MQ below (gQc D cA ad Q) (av.map (gtv ad)).toArray s 0 0 (gA ad))) (gR_sound cx ⟨Nat.le_refl _, Nat.le_refl _, Nat.le_refl _, Nat.le_refl _⟩) ?_
  · rw [lg_entry_eq]
    refine hG s.heap [] _ hP va_S.rf ?_
    rw [← hls]
    exact glo_entry ad av hn
  · refine ⟨fun pc ls g1 x ty hd hrt hnr hq H locs la hP1 hS1 hl1 => ?_, fun pc ls g1 x hd hrt hq H locs la hP1 hS1 hl1 => ?_, fun pc ls g1 hd hrt hq H locs la hP1 hS1 hl1 => ?_⟩
    · exact W.zret hx hb (hr.trans hrt) hnr (fun t ht hW => ⟨⟨some (.int x), g1, rfl, hq, by rw [ht]; exact hP1⟩, hS1.F ht⟩) hS1.2.2 hd hlocks
    · exact W.lret hx hb (hr.trans hrt) (fun t ht hW => ⟨⟨some (.long x), g1, rfl, hq, by rw [ht]; exact hP1⟩, hS1.F ht⟩) hS1.2.2 hd hlocks
    · exact W.vret hx hb (hr.trans hrt) (fun t ht hW => ⟨⟨none, g1, rfl, hq, by rw [ht]; exact hP1⟩, hS1.F ht⟩) hS1.2.2 hd hlocks

