section GU2
variable {own : String} {cc : ByteArray} {fr lo : Nat} {G : gJ}
theorem r_top (h : gR own cc fr lo G) {pc : Nat} {ls st : List Value} {g : gG} {x y : Int32} (e : x = y) (k : G pc ls (.int y :: st) g) : G pc ls (.int x :: st) g := by rw [e]; exact k
theorem r_topl (h : gR own cc fr lo G) {pc : Nat} {ls st : List Value} {g : gG} {x y : Int64} (e : x = y) (k : G pc ls (.long y :: st) g) : G pc ls (.long x :: st) g := by rw [e]; exact k
theorem r_getE (h : gR own cc fr lo G) {pc : Nat} {ls st : List Value} {g : gG} {idx : Nat} {ci : Nat} {j : Nat} {kk : Nat} {fl : List (Option Nat)} {v : Int32} (hd : decode cc pc = .ok (.getfield idx, 3)) (hf : gfld own idx ci j) (hk : gshL[kk]? = some (.inl (ci, fl))) (hj : fl[j]? = some none) (hv : g kk j = v) (k : G (pc + 3) ls (.int v :: st) g) : G pc ls (.ref kk :: st) g := r_getI h hd hf hk hj (by rw [hv]; exact k)
theorem r_ialoadE (h : gR own cc fr lo G) {pc : Nat} {ls st : List Value} {g : gG} {kk : Nat} {n : Nat} {i v : Int32} (hd : decode cc pc = .ok (.iaload, 1)) (hk : gshL[kk]? = some (.inr (0, n))) (hi : vp_in i n ∧ g kk i.toNatClampNeg = v) (k : G (pc + 1) ls (.int v :: st) g) : G pc ls (.int i :: .ref kk :: st) g := r_iaload h hd hk hi.1 (by rw [hi.2]; exact k)
theorem r_caloadE (h : gR own cc fr lo G) {pc : Nat} {ls st : List Value} {g : gG} {kk : Nat} {n : Nat} {i v : Int32} (hd : decode cc pc = .ok (.caload, 1)) (hk : gshL[kk]? = some (.inr (1, n))) (hi : vp_in i n ∧ g kk i.toNatClampNeg = v) (k : G (pc + 1) ls (.int v :: st) g) : G pc ls (.int i :: .ref kk :: st) g := r_caload h hd hk hi.1 (by rw [hi.2]; exact k)
theorem r_tabldE (h : gR own cc fr lo G) {pc : Nat} {ls st : List Value} {g : gG} {q : Nat} {i v : Int32} (hd : decode cc pc = .ok (.iaload, 1)) (hq : 100 ≤ q ∧ q < 104) (hi : vp_in i 6 ∧ gtab q i.toNatClampNeg = v) (k : G (pc + 1) ls (.int v :: st) g) : G pc ls (.int i :: .ref q :: st) g := r_tabld h hd hq hi.1 (by rw [hi.2]; exact k)
def gCi (M : gM) (av : List Value) (g : gG) (Q : Int32 → gG → Prop) : Prop := gC M av g (fun r g1 => ∃ x, r = some (.int x) ∧ Q x g1)
def gCl (M : gM) (av : List Value) (g : gG) (Q : Int64 → gG → Prop) : Prop := gC M av g (fun r g1 => ∃ x, r = some (.long x) ∧ Q x g1)
def gCv (M : gM) (av : List Value) (g : gG) (Q : gG → Prop) : Prop := gC M av g (fun r g1 => r = none ∧ Q g1)

theorem r_callVi (h : gR own cc fr lo G) {pc : Nat} {ls st : List Value} {g : gG} {idx : Nat} {M : gM} {kk : Nat} {As st2 : List Value} {Q : Int32 → gG → Prop} (hd : decode cc pc = .ok (.invokevirtual idx, 3)) (hM : gclV own idx M As.length) (hk : gcls kk M.1.cls) (hs : As.reverse ++ .ref kk :: st = st2) (hr : M.2.2.2.2.1 + 1 ≤ fr ∧ 8 + (M.2.2.1 + 11) + M.2.2.2.2.2 ≤ lo ∧ (st.map fun v => v.category).sum ≤ 8) (hc : gCi M (.ref kk :: As) g Q) (k : ∀ (x : Int32) (g1 : gG), Q x g1 → G (pc + 3) ls (.int x :: st) g1) : G pc ls st2 g := r_callV h hd hM hk hs hr hc (fun r g1 hq => by obtain ⟨x, rfl, hq⟩ := hq; exact k x g1 hq)
theorem r_callVl (h : gR own cc fr lo G) {pc : Nat} {ls st : List Value} {g : gG} {idx : Nat} {M : gM} {kk : Nat} {As st2 : List Value} {Q : Int64 → gG → Prop} (hd : decode cc pc = .ok (.invokevirtual idx, 3)) (hM : gclV own idx M As.length) (hk : gcls kk M.1.cls) (hs : As.reverse ++ .ref kk :: st = st2) (hr : M.2.2.2.2.1 + 1 ≤ fr ∧ 8 + (M.2.2.1 + 11) + M.2.2.2.2.2 ≤ lo ∧ (st.map fun v => v.category).sum ≤ 8) (hc : gCl M (.ref kk :: As) g Q) (k : ∀ (x : Int64) (g1 : gG), Q x g1 → G (pc + 3) ls (.long x :: st) g1) : G pc ls st2 g := r_callV h hd hM hk hs hr hc (fun r g1 hq => by obtain ⟨x, rfl, hq⟩ := hq; exact k x g1 hq)
theorem r_callVv (h : gR own cc fr lo G) {pc : Nat} {ls st : List Value} {g : gG} {idx : Nat} {M : gM} {kk : Nat} {As st2 : List Value} {Q : gG → Prop} (hd : decode cc pc = .ok (.invokevirtual idx, 3)) (hM : gclV own idx M As.length) (hk : gcls kk M.1.cls) (hs : As.reverse ++ .ref kk :: st = st2) (hr : M.2.2.2.2.1 + 1 ≤ fr ∧ 8 + (M.2.2.1 + 11) + M.2.2.2.2.2 ≤ lo ∧ (st.map fun v => v.category).sum ≤ 8) (hc : gCv M (.ref kk :: As) g Q) (k : ∀ (g1 : gG), Q g1 → G (pc + 3) ls st g1) : G pc ls st2 g := r_callV h hd hM hk hs hr hc (fun r g1 hq => by obtain ⟨rfl, hq⟩ := hq; exact k g1 hq)
theorem r_callSi (h : gR own cc fr lo G) {pc : Nat} {ls st : List Value} {g : gG} {idx : Nat} {M : gM} {As st2 : List Value} {Q : Int32 → gG → Prop} (hd : decode cc pc = .ok (.invokestatic idx, 3)) (hM : gclS own idx M As.length) (hs : As.reverse ++ st = st2) (hr : M.2.2.2.2.1 + 1 ≤ fr ∧ 8 + (M.2.2.1 + 11) + M.2.2.2.2.2 ≤ lo ∧ (st.map fun v => v.category).sum ≤ 8) (hc : gCi M As g Q) (k : ∀ (x : Int32) (g1 : gG), Q x g1 → G (pc + 3) ls (.int x :: st) g1) : G pc ls st2 g := r_callS h hd hM hs hr hc (fun r g1 hq => by obtain ⟨x, rfl, hq⟩ := hq; exact k x g1 hq)
theorem r_callSl (h : gR own cc fr lo G) {pc : Nat} {ls st : List Value} {g : gG} {idx : Nat} {M : gM} {As st2 : List Value} {Q : Int64 → gG → Prop} (hd : decode cc pc = .ok (.invokestatic idx, 3)) (hM : gclS own idx M As.length) (hs : As.reverse ++ st = st2) (hr : M.2.2.2.2.1 + 1 ≤ fr ∧ 8 + (M.2.2.1 + 11) + M.2.2.2.2.2 ≤ lo ∧ (st.map fun v => v.category).sum ≤ 8) (hc : gCl M As g Q) (k : ∀ (x : Int64) (g1 : gG), Q x g1 → G (pc + 3) ls (.long x :: st) g1) : G pc ls st2 g := r_callS h hd hM hs hr hc (fun r g1 hq => by obtain ⟨x, rfl, hq⟩ := hq; exact k x g1 hq)
theorem r_callSv (h : gR own cc fr lo G) {pc : Nat} {ls st : List Value} {g : gG} {idx : Nat} {M : gM} {As st2 : List Value} {Q : gG → Prop} (hd : decode cc pc = .ok (.invokestatic idx, 3)) (hM : gclS own idx M As.length) (hs : As.reverse ++ st = st2) (hr : M.2.2.2.2.1 + 1 ≤ fr ∧ 8 + (M.2.2.1 + 11) + M.2.2.2.2.2 ≤ lo ∧ (st.map fun v => v.category).sum ≤ 8) (hc : gCv M As g Q) (k : ∀ (g1 : gG), Q g1 → G (pc + 3) ls st g1) : G pc ls st2 g := r_callS h hd hM hs hr hc (fun r g1 hq => by obtain ⟨rfl, hq⟩ := hq; exact k g1 hq)
end GU2
section GT2
variable {cc : ByteArray} {G : gJ} {pc : Nat} {ls : List Value} {g : gG} {Q : Option Value → gG → Prop}
def gTi (cc : ByteArray) (ty : FieldType) (Q : Int32 → gG → Prop) (G : gJ) : Prop := ∀ (pc : Nat) (ls : List Value) (g : gG) (x : Int32), decode cc pc = .ok (.ireturn, 1) → narrow ty (.int x) = .int x → Q x g → G pc ls [.int x] g
def gTl (cc : ByteArray) (Q : Int64 → gG → Prop) (G : gJ) : Prop := ∀ (pc : Nat) (ls : List Value) (g : gG) (x : Int64), decode cc pc = .ok (.lreturn, 1) → Q x g → G pc ls [.long x] g
def gTv (cc : ByteArray) (Q : gG → Prop) (G : gJ) : Prop := ∀ (pc : Nat) (ls : List Value) (g : gG), decode cc pc = .ok (.return_, 1) → Q g → G pc ls [] g
theorem r_ri {ty : FieldType} {Q : Int32 → gG → Prop} (t : gTi cc ty Q G) {x : Int32} (hd : decode cc pc = .ok (.ireturn, 1)) (hn : narrow ty (.int x) = .int x) (k : Q x g) : G pc ls [.int x] g := t pc ls g x hd hn k
theorem r_rl {Q : Int64 → gG → Prop} (t : gTl cc Q G) {x : Int64} (hd : decode cc pc = .ok (.lreturn, 1)) (k : Q x g) : G pc ls [.long x] g := t pc ls g x hd k
theorem r_rv {Q : gG → Prop} (t : gTv cc Q G) (hd : decode cc pc = .ok (.return_, 1)) (k : Q g) : G pc ls [] g := t pc ls g hd k
end GT2
theorem gCi_of {y : MethodName} {cc : ByteArray} {n fr lo : Nat} {ty : FieldType} {own : String} {av ls0 : List Value} {g : gG} {Q : Int32 → gG → Prop} (hy : y.cls = own ∧ plainName own = true) (hls : gent av n = ls0) (hn : (gargs av).length ≤ n) (body : ∀ G : gJ, gR own cc fr lo G → gTi cc ty Q G → G 0 ls0 [] g) : gCi (y, cc, n, some ty, fr, lo) av g Q := by
  obtain ⟨rfl, hy⟩ := hy
  exact gC_of hy hls hn (fun G h t => body G h (fun pc ls g x hd hnr k => r_iret t hd rfl hnr ⟨x, rfl, k⟩))
theorem gCl_of {y : MethodName} {cc : ByteArray} {n fr lo : Nat} {own : String} {av ls0 : List Value} {g : gG} {Q : Int64 → gG → Prop} (hy : y.cls = own ∧ plainName own = true) (hls : gent av n = ls0) (hn : (gargs av).length ≤ n) (body : ∀ G : gJ, gR own cc fr lo G → gTl cc Q G → G 0 ls0 [] g) : gCl (y, cc, n, some .long, fr, lo) av g Q := by
  obtain ⟨rfl, hy⟩ := hy
  exact gC_of hy hls hn (fun G h t => body G h (fun pc ls g x hd k => r_lret t hd rfl ⟨x, rfl, k⟩))
theorem gCv_of {y : MethodName} {cc : ByteArray} {n fr lo : Nat} {own : String} {av ls0 : List Value} {g : gG} {Q : gG → Prop} (hy : y.cls = own ∧ plainName own = true) (hls : gent av n = ls0) (hn : (gargs av).length ≤ n) (body : ∀ G : gJ, gR own cc fr lo G → gTv cc Q G → G 0 ls0 [] g) : gCv (y, cc, n, none, fr, lo) av g Q := by
  obtain ⟨rfl, hy⟩ := hy
  exact gC_of hy hls hn (fun G h t => body G h (fun pc ls g hd k => r_vret t hd rfl ⟨rfl, k⟩))
theorem ic1 (i : Nat) : nI i + Int32.ofInt 1 = nI (i + 1) := nI_1 i
theorem icm (i : Nat) : nI (i + 1) + Int32.ofInt (-1) = nI i := pk_m1 i
def bI (b : Bool) : Int32 := if b then nI 1 else nI 0
theorem bI_nar (b : Bool) : narrow .boolean (.int (bI b)) = .int (bI b) := by cases b <;> decide
theorem bI_0 (b : Bool) : bI b = 0 ↔ b = false := by cases b <;> decide
theorem bI_t : bI true = nI 1 := rfl
theorem bI_f : bI false = nI 0 := rfl
theorem pl_X0 : plainName RX0 = true := by decide +kernel
theorem pl_X1 : plainName RX1 = true := by decide +kernel
theorem pl_X2 : plainName RX2 = true := by decide +kernel
theorem pl_X3 : plainName RX3 = true := by decide +kernel
theorem pl_X4 : plainName RX4 = true := by decide +kernel
theorem pl_J0 : plainName RJ0 = true := by decide +kernel
theorem pl_J1 : plainName RJ1 = true := by decide +kernel
theorem cb_m9 : (Int8.ofInt (-9)).toInt32 = (-9) := by decide
theorem cb_m6 : (Int8.ofInt (-6)).toInt32 = (-6) := by decide
theorem cb_m4 : (Int8.ofInt (-4)).toInt32 = (-4) := by decide
theorem cb_m3 : (Int8.ofInt (-3)).toInt32 = (-3) := by decide
theorem cb_m2 : (Int8.ofInt (-2)).toInt32 = (-2) := by decide
theorem cb_6 : (Int8.ofInt 6).toInt32 = nI 6 := by decide
theorem cb_7 : (Int8.ofInt 7).toInt32 = nI 7 := by decide
theorem cb_8 : (Int8.ofInt 8).toInt32 = nI 8 := by decide
theorem cb_9 : (Int8.ofInt 9).toInt32 = nI 9 := by decide
theorem cb_10 : (Int8.ofInt 10).toInt32 = nI 10 := by decide
theorem cb_11 : (Int8.ofInt 11).toInt32 = nI 11 := by decide
theorem cb_15 : (Int8.ofInt 15).toInt32 = nI 15 := by decide
theorem cb_16 : (Int8.ofInt 16).toInt32 = nI 16 := by decide
theorem cb_20 : (Int8.ofInt 20).toInt32 = nI 20 := by decide
theorem cb_21 : (Int8.ofInt 21).toInt32 = nI 21 := by decide
theorem cb_30 : (Int8.ofInt 30).toInt32 = nI 30 := by decide
theorem cb_31 : (Int8.ofInt 31).toInt32 = nI 31 := by decide
theorem cb_42 : (Int8.ofInt 42).toInt32 = nI 42 := by decide
theorem cb_48 : (Int8.ofInt 48).toInt32 = nI 48 := by decide
theorem cb_50 : (Int8.ofInt 50).toInt32 = nI 50 := by decide
theorem cb_57 : (Int8.ofInt 57).toInt32 = nI 57 := by decide
theorem cb_59 : (Int8.ofInt 59).toInt32 = nI 59 := by decide
theorem cb_60 : (Int8.ofInt 60).toInt32 = nI 60 := by decide
theorem cb_61 : (Int8.ofInt 61).toInt32 = nI 61 := by decide
theorem cb_63 : (Int8.ofInt 63).toInt32 = nI 63 := by decide
theorem cb_64 : (Int8.ofInt 64).toInt32 = nI 64 := by decide
theorem cb_68 : (Int8.ofInt 68).toInt32 = nI 68 := by decide
theorem cb_69 : (Int8.ofInt 69).toInt32 = nI 69 := by decide
theorem cb_96 : (Int8.ofInt 96).toInt32 = nI 96 := by decide
theorem cb_98 : (Int8.ofInt 98).toInt32 = nI 98 := by decide
theorem cb_99 : (Int8.ofInt 99).toInt32 = nI 99 := by decide
theorem cb_100 : (Int8.ofInt 100).toInt32 = nI 100 := by decide
theorem cb_102 : (Int8.ofInt 102).toInt32 = nI 102 := by decide
theorem cb_103 : (Int8.ofInt 103).toInt32 = nI 103 := by decide
theorem cb_109 : (Int8.ofInt 109).toInt32 = nI 109 := by decide
theorem cb_111 : (Int8.ofInt 111).toInt32 = nI 111 := by decide
theorem cb_112 : (Int8.ofInt 112).toInt32 = nI 112 := by decide
theorem cb_114 : (Int8.ofInt 114).toInt32 = nI 114 := by decide
theorem cb_115 : (Int8.ofInt 115).toInt32 = nI 115 := by decide
theorem cb_119 : (Int8.ofInt 119).toInt32 = nI 119 := by decide
theorem cb_126 : (Int8.ofInt 126).toInt32 = nI 126 := by decide
theorem ci_m1 : Int32.ofInt (-1) = (-1) := by decide
theorem ci_0 : Int32.ofInt 0 = nI 0 := by decide
theorem ci_1 : Int32.ofInt 1 = nI 1 := by decide
theorem ci_2 : Int32.ofInt 2 = nI 2 := by decide
theorem ci_3 : Int32.ofInt 3 = nI 3 := by decide
theorem ci_4 : Int32.ofInt 4 = nI 4 := by decide
theorem ci_5 : Int32.ofInt 5 = nI 5 := by decide
theorem cs_m2000 : (Int16.ofInt (-2000)).toInt32 = (-2000) := by decide
theorem cs_m1000 : (Int16.ofInt (-1000)).toInt32 = (-1000) := by decide
theorem cs_200 : (Int16.ofInt 200).toInt32 = nI 200 := by decide
theorem cs_255 : (Int16.ofInt 255).toInt32 = nI 255 := by decide
theorem cs_256 : (Int16.ofInt 256).toInt32 = nI 256 := by decide
theorem cs_384 : (Int16.ofInt 384).toInt32 = nI 384 := by decide
theorem cs_999 : (Int16.ofInt 999).toInt32 = nI 999 := by decide
theorem cs_9999 : (Int16.ofInt 9999).toInt32 = nI 9999 := by decide
