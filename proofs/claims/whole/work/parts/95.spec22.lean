/-! ===== what every call keeps ===== -/
section
variable {g g1 : gG} {c ck : gCt} {hk : Bool} {lt : Nat → Nat} {nl : Nat} {rv : Nat → Nat} {nr : Nat} {rf : Nat → Int32}
theorem Rm.fx (h : Rm g c) (hF : frm 0 35 g g1) : Rm g1 c := h.fr ⟨congrFun (hF 35 (by decide)) _, congrFun (hF 35 (by decide)) _, congrFun (hF 35 (by decide)) _, congrFun (hF 35 (by decide)) _⟩ (fun k _ _ => hF k (by omega))
theorem MSr.fx (h : MSr g ck hk lt nl rv nr rf) (hF : frm 0 35 g g1) : MSr g1 ck hk lt nl rv nr rf := h.of ⟨congrFun (hF 35 (by decide)) _, congrFun (hF 35 (by decide)) _, congrFun (hF 35 (by decide)) _⟩ (fun k hk => hF k (by omega)) (fun b _ => congrFun (hF 48 (by decide)) b)
theorem Rx1.fy (h : Rx1 g c) (hF : frm 35 58 g g1) : Rx1 g1 c := h.of fun k _ _ => hF k (by omega)
theorem XSr.fy (h : XSr g ck hk lt nl rv nr rf) (hF : frm 35 58 g g1) : XSr g1 ck hk lt nl rv nr rf := h.of fun k hk => hF k (by omega)
end
def Inv (g : gG) : Prop := ∃ (c ck : gCt) (hk : Bool) (lt : Nat → Nat) (nl : Nat) (rv : Nat → Nat) (nr : Nat) (rf : Nat → Int32), Rx1 g c ∧ XSr g ck hk lt nl rv nr rf ∧ Rm g c ∧ MSr g ck hk lt nl rv nr rf ∧ (gok c ∧ c 7 3 ≤ 999) ∧ (hk = true → gok ck ∧ ck 7 3 ≤ 999)
def gk (c : gCt) : Prop := gok c ∧ c 7 3 ≤ 999
theorem gk_if {p : Prop} [Decidable p] {a b : gCt} (ha : p → gk a) (hb : gk b) : gk (if p then a else b) := by
  by_cases h : p
  · rw [if_pos h]; exact ha h
  · rw [if_neg h]; exact hb
theorem p_wears {c : gCt} {x s : Int32} (h : gk c) (h6 : c 7 0 ≤ 6) : gk (if wearsW c x s = 0 then put c x.toNatClampNeg s.toNatClampNeg else c) := gk_if (fun hw => by
  obtain ⟨w1, w2, -⟩ := fst_0.mp hw
  obtain ⟨k, hk, rfl⟩ := suf_0 w2 h6
  rw [nI_clamp (by omega)]
  exact ⟨put_gok h.1 hk, by rw [(put_7 _ _ _).2.2.2]; exact h.2⟩) h
theorem p_off {c : gCt} {x : Int32} (h : gk c) : gk (if offW c x = 0 then cup c 6 x.toNatClampNeg 0 else c) := gk_if (fun _ => ⟨gok_6 h.1 (Nat.zero_le _), by simpa [cup] using h.2⟩) h
theorem clamp_le {v : Int32} {l m : Nat} (hl : l < 2147483648) (hm : m < 2147483647) (h : bndI v (nI l) (nI m) = 0) : v.toNatClampNeg ≤ m := by
  obtain ⟨n, -, hn, rfl⟩ := bnd_nat hl hm h
  rw [nI_clamp (by omega)]
  exact hn
theorem p_fears {c : gCt} {x v : Int32} (h : gk c) : gk (if fearsW c x v = 0 then cup c 3 x.toNatClampNeg v.toNatClampNeg else c) := gk_if (fun hw => ⟨gok_3 h.1 (clamp_le (by decide) (by decide) (fst_0.mp hw).2.1), by simpa [cup] using h.2⟩) h
theorem p_soothes {c : gCt} {x v : Int32} (h : gk c) : gk (if fearsW c x v = 0 then cup c 4 x.toNatClampNeg v.toNatClampNeg else c) := gk_if (fun hw => ⟨gok_4 h.1 (clamp_le (by decide) (by decide) (fst_0.mp hw).2.1), by simpa [cup] using h.2⟩) h
theorem p_rusts {c : gCt} {x v : Int32} (h : gk c) : gk (if rustsW c x v = 0 then cup c 2 x.toNatClampNeg v.toNatClampNeg else c) := gk_if (fun hw => ⟨gok_2 h.1 (clamp_le (by decide) (by decide) (fst_0.mp hw).2.1), by simpa [cup] using h.2⟩) h
theorem p_turn {c : gCt} {x k v : Int32} (h : gk c) : gk (if turnW c x k v = 0 then cup (cup c 0 x.toNatClampNeg k.toNatClampNeg) 1 x.toNatClampNeg v.toNatClampNeg else c) := gk_if (fun hw => by
  obtain ⟨-, w2, w3⟩ := fst_0.mp hw
  obtain ⟨j, hj, rfl⟩ := any_0 (by decide) w2 (by decide)
  rw [nI_clamp (n := j) (by omega)]
  exact ⟨gok_1 (gok_0 h.1 hj) (clamp_le (by decide) (by decide) w3), by simpa [cup] using h.2⟩) h
theorem p_days {c : gCt} {v : Int32} (h : gk c) : gk (if dayW c v = 0 then daysC v.toNatClampNeg c else c) := gk_if (fun hw => by
  obtain ⟨w1, w2, -⟩ := fst_0.mp hw
  have hv : c 7 3 + v.toNatClampNeg ≤ 999 := Classical.byContradiction fun q => absurd w2 (by rw [if_neg q]; decide)
  obtain ⟨-, -, a, b⟩ := daysC_ok h.1 v.toNatClampNeg (by omega)
  exact ⟨b, by omega⟩) h
theorem lcs (x : Int64) : lg_cmp x x = 0 := by
  unfold lg_cmp
  simp
/-! the empty city -/
theorem Inv_0 : Inv (fun _ _ => 0) := by
  have z : nI 0 = 0 := nI_0
  refine ⟨fun _ _ => 0, fun _ _ => 0, false, fun _ => 0, 0, fun _ => 0, 0, fun _ => 0, ⟨⟨z.symm, z.symm, z.symm, z.symm⟩, ⟨by decide, by decide⟩, fun i hi => absurd hi (by simp), fun i hi => absurd hi (by simp)⟩, ⟨⟨rfl, fun q => by cases q⟩, ⟨z.symm, by decide, fun i hi => absurd hi (by simp)⟩, ⟨z.symm, by decide, fun i hi => absurd hi (by simp)⟩, fun _ _ => rfl⟩, ⟨⟨z.symm, z.symm, z.symm, z.symm⟩, ⟨by decide, by decide⟩, fun i hi => absurd hi (by simp), fun i hi => absurd hi (by simp)⟩, ⟨⟨rfl, fun q => by cases q⟩, ⟨z.symm, by decide, fun i hi => absurd hi (by simp)⟩, ⟨z.symm, by decide, fun i hi => absurd hi (by simp)⟩, fun _ _ => rfl⟩, ⟨⟨by decide, by decide, fun i hi => absurd hi (by simp), fun i hi => absurd hi (by simp)⟩, by decide⟩, fun q => by cases q⟩
theorem ic6 (i : Nat) : nI i + Int32.ofInt 6 = nI (i + 6) := (show Int32.ofInt 6 = nI 6 by decide) ▸ nI_add i 6
theorem lw_le {L i : Nat} (hL : L ≤ 3072) (hi : i ≤ 4000) (h : ¬ nI L - nI 6 < nI i) : i + 6 ≤ L := by
  rw [nI_z, nI_z, nI_z, zI_sub, zI_lt (by omega) (by omega)] at h
  omega
