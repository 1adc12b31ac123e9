theorem has_bt {m j : Nat} (hj : j < 7) (hm : m < 128) : hasB (nI m) (nI j) = bt m j := by
  unfold hasB
  by_cases h : bt m j = true
  · rw [h, decide_eq_true ((bt_1 j hj m hm).mpr h)]
  · rw [decide_eq_false (fun q => h ((bt_1 j hj m hm).mp q))]; simpa using h
theorem rnE_s (c : gCt) (i n m : Nat) : rnE c i (n + 1) m = rnD i m n (rnE c i n m) := by
  have := gfold_succ (rnD i m) n 0 c
  rw [Nat.zero_add] at this
  exact this
theorem agr_rnE {c e : gCt} {i n m : Nat} (h : agr i e (rnE c i n m)) (hi : i < e 7 1) : agr i (dayC (rnR m n e)) (rnE c i (n + 1) m) := by
  rw [rnE_s]
  refine agr_day (agr_rnR h m n) ?_
  unfold rnR
  split
  · rw [(rain_at e (e 7 0) 0 e).1 7 1 (by decide) |> (fun q => (show rainC e 7 1 = e 7 1 from q))]; exact hi
  · exact hi
